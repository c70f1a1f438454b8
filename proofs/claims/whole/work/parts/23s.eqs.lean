set_option maxRecDepth 100000 in
set_option maxHeartbeats 400000 in
/-- IllLightModel.passesHour()V -/
theorem E_X9_passesHour (h : PH)  : pm_ev (212, 0, [vr 8 0, none, none, none, none], [], h) = pm_ev (212, 6, [vr 8 0, vi 0, vi 0, vi 0, none], [], h) := (ev_rc [6, 30, 45, 73] 120 _).trans rfl
set_option maxRecDepth 100000 in
set_option maxHeartbeats 400000 in
/-- IllLightModel.passesHour()V -/
theorem E_X9_passesHour_6 (h : PH) (x1 : Int32) (x2 : Int32) (x3 : Int32) : pm_ev (212, 6, [vr 8 0, vi x1, vi x2, vi x3, none], [], h) = (if x3 < h.1 8 0 16 then (pm_bI (pm_ev (201, 0, [vr 8 0, vi x3], [], h)) fun r2 h1 => (if r2 = 0 then (pm_bI (pm_ev (209, 0, [vr 8 0, vi x3, none], [], h1)) fun r4 h3 => pm_ev (212, 30, [vr 8 0, vi x1, vi x2, vi x3, none], [vi r4], h3)) else pm_ev (212, 6, [vr 8 0, vi x1, vi x2, vi (x3 + 1), none], [], h1))) else some (none, (pm_sI (pm_sI (pm_sI (pm_sI h 8 0 23 ((h.1 8 0 23) ||| x1)) 8 0 24 ((h.1 8 0 24) ||| x2)) 8 0 22 0) 8 0 25 ((h.1 8 0 25) + 1)))) := (ev_rc [6, 30, 45, 73] 120 _).trans rfl
set_option maxRecDepth 100000 in
set_option maxHeartbeats 400000 in
/-- IllLightModel.passesHour()V -/
theorem E_X9_passesHour_30 (h : PH) (x1 : Int32) (x2 : Int32) (x3 : Int32) (s0 : Int32) : pm_ev (212, 30, [vr 8 0, vi x1, vi x2, vi x3, none], [vi s0], h) = (if s0 = 0 then (if pm_inb x3 4 = true then pm_ev (212, 45, [vr 8 0, vi x1, vi x2, vi x3, vi s0], [vi (h.1 38 0 x3.toNatClampNeg), vr 8 0, vi x1], h) else none) else (if s0 = 0 then pm_ev (212, 6, [vr 8 0, vi (x1 ||| 0), vi (x2 ||| 0), vi (x3 + 1), none], [], h) else (if pm_inb x3 4 = true then pm_ev (212, 73, [vr 8 0, vi (x1 ||| 0), vi x2, vi x3, vi s0], [vi (h.1 38 0 x3.toNatClampNeg), vr 8 0, vi x2], h) else none))) := (ev_rc [6, 30, 45, 73] 120 _).trans rfl
set_option maxRecDepth 100000 in
set_option maxHeartbeats 400000 in
/-- IllLightModel.passesHour()V -/
theorem E_X9_passesHour_45 (h : PH) (x1 : Int32) (x2 : Int32) (x3 : Int32) (x4 : Int32) (s0 : Int32) (s1 : Nat) (s2 : Int32) : pm_ev (212, 45, [vr 8 0, vi x1, vi x2, vi x3, vi x4], [vi s0, vr 8 s1, vi s2], h) = (pm_bI (pm_ev (211, 0, [vr 8 s1, vi s0], [], h)) fun r6 h5 => (if r6 = 0 then (if x4 = 0 then pm_ev (212, 6, [vr 8 0, vi (s2 ||| 0), vi (x2 ||| 0), vi (x3 + 1), none], [], h5) else (if pm_inb x3 4 = true then pm_ev (212, 73, [vr 8 0, vi (s2 ||| 0), vi x2, vi x3, vi x4], [vi (h5.1 38 0 x3.toNatClampNeg), vr 8 0, vi x2], h5) else none)) else (if x4 = 0 then pm_ev (212, 6, [vr 8 0, vi (s2 ||| ((1 : Int32) <<< (x3 &&& 31))), vi (x2 ||| 0), vi (x3 + 1), none], [], h5) else (if pm_inb x3 4 = true then pm_ev (212, 73, [vr 8 0, vi (s2 ||| ((1 : Int32) <<< (x3 &&& 31))), vi x2, vi x3, vi x4], [vi (h5.1 38 0 x3.toNatClampNeg), vr 8 0, vi x2], h5) else none)))) := (ev_rc [6, 30, 45, 73] 120 _).trans rfl
set_option maxRecDepth 100000 in
set_option maxHeartbeats 400000 in
/-- IllLightModel.passesHour()V -/
theorem E_X9_passesHour_73 (h : PH) (x1 : Int32) (x2 : Int32) (x3 : Int32) (x4 : Int32) (s0 : Int32) (s1 : Nat) (s2 : Int32) : pm_ev (212, 73, [vr 8 0, vi x1, vi x2, vi x3, vi x4], [vi s0, vr 8 s1, vi s2], h) = (pm_bI (pm_ev (210, 0, [vr 8 s1, vi s0, none, none], [], h)) fun r8 h7 => (if r8 = 0 then pm_ev (212, 6, [vr 8 0, vi x1, vi (s2 ||| 0), vi (x3 + 1), none], [], h7) else pm_ev (212, 6, [vr 8 0, vi x1, vi (s2 ||| ((1 : Int32) <<< (x3 &&& 31))), vi (x3 + 1), none], [], h7))) := (ev_rc [6, 30, 45, 73] 120 _).trans rfl
set_option maxRecDepth 100000 in
set_option maxHeartbeats 400000 in
/-- IllLightModel.does(IIII)Z -/
theorem E_X9_does (h : PH) (a : Int32) (b : Int32) (c : Int32) (d : Int32) : pm_ev (213, 0, [vr 8 0, vi a, vi b, vi c, vi d, none], [], h) = (if a = 3 then (if h.1 8 0 25 < 23 then (pm_bV (pm_ev (212, 0, [vr 8 0, none, none, none, none], [], h)) fun h1 => pm_ev (213, 20, [vr 8 0, none, none, none, none, none], [], h1)) else some (some (vi 0), h)) else (pm_bI (pm_ev (187, 0, [vr 8 0, vi b], [], h)) fun r3 h2 => pm_ev (213, 27, [vr 8 0, vi a, vi b, vi c, vi d, none], [vi r3], h2))) := (ev_rc [20, 27, 35, 38, 75, 79, 93, 99, 113, 121, 130, 149, 166, 174, 186, 189] 120 _).trans rfl
set_option maxRecDepth 100000 in
set_option maxHeartbeats 400000 in
/-- IllLightModel.does(IIII)Z -/
theorem E_X9_does_20 (h : PH)  : pm_ev (213, 20, [vr 8 0, none, none, none, none, none], [], h) = some (some (vi 1), h) := (ev_rc [20, 27, 35, 38, 75, 79, 93, 99, 113, 121, 130, 149, 166, 174, 186, 189] 120 _).trans rfl
set_option maxRecDepth 100000 in
set_option maxHeartbeats 400000 in
/-- IllLightModel.does(IIII)Z -/
theorem E_X9_does_27 (h : PH) (x1 : Int32) (x2 : Int32) (x3 : Int32) (x4 : Int32) (s0 : Int32) : pm_ev (213, 27, [vr 8 0, vi x1, vi x2, vi x3, vi x4, none], [vi s0], h) = (if s0 = 0 then pm_ev (213, 38, [none, none, none, none, none, none], [], h) else (pm_bI (pm_ev (201, 0, [vr 8 0, vi x2], [], h)) fun r5 h4 => pm_ev (213, 35, [vr 8 0, vi x1, vi x2, vi x3, vi x4, none], [vi r5], h4))) := (ev_rc [20, 27, 35, 38, 75, 79, 93, 99, 113, 121, 130, 149, 166, 174, 186, 189] 120 _).trans rfl
set_option maxRecDepth 100000 in
set_option maxHeartbeats 400000 in
/-- IllLightModel.does(IIII)Z -/
theorem E_X9_does_38 (h : PH)  : pm_ev (213, 38, [none, none, none, none, none, none], [], h) = some (some (vi 0), h) := (ev_rc [20, 27, 35, 38, 75, 79, 93, 99, 113, 121, 130, 149, 166, 174, 186, 189] 120 _).trans rfl
set_option maxRecDepth 100000 in
set_option maxHeartbeats 400000 in
/-- IllLightModel.does(IIII)Z -/
theorem E_X9_does_35 (h : PH) (x1 : Int32) (x2 : Int32) (x3 : Int32) (x4 : Int32) (s0 : Int32) : pm_ev (213, 35, [vr 8 0, vi x1, vi x2, vi x3, vi x4, none], [vi s0], h) = (if s0 = 0 then (if x1 = 0 then (if pm_inb x2 4 = true then pm_ev (213, 75, [vr 8 0, none, vi x2, vi x3, none, none], [vi (h.1 38 0 x2.toNatClampNeg), vr 8 0], h) else none) else (if x1 = 1 then (pm_bI (pm_ev (188, 0, [vr 8 0, vi x2, vi 3], [], h)) fun r7 h6 => pm_ev (213, 130, [vr 8 0, none, vi x2, vi x3, vi x4, none], [vi r7, vi x3], h6)) else (if pm_inb x2 4 = true then pm_ev (213, 174, [vr 8 0, none, vi x2, none, none, none], [vi (h.1 37 0 x2.toNatClampNeg)], h) else none))) else pm_ev (213, 38, [none, none, none, none, none, none], [], h)) := (ev_rc [20, 27, 35, 38, 75, 79, 93, 99, 113, 121, 130, 149, 166, 174, 186, 189] 120 _).trans rfl
set_option maxRecDepth 100000 in
set_option maxHeartbeats 400000 in
/-- IllLightModel.does(IIII)Z -/
theorem E_X9_does_174 (h : PH) (x2 : Int32) (s0 : Int32) : pm_ev (213, 174, [vr 8 0, none, vi x2, none, none, none], [vi s0], h) = (if s0 = 0 then some (some (vi 0), h) else (if pm_inb x2 4 = true then pm_ev (213, 186, [vr 8 0, none, vi x2, none, none, none], [vi (h.1 37 0 x2.toNatClampNeg), vi x2, vr 37 0], h) else none)) := (ev_rc [20, 27, 35, 38, 75, 79, 93, 99, 113, 121, 130, 149, 166, 174, 186, 189] 120 _).trans rfl
set_option maxRecDepth 100000 in
set_option maxHeartbeats 400000 in
/-- IllLightModel.does(IIII)Z -/
theorem E_X9_does_130 (h : PH) (x2 : Int32) (x3 : Int32) (x4 : Int32) (s0 : Int32) (s1 : Int32) : pm_ev (213, 130, [vr 8 0, none, vi x2, vi x3, vi x4, none], [vi s0, vi s1], h) = (if s1 < s0 then (if pm_inb ((12 * x2) + (3 * x3)) 48 = true then pm_ev (213, 149, [vr 8 0, none, vi x2, vi x3, vi x4, none], [], (pm_sI h 36 0 (((12 * x2) + (3 * x3)).toNatClampNeg) 0)) else none) else some (some (vi 0), h)) := (ev_rc [20, 27, 35, 38, 75, 79, 93, 99, 113, 121, 130, 149, 166, 174, 186, 189] 120 _).trans rfl
set_option maxRecDepth 100000 in
set_option maxHeartbeats 400000 in
/-- IllLightModel.does(IIII)Z -/
theorem E_X9_does_75 (h : PH) (x2 : Int32) (x3 : Int32) (s0 : Int32) (s1 : Nat) : pm_ev (213, 75, [vr 8 0, none, vi x2, vi x3, none, none], [vi s0, vr 8 s1], h) = (pm_bI (pm_ev (202, 0, [vr 8 s1, vi s0, vi x3, none, none], [], h)) fun r9 h8 => pm_ev (213, 79, [vr 8 0, none, vi x2, vi x3, none, none], [vi r9], h8)) := (ev_rc [20, 27, 35, 38, 75, 79, 93, 99, 113, 121, 130, 149, 166, 174, 186, 189] 120 _).trans rfl
set_option maxRecDepth 100000 in
set_option maxHeartbeats 400000 in
/-- IllLightModel.does(IIII)Z -/
theorem E_X9_does_186 (h : PH) (x2 : Int32) (s0 : Int32) (s1 : Int32) (s2 : Nat) : pm_ev (213, 186, [vr 8 0, none, vi x2, none, none, none], [vi s0, vi s1, vr 37 s2], h) = (if pm_inb s1 4 = true then pm_ev (213, 189, [vr 8 0, none, vi x2, none, none, none], [], (pm_sI h 37 s2 s1.toNatClampNeg (s0 - 1))) else none) := (ev_rc [20, 27, 35, 38, 75, 79, 93, 99, 113, 121, 130, 149, 166, 174, 186, 189] 120 _).trans rfl
set_option maxRecDepth 100000 in
set_option maxHeartbeats 400000 in
/-- IllLightModel.does(IIII)Z -/
theorem E_X9_does_149 (h : PH) (x2 : Int32) (x3 : Int32) (x4 : Int32) : pm_ev (213, 149, [vr 8 0, none, vi x2, vi x3, vi x4, none], [], h) = (if pm_inb (((12 * x2) + (3 * x3)) + 1) 48 = true then pm_ev (213, 166, [vr 8 0, none, vi x2, vi x3, vi x4, none], [], (pm_sI h 36 0 ((((12 * x2) + (3 * x3)) + 1).toNatClampNeg) x4)) else none) := (ev_rc [20, 27, 35, 38, 75, 79, 93, 99, 113, 121, 130, 149, 166, 174, 186, 189] 120 _).trans rfl
set_option maxRecDepth 100000 in
set_option maxHeartbeats 400000 in
/-- IllLightModel.does(IIII)Z -/
theorem E_X9_does_79 (h : PH) (x2 : Int32) (x3 : Int32) (s0 : Int32) : pm_ev (213, 79, [vr 8 0, none, vi x2, vi x3, none, none], [vi s0], h) = (if ((h.1 8 0 22) >>> (x2 &&& 31)) &&& 1 = 1 then pm_ev (213, 99, [none, none, none, none, none, none], [], h) else pm_ev (213, 93, [vr 8 0, none, vi x2, vi x3, none, vi s0], [], h)) := (ev_rc [20, 27, 35, 38, 75, 79, 93, 99, 113, 121, 130, 149, 166, 174, 186, 189] 120 _).trans rfl
set_option maxRecDepth 100000 in
set_option maxHeartbeats 400000 in
/-- IllLightModel.does(IIII)Z -/
theorem E_X9_does_189 (h : PH) (x2 : Int32) : pm_ev (213, 189, [vr 8 0, none, vi x2, none, none, none], [], h) = some (some (vi 1), h) := (ev_rc [20, 27, 35, 38, 75, 79, 93, 99, 113, 121, 130, 149, 166, 174, 186, 189] 120 _).trans rfl
set_option maxRecDepth 100000 in
set_option maxHeartbeats 400000 in
/-- IllLightModel.does(IIII)Z -/
theorem E_X9_does_166 (h : PH) (x2 : Int32) (x3 : Int32) (x4 : Int32) : pm_ev (213, 166, [vr 8 0, none, vi x2, vi x3, vi x4, none], [], h) = some (some (vi 1), h) := (ev_rc [20, 27, 35, 38, 75, 79, 93, 99, 113, 121, 130, 149, 166, 174, 186, 189] 120 _).trans rfl
set_option maxRecDepth 100000 in
set_option maxHeartbeats 400000 in
/-- IllLightModel.does(IIII)Z -/
theorem E_X9_does_99 (h : PH)  : pm_ev (213, 99, [none, none, none, none, none, none], [], h) = some (some (vi 0), h) := (ev_rc [20, 27, 35, 38, 75, 79, 93, 99, 113, 121, 130, 149, 166, 174, 186, 189] 120 _).trans rfl
set_option maxRecDepth 100000 in
set_option maxHeartbeats 400000 in
/-- IllLightModel.does(IIII)Z -/
theorem E_X9_does_93 (h : PH) (x2 : Int32) (x3 : Int32) (x5 : Int32) : pm_ev (213, 93, [vr 8 0, none, vi x2, vi x3, none, vi x5], [], h) = (if x5 = (-1) then pm_ev (213, 99, [none, none, none, none, none, none], [], h) else pm_ev (213, 113, [vr 8 0, none, vi x2, none, none, vi x5], [], (pm_sI h 8 0 22 ((h.1 8 0 22) ||| ((1 : Int32) <<< (x2 &&& 31)))))) := (ev_rc [20, 27, 35, 38, 75, 79, 93, 99, 113, 121, 130, 149, 166, 174, 186, 189] 120 _).trans rfl
set_option maxRecDepth 100000 in
set_option maxHeartbeats 400000 in
/-- IllLightModel.does(IIII)Z -/
theorem E_X9_does_113 (h : PH) (x2 : Int32) (x5 : Int32) : pm_ev (213, 113, [vr 8 0, none, vi x2, none, none, vi x5], [], h) = (if pm_inb x2 4 = true then pm_ev (213, 121, [vr 8 0, none, vi x2, none, none, vi x5], [], (pm_sI h 38 0 x2.toNatClampNeg x5)) else none) := (ev_rc [20, 27, 35, 38, 75, 79, 93, 99, 113, 121, 130, 149, 166, 174, 186, 189] 120 _).trans rfl
set_option maxRecDepth 100000 in
set_option maxHeartbeats 400000 in
/-- IllLightModel.does(IIII)Z -/
theorem E_X9_does_121 (h : PH) (x2 : Int32) (x5 : Int32) : pm_ev (213, 121, [vr 8 0, none, vi x2, none, none, vi x5], [], h) = some (some (vi 1), h) := (ev_rc [20, 27, 35, 38, 75, 79, 93, 99, 113, 121, 130, 149, 166, 174, 186, 189] 120 _).trans rfl
set_option maxRecDepth 100000 in
set_option maxHeartbeats 400000 in
/-- IllLightModel.runs(I)V -/
theorem E_X9_runs (h : PH) (a : Int32) : pm_ev (214, 0, [vr 8 0, vi a], [], h) = (pm_bV (pm_ev (200, 0, [vr 8 0, none], [], h)) fun h1 => pm_ev (214, 4, [vr 8 0, vi a], [], h1)) := (ev_rc [4, 25, 47, 65, 83, 101] 120 _).trans rfl
set_option maxRecDepth 100000 in
set_option maxHeartbeats 400000 in
/-- IllLightModel.runs(I)V -/
theorem E_X9_runs_4 (h : PH) (x1 : Int32) : pm_ev (214, 4, [vr 8 0, vi x1], [], h) = (if h.1 8 0 26 < x1 then (if pm_inb (h.1 8 0 20) 5104 = true then pm_ev (214, 25, [vr 8 0, vi x1], [vi (h.1 33 0 ((h.1 8 0 20).toNatClampNeg)), vi (h.1 8 0 26)], h) else none) else some (none, h)) := (ev_rc [4, 25, 47, 65, 83, 101] 120 _).trans rfl
set_option maxRecDepth 100000 in
set_option maxHeartbeats 400000 in
/-- IllLightModel.runs(I)V -/
theorem E_X9_runs_25 (h : PH) (x1 : Int32) (s0 : Int32) (s1 : Int32) : pm_ev (214, 25, [vr 8 0, vi x1], [vi s0, vi s1], h) = (if s1 < s0 then (if pm_inb (((h.1 8 0 20) + 1) + (4 * (h.1 8 0 26))) 5104 = true then pm_ev (214, 47, [vr 8 0, vi x1], [vi (h.1 33 0 ((((h.1 8 0 20) + 1) + (4 * (h.1 8 0 26))).toNatClampNeg)), vr 8 0], h) else none) else some (none, h)) := (ev_rc [4, 25, 47, 65, 83, 101] 120 _).trans rfl
set_option maxRecDepth 100000 in
set_option maxHeartbeats 400000 in
/-- IllLightModel.runs(I)V -/
theorem E_X9_runs_47 (h : PH) (x1 : Int32) (s0 : Int32) (s1 : Nat) : pm_ev (214, 47, [vr 8 0, vi x1], [vi s0, vr 8 s1], h) = (if pm_inb (((h.1 8 0 20) + 2) + (4 * (h.1 8 0 26))) 5104 = true then pm_ev (214, 65, [vr 8 0, vi x1], [vi (h.1 33 0 ((((h.1 8 0 20) + 2) + (4 * (h.1 8 0 26))).toNatClampNeg)), vi s0, vr 8 s1], h) else none) := (ev_rc [4, 25, 47, 65, 83, 101] 120 _).trans rfl
set_option maxRecDepth 100000 in
set_option maxHeartbeats 400000 in
/-- IllLightModel.runs(I)V -/
theorem E_X9_runs_65 (h : PH) (x1 : Int32) (s0 : Int32) (s1 : Int32) (s2 : Nat) : pm_ev (214, 65, [vr 8 0, vi x1], [vi s0, vi s1, vr 8 s2], h) = (if pm_inb (((h.1 8 0 20) + 3) + (4 * (h.1 8 0 26))) 5104 = true then pm_ev (214, 83, [vr 8 0, vi x1], [vi (h.1 33 0 ((((h.1 8 0 20) + 3) + (4 * (h.1 8 0 26))).toNatClampNeg)), vi s0, vi s1, vr 8 s2], h) else none) := (ev_rc [4, 25, 47, 65, 83, 101] 120 _).trans rfl
set_option maxRecDepth 100000 in
set_option maxHeartbeats 400000 in
/-- IllLightModel.runs(I)V -/
theorem E_X9_runs_83 (h : PH) (x1 : Int32) (s0 : Int32) (s1 : Int32) (s2 : Int32) (s3 : Nat) : pm_ev (214, 83, [vr 8 0, vi x1], [vi s0, vi s1, vi s2, vr 8 s3], h) = (if pm_inb (((h.1 8 0 20) + 4) + (4 * (h.1 8 0 26))) 5104 = true then pm_ev (214, 101, [vr 8 0, vi x1], [vi (h.1 33 0 ((((h.1 8 0 20) + 4) + (4 * (h.1 8 0 26))).toNatClampNeg)), vi s0, vi s1, vi s2, vr 8 s3], h) else none) := (ev_rc [4, 25, 47, 65, 83, 101] 120 _).trans rfl
set_option maxRecDepth 100000 in
set_option maxHeartbeats 400000 in
/-- IllLightModel.runs(I)V -/
theorem E_X9_runs_101 (h : PH) (x1 : Int32) (s0 : Int32) (s1 : Int32) (s2 : Int32) (s3 : Int32) (s4 : Nat) : pm_ev (214, 101, [vr 8 0, vi x1], [vi s0, vi s1, vi s2, vi s3, vr 8 s4], h) = (pm_bI (pm_ev (213, 0, [vr 8 s4, vi s3, vi s2, vi s1, vi s0, none], [], h)) fun r3 h2 => (if r3 = 0 then some (none, h2) else pm_ev (214, 4, [vr 8 0, vi x1], [], (pm_sI h2 8 0 26 ((h2.1 8 0 26) + 1))))) := (ev_rc [4, 25, 47, 65, 83, 101] 120 _).trans rfl
set_option maxRecDepth 100000 in
set_option maxHeartbeats 400000 in
/-- IllLightModel.nowOf(I)I -/
theorem E_X9_nowOf (h : PH) (a : Int32) : pm_ev (216, 0, [vr 8 0, vi a, none, none], [], h) = (if a < 3 then (if a = 0 then some (some (vi (h.1 8 0 25)), h) else (if a = 1 then pm_ev (216, 21, [vr 8 0, vi a, none, none], [], h) else pm_ev (216, 28, [vr 8 0, none, none, none], [], h))) else (pm_bI (pm_ev (153, 0, [vi a, vi 10, vi 49], [], h)) fun r2 h1 => pm_ev (216, 46, [vr 8 0, vi a, vi (a - a / 10 * 10), none], [vi r2], h1))) := (ev_rc [21, 28, 46, 54, 97, 110, 117, 133, 141, 164, 175, 185, 198] 120 _).trans rfl
set_option maxRecDepth 100000 in
set_option maxHeartbeats 400000 in
/-- IllLightModel.nowOf(I)I -/
theorem E_X9_nowOf_21 (h : PH) (x1 : Int32) : pm_ev (216, 21, [vr 8 0, vi x1, none, none], [], h) = some (some (vi (h.1 8 0 23)), h) := (ev_rc [21, 28, 46, 54, 97, 110, 117, 133, 141, 164, 175, 185, 198] 120 _).trans rfl
set_option maxRecDepth 100000 in
set_option maxHeartbeats 400000 in
/-- IllLightModel.nowOf(I)I -/
theorem E_X9_nowOf_28 (h : PH)  : pm_ev (216, 28, [vr 8 0, none, none, none], [], h) = some (some (vi (h.1 8 0 24)), h) := (ev_rc [21, 28, 46, 54, 97, 110, 117, 133, 141, 164, 175, 185, 198] 120 _).trans rfl
set_option maxRecDepth 100000 in
set_option maxHeartbeats 400000 in
/-- IllLightModel.nowOf(I)I -/
theorem E_X9_nowOf_46 (h : PH) (x1 : Int32) (x2 : Int32) (s0 : Int32) : pm_ev (216, 46, [vr 8 0, vi x1, vi x2, none], [vi s0], h) = (if s0 = 0 then pm_ev (216, 164, [vr 8 0, vi x1, vi ((x1 - 50) / 4), vi ((x1 - 50) - (x1 - 50) / 4 * 4)], [], h) else (pm_bI (pm_ev (187, 0, [vr 8 0, vi x2], [], h)) fun r4 h3 => pm_ev (216, 54, [vr 8 0, vi x1, vi x2, none], [vi r4], h3))) := (ev_rc [21, 28, 46, 54, 97, 110, 117, 133, 141, 164, 175, 185, 198] 120 _).trans rfl
set_option maxRecDepth 100000 in
set_option maxHeartbeats 400000 in
/-- IllLightModel.nowOf(I)I -/
theorem E_X9_nowOf_164 (h : PH) (x1 : Int32) (x2 : Int32) (x3 : Int32) : pm_ev (216, 164, [vr 8 0, vi x1, vi x2, vi x3], [], h) = (if x1 < 50 then some (some (vi (-2)), h) else (pm_bI (pm_ev (187, 0, [vr 8 0, vi x2], [], h)) fun r6 h5 => pm_ev (216, 175, [vr 8 0, vi x1, vi x2, vi x3], [vi r6], h5))) := (ev_rc [21, 28, 46, 54, 97, 110, 117, 133, 141, 164, 175, 185, 198] 120 _).trans rfl
set_option maxRecDepth 100000 in
set_option maxHeartbeats 400000 in
/-- IllLightModel.nowOf(I)I -/
theorem E_X9_nowOf_54 (h : PH) (x1 : Int32) (x2 : Int32) (s0 : Int32) : pm_ev (216, 54, [vr 8 0, vi x1, vi x2, none], [vi s0], h) = (if s0 = 0 then some (some (vi (-2)), h) else (if x1 / 10 = 1 then (pm_bI (pm_ev (201, 0, [vr 8 0, vi x2], [], h)) fun r12 h11 => pm_ev (216, 97, [vr 8 0, none, vi x2, none], [vi r12], h11)) else (if x1 / 10 = 2 then (if pm_inb x2 4 = true then pm_ev (216, 117, [vr 8 0, none, vi x2, none], [vi (h.1 37 0 x2.toNatClampNeg)], h) else none) else (if x1 / 10 = 3 then (pm_bI (pm_ev (194, 0, [vr 8 0, vi x2, vi (h.1 8 0 25), none, none], [], h)) fun r10 h9 => some (some (vi r10), h9)) else (pm_bI (pm_ev (201, 0, [vr 8 0, vi x2], [], h)) fun r8 h7 => pm_ev (216, 133, [vr 8 0, none, vi x2, none], [vi r8], h7)))))) := (ev_rc [21, 28, 46, 54, 97, 110, 117, 133, 141, 164, 175, 185, 198] 120 _).trans rfl
set_option maxRecDepth 100000 in
set_option maxHeartbeats 400000 in
/-- IllLightModel.nowOf(I)I -/
theorem E_X9_nowOf_175 (h : PH) (x1 : Int32) (x2 : Int32) (x3 : Int32) (s0 : Int32) : pm_ev (216, 175, [vr 8 0, vi x1, vi x2, vi x3], [vi s0], h) = (if s0 = 0 then some (some (vi (-2)), h) else (pm_bI (pm_ev (188, 0, [vr 8 0, vi x2, vi 3], [], h)) fun r14 h13 => pm_ev (216, 185, [vr 8 0, vi x1, vi x2, vi x3], [vi r14, vi x3], h13))) := (ev_rc [21, 28, 46, 54, 97, 110, 117, 133, 141, 164, 175, 185, 198] 120 _).trans rfl
set_option maxRecDepth 100000 in
set_option maxHeartbeats 400000 in
/-- IllLightModel.nowOf(I)I -/
theorem E_X9_nowOf_133 (h : PH) (x2 : Int32) (s0 : Int32) : pm_ev (216, 133, [vr 8 0, none, vi x2, none], [vi s0], h) = (if s0 = 0 then (pm_bI (pm_ev (209, 0, [vr 8 0, vi x2, none], [], h)) fun r16 h15 => pm_ev (216, 141, [vr 8 0, none, vi x2, none], [vi r16], h15)) else some (some (vi 0), h)) := (ev_rc [21, 28, 46, 54, 97, 110, 117, 133, 141, 164, 175, 185, 198] 120 _).trans rfl
set_option maxRecDepth 100000 in
set_option maxHeartbeats 400000 in
/-- IllLightModel.nowOf(I)I -/
theorem E_X9_nowOf_117 (h : PH) (x2 : Int32) (s0 : Int32) : pm_ev (216, 117, [vr 8 0, none, vi x2, none], [vi s0], h) = some (some (vi s0), h) := (ev_rc [21, 28, 46, 54, 97, 110, 117, 133, 141, 164, 175, 185, 198] 120 _).trans rfl
set_option maxRecDepth 100000 in
set_option maxHeartbeats 400000 in
/-- IllLightModel.nowOf(I)I -/
theorem E_X9_nowOf_97 (h : PH) (x2 : Int32) (s0 : Int32) : pm_ev (216, 97, [vr 8 0, none, vi x2, none], [vi s0], h) = (if s0 = 0 then (if pm_inb x2 4 = true then pm_ev (216, 110, [none, none, none, none], [vi (h.1 38 0 x2.toNatClampNeg)], h) else none) else pm_ev (216, 110, [none, none, none, none], [vi (-1)], h)) := (ev_rc [21, 28, 46, 54, 97, 110, 117, 133, 141, 164, 175, 185, 198] 120 _).trans rfl
set_option maxRecDepth 100000 in
set_option maxHeartbeats 400000 in
/-- IllLightModel.nowOf(I)I -/
theorem E_X9_nowOf_185 (h : PH) (x1 : Int32) (x2 : Int32) (x3 : Int32) (s0 : Int32) (s1 : Int32) : pm_ev (216, 185, [vr 8 0, vi x1, vi x2, vi x3], [vi s0, vi s1], h) = (if s1 < s0 then (pm_bI (pm_ev (193, 0, [vr 8 0, vi x2, vi x3, vi (h.1 8 0 25), none], [], h)) fun r18 h17 => pm_ev (216, 198, [vr 8 0, vi x1, vi x2, vi x3], [vi r18], h17)) else some (some (vi (-2)), h)) := (ev_rc [21, 28, 46, 54, 97, 110, 117, 133, 141, 164, 175, 185, 198] 120 _).trans rfl
set_option maxRecDepth 100000 in
set_option maxHeartbeats 400000 in
/-- IllLightModel.nowOf(I)I -/
theorem E_X9_nowOf_141 (h : PH) (x2 : Int32) (s0 : Int32) : pm_ev (216, 141, [vr 8 0, none, vi x2, none], [vi s0], h) = (if s0 = 0 then some (some (vi 0), h) else some (some (vi 1), h)) := (ev_rc [21, 28, 46, 54, 97, 110, 117, 133, 141, 164, 175, 185, 198] 120 _).trans rfl
set_option maxRecDepth 100000 in
set_option maxHeartbeats 400000 in
/-- IllLightModel.nowOf(I)I -/
theorem E_X9_nowOf_110 (h : PH) (s0 : Int32) : pm_ev (216, 110, [none, none, none, none], [vi s0], h) = some (some (vi s0), h) := (ev_rc [21, 28, 46, 54, 97, 110, 117, 133, 141, 164, 175, 185, 198] 120 _).trans rfl
set_option maxRecDepth 100000 in
set_option maxHeartbeats 400000 in
/-- IllLightModel.nowOf(I)I -/
theorem E_X9_nowOf_198 (h : PH) (x1 : Int32) (x2 : Int32) (x3 : Int32) (s0 : Int32) : pm_ev (216, 198, [vr 8 0, vi x1, vi x2, vi x3], [vi s0], h) = some (some (vi s0), h) := (ev_rc [21, 28, 46, 54, 97, 110, 117, 133, 141, 164, 175, 185, 198] 120 _).trans rfl
set_option maxRecDepth 100000 in
set_option maxHeartbeats 400000 in
/-- IllLightModel.isSafe(IIII)Z -/
theorem E_X9_isSafe (h : PH) (a : Int32) (b : Int32) (c : Int32) (d : Int32) : pm_ev (218, 0, [vr 8 0, vi a, vi b, vi c, vi d, none], [], h) = (if d = 1 then (pm_bI (pm_ev (210, 0, [vr 8 0, vi b, none, none], [], h)) fun r2 h1 => pm_ev (218, 40, [vr 8 0, none, vi b, none, none, vi 1], [vi r2], h1)) else (if d = 0 then (pm_bI (pm_ev (196, 0, [vr 8 0, vi a, vi (c - c / 24 * 24), none], [], h)) fun r4 h3 => (if r4 = 0 then (pm_bI (pm_ev (211, 0, [vr 8 0, vi b], [], h3)) fun r6 h5 => pm_ev (218, 56, [vr 8 0, none, vi b, none, none, none], [vi r6], h5)) else (pm_bI (pm_ev (210, 0, [vr 8 0, vi b, none, none], [], h3)) fun r8 h7 => pm_ev (218, 40, [vr 8 0, none, vi b, none, none, vi 1], [vi r8], h7)))) else (pm_bI (pm_ev (211, 0, [vr 8 0, vi b], [], h)) fun r10 h9 => pm_ev (218, 56, [vr 8 0, none, vi b, none, none, none], [vi r10], h9)))) := (ev_rc [40, 56] 120 _).trans rfl
set_option maxRecDepth 100000 in
set_option maxHeartbeats 400000 in
/-- IllLightModel.isSafe(IIII)Z -/
theorem E_X9_isSafe_40 (h : PH) (x2 : Int32) (x5 : Int32) (s0 : Int32) : pm_ev (218, 40, [vr 8 0, none, vi x2, none, none, vi x5], [vi s0], h) = (if s0 = 0 then some (some (vi 1), h) else some (some (vi 0), h)) := (ev_rc [40, 56] 120 _).trans rfl
set_option maxRecDepth 100000 in
set_option maxHeartbeats 400000 in
/-- IllLightModel.isSafe(IIII)Z -/
theorem E_X9_isSafe_56 (h : PH) (x2 : Int32) (s0 : Int32) : pm_ev (218, 56, [vr 8 0, none, vi x2, none, none, none], [vi s0], h) = (if s0 = 0 then some (some (vi 1), h) else some (some (vi 0), h)) := (ev_rc [40, 56] 120 _).trans rfl
set_option maxRecDepth 100000 in
set_option maxHeartbeats 400000 in
/-- IllLightModel.goes(IIII)V -/
theorem E_X9_goes (h : PH) (a : Int32) (b : Int32) (c : Int32) (d : Int32) : pm_ev (219, 0, [vr 8 0, vi a, vi b, vi c, vi d, none, none, none], [], h) = pm_ev (219, 3, [vr 8 0, vi a, vi b, vi c, vi d, vi 0, none, none], [], h) := (ev_rc [3, 18, 32, 41, 57, 59, 62, 71, 86, 95, 116, 130, 133, 147, 163, 165, 180, 207, 223, 232, 239, 249, 264] 120 _).trans rfl
set_option maxRecDepth 100000 in
set_option maxHeartbeats 400000 in
/-- IllLightModel.goes(IIII)V -/
theorem E_X9_goes_3 (h : PH) (x1 : Int32) (x2 : Int32) (x3 : Int32) (x4 : Int32) (x5 : Int32) : pm_ev (219, 3, [vr 8 0, vi x1, vi x2, vi x3, vi x4, vi x5, none, none], [], h) = (if x5 < 64 then (if pm_inb x5 64 = true then pm_ev (219, 18, [vr 8 0, vi x1, vi x2, vi x3, vi x4, vi x5, none, none], [], (pm_sI h 39 0 x5.toNatClampNeg (-1))) else none) else (pm_bI (pm_ev (188, 0, [vr 8 0, vi x1, vi 0], [], h)) fun r2 h1 => pm_ev (219, 57, [vr 8 0, vi x1, vi x2, vi x3, vi x4, none, none, none], [vi r2, vr 39 0], h1))) := (ev_rc [3, 18, 32, 41, 57, 59, 62, 71, 86, 95, 116, 130, 133, 147, 163, 165, 180, 207, 223, 232, 239, 249, 264] 120 _).trans rfl
set_option maxRecDepth 100000 in
set_option maxHeartbeats 400000 in
/-- IllLightModel.goes(IIII)V -/
theorem E_X9_goes_18 (h : PH) (x1 : Int32) (x2 : Int32) (x3 : Int32) (x4 : Int32) (x5 : Int32) : pm_ev (219, 18, [vr 8 0, vi x1, vi x2, vi x3, vi x4, vi x5, none, none], [], h) = (pm_bI (pm_ev (188, 0, [vr 8 0, vi x1, vi 0], [], h)) fun r4 h3 => pm_ev (219, 32, [vr 8 0, vi x1, vi x2, vi x3, vi x4, vi x5, none, none], [vi r4, vi x5, vi x5, vr 40 0], h3)) := (ev_rc [3, 18, 32, 41, 57, 59, 62, 71, 86, 95, 116, 130, 133, 147, 163, 165, 180, 207, 223, 232, 239, 249, 264] 120 _).trans rfl
set_option maxRecDepth 100000 in
set_option maxHeartbeats 400000 in
/-- IllLightModel.goes(IIII)V -/
theorem E_X9_goes_57 (h : PH) (x1 : Int32) (x2 : Int32) (x3 : Int32) (x4 : Int32) (s0 : Int32) (s1 : Nat) : pm_ev (219, 57, [vr 8 0, vi x1, vi x2, vi x3, vi x4, none, none, none], [vi s0, vr 39 s1], h) = (if pm_inb s0 64 = true then pm_ev (219, 59, [vr 8 0, vi x1, vi x2, vi x3, vi x4, none, none, none], [], (pm_sI h 39 s1 s0.toNatClampNeg 0)) else none) := (ev_rc [3, 18, 32, 41, 57, 59, 62, 71, 86, 95, 116, 130, 133, 147, 163, 165, 180, 207, 223, 232, 239, 249, 264] 120 _).trans rfl
set_option maxRecDepth 100000 in
set_option maxHeartbeats 400000 in
/-- IllLightModel.goes(IIII)V -/
theorem E_X9_goes_32 (h : PH) (x1 : Int32) (x2 : Int32) (x3 : Int32) (x4 : Int32) (x5 : Int32) (s0 : Int32) (s1 : Int32) (s2 : Int32) (s3 : Nat) : pm_ev (219, 32, [vr 8 0, vi x1, vi x2, vi x3, vi x4, vi x5, none, none], [vi s0, vi s1, vi s2, vr 40 s3], h) = (if s1 = s0 then (if pm_inb s2 64 = true then pm_ev (219, 41, [vr 8 0, vi x1, vi x2, vi x3, vi x4, vi x5, none, none], [], (pm_sI h 40 s3 s2.toNatClampNeg 1)) else none) else (if pm_inb s2 64 = true then pm_ev (219, 41, [vr 8 0, vi x1, vi x2, vi x3, vi x4, vi x5, none, none], [], (pm_sI h 40 s3 s2.toNatClampNeg 0)) else none)) := (ev_rc [3, 18, 32, 41, 57, 59, 62, 71, 86, 95, 116, 130, 133, 147, 163, 165, 180, 207, 223, 232, 239, 249, 264] 120 _).trans rfl
set_option maxRecDepth 100000 in
set_option maxHeartbeats 400000 in
/-- IllLightModel.goes(IIII)V -/
theorem E_X9_goes_59 (h : PH) (x1 : Int32) (x2 : Int32) (x3 : Int32) (x4 : Int32) : pm_ev (219, 59, [vr 8 0, vi x1, vi x2, vi x3, vi x4, none, none, none], [], h) = pm_ev (219, 62, [vr 8 0, vi x1, vi x2, vi x3, vi x4, vi 0, none, none], [], h) := (ev_rc [3, 18, 32, 41, 57, 59, 62, 71, 86, 95, 116, 130, 133, 147, 163, 165, 180, 207, 223, 232, 239, 249, 264] 120 _).trans rfl
set_option maxRecDepth 100000 in
set_option maxHeartbeats 400000 in
/-- IllLightModel.goes(IIII)V -/
theorem E_X9_goes_41 (h : PH) (x1 : Int32) (x2 : Int32) (x3 : Int32) (x4 : Int32) (x5 : Int32) : pm_ev (219, 41, [vr 8 0, vi x1, vi x2, vi x3, vi x4, vi x5, none, none], [], h) = pm_ev (219, 3, [vr 8 0, vi x1, vi x2, vi x3, vi x4, vi (x5 + 1), none, none], [], h) := (ev_rc [3, 18, 32, 41, 57, 59, 62, 71, 86, 95, 116, 130, 133, 147, 163, 165, 180, 207, 223, 232, 239, 249, 264] 120 _).trans rfl
set_option maxRecDepth 100000 in
set_option maxHeartbeats 400000 in
/-- IllLightModel.goes(IIII)V -/
theorem E_X9_goes_62 (h : PH) (x1 : Int32) (x2 : Int32) (x3 : Int32) (x4 : Int32) (x5 : Int32) : pm_ev (219, 62, [vr 8 0, vi x1, vi x2, vi x3, vi x4, vi x5, none, none], [], h) = (if x5 < x3 then pm_ev (219, 71, [vr 8 0, vi x1, vi x2, vi x3, vi x4, vi x5, vi 0, none], [], h) else some (none, h)) := (ev_rc [3, 18, 32, 41, 57, 59, 62, 71, 86, 95, 116, 130, 133, 147, 163, 165, 180, 207, 223, 232, 239, 249, 264] 120 _).trans rfl
set_option maxRecDepth 100000 in
set_option maxHeartbeats 400000 in
/-- IllLightModel.goes(IIII)V -/
theorem E_X9_goes_71 (h : PH) (x1 : Int32) (x2 : Int32) (x3 : Int32) (x4 : Int32) (x5 : Int32) (x6 : Int32) : pm_ev (219, 71, [vr 8 0, vi x1, vi x2, vi x3, vi x4, vi x5, vi x6, none], [], h) = (if x6 < 64 then (if pm_inb x6 64 = true then pm_ev (219, 86, [vr 8 0, vi x1, vi x2, vi x3, vi x4, vi x5, vi x6, none], [], (pm_sI h 41 0 x6.toNatClampNeg 0)) else none) else pm_ev (219, 95, [vr 8 0, vi x1, vi x2, vi x3, vi x4, vi x5, vi 0, none], [], h)) := (ev_rc [3, 18, 32, 41, 57, 59, 62, 71, 86, 95, 116, 130, 133, 147, 163, 165, 180, 207, 223, 232, 239, 249, 264] 120 _).trans rfl
set_option maxRecDepth 100000 in
set_option maxHeartbeats 400000 in
/-- IllLightModel.goes(IIII)V -/
theorem E_X9_goes_86 (h : PH) (x1 : Int32) (x2 : Int32) (x3 : Int32) (x4 : Int32) (x5 : Int32) (x6 : Int32) : pm_ev (219, 86, [vr 8 0, vi x1, vi x2, vi x3, vi x4, vi x5, vi x6, none], [], h) = pm_ev (219, 71, [vr 8 0, vi x1, vi x2, vi x3, vi x4, vi x5, vi (x6 + 1), none], [], h) := (ev_rc [3, 18, 32, 41, 57, 59, 62, 71, 86, 95, 116, 130, 133, 147, 163, 165, 180, 207, 223, 232, 239, 249, 264] 120 _).trans rfl
set_option maxRecDepth 100000 in
set_option maxHeartbeats 400000 in
/-- IllLightModel.goes(IIII)V -/
theorem E_X9_goes_95 (h : PH) (x1 : Int32) (x2 : Int32) (x3 : Int32) (x4 : Int32) (x5 : Int32) (x6 : Int32) : pm_ev (219, 95, [vr 8 0, vi x1, vi x2, vi x3, vi x4, vi x5, vi x6, none], [], h) = (if x6 < (h.1 8 0 14) * (h.1 8 0 15) then (if pm_inb x6 64 = true then pm_ev (219, 116, [vr 8 0, vi x1, vi x2, vi x3, vi x4, vi x5, vi x6, none], [vi (h.1 40 0 x6.toNatClampNeg)], h) else none) else pm_ev (219, 180, [vr 8 0, vi x1, vi x2, vi x3, vi x4, vi x5, vi 0, none], [], h)) := (ev_rc [3, 18, 32, 41, 57, 59, 62, 71, 86, 95, 116, 130, 133, 147, 163, 165, 180, 207, 223, 232, 239, 249, 264] 120 _).trans rfl
set_option maxRecDepth 100000 in
set_option maxHeartbeats 400000 in
/-- IllLightModel.goes(IIII)V -/
theorem E_X9_goes_116 (h : PH) (x1 : Int32) (x2 : Int32) (x3 : Int32) (x4 : Int32) (x5 : Int32) (x6 : Int32) (s0 : Int32) : pm_ev (219, 116, [vr 8 0, vi x1, vi x2, vi x3, vi x4, vi x5, vi x6, none], [vi s0], h) = (if s0 = 0 then pm_ev (219, 95, [vr 8 0, vi x1, vi x2, vi x3, vi x4, vi x5, vi (x6 + 1), none], [], h) else (if pm_inb x6 64 = true then pm_ev (219, 130, [vr 8 0, vi x1, vi x2, vi x3, vi x4, vi x5, vi x6, none], [], (pm_sI h 41 0 x6.toNatClampNeg 1)) else none)) := (ev_rc [3, 18, 32, 41, 57, 59, 62, 71, 86, 95, 116, 130, 133, 147, 163, 165, 180, 207, 223, 232, 239, 249, 264] 120 _).trans rfl
set_option maxRecDepth 100000 in
set_option maxHeartbeats 400000 in
/-- IllLightModel.goes(IIII)V -/
theorem E_X9_goes_180 (h : PH) (x1 : Int32) (x2 : Int32) (x3 : Int32) (x4 : Int32) (x5 : Int32) (x6 : Int32) : pm_ev (219, 180, [vr 8 0, vi x1, vi x2, vi x3, vi x4, vi x5, vi x6, none], [], h) = (if x6 < (h.1 8 0 14) * (h.1 8 0 15) then (if pm_inb x6 64 = true then pm_ev (219, 207, [vr 8 0, vi x1, vi x2, vi x3, vi x4, vi x5, vi x6, none], [vi (h.1 41 0 x6.toNatClampNeg), vi x6, vr 40 0], h) else none) else pm_ev (219, 62, [vr 8 0, vi x1, vi x2, vi x3, vi x4, vi (x5 + 1), none, none], [], h)) := (ev_rc [3, 18, 32, 41, 57, 59, 62, 71, 86, 95, 116, 130, 133, 147, 163, 165, 180, 207, 223, 232, 239, 249, 264] 120 _).trans rfl
set_option maxRecDepth 100000 in
set_option maxHeartbeats 400000 in
/-- IllLightModel.goes(IIII)V -/
theorem E_X9_goes_130 (h : PH) (x1 : Int32) (x2 : Int32) (x3 : Int32) (x4 : Int32) (x5 : Int32) (x6 : Int32) : pm_ev (219, 130, [vr 8 0, vi x1, vi x2, vi x3, vi x4, vi x5, vi x6, none], [], h) = pm_ev (219, 133, [vr 8 0, vi x1, vi x2, vi x3, vi x4, vi x5, vi x6, vi 0], [], h) := (ev_rc [3, 18, 32, 41, 57, 59, 62, 71, 86, 95, 116, 130, 133, 147, 163, 165, 180, 207, 223, 232, 239, 249, 264] 120 _).trans rfl
set_option maxRecDepth 100000 in
set_option maxHeartbeats 400000 in
/-- IllLightModel.goes(IIII)V -/
theorem E_X9_goes_207 (h : PH) (x1 : Int32) (x2 : Int32) (x3 : Int32) (x4 : Int32) (x5 : Int32) (x6 : Int32) (s0 : Int32) (s1 : Int32) (s2 : Nat) : pm_ev (219, 207, [vr 8 0, vi x1, vi x2, vi x3, vi x4, vi x5, vi x6, none], [vi s0, vi s1, vr 40 s2], h) = (if s0 = 0 then (if pm_inb s1 64 = true then pm_ev (219, 232, [vr 8 0, vi x1, vi x2, vi x3, vi x4, vi x5, vi x6, none], [], (pm_sI h 40 s2 s1.toNatClampNeg 0)) else none) else (pm_bI (pm_ev (218, 0, [vr 8 0, vi x1, vi x6, vi (x2 + x5), vi x4, none], [], h)) fun r6 h5 => pm_ev (219, 223, [vr 8 0, vi x1, vi x2, vi x3, vi x4, vi x5, vi x6, none], [vi r6, vi s1, vr 40 s2], h5))) := (ev_rc [3, 18, 32, 41, 57, 59, 62, 71, 86, 95, 116, 130, 133, 147, 163, 165, 180, 207, 223, 232, 239, 249, 264] 120 _).trans rfl
set_option maxRecDepth 100000 in
set_option maxHeartbeats 400000 in
/-- IllLightModel.goes(IIII)V -/
theorem E_X9_goes_133 (h : PH) (x1 : Int32) (x2 : Int32) (x3 : Int32) (x4 : Int32) (x5 : Int32) (x6 : Int32) (x7 : Int32) : pm_ev (219, 133, [vr 8 0, vi x1, vi x2, vi x3, vi x4, vi x5, vi x6, vi x7], [], h) = (if x7 < 4 then (pm_bI (pm_ev (202, 0, [vr 8 0, vi x6, vi x7, none, none], [], h)) fun r8 h7 => pm_ev (219, 147, [vr 8 0, vi x1, vi x2, vi x3, vi x4, vi x5, vi x6, vi x7], [vi r8], h7)) else pm_ev (219, 95, [vr 8 0, vi x1, vi x2, vi x3, vi x4, vi x5, vi (x6 + 1), none], [], h)) := (ev_rc [3, 18, 32, 41, 57, 59, 62, 71, 86, 95, 116, 130, 133, 147, 163, 165, 180, 207, 223, 232, 239, 249, 264] 120 _).trans rfl
set_option maxRecDepth 100000 in
set_option maxHeartbeats 400000 in
/-- IllLightModel.goes(IIII)V -/
theorem E_X9_goes_232 (h : PH) (x1 : Int32) (x2 : Int32) (x3 : Int32) (x4 : Int32) (x5 : Int32) (x6 : Int32) : pm_ev (219, 232, [vr 8 0, vi x1, vi x2, vi x3, vi x4, vi x5, vi x6, none], [], h) = (if pm_inb x6 64 = true then pm_ev (219, 239, [vr 8 0, vi x1, vi x2, vi x3, vi x4, vi x5, vi x6, none], [vi (h.1 40 0 x6.toNatClampNeg)], h) else none) := (ev_rc [3, 18, 32, 41, 57, 59, 62, 71, 86, 95, 116, 130, 133, 147, 163, 165, 180, 207, 223, 232, 239, 249, 264] 120 _).trans rfl
set_option maxRecDepth 100000 in
set_option maxHeartbeats 400000 in
/-- IllLightModel.goes(IIII)V -/
theorem E_X9_goes_223 (h : PH) (x1 : Int32) (x2 : Int32) (x3 : Int32) (x4 : Int32) (x5 : Int32) (x6 : Int32) (s0 : Int32) (s1 : Int32) (s2 : Nat) : pm_ev (219, 223, [vr 8 0, vi x1, vi x2, vi x3, vi x4, vi x5, vi x6, none], [vi s0, vi s1, vr 40 s2], h) = (if s0 = 0 then (if pm_inb s1 64 = true then pm_ev (219, 232, [vr 8 0, vi x1, vi x2, vi x3, vi x4, vi x5, vi x6, none], [], (pm_sI h 40 s2 s1.toNatClampNeg 0)) else none) else (if pm_inb s1 64 = true then pm_ev (219, 232, [vr 8 0, vi x1, vi x2, vi x3, vi x4, vi x5, vi x6, none], [], (pm_sI h 40 s2 s1.toNatClampNeg 1)) else none)) := (ev_rc [3, 18, 32, 41, 57, 59, 62, 71, 86, 95, 116, 130, 133, 147, 163, 165, 180, 207, 223, 232, 239, 249, 264] 120 _).trans rfl
set_option maxRecDepth 100000 in
set_option maxHeartbeats 400000 in
/-- IllLightModel.goes(IIII)V -/
theorem E_X9_goes_147 (h : PH) (x1 : Int32) (x2 : Int32) (x3 : Int32) (x4 : Int32) (x5 : Int32) (x6 : Int32) (x7 : Int32) (s0 : Int32) : pm_ev (219, 147, [vr 8 0, vi x1, vi x2, vi x3, vi x4, vi x5, vi x6, vi x7], [vi s0], h) = (if s0 = (-1) then pm_ev (219, 165, [vr 8 0, vi x1, vi x2, vi x3, vi x4, vi x5, vi x6, vi x7], [], h) else (pm_bI (pm_ev (202, 0, [vr 8 0, vi x6, vi x7, none, none], [], h)) fun r10 h9 => pm_ev (219, 163, [vr 8 0, vi x1, vi x2, vi x3, vi x4, vi x5, vi x6, vi x7], [vi r10, vr 41 0], h9))) := (ev_rc [3, 18, 32, 41, 57, 59, 62, 71, 86, 95, 116, 130, 133, 147, 163, 165, 180, 207, 223, 232, 239, 249, 264] 120 _).trans rfl
set_option maxRecDepth 100000 in
set_option maxHeartbeats 400000 in
/-- IllLightModel.goes(IIII)V -/
theorem E_X9_goes_239 (h : PH) (x1 : Int32) (x2 : Int32) (x3 : Int32) (x4 : Int32) (x5 : Int32) (x6 : Int32) (s0 : Int32) : pm_ev (219, 239, [vr 8 0, vi x1, vi x2, vi x3, vi x4, vi x5, vi x6, none], [vi s0], h) = (if s0 = 0 then pm_ev (219, 264, [vr 8 0, vi x1, vi x2, vi x3, vi x4, vi x5, vi x6, none], [], h) else (if pm_inb x6 64 = true then pm_ev (219, 249, [vr 8 0, vi x1, vi x2, vi x3, vi x4, vi x5, vi x6, none], [vi (h.1 39 0 x6.toNatClampNeg)], h) else none)) := (ev_rc [3, 18, 32, 41, 57, 59, 62, 71, 86, 95, 116, 130, 133, 147, 163, 165, 180, 207, 223, 232, 239, 249, 264] 120 _).trans rfl
set_option maxRecDepth 100000 in
set_option maxHeartbeats 400000 in
/-- IllLightModel.goes(IIII)V -/
theorem E_X9_goes_165 (h : PH) (x1 : Int32) (x2 : Int32) (x3 : Int32) (x4 : Int32) (x5 : Int32) (x6 : Int32) (x7 : Int32) : pm_ev (219, 165, [vr 8 0, vi x1, vi x2, vi x3, vi x4, vi x5, vi x6, vi x7], [], h) = pm_ev (219, 133, [vr 8 0, vi x1, vi x2, vi x3, vi x4, vi x5, vi x6, vi (x7 + 1)], [], h) := (ev_rc [3, 18, 32, 41, 57, 59, 62, 71, 86, 95, 116, 130, 133, 147, 163, 165, 180, 207, 223, 232, 239, 249, 264] 120 _).trans rfl
set_option maxRecDepth 100000 in
set_option maxHeartbeats 400000 in
/-- IllLightModel.goes(IIII)V -/
theorem E_X9_goes_163 (h : PH) (x1 : Int32) (x2 : Int32) (x3 : Int32) (x4 : Int32) (x5 : Int32) (x6 : Int32) (x7 : Int32) (s0 : Int32) (s1 : Nat) : pm_ev (219, 163, [vr 8 0, vi x1, vi x2, vi x3, vi x4, vi x5, vi x6, vi x7], [vi s0, vr 41 s1], h) = (if pm_inb s0 64 = true then pm_ev (219, 165, [vr 8 0, vi x1, vi x2, vi x3, vi x4, vi x5, vi x6, vi x7], [], (pm_sI h 41 s1 s0.toNatClampNeg 1)) else none) := (ev_rc [3, 18, 32, 41, 57, 59, 62, 71, 86, 95, 116, 130, 133, 147, 163, 165, 180, 207, 223, 232, 239, 249, 264] 120 _).trans rfl
set_option maxRecDepth 100000 in
set_option maxHeartbeats 400000 in
/-- IllLightModel.goes(IIII)V -/
theorem E_X9_goes_264 (h : PH) (x1 : Int32) (x2 : Int32) (x3 : Int32) (x4 : Int32) (x5 : Int32) (x6 : Int32) : pm_ev (219, 264, [vr 8 0, vi x1, vi x2, vi x3, vi x4, vi x5, vi x6, none], [], h) = pm_ev (219, 180, [vr 8 0, vi x1, vi x2, vi x3, vi x4, vi x5, vi (x6 + 1), none], [], h) := (ev_rc [3, 18, 32, 41, 57, 59, 62, 71, 86, 95, 116, 130, 133, 147, 163, 165, 180, 207, 223, 232, 239, 249, 264] 120 _).trans rfl
set_option maxRecDepth 100000 in
set_option maxHeartbeats 400000 in
/-- IllLightModel.goes(IIII)V -/
theorem E_X9_goes_249 (h : PH) (x1 : Int32) (x2 : Int32) (x3 : Int32) (x4 : Int32) (x5 : Int32) (x6 : Int32) (s0 : Int32) : pm_ev (219, 249, [vr 8 0, vi x1, vi x2, vi x3, vi x4, vi x5, vi x6, none], [vi s0], h) = (if s0 = (-1) then (if pm_inb x6 64 = true then pm_ev (219, 264, [vr 8 0, vi x1, vi x2, vi x3, vi x4, vi x5, vi x6, none], [], (pm_sI h 39 0 x6.toNatClampNeg (x5 + 1))) else none) else pm_ev (219, 264, [vr 8 0, vi x1, vi x2, vi x3, vi x4, vi x5, vi x6, none], [], h)) := (ev_rc [3, 18, 32, 41, 57, 59, 62, 71, 86, 95, 116, 130, 133, 147, 163, 165, 180, 207, 223, 232, 239, 249, 264] 120 _).trans rfl
set_option maxRecDepth 100000 in
set_option maxHeartbeats 400000 in
/-- IllLightModel.way(III)I -/
theorem E_X9_way (h : PH) (a : Int32) (b : Int32) (c : Int32) : pm_ev (220, 0, [vr 8 0, vi a, vi b, vi c], [], h) = (pm_bI (pm_ev (185, 0, [vr 8 0, vi a], [], h)) fun r2 h1 => (if r2 = 0 then some (some (vi (-1)), h1) else (pm_bI (pm_ev (187, 0, [vr 8 0, vi b], [], h1)) fun r4 h3 => pm_ev (220, 13, [vr 8 0, vi a, vi b, vi c], [vi r4], h3)))) := (ev_rc [13, 30, 45] 120 _).trans rfl
set_option maxRecDepth 100000 in
set_option maxHeartbeats 400000 in
/-- IllLightModel.way(III)I -/
theorem E_X9_way_13 (h : PH) (x1 : Int32) (x2 : Int32) (x3 : Int32) (s0 : Int32) : pm_ev (220, 13, [vr 8 0, vi x1, vi x2, vi x3], [vi s0], h) = (if s0 = 0 then some (some (vi (-1)), h) else (pm_bI (pm_ev (186, 0, [vr 8 0, vi x3], [], h)) fun r6 h5 => (if r6 = 0 then some (some (vi (-1)), h5) else (pm_bV (pm_ev (191, 0, [vr 8 0, none], [], h5)) fun h7 => pm_ev (220, 30, [vr 8 0, none, vi x2, vi x3], [], h7))))) := (ev_rc [13, 30, 45] 120 _).trans rfl
set_option maxRecDepth 100000 in
set_option maxHeartbeats 400000 in
/-- IllLightModel.way(III)I -/
theorem E_X9_way_30 (h : PH) (x2 : Int32) (x3 : Int32) : pm_ev (220, 30, [vr 8 0, none, vi x2, vi x3], [], h) = (pm_bV (pm_ev (219, 0, [vr 8 0, vi x2, vi 0, vi 60, vi 0, none, none, none], [], h)) fun h8 => (if pm_inb x3 64 = true then pm_ev (220, 45, [vr 8 0, none, vi x2, vi x3], [vi (h8.1 39 0 x3.toNatClampNeg)], h8) else none)) := (ev_rc [13, 30, 45] 120 _).trans rfl
set_option maxRecDepth 100000 in
set_option maxHeartbeats 400000 in
/-- IllLightModel.way(III)I -/
theorem E_X9_way_45 (h : PH) (x2 : Int32) (x3 : Int32) (s0 : Int32) : pm_ev (220, 45, [vr 8 0, none, vi x2, vi x3], [vi s0], h) = some (some (vi s0), h) := (ev_rc [13, 30, 45] 120 _).trans rfl
set_option maxRecDepth 100000 in
set_option maxHeartbeats 400000 in
/-- IllLightModel.free(IIII)I -/
theorem E_X9_free (h : PH) (a : Int32) (b : Int32) (c : Int32) (d : Int32) : pm_ev (221, 0, [vr 8 0, vi a, vi b, vi c, vi d, none, none], [], h) = (pm_bI (pm_ev (185, 0, [vr 8 0, vi a], [], h)) fun r2 h1 => (if r2 = 0 then some (some (vi (-1)), h1) else (pm_bI (pm_ev (187, 0, [vr 8 0, vi b], [], h1)) fun r4 h3 => pm_ev (221, 13, [vr 8 0, vi a, vi b, vi c, vi d, none, none], [vi r4], h3)))) := (ev_rc [13, 33, 51, 57, 73] 120 _).trans rfl
set_option maxRecDepth 100000 in
set_option maxHeartbeats 400000 in
/-- IllLightModel.free(IIII)I -/
theorem E_X9_free_13 (h : PH) (x1 : Int32) (x2 : Int32) (x3 : Int32) (x4 : Int32) (s0 : Int32) : pm_ev (221, 13, [vr 8 0, vi x1, vi x2, vi x3, vi x4, none, none], [vi s0], h) = (if s0 = 0 then some (some (vi (-1)), h) else (pm_bI (pm_ev (153, 0, [vi x3, vi 0, vi 60], [], h)) fun r6 h5 => (if r6 = 0 then some (some (vi (-1)), h5) else (pm_bI (pm_ev (153, 0, [vi x4, vi 0, vi 2], [], h5)) fun r8 h7 => pm_ev (221, 33, [vr 8 0, vi x1, vi x2, vi x3, vi x4, none, none], [vi r8], h7))))) := (ev_rc [13, 33, 51, 57, 73] 120 _).trans rfl
set_option maxRecDepth 100000 in
set_option maxHeartbeats 400000 in
/-- IllLightModel.free(IIII)I -/
theorem E_X9_free_33 (h : PH) (x1 : Int32) (x2 : Int32) (x3 : Int32) (x4 : Int32) (s0 : Int32) : pm_ev (221, 33, [vr 8 0, vi x1, vi x2, vi x3, vi x4, none, none], [vi s0], h) = (if s0 = 0 then some (some (vi (-1)), h) else (pm_bV (pm_ev (191, 0, [vr 8 0, none], [], h)) fun h9 => (pm_bV (pm_ev (219, 0, [vr 8 0, vi x2, vi 0, vi x3, vi x4, none, none, none], [], h9)) fun h10 => pm_ev (221, 51, [vr 8 0, none, vi x2, vi x3, vi x4, none, none], [], h10)))) := (ev_rc [13, 33, 51, 57, 73] 120 _).trans rfl
set_option maxRecDepth 100000 in
set_option maxHeartbeats 400000 in
/-- IllLightModel.free(IIII)I -/
theorem E_X9_free_51 (h : PH) (x2 : Int32) (x3 : Int32) (x4 : Int32) : pm_ev (221, 51, [vr 8 0, none, vi x2, vi x3, vi x4, none, none], [], h) = pm_ev (221, 57, [vr 8 0, none, none, none, none, vi 0, vi 0], [], h) := (ev_rc [13, 33, 51, 57, 73] 120 _).trans rfl
set_option maxRecDepth 100000 in
set_option maxHeartbeats 400000 in
/-- IllLightModel.free(IIII)I -/
theorem E_X9_free_57 (h : PH) (x5 : Int32) (x6 : Int32) : pm_ev (221, 57, [vr 8 0, none, none, none, none, vi x5, vi x6], [], h) = (if x6 < 64 then (if pm_inb x6 64 = true then pm_ev (221, 73, [vr 8 0, none, none, none, none, vi x5, vi x6], [vi (h.1 39 0 x6.toNatClampNeg), vi x5], h) else none) else some (some (vi x5), h)) := (ev_rc [13, 33, 51, 57, 73] 120 _).trans rfl
set_option maxRecDepth 100000 in
set_option maxHeartbeats 400000 in
/-- IllLightModel.free(IIII)I -/
theorem E_X9_free_73 (h : PH) (x5 : Int32) (x6 : Int32) (s0 : Int32) (s1 : Int32) : pm_ev (221, 73, [vr 8 0, none, none, none, none, vi x5, vi x6], [vi s0, vi s1], h) = (if s0 = (-1) then pm_ev (221, 57, [vr 8 0, none, none, none, none, vi (s1 + 0), vi (x6 + 1)], [], h) else pm_ev (221, 57, [vr 8 0, none, none, none, none, vi (s1 + 1), vi (x6 + 1)], [], h)) := (ev_rc [13, 33, 51, 57, 73] 120 _).trans rfl
set_option maxRecDepth 100000 in
set_option maxHeartbeats 400000 in
/-- IllLightModel.comes(IIII)Z -/
theorem E_X9_comes (h : PH) (a : Int32) (b : Int32) (c : Int32) (d : Int32) : pm_ev (222, 0, [vr 8 0, vi a, vi b, vi c, vi d], [], h) = (pm_bV (pm_ev (219, 0, [vr 8 0, vi a, vi d, vi c, vi 0, none, none, none], [], h)) fun h1 => (if pm_inb b 64 = true then pm_ev (222, 15, [vr 8 0, vi a, vi b, vi c, vi d], [vi (h1.1 39 0 b.toNatClampNeg)], h1) else none)) := (ev_rc [15] 120 _).trans rfl
set_option maxRecDepth 100000 in
set_option maxHeartbeats 400000 in
/-- IllLightModel.comes(IIII)Z -/
theorem E_X9_comes_15 (h : PH) (x1 : Int32) (x2 : Int32) (x3 : Int32) (x4 : Int32) (s0 : Int32) : pm_ev (222, 15, [vr 8 0, vi x1, vi x2, vi x3, vi x4], [vi s0], h) = (if s0 = (-1) then some (some (vi 0), h) else some (some (vi 1), h)) := (ev_rc [15] 120 _).trans rfl
set_option maxRecDepth 100000 in
set_option maxHeartbeats 400000 in
/-- IllLightModel.takenOf(III)I -/
theorem E_X9_takenOf (h : PH) (a : Int32) (b : Int32) (c : Int32) : pm_ev (224, 0, [vr 8 0, vi a, vi b, vi c, none, none], [], h) = pm_ev (224, 3, [vr 8 0, vi a, vi b, vi c, vi 0, none], [], h) := (ev_rc [3, 17, 35] 120 _).trans rfl
set_option maxRecDepth 100000 in
set_option maxHeartbeats 400000 in
/-- IllLightModel.takenOf(III)I -/
theorem E_X9_takenOf_3 (h : PH) (x1 : Int32) (x2 : Int32) (x3 : Int32) (x4 : Int32) : pm_ev (224, 3, [vr 8 0, vi x1, vi x2, vi x3, vi x4, none], [], h) = (pm_bI (pm_ev (188, 0, [vr 8 0, vi x1, vi 3], [], h)) fun r2 h1 => (if r2 < x4 then some (some (vi (-1)), h1) else pm_ev (224, 17, [vr 8 0, vi x1, vi x2, vi x3, vi x4, vi 0], [], h1))) := (ev_rc [3, 17, 35] 120 _).trans rfl
set_option maxRecDepth 100000 in
set_option maxHeartbeats 400000 in
/-- IllLightModel.takenOf(III)I -/
theorem E_X9_takenOf_17 (h : PH) (x1 : Int32) (x2 : Int32) (x3 : Int32) (x4 : Int32) (x5 : Int32) : pm_ev (224, 17, [vr 8 0, vi x1, vi x2, vi x3, vi x4, vi x5], [], h) = (pm_bI (pm_ev (188, 0, [vr 8 0, vi x1, vi 3], [], h)) fun r4 h3 => (if x5 < (1 : Int32) <<< (r4 &&& 31) then (pm_bI (pm_ev (223, 0, [vi x5, none, none], [], h3)) fun r6 h5 => pm_ev (224, 35, [vr 8 0, vi x1, vi x2, vi x3, vi x4, vi x5], [vi r6], h5)) else pm_ev (224, 3, [vr 8 0, vi x1, vi x2, vi x3, vi (x4 + 1), none], [], h3))) := (ev_rc [3, 17, 35] 120 _).trans rfl
set_option maxRecDepth 100000 in
set_option maxHeartbeats 400000 in
/-- IllLightModel.takenOf(III)I -/
theorem E_X9_takenOf_35 (h : PH) (x1 : Int32) (x2 : Int32) (x3 : Int32) (x4 : Int32) (x5 : Int32) (s0 : Int32) : pm_ev (224, 35, [vr 8 0, vi x1, vi x2, vi x3, vi x4, vi x5], [vi s0], h) = (if s0 = x4 then (pm_bI (pm_ev (222, 0, [vr 8 0, vi x1, vi x2, vi x3, vi 0], [], (pm_sI h 8 0 19 x5))) fun r8 h7 => (if r8 = 0 then pm_ev (224, 17, [vr 8 0, vi x1, vi x2, vi x3, vi x4, vi (x5 + 1)], [], h7) else some (some (vi x5), h7))) else pm_ev (224, 17, [vr 8 0, vi x1, vi x2, vi x3, vi x4, vi (x5 + 1)], [], h)) := (ev_rc [3, 17, 35] 120 _).trans rfl
set_option maxRecDepth 100000 in
set_option maxHeartbeats 400000 in
/-- IllLightModel.lulledOf(III)I -/
theorem E_X9_lulledOf (h : PH) (a : Int32) (b : Int32) (c : Int32) : pm_ev (225, 0, [vr 8 0, vi a, vi b, vi c, none, none, none], [], h) = pm_ev (225, 3, [vr 8 0, vi a, vi b, vi c, vi 0, none, none], [], h) := (ev_rc [3, 17, 35, 50, 87, 101] 120 _).trans rfl
set_option maxRecDepth 100000 in
set_option maxHeartbeats 400000 in
/-- IllLightModel.lulledOf(III)I -/
theorem E_X9_lulledOf_3 (h : PH) (x1 : Int32) (x2 : Int32) (x3 : Int32) (x4 : Int32) : pm_ev (225, 3, [vr 8 0, vi x1, vi x2, vi x3, vi x4, none, none], [], h) = (pm_bI (pm_ev (188, 0, [vr 8 0, vi x1, vi 3], [], h)) fun r2 h1 => (if r2 < x4 then some (some (vi (-1)), h1) else pm_ev (225, 17, [vr 8 0, vi x1, vi x2, vi x3, vi x4, vi 0, none], [], h1))) := (ev_rc [3, 17, 35, 50, 87, 101] 120 _).trans rfl
set_option maxRecDepth 100000 in
set_option maxHeartbeats 400000 in
/-- IllLightModel.lulledOf(III)I -/
theorem E_X9_lulledOf_17 (h : PH) (x1 : Int32) (x2 : Int32) (x3 : Int32) (x4 : Int32) (x5 : Int32) : pm_ev (225, 17, [vr 8 0, vi x1, vi x2, vi x3, vi x4, vi x5, none], [], h) = (pm_bI (pm_ev (188, 0, [vr 8 0, vi x1, vi 3], [], h)) fun r4 h3 => (if x5 < (1 : Int32) <<< (r4 &&& 31) then (pm_bI (pm_ev (223, 0, [vi x5, none, none], [], h3)) fun r6 h5 => pm_ev (225, 35, [vr 8 0, vi x1, vi x2, vi x3, vi x4, vi x5, none], [vi r6], h5)) else pm_ev (225, 3, [vr 8 0, vi x1, vi x2, vi x3, vi (x4 + 1), none, none], [], h3))) := (ev_rc [3, 17, 35, 50, 87, 101] 120 _).trans rfl
set_option maxRecDepth 100000 in
set_option maxHeartbeats 400000 in
/-- IllLightModel.lulledOf(III)I -/
theorem E_X9_lulledOf_35 (h : PH) (x1 : Int32) (x2 : Int32) (x3 : Int32) (x4 : Int32) (x5 : Int32) (s0 : Int32) : pm_ev (225, 35, [vr 8 0, vi x1, vi x2, vi x3, vi x4, vi x5, none], [vi s0], h) = (if s0 = x4 then (pm_bV (pm_ev (191, 0, [vr 8 0, none], [], h)) fun h7 => pm_ev (225, 50, [vr 8 0, vi x1, vi x2, vi x3, vi x4, vi x5, vi 0], [], h7)) else pm_ev (225, 17, [vr 8 0, vi x1, vi x2, vi x3, vi x4, vi (x5 + 1), none], [], h)) := (ev_rc [3, 17, 35, 50, 87, 101] 120 _).trans rfl
set_option maxRecDepth 100000 in
set_option maxHeartbeats 400000 in
/-- IllLightModel.lulledOf(III)I -/
theorem E_X9_lulledOf_50 (h : PH) (x1 : Int32) (x2 : Int32) (x3 : Int32) (x4 : Int32) (x5 : Int32) (x6 : Int32) : pm_ev (225, 50, [vr 8 0, vi x1, vi x2, vi x3, vi x4, vi x5, vi x6], [], h) = (pm_bI (pm_ev (188, 0, [vr 8 0, vi x1, vi 3], [], h)) fun r9 h8 => (if x6 < r9 then (if (x5 >>> (x6 &&& 31)) &&& 1 = 1 then (if pm_inb ((12 * x1) + (3 * x6)) 48 = true then pm_ev (225, 87, [vr 8 0, vi x1, vi x2, vi x3, vi x4, vi x5, vi x6], [], (pm_sI h8 36 0 (((12 * x1) + (3 * x6)).toNatClampNeg) 4)) else none) else pm_ev (225, 87, [vr 8 0, vi x1, vi x2, vi x3, vi x4, vi x5, vi x6], [], h8)) else (pm_bI (pm_ev (222, 0, [vr 8 0, vi x1, vi x2, vi x3, vi 0], [], h8)) fun r11 h10 => pm_ev (225, 101, [vr 8 0, vi x1, vi x2, vi x3, vi x4, vi x5, none], [vi r11], h10)))) := (ev_rc [3, 17, 35, 50, 87, 101] 120 _).trans rfl
set_option maxRecDepth 100000 in
set_option maxHeartbeats 400000 in
/-- IllLightModel.lulledOf(III)I -/
theorem E_X9_lulledOf_87 (h : PH) (x1 : Int32) (x2 : Int32) (x3 : Int32) (x4 : Int32) (x5 : Int32) (x6 : Int32) : pm_ev (225, 87, [vr 8 0, vi x1, vi x2, vi x3, vi x4, vi x5, vi x6], [], h) = pm_ev (225, 50, [vr 8 0, vi x1, vi x2, vi x3, vi x4, vi x5, vi (x6 + 1)], [], h) := (ev_rc [3, 17, 35, 50, 87, 101] 120 _).trans rfl
set_option maxRecDepth 100000 in
set_option maxHeartbeats 400000 in
/-- IllLightModel.lulledOf(III)I -/
theorem E_X9_lulledOf_101 (h : PH) (x1 : Int32) (x2 : Int32) (x3 : Int32) (x4 : Int32) (x5 : Int32) (s0 : Int32) : pm_ev (225, 101, [vr 8 0, vi x1, vi x2, vi x3, vi x4, vi x5, none], [vi s0], h) = (if s0 = 0 then pm_ev (225, 17, [vr 8 0, vi x1, vi x2, vi x3, vi x4, vi (x5 + 1), none], [], h) else some (some (vi x5), h)) := (ev_rc [3, 17, 35, 50, 87, 101] 120 _).trans rfl
set_option maxRecDepth 100000 in
set_option maxHeartbeats 400000 in
/-- IllLightModel.illOf(III)I -/
theorem E_X9_illOf (h : PH) (a : Int32) (b : Int32) (c : Int32) : pm_ev (226, 0, [vr 8 0, vi a, vi b, vi c, none], [], h) = (pm_bI (pm_ev (188, 0, [vr 8 0, vi a, vi 3], [], h)) fun r2 h1 => (if r2 = 0 then some (some (vi (-1)), h1) else (if pm_inb (12 * a) 48 = true then pm_ev (226, 21, [vr 8 0, vi a, vi b, vi c, none], [], (pm_sI h1 36 0 ((12 * a).toNatClampNeg) 0)) else none))) := (ev_rc [21, 24, 44] 120 _).trans rfl
set_option maxRecDepth 100000 in
set_option maxHeartbeats 400000 in
/-- IllLightModel.illOf(III)I -/
theorem E_X9_illOf_21 (h : PH) (x1 : Int32) (x2 : Int32) (x3 : Int32) : pm_ev (226, 21, [vr 8 0, vi x1, vi x2, vi x3, none], [], h) = pm_ev (226, 24, [vr 8 0, vi x1, vi x2, vi x3, vi 0], [], h) := (ev_rc [21, 24, 44] 120 _).trans rfl
set_option maxRecDepth 100000 in
set_option maxHeartbeats 400000 in
/-- IllLightModel.illOf(III)I -/
theorem E_X9_illOf_24 (h : PH) (x1 : Int32) (x2 : Int32) (x3 : Int32) (x4 : Int32) : pm_ev (226, 24, [vr 8 0, vi x1, vi x2, vi x3, vi x4], [], h) = (if (9 : Int32) < x4 then some (some (vi (-1)), h) else (if pm_inb ((12 * x1) + 1) 48 = true then pm_ev (226, 44, [vr 8 0, vi x1, vi x2, vi x3, vi x4], [], (pm_sI h 36 0 (((12 * x1) + 1).toNatClampNeg) x4)) else none)) := (ev_rc [21, 24, 44] 120 _).trans rfl
set_option maxRecDepth 100000 in
set_option maxHeartbeats 400000 in
/-- IllLightModel.illOf(III)I -/
theorem E_X9_illOf_44 (h : PH) (x1 : Int32) (x2 : Int32) (x3 : Int32) (x4 : Int32) : pm_ev (226, 44, [vr 8 0, vi x1, vi x2, vi x3, vi x4], [], h) = (pm_bI (pm_ev (222, 0, [vr 8 0, vi x1, vi x2, vi x3, vi 0], [], h)) fun r4 h3 => (if r4 = 0 then pm_ev (226, 24, [vr 8 0, vi x1, vi x2, vi x3, vi (x4 + 1)], [], h3) else some (some (vi x4), h3))) := (ev_rc [21, 24, 44] 120 _).trans rfl
set_option maxRecDepth 100000 in
set_option maxHeartbeats 400000 in
/-- IllLightModel.thrownOf(III)I -/
theorem E_X9_thrownOf (h : PH) (a : Int32) (b : Int32) (c : Int32) : pm_ev (227, 0, [vr 8 0, vi a, vi b, vi c, none, none], [], h) = (if pm_inb a 4 = true then pm_ev (227, 6, [vr 8 0, vi a, vi b, vi c, none, none], [vi (h.1 37 0 a.toNatClampNeg)], h) else none) := (ev_rc [6, 11, 29] 120 _).trans rfl
set_option maxRecDepth 100000 in
set_option maxHeartbeats 400000 in
/-- IllLightModel.thrownOf(III)I -/
theorem E_X9_thrownOf_6 (h : PH) (x1 : Int32) (x2 : Int32) (x3 : Int32) (s0 : Int32) : pm_ev (227, 6, [vr 8 0, vi x1, vi x2, vi x3, none, none], [vi s0], h) = pm_ev (227, 11, [vr 8 0, vi x1, vi x2, vi x3, vi s0, vi 0], [], h) := (ev_rc [6, 11, 29] 120 _).trans rfl
set_option maxRecDepth 100000 in
set_option maxHeartbeats 400000 in
/-- IllLightModel.thrownOf(III)I -/
theorem E_X9_thrownOf_11 (h : PH) (x1 : Int32) (x2 : Int32) (x3 : Int32) (x4 : Int32) (x5 : Int32) : pm_ev (227, 11, [vr 8 0, vi x1, vi x2, vi x3, vi x4, vi x5], [], h) = (if x4 < x5 then some (some (vi (-1)), h) else (if pm_inb x1 4 = true then pm_ev (227, 29, [vr 8 0, vi x1, vi x2, vi x3, vi x4, vi x5], [], (pm_sI h 37 0 x1.toNatClampNeg (x4 - x5))) else none)) := (ev_rc [6, 11, 29] 120 _).trans rfl
set_option maxRecDepth 100000 in
set_option maxHeartbeats 400000 in
/-- IllLightModel.thrownOf(III)I -/
theorem E_X9_thrownOf_29 (h : PH) (x1 : Int32) (x2 : Int32) (x3 : Int32) (x4 : Int32) (x5 : Int32) : pm_ev (227, 29, [vr 8 0, vi x1, vi x2, vi x3, vi x4, vi x5], [], h) = (pm_bI (pm_ev (222, 0, [vr 8 0, vi x1, vi x2, vi x3, vi 0], [], h)) fun r2 h1 => (if r2 = 0 then pm_ev (227, 11, [vr 8 0, vi x1, vi x2, vi x3, vi x4, vi (x5 + 1)], [], h1) else some (some (vi x5), h1))) := (ev_rc [6, 11, 29] 120 _).trans rfl
set_option maxRecDepth 100000 in
set_option maxHeartbeats 400000 in
/-- IllLightModel.leaveOf(III)I -/
theorem E_X9_leaveOf (h : PH) (a : Int32) (b : Int32) (c : Int32) : pm_ev (228, 0, [vr 8 0, vi a, vi b, vi c, none], [], h) = pm_ev (228, 3, [vr 8 0, vi a, vi b, vi c, vi 0], [], h) := (ev_rc [3] 120 _).trans rfl
set_option maxRecDepth 100000 in
set_option maxHeartbeats 400000 in
/-- IllLightModel.leaveOf(III)I -/
theorem E_X9_leaveOf_3 (h : PH) (x1 : Int32) (x2 : Int32) (x3 : Int32) (x4 : Int32) : pm_ev (228, 3, [vr 8 0, vi x1, vi x2, vi x3, vi x4], [], h) = (if x4 < 24 then (pm_bI (pm_ev (222, 0, [vr 8 0, vi x1, vi x2, vi x3, vi x4], [], h)) fun r2 h1 => (if r2 = 0 then pm_ev (228, 3, [vr 8 0, vi x1, vi x2, vi x3, vi (x4 + 1)], [], h1) else some (some (vi x4), h1))) else some (some (vi (-1)), h)) := (ev_rc [3] 120 _).trans rfl
set_option maxRecDepth 100000 in
set_option maxHeartbeats 400000 in
/-- IllLightModel.helps(IIIII)I -/
theorem E_X9_helps (h : PH) (a : Int32) (b : Int32) (c : Int32) (d : Int32) (e : Int32) : pm_ev (229, 0, [vr 8 0, vi a, vi b, vi c, vi d, vi e], [], h) = (pm_bI (pm_ev (185, 0, [vr 8 0, vi a], [], h)) fun r2 h1 => (if r2 = 0 then some (some (vi (-1)), h1) else (pm_bI (pm_ev (187, 0, [vr 8 0, vi b], [], h1)) fun r4 h3 => pm_ev (229, 13, [vr 8 0, vi a, vi b, vi c, vi d, vi e], [vi r4], h3)))) := (ev_rc [13, 32] 120 _).trans rfl
set_option maxRecDepth 100000 in
set_option maxHeartbeats 400000 in
/-- IllLightModel.helps(IIIII)I -/
theorem E_X9_helps_13 (h : PH) (x1 : Int32) (x2 : Int32) (x3 : Int32) (x4 : Int32) (x5 : Int32) (s0 : Int32) : pm_ev (229, 13, [vr 8 0, vi x1, vi x2, vi x3, vi x4, vi x5], [vi s0], h) = (if s0 = 0 then some (some (vi (-1)), h) else (pm_bI (pm_ev (186, 0, [vr 8 0, vi x3], [], h)) fun r6 h5 => (if r6 = 0 then some (some (vi (-1)), h5) else (pm_bI (pm_ev (153, 0, [vi x4, vi 0, vi 60], [], h5)) fun r8 h7 => pm_ev (229, 32, [vr 8 0, vi x1, vi x2, vi x3, vi x4, vi x5], [vi r8], h7))))) := (ev_rc [13, 32] 120 _).trans rfl
set_option maxRecDepth 100000 in
set_option maxHeartbeats 400000 in
/-- IllLightModel.helps(IIIII)I -/
theorem E_X9_helps_32 (h : PH) (x1 : Int32) (x2 : Int32) (x3 : Int32) (x4 : Int32) (x5 : Int32) (s0 : Int32) : pm_ev (229, 32, [vr 8 0, vi x1, vi x2, vi x3, vi x4, vi x5], [vi s0], h) = (if s0 = 0 then some (some (vi (-1)), h) else (pm_bV (pm_ev (191, 0, [vr 8 0, none], [], h)) fun h9 => (if x5 = 0 then (pm_bI (pm_ev (224, 0, [vr 8 0, vi x2, vi x3, vi x4, none, none], [], h9)) fun r19 h18 => some (some (vi r19), h18)) else (if x5 = 1 then (pm_bI (pm_ev (226, 0, [vr 8 0, vi x2, vi x3, vi x4, none], [], h9)) fun r17 h16 => some (some (vi r17), h16)) else (if x5 = 2 then (pm_bI (pm_ev (227, 0, [vr 8 0, vi x2, vi x3, vi x4, none, none], [], h9)) fun r15 h14 => some (some (vi r15), h14)) else (if x5 = 3 then (pm_bI (pm_ev (228, 0, [vr 8 0, vi x2, vi x3, vi x4, none], [], h9)) fun r13 h12 => some (some (vi r13), h12)) else (if x5 = 4 then (pm_bI (pm_ev (225, 0, [vr 8 0, vi x2, vi x3, vi x4, none, none, none], [], h9)) fun r11 h10 => some (some (vi r11), h10)) else some (some (vi (-1)), h9)))))))) := (ev_rc [13, 32] 120 _).trans rfl
set_option maxRecDepth 100000 in
set_option maxHeartbeats 400000 in
/-- IllLightModel.leaves(IIII)I -/
theorem E_X9_leaves (h : PH) (a : Int32) (b : Int32) (c : Int32) (d : Int32) : pm_ev (250, 0, [vr 8 0, vi a, vi b, vi c, vi d, none, none], [], h) = (pm_bI (pm_ev (185, 0, [vr 8 0, vi a], [], h)) fun r2 h1 => (if r2 = 0 then some (some (vi (-1)), h1) else (pm_bI (pm_ev (187, 0, [vr 8 0, vi b], [], h1)) fun r4 h3 => pm_ev (250, 13, [vr 8 0, vi a, vi b, vi c, vi d, none, none], [vi r4], h3)))) := (ev_rc [13, 32, 47] 120 _).trans rfl
set_option maxRecDepth 100000 in
set_option maxHeartbeats 400000 in
/-- IllLightModel.leaves(IIII)I -/
theorem E_X9_leaves_13 (h : PH) (x1 : Int32) (x2 : Int32) (x3 : Int32) (x4 : Int32) (s0 : Int32) : pm_ev (250, 13, [vr 8 0, vi x1, vi x2, vi x3, vi x4, none, none], [vi s0], h) = (if s0 = 0 then some (some (vi (-1)), h) else (pm_bI (pm_ev (186, 0, [vr 8 0, vi x3], [], h)) fun r6 h5 => (if r6 = 0 then some (some (vi (-1)), h5) else (pm_bI (pm_ev (153, 0, [vi x4, vi 0, vi 60], [], h5)) fun r8 h7 => pm_ev (250, 32, [vr 8 0, vi x1, vi x2, vi x3, vi x4, none, none], [vi r8], h7))))) := (ev_rc [13, 32, 47] 120 _).trans rfl
set_option maxRecDepth 100000 in
set_option maxHeartbeats 400000 in
/-- IllLightModel.leaves(IIII)I -/
theorem E_X9_leaves_32 (h : PH) (x1 : Int32) (x2 : Int32) (x3 : Int32) (x4 : Int32) (s0 : Int32) : pm_ev (250, 32, [vr 8 0, vi x1, vi x2, vi x3, vi x4, none, none], [vi s0], h) = (if s0 = 0 then some (some (vi (-1)), h) else (pm_bV (pm_ev (191, 0, [vr 8 0, none], [], h)) fun h9 => pm_ev (250, 47, [vr 8 0, none, vi x2, vi x3, vi x4, vi 0, vi 0], [], h9))) := (ev_rc [13, 32, 47] 120 _).trans rfl
set_option maxRecDepth 100000 in
set_option maxHeartbeats 400000 in
/-- IllLightModel.leaves(IIII)I -/
theorem E_X9_leaves_47 (h : PH) (x2 : Int32) (x3 : Int32) (x4 : Int32) (x5 : Int32) (x6 : Int32) : pm_ev (250, 47, [vr 8 0, none, vi x2, vi x3, vi x4, vi x5, vi x6], [], h) = (if x6 < 24 then (pm_bI (pm_ev (222, 0, [vr 8 0, vi x2, vi x3, vi x4, vi x6], [], h)) fun r11 h10 => (if r11 = 0 then pm_ev (250, 47, [vr 8 0, none, vi x2, vi x3, vi x4, vi (x5 ||| 0), vi (x6 + 1)], [], h10) else pm_ev (250, 47, [vr 8 0, none, vi x2, vi x3, vi x4, vi (x5 ||| ((1 : Int32) <<< (x6 &&& 31))), vi (x6 + 1)], [], h10))) else some (some (vi x5), h)) := (ev_rc [13, 32, 47] 120 _).trans rfl
set_option maxRecDepth 100000 in
set_option maxHeartbeats 400000 in
/-- IllLightModel.passes(III)V -/
theorem E_X9_passes (h : PH) (a : Int32) (b : Int32) (c : Int32) : pm_ev (251, 0, [vr 8 0, vi a, vi b, vi c, none, none, none], [], h) = pm_ev (251, 3, [vr 8 0, vi a, vi b, vi c, vi 0, none, none], [], h) := (ev_rc [3, 23, 24, 37, 38, 47, 64, 78, 102, 112, 121, 134, 144, 153, 168, 191, 211, 220, 238, 254, 263] 120 _).trans rfl
set_option maxRecDepth 100000 in
set_option maxHeartbeats 400000 in
/-- IllLightModel.passes(III)V -/
theorem E_X9_passes_3 (h : PH) (x1 : Int32) (x2 : Int32) (x3 : Int32) (x4 : Int32) : pm_ev (251, 3, [vr 8 0, vi x1, vi x2, vi x3, vi x4, none, none], [], h) = (if x4 < 64 then (if pm_inb x4 64 = true then pm_ev (251, 23, [vr 8 0, vi x1, vi x2, vi x3, vi x4, none, none], [vi (h.1 40 0 x4.toNatClampNeg), vi x4, vr 41 0], h) else none) else pm_ev (251, 47, [vr 8 0, vi x1, vi x2, vi x3, vi 0, none, none], [], h)) := (ev_rc [3, 23, 24, 37, 38, 47, 64, 78, 102, 112, 121, 134, 144, 153, 168, 191, 211, 220, 238, 254, 263] 120 _).trans rfl
set_option maxRecDepth 100000 in
set_option maxHeartbeats 400000 in
/-- IllLightModel.passes(III)V -/
theorem E_X9_passes_23 (h : PH) (x1 : Int32) (x2 : Int32) (x3 : Int32) (x4 : Int32) (s0 : Int32) (s1 : Int32) (s2 : Nat) : pm_ev (251, 23, [vr 8 0, vi x1, vi x2, vi x3, vi x4, none, none], [vi s0, vi s1, vr 41 s2], h) = (if pm_inb s1 64 = true then pm_ev (251, 24, [vr 8 0, vi x1, vi x2, vi x3, vi x4, none, none], [], (pm_sI h 41 s2 s1.toNatClampNeg (s0 &&& 1))) else none) := (ev_rc [3, 23, 24, 37, 38, 47, 64, 78, 102, 112, 121, 134, 144, 153, 168, 191, 211, 220, 238, 254, 263] 120 _).trans rfl
set_option maxRecDepth 100000 in
set_option maxHeartbeats 400000 in
/-- IllLightModel.passes(III)V -/
theorem E_X9_passes_47 (h : PH) (x1 : Int32) (x2 : Int32) (x3 : Int32) (x4 : Int32) : pm_ev (251, 47, [vr 8 0, vi x1, vi x2, vi x3, vi x4, none, none], [], h) = (if x4 < (h.1 8 0 14) * (h.1 8 0 15) then pm_ev (251, 64, [vr 8 0, vi x1, vi x2, vi x3, vi x4, vi 0, none], [], h) else pm_ev (251, 168, [vr 8 0, vi x1, vi x2, vi x3, vi 0, none, none], [], h)) := (ev_rc [3, 23, 24, 37, 38, 47, 64, 78, 102, 112, 121, 134, 144, 153, 168, 191, 211, 220, 238, 254, 263] 120 _).trans rfl
set_option maxRecDepth 100000 in
set_option maxHeartbeats 400000 in
/-- IllLightModel.passes(III)V -/
theorem E_X9_passes_24 (h : PH) (x1 : Int32) (x2 : Int32) (x3 : Int32) (x4 : Int32) : pm_ev (251, 24, [vr 8 0, vi x1, vi x2, vi x3, vi x4, none, none], [], h) = (if pm_inb x4 64 = true then pm_ev (251, 37, [vr 8 0, vi x1, vi x2, vi x3, vi x4, none, none], [vi (h.1 42 0 x4.toNatClampNeg), vi x4, vr 43 0], h) else none) := (ev_rc [3, 23, 24, 37, 38, 47, 64, 78, 102, 112, 121, 134, 144, 153, 168, 191, 211, 220, 238, 254, 263] 120 _).trans rfl
set_option maxRecDepth 100000 in
set_option maxHeartbeats 400000 in
/-- IllLightModel.passes(III)V -/
theorem E_X9_passes_64 (h : PH) (x1 : Int32) (x2 : Int32) (x3 : Int32) (x4 : Int32) (x5 : Int32) : pm_ev (251, 64, [vr 8 0, vi x1, vi x2, vi x3, vi x4, vi x5, none], [], h) = (if x5 < 4 then (pm_bI (pm_ev (202, 0, [vr 8 0, vi x4, vi x5, none, none], [], h)) fun r2 h1 => pm_ev (251, 78, [vr 8 0, vi x1, vi x2, vi x3, vi x4, vi x5, none], [vi r2], h1)) else pm_ev (251, 47, [vr 8 0, vi x1, vi x2, vi x3, vi (x4 + 1), none, none], [], h)) := (ev_rc [3, 23, 24, 37, 38, 47, 64, 78, 102, 112, 121, 134, 144, 153, 168, 191, 211, 220, 238, 254, 263] 120 _).trans rfl
set_option maxRecDepth 100000 in
set_option maxHeartbeats 400000 in
/-- IllLightModel.passes(III)V -/
theorem E_X9_passes_168 (h : PH) (x1 : Int32) (x2 : Int32) (x3 : Int32) (x4 : Int32) : pm_ev (251, 168, [vr 8 0, vi x1, vi x2, vi x3, vi x4, none, none], [], h) = (if x4 < (h.1 8 0 14) * (h.1 8 0 15) then (pm_bI (pm_ev (218, 0, [vr 8 0, vi x1, vi x4, vi x3, vi 0, none], [], h)) fun r4 h3 => pm_ev (251, 191, [vr 8 0, vi x1, vi x2, vi x3, vi x4, none, none], [vi r4], h3)) else some (none, h)) := (ev_rc [3, 23, 24, 37, 38, 47, 64, 78, 102, 112, 121, 134, 144, 153, 168, 191, 211, 220, 238, 254, 263] 120 _).trans rfl
set_option maxRecDepth 100000 in
set_option maxHeartbeats 400000 in
/-- IllLightModel.passes(III)V -/
theorem E_X9_passes_37 (h : PH) (x1 : Int32) (x2 : Int32) (x3 : Int32) (x4 : Int32) (s0 : Int32) (s1 : Int32) (s2 : Nat) : pm_ev (251, 37, [vr 8 0, vi x1, vi x2, vi x3, vi x4, none, none], [vi s0, vi s1, vr 43 s2], h) = (if pm_inb s1 64 = true then pm_ev (251, 38, [vr 8 0, vi x1, vi x2, vi x3, vi x4, none, none], [], (pm_sI h 43 s2 s1.toNatClampNeg (s0 &&& 1))) else none) := (ev_rc [3, 23, 24, 37, 38, 47, 64, 78, 102, 112, 121, 134, 144, 153, 168, 191, 211, 220, 238, 254, 263] 120 _).trans rfl
set_option maxRecDepth 100000 in
set_option maxHeartbeats 400000 in
/-- IllLightModel.passes(III)V -/
theorem E_X9_passes_78 (h : PH) (x1 : Int32) (x2 : Int32) (x3 : Int32) (x4 : Int32) (x5 : Int32) (s0 : Int32) : pm_ev (251, 78, [vr 8 0, vi x1, vi x2, vi x3, vi x4, vi x5, none], [vi s0], h) = (if s0 = (-1) then pm_ev (251, 153, [vr 8 0, vi x1, vi x2, vi x3, vi x4, vi x5, none], [], h) else (if pm_inb s0 64 = true then pm_ev (251, 102, [vr 8 0, vi x1, vi x2, vi x3, vi x4, vi x5, vi s0], [vi (h.1 41 0 s0.toNatClampNeg), vi s0, vr 41 0], h) else none)) := (ev_rc [3, 23, 24, 37, 38, 47, 64, 78, 102, 112, 121, 134, 144, 153, 168, 191, 211, 220, 238, 254, 263] 120 _).trans rfl
set_option maxRecDepth 100000 in
set_option maxHeartbeats 400000 in
/-- IllLightModel.passes(III)V -/
theorem E_X9_passes_191 (h : PH) (x1 : Int32) (x2 : Int32) (x3 : Int32) (x4 : Int32) (s0 : Int32) : pm_ev (251, 191, [vr 8 0, vi x1, vi x2, vi x3, vi x4, none, none], [vi s0], h) = (if s0 = 0 then (if pm_inb x4 64 = true then pm_ev (251, 220, [vr 8 0, vi x1, vi x2, vi x3, vi x4, vi s0, none], [], (pm_sI h 40 0 x4.toNatClampNeg 0)) else none) else (if pm_inb x4 64 = true then pm_ev (251, 211, [vr 8 0, vi x1, vi x2, vi x3, vi x4, vi s0, none], [vi (h.1 41 0 x4.toNatClampNeg), vi x4, vr 40 0], h) else none)) := (ev_rc [3, 23, 24, 37, 38, 47, 64, 78, 102, 112, 121, 134, 144, 153, 168, 191, 211, 220, 238, 254, 263] 120 _).trans rfl
set_option maxRecDepth 100000 in
set_option maxHeartbeats 400000 in
/-- IllLightModel.passes(III)V -/
theorem E_X9_passes_38 (h : PH) (x1 : Int32) (x2 : Int32) (x3 : Int32) (x4 : Int32) : pm_ev (251, 38, [vr 8 0, vi x1, vi x2, vi x3, vi x4, none, none], [], h) = pm_ev (251, 3, [vr 8 0, vi x1, vi x2, vi x3, vi (x4 + 1), none, none], [], h) := (ev_rc [3, 23, 24, 37, 38, 47, 64, 78, 102, 112, 121, 134, 144, 153, 168, 191, 211, 220, 238, 254, 263] 120 _).trans rfl
set_option maxRecDepth 100000 in
set_option maxHeartbeats 400000 in
/-- IllLightModel.passes(III)V -/
theorem E_X9_passes_153 (h : PH) (x1 : Int32) (x2 : Int32) (x3 : Int32) (x4 : Int32) (x5 : Int32) : pm_ev (251, 153, [vr 8 0, vi x1, vi x2, vi x3, vi x4, vi x5, none], [], h) = pm_ev (251, 64, [vr 8 0, vi x1, vi x2, vi x3, vi x4, vi (x5 + 1), none], [], h) := (ev_rc [3, 23, 24, 37, 38, 47, 64, 78, 102, 112, 121, 134, 144, 153, 168, 191, 211, 220, 238, 254, 263] 120 _).trans rfl
set_option maxRecDepth 100000 in
set_option maxHeartbeats 400000 in
/-- IllLightModel.passes(III)V -/
theorem E_X9_passes_102 (h : PH) (x1 : Int32) (x2 : Int32) (x3 : Int32) (x4 : Int32) (x5 : Int32) (x6 : Int32) (s0 : Int32) (s1 : Int32) (s2 : Nat) : pm_ev (251, 102, [vr 8 0, vi x1, vi x2, vi x3, vi x4, vi x5, vi x6], [vi s0, vi s1, vr 41 s2], h) = (if s0 = 0 then (if pm_inb x4 64 = true then pm_ev (251, 112, [vr 8 0, vi x1, vi x2, vi x3, vi x4, vi x5, vi x6], [vi (h.1 40 0 x4.toNatClampNeg), vi s1, vr 41 s2], h) else none) else (if pm_inb s1 64 = true then pm_ev (251, 121, [vr 8 0, vi x1, vi x2, vi x3, vi x4, vi x5, vi x6], [], (pm_sI h 41 s2 s1.toNatClampNeg 1)) else none)) := (ev_rc [3, 23, 24, 37, 38, 47, 64, 78, 102, 112, 121, 134, 144, 153, 168, 191, 211, 220, 238, 254, 263] 120 _).trans rfl
set_option maxRecDepth 100000 in
set_option maxHeartbeats 400000 in
/-- IllLightModel.passes(III)V -/
theorem E_X9_passes_220 (h : PH) (x1 : Int32) (x2 : Int32) (x3 : Int32) (x4 : Int32) (x5 : Int32) : pm_ev (251, 220, [vr 8 0, vi x1, vi x2, vi x3, vi x4, vi x5, none], [], h) = (if x5 = 0 then (if pm_inb x4 64 = true then pm_ev (251, 263, [vr 8 0, vi x1, vi x2, vi x3, vi x4, none, none], [], (pm_sI h 42 0 x4.toNatClampNeg 0)) else none) else (if pm_inb x4 64 = true then pm_ev (251, 238, [vr 8 0, vi x1, vi x2, vi x3, vi x4, vi x5, none], [vi (h.1 43 0 x4.toNatClampNeg), vi x4, vr 42 0], h) else none)) := (ev_rc [3, 23, 24, 37, 38, 47, 64, 78, 102, 112, 121, 134, 144, 153, 168, 191, 211, 220, 238, 254, 263] 120 _).trans rfl
set_option maxRecDepth 100000 in
set_option maxHeartbeats 400000 in
/-- IllLightModel.passes(III)V -/
theorem E_X9_passes_211 (h : PH) (x1 : Int32) (x2 : Int32) (x3 : Int32) (x4 : Int32) (x5 : Int32) (s0 : Int32) (s1 : Int32) (s2 : Nat) : pm_ev (251, 211, [vr 8 0, vi x1, vi x2, vi x3, vi x4, vi x5, none], [vi s0, vi s1, vr 40 s2], h) = (if s0 = 0 then (if pm_inb s1 64 = true then pm_ev (251, 220, [vr 8 0, vi x1, vi x2, vi x3, vi x4, vi x5, none], [], (pm_sI h 40 s2 s1.toNatClampNeg 0)) else none) else (if pm_inb s1 64 = true then pm_ev (251, 220, [vr 8 0, vi x1, vi x2, vi x3, vi x4, vi x5, none], [], (pm_sI h 40 s2 s1.toNatClampNeg 1)) else none)) := (ev_rc [3, 23, 24, 37, 38, 47, 64, 78, 102, 112, 121, 134, 144, 153, 168, 191, 211, 220, 238, 254, 263] 120 _).trans rfl
set_option maxRecDepth 100000 in
set_option maxHeartbeats 400000 in
/-- IllLightModel.passes(III)V -/
theorem E_X9_passes_112 (h : PH) (x1 : Int32) (x2 : Int32) (x3 : Int32) (x4 : Int32) (x5 : Int32) (x6 : Int32) (s0 : Int32) (s1 : Int32) (s2 : Nat) : pm_ev (251, 112, [vr 8 0, vi x1, vi x2, vi x3, vi x4, vi x5, vi x6], [vi s0, vi s1, vr 41 s2], h) = (if s0 = 0 then (if pm_inb s1 64 = true then pm_ev (251, 121, [vr 8 0, vi x1, vi x2, vi x3, vi x4, vi x5, vi x6], [], (pm_sI h 41 s2 s1.toNatClampNeg 0)) else none) else (if pm_inb s1 64 = true then pm_ev (251, 121, [vr 8 0, vi x1, vi x2, vi x3, vi x4, vi x5, vi x6], [], (pm_sI h 41 s2 s1.toNatClampNeg 1)) else none)) := (ev_rc [3, 23, 24, 37, 38, 47, 64, 78, 102, 112, 121, 134, 144, 153, 168, 191, 211, 220, 238, 254, 263] 120 _).trans rfl
set_option maxRecDepth 100000 in
set_option maxHeartbeats 400000 in
/-- IllLightModel.passes(III)V -/
theorem E_X9_passes_121 (h : PH) (x1 : Int32) (x2 : Int32) (x3 : Int32) (x4 : Int32) (x5 : Int32) (x6 : Int32) : pm_ev (251, 121, [vr 8 0, vi x1, vi x2, vi x3, vi x4, vi x5, vi x6], [], h) = (if pm_inb x6 64 = true then pm_ev (251, 134, [vr 8 0, vi x1, vi x2, vi x3, vi x4, vi x5, vi x6], [vi (h.1 43 0 x6.toNatClampNeg), vi x6, vr 43 0], h) else none) := (ev_rc [3, 23, 24, 37, 38, 47, 64, 78, 102, 112, 121, 134, 144, 153, 168, 191, 211, 220, 238, 254, 263] 120 _).trans rfl
set_option maxRecDepth 100000 in
set_option maxHeartbeats 400000 in
/-- IllLightModel.passes(III)V -/
theorem E_X9_passes_263 (h : PH) (x1 : Int32) (x2 : Int32) (x3 : Int32) (x4 : Int32) : pm_ev (251, 263, [vr 8 0, vi x1, vi x2, vi x3, vi x4, none, none], [], h) = pm_ev (251, 168, [vr 8 0, vi x1, vi x2, vi x3, vi (x4 + 1), none, none], [], h) := (ev_rc [3, 23, 24, 37, 38, 47, 64, 78, 102, 112, 121, 134, 144, 153, 168, 191, 211, 220, 238, 254, 263] 120 _).trans rfl
set_option maxRecDepth 100000 in
set_option maxHeartbeats 400000 in
/-- IllLightModel.passes(III)V -/
theorem E_X9_passes_238 (h : PH) (x1 : Int32) (x2 : Int32) (x3 : Int32) (x4 : Int32) (x5 : Int32) (s0 : Int32) (s1 : Int32) (s2 : Nat) : pm_ev (251, 238, [vr 8 0, vi x1, vi x2, vi x3, vi x4, vi x5, none], [vi s0, vi s1, vr 42 s2], h) = (if s0 = 0 then (if x4 = x2 then (if pm_inb x4 64 = true then pm_ev (251, 254, [vr 8 0, vi x1, vi x2, vi x3, vi x4, vi x5, none], [vi (h.1 41 0 x4.toNatClampNeg), vi s1, vr 42 s2], h) else none) else (if pm_inb s1 64 = true then pm_ev (251, 263, [vr 8 0, vi x1, vi x2, vi x3, vi x4, none, none], [], (pm_sI h 42 s2 s1.toNatClampNeg 0)) else none)) else (if pm_inb s1 64 = true then pm_ev (251, 263, [vr 8 0, vi x1, vi x2, vi x3, vi x4, none, none], [], (pm_sI h 42 s2 s1.toNatClampNeg 1)) else none)) := (ev_rc [3, 23, 24, 37, 38, 47, 64, 78, 102, 112, 121, 134, 144, 153, 168, 191, 211, 220, 238, 254, 263] 120 _).trans rfl
set_option maxRecDepth 100000 in
set_option maxHeartbeats 400000 in
/-- IllLightModel.passes(III)V -/
theorem E_X9_passes_134 (h : PH) (x1 : Int32) (x2 : Int32) (x3 : Int32) (x4 : Int32) (x5 : Int32) (x6 : Int32) (s0 : Int32) (s1 : Int32) (s2 : Nat) : pm_ev (251, 134, [vr 8 0, vi x1, vi x2, vi x3, vi x4, vi x5, vi x6], [vi s0, vi s1, vr 43 s2], h) = (if s0 = 0 then (if pm_inb x4 64 = true then pm_ev (251, 144, [vr 8 0, vi x1, vi x2, vi x3, vi x4, vi x5, vi x6], [vi (h.1 42 0 x4.toNatClampNeg), vi s1, vr 43 s2], h) else none) else (if pm_inb s1 64 = true then pm_ev (251, 153, [vr 8 0, vi x1, vi x2, vi x3, vi x4, vi x5, none], [], (pm_sI h 43 s2 s1.toNatClampNeg 1)) else none)) := (ev_rc [3, 23, 24, 37, 38, 47, 64, 78, 102, 112, 121, 134, 144, 153, 168, 191, 211, 220, 238, 254, 263] 120 _).trans rfl
set_option maxRecDepth 100000 in
set_option maxHeartbeats 400000 in
/-- IllLightModel.passes(III)V -/
theorem E_X9_passes_254 (h : PH) (x1 : Int32) (x2 : Int32) (x3 : Int32) (x4 : Int32) (x5 : Int32) (s0 : Int32) (s1 : Int32) (s2 : Nat) : pm_ev (251, 254, [vr 8 0, vi x1, vi x2, vi x3, vi x4, vi x5, none], [vi s0, vi s1, vr 42 s2], h) = (if s0 = 0 then (if pm_inb s1 64 = true then pm_ev (251, 263, [vr 8 0, vi x1, vi x2, vi x3, vi x4, none, none], [], (pm_sI h 42 s2 s1.toNatClampNeg 0)) else none) else (if pm_inb s1 64 = true then pm_ev (251, 263, [vr 8 0, vi x1, vi x2, vi x3, vi x4, none, none], [], (pm_sI h 42 s2 s1.toNatClampNeg 1)) else none)) := (ev_rc [3, 23, 24, 37, 38, 47, 64, 78, 102, 112, 121, 134, 144, 153, 168, 191, 211, 220, 238, 254, 263] 120 _).trans rfl
set_option maxRecDepth 100000 in
set_option maxHeartbeats 400000 in
/-- IllLightModel.passes(III)V -/
theorem E_X9_passes_144 (h : PH) (x1 : Int32) (x2 : Int32) (x3 : Int32) (x4 : Int32) (x5 : Int32) (x6 : Int32) (s0 : Int32) (s1 : Int32) (s2 : Nat) : pm_ev (251, 144, [vr 8 0, vi x1, vi x2, vi x3, vi x4, vi x5, vi x6], [vi s0, vi s1, vr 43 s2], h) = (if s0 = 0 then (if pm_inb s1 64 = true then pm_ev (251, 153, [vr 8 0, vi x1, vi x2, vi x3, vi x4, vi x5, none], [], (pm_sI h 43 s2 s1.toNatClampNeg 0)) else none) else (if pm_inb s1 64 = true then pm_ev (251, 153, [vr 8 0, vi x1, vi x2, vi x3, vi x4, vi x5, none], [], (pm_sI h 43 s2 s1.toNatClampNeg 1)) else none)) := (ev_rc [3, 23, 24, 37, 38, 47, 64, 78, 102, 112, 121, 134, 144, 153, 168, 191, 211, 220, 238, 254, 263] 120 _).trans rfl
set_option maxRecDepth 100000 in
set_option maxHeartbeats 400000 in
/-- IllLightModel.back(III)I -/
theorem E_X9_back (h : PH) (a : Int32) (b : Int32) (c : Int32) : pm_ev (252, 0, [vr 8 0, vi a, vi b, vi c, none, none], [], h) = (pm_bI (pm_ev (185, 0, [vr 8 0, vi a], [], h)) fun r2 h1 => (if r2 = 0 then some (some (vi (-1)), h1) else (pm_bI (pm_ev (187, 0, [vr 8 0, vi b], [], h1)) fun r4 h3 => pm_ev (252, 13, [vr 8 0, vi a, vi b, vi c, none, none], [vi r4], h3)))) := (ev_rc [13, 30, 41, 67, 92, 101, 115] 120 _).trans rfl
set_option maxRecDepth 100000 in
set_option maxHeartbeats 400000 in
/-- IllLightModel.back(III)I -/
theorem E_X9_back_13 (h : PH) (x1 : Int32) (x2 : Int32) (x3 : Int32) (s0 : Int32) : pm_ev (252, 13, [vr 8 0, vi x1, vi x2, vi x3, none, none], [vi s0], h) = (if s0 = 0 then some (some (vi (-1)), h) else (pm_bI (pm_ev (186, 0, [vr 8 0, vi x3], [], h)) fun r6 h5 => (if r6 = 0 then some (some (vi (-1)), h5) else (pm_bV (pm_ev (191, 0, [vr 8 0, none], [], h5)) fun h7 => pm_ev (252, 30, [vr 8 0, none, vi x2, vi x3, none, none], [], h7))))) := (ev_rc [13, 30, 41, 67, 92, 101, 115] 120 _).trans rfl
set_option maxRecDepth 100000 in
set_option maxHeartbeats 400000 in
/-- IllLightModel.back(III)I -/
theorem E_X9_back_30 (h : PH) (x2 : Int32) (x3 : Int32) : pm_ev (252, 30, [vr 8 0, none, vi x2, vi x3, none, none], [], h) = (pm_bI (pm_ev (188, 0, [vr 8 0, vi x2, vi 0], [], h)) fun r9 h8 => pm_ev (252, 41, [vr 8 0, none, vi x2, vi x3, vi r9, vi 0], [], h8)) := (ev_rc [13, 30, 41, 67, 92, 101, 115] 120 _).trans rfl
set_option maxRecDepth 100000 in
set_option maxHeartbeats 400000 in
/-- IllLightModel.back(III)I -/
theorem E_X9_back_41 (h : PH) (x2 : Int32) (x3 : Int32) (x4 : Int32) (x5 : Int32) : pm_ev (252, 41, [vr 8 0, none, vi x2, vi x3, vi x4, vi x5], [], h) = (if x5 < 64 then (if x5 = x4 then (if pm_inb x5 64 = true then pm_ev (252, 67, [vr 8 0, none, vi x2, vi x3, vi x4, vi x5], [], (pm_sI h 40 0 x5.toNatClampNeg 1)) else none) else (if pm_inb x5 64 = true then pm_ev (252, 67, [vr 8 0, none, vi x2, vi x3, vi x4, vi x5], [], (pm_sI h 40 0 x5.toNatClampNeg 0)) else none)) else pm_ev (252, 101, [vr 8 0, none, vi x2, vi x3, vi x4, vi 0], [], h)) := (ev_rc [13, 30, 41, 67, 92, 101, 115] 120 _).trans rfl
set_option maxRecDepth 100000 in
set_option maxHeartbeats 400000 in
/-- IllLightModel.back(III)I -/
theorem E_X9_back_67 (h : PH) (x2 : Int32) (x3 : Int32) (x4 : Int32) (x5 : Int32) : pm_ev (252, 67, [vr 8 0, none, vi x2, vi x3, vi x4, vi x5], [], h) = (if x5 = x4 then (if x5 = x3 then (if pm_inb x5 64 = true then pm_ev (252, 92, [vr 8 0, none, vi x2, vi x3, vi x4, vi x5], [], (pm_sI h 42 0 x5.toNatClampNeg 1)) else none) else (if pm_inb x5 64 = true then pm_ev (252, 92, [vr 8 0, none, vi x2, vi x3, vi x4, vi x5], [], (pm_sI h 42 0 x5.toNatClampNeg 0)) else none)) else (if pm_inb x5 64 = true then pm_ev (252, 92, [vr 8 0, none, vi x2, vi x3, vi x4, vi x5], [], (pm_sI h 42 0 x5.toNatClampNeg 0)) else none)) := (ev_rc [13, 30, 41, 67, 92, 101, 115] 120 _).trans rfl
set_option maxRecDepth 100000 in
set_option maxHeartbeats 400000 in
/-- IllLightModel.back(III)I -/
theorem E_X9_back_101 (h : PH) (x2 : Int32) (x3 : Int32) (x4 : Int32) (x5 : Int32) : pm_ev (252, 101, [vr 8 0, none, vi x2, vi x3, vi x4, vi x5], [], h) = (if (60 : Int32) < x5 then some (some (vi (-1)), h) else (if pm_inb x4 64 = true then pm_ev (252, 115, [vr 8 0, none, vi x2, vi x3, vi x4, vi x5], [vi (h.1 42 0 x4.toNatClampNeg)], h) else none)) := (ev_rc [13, 30, 41, 67, 92, 101, 115] 120 _).trans rfl
set_option maxRecDepth 100000 in
set_option maxHeartbeats 400000 in
/-- IllLightModel.back(III)I -/
theorem E_X9_back_92 (h : PH) (x2 : Int32) (x3 : Int32) (x4 : Int32) (x5 : Int32) : pm_ev (252, 92, [vr 8 0, none, vi x2, vi x3, vi x4, vi x5], [], h) = pm_ev (252, 41, [vr 8 0, none, vi x2, vi x3, vi x4, vi (x5 + 1)], [], h) := (ev_rc [13, 30, 41, 67, 92, 101, 115] 120 _).trans rfl
set_option maxRecDepth 100000 in
set_option maxHeartbeats 400000 in
/-- IllLightModel.back(III)I -/
theorem E_X9_back_115 (h : PH) (x2 : Int32) (x3 : Int32) (x4 : Int32) (x5 : Int32) (s0 : Int32) : pm_ev (252, 115, [vr 8 0, none, vi x2, vi x3, vi x4, vi x5], [vi s0], h) = (if s0 = 0 then (pm_bV (pm_ev (251, 0, [vr 8 0, vi x2, vi x3, vi x5, none, none, none], [], h)) fun h10 => pm_ev (252, 101, [vr 8 0, none, vi x2, vi x3, vi x4, vi (x5 + 1)], [], h10)) else some (some (vi x5), h)) := (ev_rc [13, 30, 41, 67, 92, 101, 115] 120 _).trans rfl
set_option maxRecDepth 100000 in
set_option maxHeartbeats 400000 in
/-- IllLightModel.seenBy(III)I -/
theorem E_X9_seenBy (h : PH) (a : Int32) (b : Int32) (c : Int32) : pm_ev (253, 0, [vr 8 0, vi a, vi b, vi c, none, none], [], h) = pm_ev (253, 6, [vr 8 0, vi a, vi b, vi c, vi 0, vi 0], [], h) := (ev_rc [6, 40] 120 _).trans rfl
set_option maxRecDepth 100000 in
set_option maxHeartbeats 400000 in
/-- IllLightModel.seenBy(III)I -/
theorem E_X9_seenBy_6 (h : PH) (x1 : Int32) (x2 : Int32) (x3 : Int32) (x4 : Int32) (x5 : Int32) : pm_ev (253, 6, [vr 8 0, vi x1, vi x2, vi x3, vi x4, vi x5], [], h) = (if x5 < (h.1 8 0 14) * (h.1 8 0 15) then (pm_bI (pm_ev (204, 0, [vr 8 0, vi x1, vi x5], [], h)) fun r2 h1 => (if x3 < r2 then (pm_bI (pm_ev (204, 0, [vr 8 0, vi x2, vi x5], [], h1)) fun r4 h3 => pm_ev (253, 40, [vr 8 0, vi x1, vi x2, vi x3, vi x4, vi x5], [vi r4, vi x4], h3)) else pm_ev (253, 6, [vr 8 0, vi x1, vi x2, vi x3, vi (x4 + 1), vi (x5 + 1)], [], h1))) else some (some (vi x4), h)) := (ev_rc [6, 40] 120 _).trans rfl
set_option maxRecDepth 100000 in
set_option maxHeartbeats 400000 in
/-- IllLightModel.seenBy(III)I -/
theorem E_X9_seenBy_40 (h : PH) (x1 : Int32) (x2 : Int32) (x3 : Int32) (x4 : Int32) (x5 : Int32) (s0 : Int32) (s1 : Int32) : pm_ev (253, 40, [vr 8 0, vi x1, vi x2, vi x3, vi x4, vi x5], [vi s0, vi s1], h) = (if x3 < s0 then pm_ev (253, 6, [vr 8 0, vi x1, vi x2, vi x3, vi (s1 + 0), vi (x5 + 1)], [], h) else pm_ev (253, 6, [vr 8 0, vi x1, vi x2, vi x3, vi (s1 + 1), vi (x5 + 1)], [], h)) := (ev_rc [6, 40] 120 _).trans rfl
set_option maxRecDepth 100000 in
set_option maxHeartbeats 400000 in
/-- IllLightModel.crossed(I)I -/
theorem E_X9_crossed (h : PH) (a : Int32) : pm_ev (254, 0, [vr 8 0, vi a, none, none, none, none, none], [], h) = pm_ev (254, 7, [vr 8 0, vi a, vi 0, vi (-1), vi 0, none, none], [], h) := (ev_rc [7, 27, 60] 120 _).trans rfl
set_option maxRecDepth 100000 in
set_option maxHeartbeats 400000 in
/-- IllLightModel.crossed(I)I -/
theorem E_X9_crossed_7 (h : PH) (x1 : Int32) (x2 : Int32) (x3 : Int32) (x4 : Int32) : pm_ev (254, 7, [vr 8 0, vi x1, vi x2, vi x3, vi x4, none, none], [], h) = (if x4 < (h.1 8 0 14) * (h.1 8 0 15) then pm_ev (254, 27, [vr 8 0, vi x1, vi x2, vi x3, vi x4, vi 0, vi 0], [], h) else some (some (vi x2), h)) := (ev_rc [7, 27, 60] 120 _).trans rfl
set_option maxRecDepth 100000 in
set_option maxHeartbeats 400000 in
/-- IllLightModel.crossed(I)I -/
theorem E_X9_crossed_27 (h : PH) (x1 : Int32) (x2 : Int32) (x3 : Int32) (x4 : Int32) (x5 : Int32) (x6 : Int32) : pm_ev (254, 27, [vr 8 0, vi x1, vi x2, vi x3, vi x4, vi x5, vi x6], [], h) = (if x6 < (h.1 8 0 14) * (h.1 8 0 15) then (pm_bI (pm_ev (211, 0, [vr 8 0, vi x6], [], h)) fun r2 h1 => (if r2 = 0 then pm_ev (254, 27, [vr 8 0, vi x1, vi x2, vi x3, vi x4, vi (x5 + 0), vi (x6 + 1)], [], h1) else (pm_bI (pm_ev (204, 0, [vr 8 0, vi x4, vi x6], [], h1)) fun r4 h3 => pm_ev (254, 60, [vr 8 0, vi x1, vi x2, vi x3, vi x4, vi x5, vi x6], [vi r4, vi x5], h3)))) else (if x3 < x5 then pm_ev (254, 7, [vr 8 0, vi x1, vi x4, vi x5, vi (x4 + 1), none, none], [], h) else pm_ev (254, 7, [vr 8 0, vi x1, vi x2, vi x3, vi (x4 + 1), none, none], [], h))) := (ev_rc [7, 27, 60] 120 _).trans rfl
set_option maxRecDepth 100000 in
set_option maxHeartbeats 400000 in
/-- IllLightModel.crossed(I)I -/
theorem E_X9_crossed_60 (h : PH) (x1 : Int32) (x2 : Int32) (x3 : Int32) (x4 : Int32) (x5 : Int32) (x6 : Int32) (s0 : Int32) (s1 : Int32) : pm_ev (254, 60, [vr 8 0, vi x1, vi x2, vi x3, vi x4, vi x5, vi x6], [vi s0, vi s1], h) = (if x1 < s0 then pm_ev (254, 27, [vr 8 0, vi x1, vi x2, vi x3, vi x4, vi (s1 + 0), vi (x6 + 1)], [], h) else pm_ev (254, 27, [vr 8 0, vi x1, vi x2, vi x3, vi x4, vi (s1 + 1), vi (x6 + 1)], [], h)) := (ev_rc [7, 27, 60] 120 _).trans rfl
set_option maxRecDepth 100000 in
set_option maxHeartbeats 400000 in
/-- IllLightModel.watch(III)I -/
theorem E_X9_watch (h : PH) (a : Int32) (b : Int32) (c : Int32) : pm_ev (255, 0, [vr 8 0, vi a, vi b, vi c, none, none, none, none, none, none], [], h) = (pm_bI (pm_ev (185, 0, [vr 8 0, vi a], [], h)) fun r2 h1 => (if r2 = 0 then some (some (vi (-1)), h1) else (pm_bI (pm_ev (153, 0, [vi b, vi 0, vi 7], [], h1)) fun r4 h3 => pm_ev (255, 15, [vr 8 0, vi a, vi b, vi c, none, none, none, none, none, none], [vi r4], h3)))) := (ev_rc [15, 52, 72] 120 _).trans rfl
set_option maxRecDepth 100000 in
set_option maxHeartbeats 400000 in
/-- IllLightModel.watch(III)I -/
theorem E_X9_watch_15 (h : PH) (x1 : Int32) (x2 : Int32) (x3 : Int32) (s0 : Int32) : pm_ev (255, 15, [vr 8 0, vi x1, vi x2, vi x3, none, none, none, none, none, none], [vi s0], h) = (if s0 = 0 then some (some (vi (-1)), h) else (pm_bI (pm_ev (153, 0, [vi x3, vi 0, vi 3], [], h)) fun r6 h5 => (if r6 = 0 then some (some (vi (-1)), h5) else (if x3 = 3 then (pm_bI (pm_ev (254, 0, [vr 8 0, vi x2, none, none, none, none, none], [], h5)) fun r8 h7 => some (some (vi r8), h7)) else pm_ev (255, 52, [vr 8 0, none, vi x2, vi x3, vi (-1), vi (-1), vi (-1), vi 0, none, none], [], h5))))) := (ev_rc [15, 52, 72] 120 _).trans rfl
set_option maxRecDepth 100000 in
set_option maxHeartbeats 400000 in
/-- IllLightModel.watch(III)I -/
theorem E_X9_watch_52 (h : PH) (x2 : Int32) (x3 : Int32) (x4 : Int32) (x5 : Int32) (x6 : Int32) (x7 : Int32) : pm_ev (255, 52, [vr 8 0, none, vi x2, vi x3, vi x4, vi x5, vi x6, vi x7, none, none], [], h) = (if x7 < (h.1 8 0 14) * (h.1 8 0 15) then pm_ev (255, 72, [vr 8 0, none, vi x2, vi x3, vi x4, vi x5, vi x6, vi x7, vi (x7 + 1), none], [], h) else (if x3 = 0 then some (some (vi x6), h) else (if x3 = 1 then some (some (vi x4), h) else some (some (vi x5), h)))) := (ev_rc [15, 52, 72] 120 _).trans rfl
set_option maxRecDepth 100000 in
set_option maxHeartbeats 400000 in
/-- IllLightModel.watch(III)I -/
theorem E_X9_watch_72 (h : PH) (x2 : Int32) (x3 : Int32) (x4 : Int32) (x5 : Int32) (x6 : Int32) (x7 : Int32) (x8 : Int32) : pm_ev (255, 72, [vr 8 0, none, vi x2, vi x3, vi x4, vi x5, vi x6, vi x7, vi x8, none], [], h) = (if x8 < (h.1 8 0 14) * (h.1 8 0 15) then (pm_bI (pm_ev (253, 0, [vr 8 0, vi x7, vi x8, vi x2, none, none], [], h)) fun r10 h9 => (if x6 < r10 then pm_ev (255, 72, [vr 8 0, none, vi x2, vi x3, vi x7, vi x8, vi r10, vi x7, vi (x8 + 1), none], [], h9) else pm_ev (255, 72, [vr 8 0, none, vi x2, vi x3, vi x4, vi x5, vi x6, vi x7, vi (x8 + 1), none], [], h9))) else pm_ev (255, 52, [vr 8 0, none, vi x2, vi x3, vi x4, vi x5, vi x6, vi (x7 + 1), none, none], [], h)) := (ev_rc [15, 52, 72] 120 _).trans rfl
set_option maxRecDepth 100000 in
set_option maxHeartbeats 400000 in
/-- IllLightModel.draws()V -/
theorem E_X9_draws (h : PH)  : pm_ev (262, 0, [vr 8 0, none, none, none], [], h) = (pm_bI (pm_ev (261, 0, [vr 8 0, vi (h.1 8 0 16)], [], h)) fun r2 h1 => (pm_bI (pm_ev (261, 0, [vr 8 0, vi 8], [], h1)) fun r4 h3 => pm_ev (262, 15, [vr 8 0, vi r2, none, none], [vi r4], h3))) := (ev_rc [15, 54] 120 _).trans rfl
set_option maxRecDepth 100000 in
set_option maxHeartbeats 400000 in
/-- IllLightModel.draws()V -/
theorem E_X9_draws_15 (h : PH) (x1 : Int32) (s0 : Int32) : pm_ev (262, 15, [vr 8 0, vi x1, none, none], [vi s0], h) = (if s0 < 4 then (pm_bI (pm_ev (213, 0, [vr 8 0, vi 0, vi x1, vi s0, vi (-1), none], [], h)) fun r6 h5 => some (none, h5)) else (if s0 = 4 then (pm_bI (pm_ev (261, 0, [vr 8 0, vi 4], [], h)) fun r8 h7 => (pm_bI (pm_ev (261, 0, [vr 8 0, vi 10], [], h7)) fun r10 h9 => pm_ev (262, 54, [vr 8 0, vi x1, vi s0, vi r8], [vi r10, vi r8, vi x1, vi 1, vr 8 0], h9))) else (if s0 = 5 then (pm_bI (pm_ev (213, 0, [vr 8 0, vi 2, vi x1, vi (-1), vi (-1), none], [], h)) fun r12 h11 => some (none, h11)) else (pm_bI (pm_ev (213, 0, [vr 8 0, vi 3, vi x1, vi (-1), vi (-1), none], [], h)) fun r14 h13 => some (none, h13))))) := (ev_rc [15, 54] 120 _).trans rfl
set_option maxRecDepth 100000 in
set_option maxHeartbeats 400000 in
/-- IllLightModel.draws()V -/
theorem E_X9_draws_54 (h : PH) (x1 : Int32) (x2 : Int32) (x3 : Int32) (s0 : Int32) (s1 : Int32) (s2 : Int32) (s3 : Int32) (s4 : Nat) : pm_ev (262, 54, [vr 8 0, vi x1, vi x2, vi x3], [vi s0, vi s1, vi s2, vi s3, vr 8 s4], h) = (pm_bI (pm_ev (213, 0, [vr 8 s4, vi s3, vi s2, vi s1, vi s0, none], [], h)) fun r16 h15 => some (none, h15)) := (ev_rc [15, 54] 120 _).trans rfl
