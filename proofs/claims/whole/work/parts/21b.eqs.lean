set_option maxRecDepth 100000 in
set_option maxHeartbeats 400000 in
/-- IllLight$Reader.read([III)V -/
theorem E_X4_read (h : PH) (a : Nat) (b : Int32) (c : Int32) : pm_ev (64, 0, [vr 4 0, vr 26 a, vi b, vi c, none], [], h) = (pm_bV (pm_ev (65, 0, [vr 4 0], [], h)) fun h1 => pm_ev (64, 7, [vr 4 0, vr 26 a, vi b, vi c, vi 0], [], h1)) := (ev_rc [7] 120 _).trans rfl
set_option maxRecDepth 100000 in
set_option maxHeartbeats 400000 in
/-- IllLight$Reader.read([III)V -/
theorem E_X4_read_7 (h : PH) (q1 : Nat) (x2 : Int32) (x3 : Int32) (x4 : Int32) : pm_ev (64, 7, [vr 4 0, vr 26 q1, vi x2, vi x3, vi x4], [], h) = (if (600 : Int32) < x4 then (if x3 = 0 then (pm_bV (pm_ev (83, 0, [vr 4 0, vi x2], [], h)) fun h2 => some (none, h2)) else some (none, h)) else (pm_bV (pm_ev (67, 0, [vr 4 0, vr 26 q1, vi x2], [], h)) fun h3 => (if h3.1 4 0 6 = 0 then (if x3 = 0 then (pm_bV (pm_ev (83, 0, [vr 4 0, vi x2], [], h3)) fun h4 => some (none, h4)) else some (none, h3)) else (pm_bI (pm_ev (70, 0, [vr 4 0, vr 26 q1, vi x2, vi x3, none, none], [], h3)) fun r6 h5 => (if r6 = 0 then some (none, (pm_sI (pm_sI h5 4 0 3 1) 4 0 4 (h5.1 4 0 7))) else pm_ev (64, 7, [vr 4 0, vr 26 q1, vi x2, vi x3, vi (x4 + 1)], [], h5)))))) := (ev_rc [7] 120 _).trans rfl
set_option maxRecDepth 100000 in
set_option maxHeartbeats 400000 in
/-- IllLight$Reader.begin()V -/
theorem E_X4_begin (h : PH)  : pm_ev (65, 0, [vr 4 0], [], h) = (pm_bV (pm_ev (0, 0, [vr 0 8], [], h)) fun h1 => (pm_bV (pm_ev (43, 0, [vr 2 8], [], (pm_sI h1 3 8 0 0))) fun h2 => some (none, (pm_sI (pm_sI (pm_sI (pm_sI (pm_sI (pm_sI h2 4 0 3 0) 4 0 4 (-1)) 4 0 8 0) 4 0 9 0) 4 0 10 0) 4 0 11 (-1))))) := (ev_rc [] 120 _).trans rfl
set_option maxRecDepth 100000 in
set_option maxHeartbeats 400000 in
/-- IllLight$Reader.note(II)V -/
theorem E_X4_note (h : PH) (a : Int32) (b : Int32) : pm_ev (66, 0, [vr 4 0, vi a, vi b], [], h) = (if h.1 4 0 3 = 0 then some (none, (pm_sI (pm_sI h 4 0 3 a) 4 0 4 b)) else some (none, h)) := (ev_rc [] 120 _).trans rfl
set_option maxRecDepth 100000 in
set_option maxHeartbeats 400000 in
/-- IllLight$Reader.advance([II)V -/
theorem E_X4_advance (h : PH) (a : Nat) (b : Int32) : pm_ev (67, 0, [vr 4 0, vr 26 a, vi b], [], h) = pm_ev (67, 8, [vr 4 0, vr 26 a, vi b], [], (pm_sI h 4 0 7 (h.1 4 0 8))) := (ev_rc [8, 87, 140, 198] 120 _).trans rfl
set_option maxRecDepth 100000 in
set_option maxHeartbeats 400000 in
/-- IllLight$Reader.advance([II)V -/
theorem E_X4_advance_8 (h : PH) (q1 : Nat) (x2 : Int32) : pm_ev (67, 8, [vr 4 0, vr 26 q1, vi x2], [], h) = (if h.1 4 0 7 < x2 then (if pm_inb (h.1 4 0 7) 600 = true then (if h.1 26 q1 ((h.1 4 0 7).toNatClampNeg) = 10 then pm_ev (67, 8, [vr 4 0, vr 26 q1, vi x2], [], (pm_sI h 4 0 7 ((h.1 4 0 7) + 1))) else (if pm_inb (h.1 4 0 7) 600 = true then (if h.1 26 q1 ((h.1 4 0 7).toNatClampNeg) = 32 then pm_ev (67, 8, [vr 4 0, vr 26 q1, vi x2], [], (pm_sI h 4 0 7 ((h.1 4 0 7) + 1))) else (if h.1 4 0 7 < x2 then (if pm_inb (h.1 4 0 7) 600 = true then (pm_bI (pm_ev (68, 0, [vi (h.1 26 q1 ((h.1 4 0 7).toNatClampNeg))], [], (pm_sI h 4 0 8 (h.1 4 0 7)))) fun r2 h1 => (if r2 = 0 then (if pm_inb (h1.1 4 0 7) 600 = true then (pm_bI (pm_ev (69, 0, [vi (h1.1 26 q1 ((h1.1 4 0 7).toNatClampNeg))], [], h1)) fun r4 h3 => (if r4 = 0 then pm_ev (67, 198, [vr 4 0, vr 26 q1, none], [], h3) else pm_ev (67, 140, [vr 4 0, vr 26 q1, vi x2], [], h3))) else none) else pm_ev (67, 87, [vr 4 0, vr 26 q1, vi x2], [], h1))) else none) else some (none, (pm_sI (pm_sI h 4 0 8 (h.1 4 0 7)) 4 0 6 0)))) else none)) else none) else (if h.1 4 0 7 < x2 then (if pm_inb (h.1 4 0 7) 600 = true then (pm_bI (pm_ev (68, 0, [vi (h.1 26 q1 ((h.1 4 0 7).toNatClampNeg))], [], (pm_sI h 4 0 8 (h.1 4 0 7)))) fun r6 h5 => (if r6 = 0 then (if pm_inb (h5.1 4 0 7) 600 = true then (pm_bI (pm_ev (69, 0, [vi (h5.1 26 q1 ((h5.1 4 0 7).toNatClampNeg))], [], h5)) fun r8 h7 => (if r8 = 0 then pm_ev (67, 198, [vr 4 0, vr 26 q1, none], [], h7) else pm_ev (67, 140, [vr 4 0, vr 26 q1, vi x2], [], h7))) else none) else pm_ev (67, 87, [vr 4 0, vr 26 q1, vi x2], [], h5))) else none) else some (none, (pm_sI (pm_sI h 4 0 8 (h.1 4 0 7)) 4 0 6 0)))) := (ev_rc [8, 87, 140, 198] 120 _).trans rfl
set_option maxRecDepth 100000 in
set_option maxHeartbeats 400000 in
/-- IllLight$Reader.advance([II)V -/
theorem E_X4_advance_198 (h : PH) (q1 : Nat) : pm_ev (67, 198, [vr 4 0, vr 26 q1, none], [], h) = (if pm_inb (h.1 4 0 7) 600 = true then (if h.1 26 q1 ((h.1 4 0 7).toNatClampNeg) = 59 then some (none, (pm_sI (pm_sI h 4 0 8 ((h.1 4 0 7) + 1)) 4 0 6 3)) else some (none, (pm_sI (pm_sI h 4 0 8 ((h.1 4 0 7) + 1)) 4 0 6 4))) else none) := (ev_rc [8, 87, 140, 198] 120 _).trans rfl
set_option maxRecDepth 100000 in
set_option maxHeartbeats 400000 in
/-- IllLight$Reader.advance([II)V -/
theorem E_X4_advance_140 (h : PH) (q1 : Nat) (x2 : Int32) : pm_ev (67, 140, [vr 4 0, vr 26 q1, vi x2], [], h) = (if h.1 4 0 8 < x2 then (if pm_inb (h.1 4 0 8) 600 = true then (pm_bI (pm_ev (69, 0, [vi (h.1 26 q1 ((h.1 4 0 8).toNatClampNeg))], [], h)) fun r10 h9 => (if r10 = 0 then (if (2 : Int32) < (h9.1 4 0 8) - (h9.1 4 0 7) then some (none, (pm_sI h9 4 0 6 4)) else some (none, (pm_sI h9 4 0 6 2))) else pm_ev (67, 140, [vr 4 0, vr 26 q1, vi x2], [], (pm_sI h9 4 0 8 ((h9.1 4 0 8) + 1))))) else none) else (if (2 : Int32) < (h.1 4 0 8) - (h.1 4 0 7) then some (none, (pm_sI h 4 0 6 4)) else some (none, (pm_sI h 4 0 6 2)))) := (ev_rc [8, 87, 140, 198] 120 _).trans rfl
set_option maxRecDepth 100000 in
set_option maxHeartbeats 400000 in
/-- IllLight$Reader.advance([II)V -/
theorem E_X4_advance_87 (h : PH) (q1 : Nat) (x2 : Int32) : pm_ev (67, 87, [vr 4 0, vr 26 q1, vi x2], [], h) = (if h.1 4 0 8 < x2 then (if pm_inb (h.1 4 0 8) 600 = true then (pm_bI (pm_ev (68, 0, [vi (h.1 26 q1 ((h.1 4 0 8).toNatClampNeg))], [], h)) fun r12 h11 => (if r12 = 0 then some (none, (pm_sI h11 4 0 6 1)) else pm_ev (67, 87, [vr 4 0, vr 26 q1, vi x2], [], (pm_sI h11 4 0 8 ((h11.1 4 0 8) + 1))))) else none) else some (none, (pm_sI h 4 0 6 1))) := (ev_rc [8, 87, 140, 198] 120 _).trans rfl
set_option maxRecDepth 100000 in
set_option maxHeartbeats 400000 in
/-- IllLight$Reader.isLetter(I)Z -/
theorem E_X4_isLetter (h : PH) (a : Int32) : pm_ev (68, 0, [vi a], [], h) = (if a < 97 then some (some (vi 0), h) else (if (122 : Int32) < a then some (some (vi 0), h) else some (some (vi 1), h))) := (ev_rc [] 120 _).trans rfl
set_option maxRecDepth 100000 in
set_option maxHeartbeats 400000 in
/-- IllLight$Reader.isDigit(I)Z -/
theorem E_X4_isDigit (h : PH) (a : Int32) : pm_ev (69, 0, [vi a], [], h) = (if a < 48 then some (some (vi 0), h) else (if (57 : Int32) < a then some (some (vi 0), h) else some (some (vi 1), h))) := (ev_rc [] 120 _).trans rfl
set_option maxRecDepth 100000 in
set_option maxHeartbeats 400000 in
/-- IllLight$Reader.readLine([III)Z -/
theorem E_X4_readLine (h : PH) (a : Nat) (b : Int32) (c : Int32) : pm_ev (70, 0, [vr 4 0, vr 26 a, vi b, vi c, none, none], [], h) = (if h.1 4 0 6 = 1 then (pm_bI (pm_ev (71, 0, [vr 4 0, vr 26 a, vi c, none], [], h)) fun r2 h1 => (if r2 = (-1) then some (some (vi 0), h1) else (pm_bV (pm_ev (78, 0, [vr 4 0, vi r2, none, none], [], h1)) fun h3 => pm_ev (70, 37, [vr 4 0, vr 26 a, vi b, none, vi r2, vi 0], [], h3)))) else some (some (vi 0), h)) := (ev_rc [37, 55, 63, 97, 104, 119, 130] 120 _).trans rfl
set_option maxRecDepth 100000 in
set_option maxHeartbeats 400000 in
/-- IllLight$Reader.readLine([III)Z -/
theorem E_X4_readLine_37 (h : PH) (q1 : Nat) (x2 : Int32) (x4 : Int32) (x5 : Int32) : pm_ev (70, 37, [vr 4 0, vr 26 q1, vi x2, none, vi x4, vi x5], [], h) = (if x5 < 4 then (if pm_inb x5 4 = true then pm_ev (70, 55, [vr 4 0, vr 26 q1, vi x2, none, vi x4, vi x5], [], (pm_sI h 24 0 x5.toNatClampNeg (-1))) else none) else (pm_bV (pm_ev (67, 0, [vr 4 0, vr 26 q1, vi x2], [], h)) fun h4 => (if h4.1 4 0 6 = 3 then (if h4.1 4 0 3 = 0 then (pm_bV (pm_ev (79, 0, [vr 4 0, vi x4], [], h4)) fun h5 => some (some (vi 1), h5)) else some (some (vi 1), h4)) else some (some (vi 0), h4)))) := (ev_rc [37, 55, 63, 97, 104, 119, 130] 120 _).trans rfl
set_option maxRecDepth 100000 in
set_option maxHeartbeats 400000 in
/-- IllLight$Reader.readLine([III)Z -/
theorem E_X4_readLine_55 (h : PH) (q1 : Nat) (x2 : Int32) (x4 : Int32) (x5 : Int32) : pm_ev (70, 55, [vr 4 0, vr 26 q1, vi x2, none, vi x4, vi x5], [], h) = (if pm_inb x4 21 = true then pm_ev (70, 63, [vr 4 0, vr 26 q1, vi x2, none, vi x4, vi x5], [vi (h.1 63 0 x4.toNatClampNeg), vi x5], h) else none) := (ev_rc [37, 55, 63, 97, 104, 119, 130] 120 _).trans rfl
set_option maxRecDepth 100000 in
set_option maxHeartbeats 400000 in
/-- IllLight$Reader.readLine([III)Z -/
theorem E_X4_readLine_63 (h : PH) (q1 : Nat) (x2 : Int32) (x4 : Int32) (x5 : Int32) (s0 : Int32) (s1 : Int32) : pm_ev (70, 63, [vr 4 0, vr 26 q1, vi x2, none, vi x4, vi x5], [vi s0, vi s1], h) = (if s1 < s0 then (pm_bV (pm_ev (67, 0, [vr 4 0, vr 26 q1, vi x2], [], h)) fun h6 => (if h6.1 4 0 6 = 2 then (pm_bI (pm_ev (74, 0, [vr 4 0, vr 26 q1, none, none], [], h6)) fun r8 h7 => (if pm_inb x5 4 = true then pm_ev (70, 97, [vr 4 0, vr 26 q1, vi x2, none, vi x4, vi x5], [], (pm_sI h7 24 0 x5.toNatClampNeg r8)) else none)) else some (some (vi 0), h6))) else pm_ev (70, 37, [vr 4 0, vr 26 q1, vi x2, none, vi x4, vi (x5 + 1)], [], h)) := (ev_rc [37, 55, 63, 97, 104, 119, 130] 120 _).trans rfl
set_option maxRecDepth 100000 in
set_option maxHeartbeats 400000 in
/-- IllLight$Reader.readLine([III)Z -/
theorem E_X4_readLine_97 (h : PH) (q1 : Nat) (x2 : Int32) (x4 : Int32) (x5 : Int32) : pm_ev (70, 97, [vr 4 0, vr 26 q1, vi x2, none, vi x4, vi x5], [], h) = (if pm_inb x5 4 = true then pm_ev (70, 104, [vr 4 0, vr 26 q1, vi x2, none, vi x4, vi x5], [vi (h.1 24 0 x5.toNatClampNeg)], h) else none) := (ev_rc [37, 55, 63, 97, 104, 119, 130] 120 _).trans rfl
set_option maxRecDepth 100000 in
set_option maxHeartbeats 400000 in
/-- IllLight$Reader.readLine([III)Z -/
theorem E_X4_readLine_104 (h : PH) (q1 : Nat) (x2 : Int32) (x4 : Int32) (x5 : Int32) (s0 : Int32) : pm_ev (70, 104, [vr 4 0, vr 26 q1, vi x2, none, vi x4, vi x5], [vi s0], h) = (pm_bI (pm_ev (75, 0, [vi x4], [], h)) fun r10 h9 => (if s0 < r10 then (pm_bV (pm_ev (66, 0, [vr 4 0, vi 2, vi (h9.1 4 0 7)], [], h9)) fun h11 => pm_ev (70, 37, [vr 4 0, vr 26 q1, vi x2, none, vi x4, vi (x5 + 1)], [], h11)) else (if pm_inb x5 4 = true then pm_ev (70, 119, [vr 4 0, vr 26 q1, vi x2, none, vi x4, vi x5], [vi (h9.1 24 0 x5.toNatClampNeg)], h9) else none))) := (ev_rc [37, 55, 63, 97, 104, 119, 130] 120 _).trans rfl
set_option maxRecDepth 100000 in
set_option maxHeartbeats 400000 in
/-- IllLight$Reader.readLine([III)Z -/
theorem E_X4_readLine_119 (h : PH) (q1 : Nat) (x2 : Int32) (x4 : Int32) (x5 : Int32) (s0 : Int32) : pm_ev (70, 119, [vr 4 0, vr 26 q1, vi x2, none, vi x4, vi x5], [vi s0], h) = (if pm_inb ((4 * x4) + x5) 84 = true then pm_ev (70, 130, [vr 4 0, vr 26 q1, vi x2, none, vi x4, vi x5], [vi (h.1 64 0 (((4 * x4) + x5).toNatClampNeg)), vi s0], h) else none) := (ev_rc [37, 55, 63, 97, 104, 119, 130] 120 _).trans rfl
set_option maxRecDepth 100000 in
set_option maxHeartbeats 400000 in
/-- IllLight$Reader.readLine([III)Z -/
theorem E_X4_readLine_130 (h : PH) (q1 : Nat) (x2 : Int32) (x4 : Int32) (x5 : Int32) (s0 : Int32) (s1 : Int32) : pm_ev (70, 130, [vr 4 0, vr 26 q1, vi x2, none, vi x4, vi x5], [vi s0, vi s1], h) = (if s0 < s1 then (pm_bV (pm_ev (66, 0, [vr 4 0, vi 2, vi (h.1 4 0 7)], [], h)) fun h12 => pm_ev (70, 37, [vr 4 0, vr 26 q1, vi x2, none, vi x4, vi (x5 + 1)], [], h12)) else pm_ev (70, 37, [vr 4 0, vr 26 q1, vi x2, none, vi x4, vi (x5 + 1)], [], h)) := (ev_rc [37, 55, 63, 97, 104, 119, 130] 120 _).trans rfl
set_option maxRecDepth 100000 in
set_option maxHeartbeats 400000 in
/-- IllLight$Reader.wordHere([II)I -/
theorem E_X4_wordHere (h : PH) (a : Nat) (b : Int32) : pm_ev (71, 0, [vr 4 0, vr 26 a, vi b, none], [], h) = (if b < 0 then some (some (vi (-1)), h) else (if b + 1 < 4 then (if pm_inb b 4 = true then pm_ev (71, 22, [vr 4 0, vr 26 a, vi b, vi (h.1 62 0 b.toNatClampNeg)], [], h) else none) else some (some (vi (-1)), h))) := (ev_rc [22] 120 _).trans rfl
set_option maxRecDepth 100000 in
set_option maxHeartbeats 400000 in
/-- IllLight$Reader.wordHere([II)I -/
theorem E_X4_wordHere_22 (h : PH) (q1 : Nat) (x2 : Int32) (x3 : Int32) : pm_ev (71, 22, [vr 4 0, vr 26 q1, vi x2, vi x3], [], h) = (if pm_inb (x2 + 1) 4 = true then (if x3 < h.1 62 0 ((x2 + 1).toNatClampNeg) then (pm_bR (pm_ev (73, 0, [vi x3], [], h)) 60 (fun h1 => (pm_bI (pm_ev (72, 0, [vr 4 0, vr 26 q1, vn, none], [], h1)) fun r4 h3 => (if r4 = 0 then pm_ev (71, 22, [vr 4 0, vr 26 q1, vi x2, vi (x3 + 1)], [], h3) else some (some (vi x3), h3)))) fun o2 h1 => (pm_bI (pm_ev (72, 0, [vr 4 0, vr 26 q1, vr 60 o2, none], [], h1)) fun r6 h5 => (if r6 = 0 then pm_ev (71, 22, [vr 4 0, vr 26 q1, vi x2, vi (x3 + 1)], [], h5) else some (some (vi x3), h5)))) else some (some (vi (-1)), h)) else none) := (ev_rc [22] 120 _).trans rfl
set_option maxRecDepth 100000 in
set_option maxHeartbeats 400000 in
/-- IllLight$Reader.isHere([ILjava/lang/String;)Z -/
theorem E_X4_isHere (h : PH) (a : Nat) (b : Nat) : pm_ev (72, 0, [vr 4 0, vr 26 a, vr 60 b, none], [], h) = (pm_bI (pm_ev (269, 0, [vr 60 b], [], h)) fun r2 h1 => (if r2 = (h1.1 4 0 8) - (h1.1 4 0 7) then pm_ev (72, 20, [vr 4 0, vr 26 a, vr 60 b, vi 0], [], h1) else some (some (vi 0), h1))) := (ev_rc [20] 120 _).trans rfl
set_option maxRecDepth 100000 in
set_option maxHeartbeats 400000 in
/-- IllLight$Reader.isHere([ILjava/lang/String;)Z -/
theorem E_X4_isHere_20 (h : PH) (q1 : Nat) (q2 : Nat) (x3 : Int32) : pm_ev (72, 20, [vr 4 0, vr 26 q1, vr 60 q2, vi x3], [], h) = (pm_bI (pm_ev (269, 0, [vr 60 q2], [], h)) fun r4 h3 => (if x3 < r4 then (if pm_inb ((h3.1 4 0 7) + x3) 600 = true then (pm_bI (pm_ev (270, 0, [vr 60 q2, vi x3], [], h3)) fun r6 h5 => (if h3.1 26 q1 (((h3.1 4 0 7) + x3).toNatClampNeg) = r6 then pm_ev (72, 20, [vr 4 0, vr 26 q1, vr 60 q2, vi (x3 + 1)], [], h5) else some (some (vi 0), h5))) else none) else some (some (vi 1), h3))) := (ev_rc [20] 120 _).trans rfl
set_option maxRecDepth 100000 in
set_option maxHeartbeats 400000 in
/-- IllLight$Reader.nameOf(I)Ljava/lang/String; -/
theorem E_X4_nameOf (h : PH) (a : Int32) : pm_ev (73, 0, [vi a], [], h) = (if a = 0 then some (some (vr 60 0), h) else (if a = 1 then some (some (vr 60 1), h) else (if a = 2 then some (some (vr 60 2), h) else (if a = 3 then some (some (vr 60 3), h) else (if a = 4 then some (some (vr 60 4), h) else (if a = 5 then some (some (vr 60 5), h) else (if a = 6 then some (some (vr 60 6), h) else (if a = 7 then some (some (vr 60 7), h) else (if a = 8 then some (some (vr 60 8), h) else (if a = 9 then some (some (vr 60 9), h) else (if a = 10 then some (some (vr 60 10), h) else (if a = 11 then some (some (vr 60 11), h) else (if a = 12 then some (some (vr 60 12), h) else (if a = 13 then some (some (vr 60 13), h) else (if a = 14 then some (some (vr 60 14), h) else (if a = 15 then some (some (vr 60 15), h) else (if a = 16 then some (some (vr 60 16), h) else (if a = 17 then some (some (vr 60 5), h) else (if a = 18 then some (some (vr 60 17), h) else (if a = 19 then some (some (vr 60 18), h) else (if a = 20 then some (some (vr 60 19), h) else some (some (vr 60 20), h)))))))))))))))))))))) := (ev_rc [] 120 _).trans rfl
set_option maxRecDepth 100000 in
set_option maxHeartbeats 400000 in
/-- IllLight$Reader.numberHere([I)I -/
theorem E_X4_numberHere (h : PH) (a : Nat) : pm_ev (74, 0, [vr 4 0, vr 26 a, none, none], [], h) = pm_ev (74, 7, [vr 4 0, vr 26 a, vi 0, vi (h.1 4 0 7)], [], h) := (ev_rc [7] 120 _).trans rfl
set_option maxRecDepth 100000 in
set_option maxHeartbeats 400000 in
/-- IllLight$Reader.numberHere([I)I -/
theorem E_X4_numberHere_7 (h : PH) (q1 : Nat) (x2 : Int32) (x3 : Int32) : pm_ev (74, 7, [vr 4 0, vr 26 q1, vi x2, vi x3], [], h) = (if x3 < h.1 4 0 8 then (if pm_inb x3 600 = true then pm_ev (74, 7, [vr 4 0, vr 26 q1, vi (((10 * x2) + (h.1 26 q1 x3.toNatClampNeg)) - 48), vi (x3 + 1)], [], h) else none) else some (some (vi x2), h)) := (ev_rc [7] 120 _).trans rfl
set_option maxRecDepth 100000 in
set_option maxHeartbeats 400000 in
/-- IllLight$Reader.least(I)I -/
theorem E_X4_least (h : PH) (a : Int32) : pm_ev (75, 0, [vi a], [], h) = (if a = 0 then some (some (vi 2), h) else (if a = 5 then some (some (vi 1), h) else (if a = 17 then some (some (vi 1), h) else some (some (vi 0), h)))) := (ev_rc [] 120 _).trans rfl
set_option maxRecDepth 100000 in
set_option maxHeartbeats 400000 in
/-- IllLight$Reader.isKind(I)Z -/
theorem E_X4_isKind (h : PH) (a : Int32) : pm_ev (76, 0, [vi a], [], h) = (if a < 6 then some (some (vi 0), h) else (if a < 12 then some (some (vi 1), h) else some (some (vi 0), h))) := (ev_rc [] 120 _).trans rfl
set_option maxRecDepth 100000 in
set_option maxHeartbeats 400000 in
/-- IllLight$Reader.isDeed(I)Z -/
theorem E_X4_isDeed (h : PH) (a : Int32) : pm_ev (77, 0, [vi a], [], h) = (if a < 12 then some (some (vi 0), h) else (if a < 16 then some (some (vi 1), h) else some (some (vi 0), h))) := (ev_rc [] 120 _).trans rfl
set_option maxRecDepth 100000 in
set_option maxHeartbeats 400000 in
/-- IllLight$Reader.noteTooMany(I)V -/
theorem E_X4_noteTooMany (h : PH) (a : Int32) : pm_ev (78, 0, [vr 4 0, vi a, none, none], [], h) = (if a = 3 then (if h.1 0 8 5 = 4 then pm_ev (78, 134, [vr 4 0, vi a, none, none], [], h) else pm_ev (78, 26, [vr 4 0, vi a, vi ((h.1 0 8 8) - 1), none], [], h)) else pm_ev (78, 26, [vr 4 0, vi a, vi ((h.1 0 8 8) - 1), none], [], h)) := (ev_rc [26, 42, 73, 92, 110, 122, 134, 138, 139, 182] 120 _).trans rfl
set_option maxRecDepth 100000 in
set_option maxHeartbeats 400000 in
/-- IllLight$Reader.noteTooMany(I)V -/
theorem E_X4_noteTooMany_134 (h : PH) (x1 : Int32) : pm_ev (78, 134, [vr 4 0, vi x1, none, none], [], h) = pm_ev (78, 139, [vr 4 0, vi x1, none, none], [vi 1], h) := (ev_rc [26, 42, 73, 92, 110, 122, 134, 138, 139, 182] 120 _).trans rfl
set_option maxRecDepth 100000 in
set_option maxHeartbeats 400000 in
/-- IllLight$Reader.noteTooMany(I)V -/
theorem E_X4_noteTooMany_26 (h : PH) (x1 : Int32) (x2 : Int32) : pm_ev (78, 26, [vr 4 0, vi x1, vi x2, none], [], h) = (if x1 = 4 then (if h.1 0 8 8 = 4 then pm_ev (78, 134, [vr 4 0, vi x1, none, none], [], h) else pm_ev (78, 42, [vr 4 0, vi x1, vi x2, none], [], h)) else pm_ev (78, 42, [vr 4 0, vi x1, vi x2, none], [], h)) := (ev_rc [26, 42, 73, 92, 110, 122, 134, 138, 139, 182] 120 _).trans rfl
set_option maxRecDepth 100000 in
set_option maxHeartbeats 400000 in
/-- IllLight$Reader.noteTooMany(I)V -/
theorem E_X4_noteTooMany_139 (h : PH) (x1 : Int32) (s0 : Int32) : pm_ev (78, 139, [vr 4 0, vi x1, none, none], [vi s0], h) = (if s0 = 0 then (pm_bI (pm_ev (76, 0, [vi x1], [], h)) fun r2 h1 => (if r2 = 0 then pm_ev (78, 182, [none, none, none, none], [], h1) else (if h1.1 0 8 8 = 0 then (pm_bV (pm_ev (66, 0, [vr 4 0, vi 4, vi (h1.1 4 0 7)], [], h1)) fun h3 => pm_ev (78, 182, [none, none, none, none], [], h3)) else pm_ev (78, 182, [none, none, none, none], [], h1)))) else (pm_bV (pm_ev (66, 0, [vr 4 0, vi 3, vi (h.1 4 0 7)], [], h)) fun h4 => pm_ev (78, 182, [none, none, none, none], [], h4))) := (ev_rc [26, 42, 73, 92, 110, 122, 134, 138, 139, 182] 120 _).trans rfl
set_option maxRecDepth 100000 in
set_option maxHeartbeats 400000 in
/-- IllLight$Reader.noteTooMany(I)V -/
theorem E_X4_noteTooMany_42 (h : PH) (x1 : Int32) (x2 : Int32) : pm_ev (78, 42, [vr 4 0, vi x1, vi x2, none], [], h) = (pm_bI (pm_ev (76, 0, [vi x1], [], h)) fun r6 h5 => (if r6 = 0 then pm_ev (78, 73, [vr 4 0, vi x1, none, none], [], h5) else (pm_bI (pm_ev (5, 0, [vr 0 8, vi x2], [], h5)) fun r8 h7 => (if r8 = 0 then pm_ev (78, 73, [vr 4 0, vi x1, none, none], [], h7) else (if pm_inb x2 4 = true then (if h7.1 15 8 x2.toNatClampNeg = 4 then pm_ev (78, 134, [vr 4 0, vi x1, none, none], [], h7) else pm_ev (78, 73, [vr 4 0, vi x1, none, none], [], h7)) else none))))) := (ev_rc [26, 42, 73, 92, 110, 122, 134, 138, 139, 182] 120 _).trans rfl
set_option maxRecDepth 100000 in
set_option maxHeartbeats 400000 in
/-- IllLight$Reader.noteTooMany(I)V -/
theorem E_X4_noteTooMany_182 (h : PH)  : pm_ev (78, 182, [none, none, none, none], [], h) = some (none, h) := (ev_rc [26, 42, 73, 92, 110, 122, 134, 138, 139, 182] 120 _).trans rfl
set_option maxRecDepth 100000 in
set_option maxHeartbeats 400000 in
/-- IllLight$Reader.noteTooMany(I)V -/
theorem E_X4_noteTooMany_73 (h : PH) (x1 : Int32) : pm_ev (78, 73, [vr 4 0, vi x1, none, none], [], h) = (pm_bI (pm_ev (77, 0, [vi x1], [], h)) fun r10 h9 => (if r10 = 0 then pm_ev (78, 92, [vr 4 0, vi x1, none, none], [], h9) else (if h9.1 3 8 0 = 40 then pm_ev (78, 134, [vr 4 0, vi x1, none, none], [], h9) else pm_ev (78, 92, [vr 4 0, vi x1, none, none], [], h9)))) := (ev_rc [26, 42, 73, 92, 110, 122, 134, 138, 139, 182] 120 _).trans rfl
set_option maxRecDepth 100000 in
set_option maxHeartbeats 400000 in
/-- IllLight$Reader.noteTooMany(I)V -/
theorem E_X4_noteTooMany_92 (h : PH) (x1 : Int32) : pm_ev (78, 92, [vr 4 0, vi x1, none, none], [], h) = (if x1 = 16 then (if h.1 2 8 0 = 6 then pm_ev (78, 134, [vr 4 0, vi x1, none, none], [], h) else pm_ev (78, 110, [vr 4 0, vi x1, none, none], [], h)) else pm_ev (78, 110, [vr 4 0, vi x1, none, none], [], h)) := (ev_rc [26, 42, 73, 92, 110, 122, 134, 138, 139, 182] 120 _).trans rfl
set_option maxRecDepth 100000 in
set_option maxHeartbeats 400000 in
/-- IllLight$Reader.noteTooMany(I)V -/
theorem E_X4_noteTooMany_110 (h : PH) (x1 : Int32) : pm_ev (78, 110, [vr 4 0, vi x1, none, none], [], h) = (if x1 = 19 then pm_ev (78, 122, [vr 4 0, vi x1, none, none], [], h) else (if x1 = 20 then pm_ev (78, 122, [vr 4 0, vi x1, none, none], [], h) else pm_ev (78, 138, [vr 4 0, vi x1, none, none], [], h))) := (ev_rc [26, 42, 73, 92, 110, 122, 134, 138, 139, 182] 120 _).trans rfl
set_option maxRecDepth 100000 in
set_option maxHeartbeats 400000 in
/-- IllLight$Reader.noteTooMany(I)V -/
theorem E_X4_noteTooMany_122 (h : PH) (x1 : Int32) : pm_ev (78, 122, [vr 4 0, vi x1, none, none], [], h) = (if h.1 2 8 4 = 10 then pm_ev (78, 134, [vr 4 0, vi x1, none, none], [], h) else pm_ev (78, 138, [vr 4 0, vi x1, none, none], [], h)) := (ev_rc [26, 42, 73, 92, 110, 122, 134, 138, 139, 182] 120 _).trans rfl
set_option maxRecDepth 100000 in
set_option maxHeartbeats 400000 in
/-- IllLight$Reader.noteTooMany(I)V -/
theorem E_X4_noteTooMany_138 (h : PH) (x1 : Int32) : pm_ev (78, 138, [vr 4 0, vi x1, none, none], [], h) = pm_ev (78, 139, [vr 4 0, vi x1, none, none], [vi 0], h) := (ev_rc [26, 42, 73, 92, 110, 122, 134, 138, 139, 182] 120 _).trans rfl
set_option maxRecDepth 100000 in
set_option maxHeartbeats 400000 in
/-- IllLight$Reader.tell(I)V -/
theorem E_X4_tell (h : PH) (a : Int32) : pm_ev (79, 0, [vr 4 0, vi a], [], h) = (pm_bI (pm_ev (77, 0, [vi a], [], h)) fun r2 h1 => (if r2 = 0 then (if a < 16 then (pm_bI (pm_ev (76, 0, [vi a], [], h1)) fun r4 h3 => (if r4 = 0 then (pm_bV (pm_ev (81, 0, [vr 4 0, vi a, none], [], h3)) fun h5 => some (none, h5)) else (pm_bV (pm_ev (80, 0, [vr 4 0, vi (a - 6)], [], h3)) fun h6 => some (none, h6)))) else (pm_bV (pm_ev (82, 0, [vr 4 0, vi a], [], h1)) fun h7 => some (none, h7))) else (pm_bV (pm_ev (61, 0, [vr 3 8, vi (a - 12), vi (h1.1 24 0 ((0 : Int32).toNatClampNeg)), vi (h1.1 24 0 ((1 : Int32).toNatClampNeg)), vi (h1.1 24 0 ((2 : Int32).toNatClampNeg))], [], h1)) fun h8 => some (none, h8)))) := (ev_rc [] 120 _).trans rfl
set_option maxRecDepth 100000 in
set_option maxHeartbeats 400000 in
/-- IllLight$Reader.tellMan(I)V -/
theorem E_X4_tellMan (h : PH) (a : Int32) : pm_ev (80, 0, [vr 4 0, vi a], [], h) = (pm_bV (pm_ev (4, 0, [vr 0 8, vi a, vi (if h.1 24 0 ((0 : Int32).toNatClampNeg) < (0 : Int32) then 0 else h.1 24 0 ((0 : Int32).toNatClampNeg)), vi (if h.1 24 0 ((1 : Int32).toNatClampNeg) < (0 : Int32) then 0 else h.1 24 0 ((1 : Int32).toNatClampNeg)), none, none], [], h)) fun h1 => (if a = 5 then some (none, (pm_sI h1 4 0 11 (if h1.1 4 0 11 < h1.1 24 0 ((0 : Int32).toNatClampNeg) then h1.1 24 0 ((0 : Int32).toNatClampNeg) else h1.1 4 0 11))) else some (none, h1))) := (ev_rc [] 120 _).trans rfl
set_option maxRecDepth 100000 in
set_option maxHeartbeats 400000 in
/-- IllLight$Reader.tellCoast(I)V -/
theorem E_X4_tellCoast (h : PH) (a : Int32) : pm_ev (81, 0, [vr 4 0, vi a, none], [], h) = (if a = 0 then some (none, (pm_sI (pm_sI h 0 8 0 (h.1 24 0 ((0 : Int32).toNatClampNeg))) 0 8 1 (h.1 24 0 ((1 : Int32).toNatClampNeg)))) else (if a = 5 then some (none, (pm_sI h 0 8 3 (h.1 24 0 ((0 : Int32).toNatClampNeg)))) else pm_ev (81, 101, [vr 4 0, vi a, vi ((8 * (h.1 24 0 ((1 : Int32).toNatClampNeg))) + (h.1 24 0 ((0 : Int32).toNatClampNeg)))], [], (pm_sI (pm_sI h 4 0 9 (if h.1 4 0 9 < h.1 24 0 ((0 : Int32).toNatClampNeg) then h.1 24 0 ((0 : Int32).toNatClampNeg) else h.1 4 0 9)) 4 0 10 (if h.1 4 0 10 < h.1 24 0 ((1 : Int32).toNatClampNeg) then h.1 24 0 ((1 : Int32).toNatClampNeg) else h.1 4 0 10))))) := (ev_rc [101, 182] 120 _).trans rfl
set_option maxRecDepth 100000 in
set_option maxHeartbeats 400000 in
/-- IllLight$Reader.tellCoast(I)V -/
theorem E_X4_tellCoast_101 (h : PH) (x1 : Int32) (x2 : Int32) : pm_ev (81, 101, [vr 4 0, vi x1, vi x2], [], h) = (if x1 = 1 then pm_ev (81, 182, [none, none, none], [], (pm_sI h 0 8 2 x2)) else (if x1 = 2 then pm_ev (81, 182, [none, none, none], [], (pm_sL h 0 8 4 ((h.2 0 8 4) ||| ((1 : Int64) <<< (x2.toInt64 &&& 63))))) else (if x1 = 3 then (pm_bV (pm_ev (2, 0, [vr 0 8, vi x2, vi (h.1 24 0 ((2 : Int32).toNatClampNeg))], [], h)) fun h1 => pm_ev (81, 182, [none, none, none], [], h1)) else (pm_bV (pm_ev (3, 0, [vr 0 8, vi x2, vi (h.1 24 0 ((2 : Int32).toNatClampNeg)), vi (h.1 24 0 ((3 : Int32).toNatClampNeg))], [], h)) fun h2 => pm_ev (81, 182, [none, none, none], [], h2))))) := (ev_rc [101, 182] 120 _).trans rfl
set_option maxRecDepth 100000 in
set_option maxHeartbeats 400000 in
/-- IllLight$Reader.tellCoast(I)V -/
theorem E_X4_tellCoast_182 (h : PH)  : pm_ev (81, 182, [none, none, none], [], h) = some (none, h) := (ev_rc [101, 182] 120 _).trans rfl
set_option maxRecDepth 100000 in
set_option maxHeartbeats 400000 in
/-- IllLight$Reader.tellLog(I)V -/
theorem E_X4_tellLog (h : PH) (a : Int32) : pm_ev (82, 0, [vr 4 0, vi a], [], h) = (if a = 16 then (pm_bV (pm_ev (45, 0, [vr 2 8, vi (h.1 24 0 ((0 : Int32).toNatClampNeg))], [], h)) fun h1 => some (none, h1)) else (if a = 17 then some (none, (pm_sI h 2 8 2 (h.1 24 0 ((0 : Int32).toNatClampNeg)))) else (if a = 18 then some (none, (pm_sI h 2 8 3 (h.1 24 0 ((0 : Int32).toNatClampNeg)))) else (if a = 19 then (pm_bV (pm_ev (46, 0, [vr 2 8, vi 1, vi (h.1 24 0 ((0 : Int32).toNatClampNeg))], [], h)) fun h2 => some (none, h2)) else (pm_bV (pm_ev (46, 0, [vr 2 8, vi 0, vi (h.1 24 0 ((0 : Int32).toNatClampNeg))], [], h)) fun h3 => some (none, h3)))))) := (ev_rc [] 120 _).trans rfl
set_option maxRecDepth 100000 in
set_option maxHeartbeats 400000 in
/-- IllLight$Reader.lookForWhatIsNotThere(I)V -/
theorem E_X4_lookForWhatIsNotThere (h : PH) (a : Int32) : pm_ev (83, 0, [vr 4 0, vi a], [], h) = (if h.1 4 0 9 < h.1 0 8 0 then (if h.1 4 0 10 < h.1 0 8 1 then (if h.1 4 0 11 < h.1 0 8 8 then some (none, h) else (pm_bV (pm_ev (66, 0, [vr 4 0, vi 6, vi a], [], h)) fun h1 => some (none, h1))) else (pm_bV (pm_ev (66, 0, [vr 4 0, vi 5, vi a], [], h)) fun h2 => (if h2.1 4 0 11 < h2.1 0 8 8 then some (none, h2) else (pm_bV (pm_ev (66, 0, [vr 4 0, vi 6, vi a], [], h2)) fun h3 => some (none, h3))))) else (pm_bV (pm_ev (66, 0, [vr 4 0, vi 5, vi a], [], h)) fun h4 => (if h4.1 4 0 11 < h4.1 0 8 8 then some (none, h4) else (pm_bV (pm_ev (66, 0, [vr 4 0, vi 6, vi a], [], h4)) fun h5 => some (none, h5))))) := (ev_rc [] 120 _).trans rfl
