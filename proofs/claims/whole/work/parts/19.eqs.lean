set_option maxRecDepth 100000 in
set_option maxHeartbeats 400000 in
/-- java/lang/Integer.bitCount(I)I -/
theorem E_J6_bitCount_0f7a4 (h : PH) (a : Int32) : pm_ev (267, 0, [vi a], [], h) = pm_ev (267, 41, [vi ((((((a - (((a.toUInt32 >>> ((1 : Int32).toUInt32 &&& Int32.toUInt32 31)).toInt32) &&& 1431655765)) &&& 858993459) + ((((a - (((a.toUInt32 >>> ((1 : Int32).toUInt32 &&& Int32.toUInt32 31)).toInt32) &&& 1431655765)).toUInt32 >>> ((2 : Int32).toUInt32 &&& Int32.toUInt32 31)).toInt32) &&& 858993459)) + (((((a - (((a.toUInt32 >>> ((1 : Int32).toUInt32 &&& Int32.toUInt32 31)).toInt32) &&& 1431655765)) &&& 858993459) + ((((a - (((a.toUInt32 >>> ((1 : Int32).toUInt32 &&& Int32.toUInt32 31)).toInt32) &&& 1431655765)).toUInt32 >>> ((2 : Int32).toUInt32 &&& Int32.toUInt32 31)).toInt32) &&& 858993459)).toUInt32 >>> ((4 : Int32).toUInt32 &&& Int32.toUInt32 31)).toInt32)) &&& 252645135) + (((((((a - (((a.toUInt32 >>> ((1 : Int32).toUInt32 &&& Int32.toUInt32 31)).toInt32) &&& 1431655765)) &&& 858993459) + ((((a - (((a.toUInt32 >>> ((1 : Int32).toUInt32 &&& Int32.toUInt32 31)).toInt32) &&& 1431655765)).toUInt32 >>> ((2 : Int32).toUInt32 &&& Int32.toUInt32 31)).toInt32) &&& 858993459)) + (((((a - (((a.toUInt32 >>> ((1 : Int32).toUInt32 &&& Int32.toUInt32 31)).toInt32) &&& 1431655765)) &&& 858993459) + ((((a - (((a.toUInt32 >>> ((1 : Int32).toUInt32 &&& Int32.toUInt32 31)).toInt32) &&& 1431655765)).toUInt32 >>> ((2 : Int32).toUInt32 &&& Int32.toUInt32 31)).toInt32) &&& 858993459)).toUInt32 >>> ((4 : Int32).toUInt32 &&& Int32.toUInt32 31)).toInt32)) &&& 252645135).toUInt32 >>> ((8 : Int32).toUInt32 &&& Int32.toUInt32 31)).toInt32))], [], h) := (ev_rc [41] 120 _).trans rfl
set_option maxRecDepth 100000 in
set_option maxHeartbeats 400000 in
/-- java/lang/Integer.bitCount(I)I -/
theorem E_J6_bitCount_0f7a4_41 (h : PH) (x0 : Int32) : pm_ev (267, 41, [vi x0], [], h) = some (some (vi ((x0 + ((x0.toUInt32 >>> ((16 : Int32).toUInt32 &&& Int32.toUInt32 31)).toInt32)) &&& 63)), h) := (ev_rc [41] 120 _).trans rfl
set_option maxRecDepth 100000 in
set_option maxHeartbeats 400000 in
/-- java/lang/Long.bitCount(J)I -/
theorem E_J13_bitCount_95d88 (h : PH) (a : Int64) : pm_ev (268, 0, [vl a, none], [], h) = pm_ev (268, 41, [vl ((((((a - (((a.toUInt64 >>> ((1 : Int32).toInt64.toUInt64 &&& Int64.toUInt64 63)).toInt64) &&& 6148914691236517205)) &&& 3689348814741910323) + ((((a - (((a.toUInt64 >>> ((1 : Int32).toInt64.toUInt64 &&& Int64.toUInt64 63)).toInt64) &&& 6148914691236517205)).toUInt64 >>> ((2 : Int32).toInt64.toUInt64 &&& Int64.toUInt64 63)).toInt64) &&& 3689348814741910323)) + (((((a - (((a.toUInt64 >>> ((1 : Int32).toInt64.toUInt64 &&& Int64.toUInt64 63)).toInt64) &&& 6148914691236517205)) &&& 3689348814741910323) + ((((a - (((a.toUInt64 >>> ((1 : Int32).toInt64.toUInt64 &&& Int64.toUInt64 63)).toInt64) &&& 6148914691236517205)).toUInt64 >>> ((2 : Int32).toInt64.toUInt64 &&& Int64.toUInt64 63)).toInt64) &&& 3689348814741910323)).toUInt64 >>> ((4 : Int32).toInt64.toUInt64 &&& Int64.toUInt64 63)).toInt64)) &&& 1085102592571150095) + (((((((a - (((a.toUInt64 >>> ((1 : Int32).toInt64.toUInt64 &&& Int64.toUInt64 63)).toInt64) &&& 6148914691236517205)) &&& 3689348814741910323) + ((((a - (((a.toUInt64 >>> ((1 : Int32).toInt64.toUInt64 &&& Int64.toUInt64 63)).toInt64) &&& 6148914691236517205)).toUInt64 >>> ((2 : Int32).toInt64.toUInt64 &&& Int64.toUInt64 63)).toInt64) &&& 3689348814741910323)) + (((((a - (((a.toUInt64 >>> ((1 : Int32).toInt64.toUInt64 &&& Int64.toUInt64 63)).toInt64) &&& 6148914691236517205)) &&& 3689348814741910323) + ((((a - (((a.toUInt64 >>> ((1 : Int32).toInt64.toUInt64 &&& Int64.toUInt64 63)).toInt64) &&& 6148914691236517205)).toUInt64 >>> ((2 : Int32).toInt64.toUInt64 &&& Int64.toUInt64 63)).toInt64) &&& 3689348814741910323)).toUInt64 >>> ((4 : Int32).toInt64.toUInt64 &&& Int64.toUInt64 63)).toInt64)) &&& 1085102592571150095).toUInt64 >>> ((8 : Int32).toInt64.toUInt64 &&& Int64.toUInt64 63)).toInt64)), none], [], h) := (ev_rc [41] 120 _).trans rfl
set_option maxRecDepth 100000 in
set_option maxHeartbeats 400000 in
/-- java/lang/Long.bitCount(J)I -/
theorem E_J13_bitCount_95d88_41 (h : PH) (y0 : Int64) : pm_ev (268, 41, [vl y0, none], [], h) = some (some (vi ((((y0 + ((y0.toUInt64 >>> ((16 : Int32).toInt64.toUInt64 &&& Int64.toUInt64 63)).toInt64)) + (((y0 + ((y0.toUInt64 >>> ((16 : Int32).toInt64.toUInt64 &&& Int64.toUInt64 63)).toInt64)).toUInt64 >>> ((32 : Int32).toInt64.toUInt64 &&& Int64.toUInt64 63)).toInt64)).toInt32) &&& 127)), h) := (ev_rc [41] 120 _).trans rfl
set_option maxRecDepth 100000 in
set_option maxHeartbeats 400000 in
/-- java/lang/String.length()I -/
theorem E_J0_length_8abf5 (h : PH) (o : Nat) : pm_ev (269, 0, [vr 60 o], [], h) = (pm_bI (pm_ev (271, 0, [vr 60 o], [], h)) fun r2 h1 => some (some (vi ((Int32.ofNat (pm_nth pm_SL o 0)) >>> (r2 &&& 31))), h1)) := (ev_rc [] 120 _).trans rfl
set_option maxRecDepth 100000 in
set_option maxHeartbeats 400000 in
/-- java/lang/String.charAt(I)C -/
theorem E_J0_charAt_5068e (h : PH) (o : Nat) (a : Int32) : pm_ev (270, 0, [vr 60 o, vi a], [], h) = (pm_bI (pm_ev (272, 0, [vr 60 o], [], h)) fun r2 h1 => (if r2 = 0 then none else (pm_bI (pm_ev (274, 0, [vr 61 o, vi a], [], h1)) fun r4 h3 => (if (r4.toUInt32 % 65536).toInt32 = r4 then some (some (vi r4), h3) else none)))) := (ev_rc [] 120 _).trans rfl
set_option maxRecDepth 100000 in
set_option maxHeartbeats 400000 in
/-- java/lang/String.coder()B -/
theorem E_J0_coder_7d493 (h : PH) (o : Nat) : pm_ev (271, 0, [vr 60 o], [], h) = some (some (vi 0), h) := (ev_rc [] 120 _).trans rfl
set_option maxRecDepth 100000 in
set_option maxHeartbeats 400000 in
/-- java/lang/String.isLatin1()Z -/
theorem E_J0_isLatin1_aae02 (h : PH) (o : Nat) : pm_ev (272, 0, [vr 60 o], [], h) = some (some (vi 1), h) := (ev_rc [] 120 _).trans rfl
set_option maxRecDepth 100000 in
set_option maxHeartbeats 400000 in
/-- java/lang/String.checkIndex(II)V -/
theorem E_J0_checkIndex_df160 (h : PH) (a : Int32) (b : Int32) : pm_ev (273, 0, [vi a, vi b], [], h) = (pm_bI (pm_ev (275, 0, [vi a, vi b, vr 67 0], [], h)) fun r2 h1 => some (none, h1)) := (ev_rc [] 120 _).trans rfl
set_option maxRecDepth 100000 in
set_option maxHeartbeats 400000 in
/-- java/lang/StringLatin1.charAt([BI)C -/
theorem E_J1_charAt_3b067 (h : PH) (a : Nat) (b : Int32) : pm_ev (274, 0, [vr 61 a, vi b], [], h) = (pm_bV (pm_ev (273, 0, [vi b, vi (Int32.ofNat (pm_nth pm_SL a 0))], [], h)) fun h1 => (if pm_inb b (pm_nth pm_SL a 0) = true then (if (((((h1.1 61 a b.toNatClampNeg) &&& 255).toUInt32 % 65536).toInt32).toUInt32 % 65536).toInt32 = (((h1.1 61 a b.toNatClampNeg) &&& 255).toUInt32 % 65536).toInt32 then some (some (vi ((((h1.1 61 a b.toNatClampNeg) &&& 255).toUInt32 % 65536).toInt32)), h1) else none) else none)) := (ev_rc [] 120 _).trans rfl
set_option maxRecDepth 100000 in
set_option maxHeartbeats 400000 in
/-- jdk/internal/util/Preconditions.checkIndex(IILjava/util/function/BiFunction;)I -/
theorem E_J3_checkIndex_8e157 (h : PH) (a : Int32) (b : Int32) (c : Nat) : pm_ev (275, 0, [vi a, vi b, vr 67 c], [], h) = (if a < 0 then none else (if a < b then some (some (vi a), h) else none)) := (ev_rc [] 120 _).trans rfl
