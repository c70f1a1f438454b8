theorem z_63 : (63 : Int32) = nI 63 := rfl
theorem z_127 : (127 : Int32) = nI 127 := rfl
theorem pc_m5L : (6148914691236517205 : Int64) = lN (pcM 85 8) := by decide +kernel
theorem pc_m3L : (3689348814741910323 : Int64) = lN (pcM 51 8) := by decide +kernel
theorem pc_mFL : (1085102592571150095 : Int64) = lN (pcM 15 8) := by decide +kernel
theorem pc_m5I : (1431655765 : Int32) = nI (pcM 85 4) := by decide +kernel
theorem pc_m3I : (858993459 : Int32) = nI (pcM 51 4) := by decide +kernel
theorem pc_mFI : (252645135 : Int32) = nI (pcM 15 4) := by decide +kernel
theorem bc_l (n : Nat) (hn : n < 2 ^ 64) (h : PH) : pm_ev (268, 0, [vl (lN n), none], [], h) = some (some (vi (nI (fb_ct (fun i => n.testBit i) 64))), h) := by
  rw [E_J13_bitCount_95d88, E_J13_bitCount_95d88_41]
  simp only [z_1, z_2, z_4, z_8, z_16, z_32, z_127, pc_m5L, pc_m3L, pc_mFL]
  have b1 : n / 2 ^ 1 &&& pcM 85 8 ≤ n / 2 ^ 1 := Nat.and_le_left
  have hA : lN n - (((lN n).toUInt64 >>> ((nI 1).toInt64.toUInt64 &&& Int64.toUInt64 63)).toInt64 &&& lN (pcM 85 8)) = lN (pcA 8 n) := by
    rw [wb_shr hn (by decide), l_and, lN_sub (by omega)]; rfl
  have lA : pcA 8 n < 2 ^ 64 := Nat.lt_of_le_of_lt (Nat.sub_le _ _) hn
  simp only [hA]
  have hB : (lN (pcA 8 n) &&& lN (pcM 51 8)) + (((lN (pcA 8 n)).toUInt64 >>> ((nI 2).toInt64.toUInt64 &&& Int64.toUInt64 63)).toInt64 &&& lN (pcM 51 8)) = lN (pcB 8 n) := by
    rw [wb_shr lA (by decide), l_and, l_and, lN_add, pcB, Nat.pow_zero, Nat.div_one]
  have m3 : pcM 51 8 = 3689348814741910323 := by decide +kernel
  have mF : pcM 15 8 = 1085102592571150095 := by decide +kernel
  have lB : pcB 8 n ≤ 2 * 3689348814741910323 := by
    have c1 : pcA 8 n / 2 ^ 0 &&& pcM 51 8 ≤ pcM 51 8 := Nat.and_le_right
    have c2 : pcA 8 n / 2 ^ 2 &&& pcM 51 8 ≤ pcM 51 8 := Nat.and_le_right
    unfold pcB
    omega
  simp only [hB]
  have hC : (lN (pcB 8 n) + ((lN (pcB 8 n)).toUInt64 >>> ((nI 4).toInt64.toUInt64 &&& Int64.toUInt64 63)).toInt64) &&& lN (pcM 15 8) = lN (pcC 8 n) := by
    rw [wb_shr (by omega) (by decide), lN_add, l_and, pcC, Nat.pow_zero, Nat.div_one]
  have lC : pcC 8 n ≤ pcM 15 8 := Nat.and_le_right
  simp only [hC]
  have hD : lN (pcC 8 n) + ((lN (pcC 8 n)).toUInt64 >>> ((nI 8).toInt64.toUInt64 &&& Int64.toUInt64 63)).toInt64 = lN (pcC 8 n + pcC 8 n / 2 ^ 8) := by
    rw [wb_shr (by omega) (by decide), lN_add]
  simp only [hD]
  have hE : lN (pcC 8 n + pcC 8 n / 2 ^ 8) + ((lN (pcC 8 n + pcC 8 n / 2 ^ 8)).toUInt64 >>> ((nI 16).toInt64.toUInt64 &&& Int64.toUInt64 63)).toInt64 = lN ((pcC 8 n + pcC 8 n / 2 ^ 8) + (pcC 8 n + pcC 8 n / 2 ^ 8) / 2 ^ 16) := by
    rw [wb_shr (by omega) (by decide), lN_add]
  simp only [hE]
  rw [wb_shr (by omega) (by decide), lN_add, lN_i, nn_and, pc_64 n hn _ _ rfl rfl]
theorem bc_long (S : Nat → Bool) (h : PH) : pm_ev (268, 0, [vl (lS S), none], [], h) = some (some (vi (nI (fb_ct S 64))), h) := by
  have e : fb_ct S 64 = fb_ct (fun i => (bitsB S 64).testBit i) 64 := fb_ct_cong fun i hi => by rw [bitsB_tb, decide_eq_true hi, Bool.true_and]
  rw [e]
  exact bc_l _ (bitsB_lt S 64) h
theorem nn_ushr {n k : Nat} (hn : n < 2 ^ 32) (hk : k < 32) : ((nI n).toUInt32 >>> ((nI k).toUInt32 &&& Int32.toUInt32 31)).toInt32 = nI (n / 2 ^ k) := pk_ushrN hn _ k (by revert k; decide +kernel)
theorem bc_int (n : Nat) (hn : n < 2 ^ 31) (h : PH) : pm_ev (267, 0, [vi (nI n)], [], h) = some (some (vi (nI (fb_ct (fun i => n.testBit i) 32))), h) := by
  rw [E_J6_bitCount_0f7a4, E_J6_bitCount_0f7a4_41]
  simp only [z_1, z_2, z_4, z_8, z_16, z_63, pc_m5I, pc_m3I, pc_mFI]
  have b1 : n / 2 ^ 1 &&& pcM 85 4 ≤ n / 2 ^ 1 := Nat.and_le_left
  have hA : nI n - (((nI n).toUInt32 >>> ((nI 1).toUInt32 &&& Int32.toUInt32 31)).toInt32 &&& nI (pcM 85 4)) = nI (pcA 4 n) := by
    rw [nn_ushr (by omega) (by decide), nn_and, nn_sub (by omega)]; rfl
  have lA : pcA 4 n < 2 ^ 31 := Nat.lt_of_le_of_lt (Nat.sub_le _ _) hn
  simp only [hA]
  have hB : (nI (pcA 4 n) &&& nI (pcM 51 4)) + (((nI (pcA 4 n)).toUInt32 >>> ((nI 2).toUInt32 &&& Int32.toUInt32 31)).toInt32 &&& nI (pcM 51 4)) = nI (pcB 4 n) := by
    rw [nn_ushr (by omega) (by decide), nn_and, nn_and, nI_add, pcB, Nat.pow_zero, Nat.div_one]
  have m3 : pcM 51 4 = 858993459 := by decide +kernel
  have mF : pcM 15 4 = 252645135 := by decide +kernel
  have lB : pcB 4 n ≤ 2 * 858993459 := by
    have c1 : pcA 4 n / 2 ^ 0 &&& pcM 51 4 ≤ pcM 51 4 := Nat.and_le_right
    have c2 : pcA 4 n / 2 ^ 2 &&& pcM 51 4 ≤ pcM 51 4 := Nat.and_le_right
    unfold pcB
    omega
  simp only [hB]
  have hC : (nI (pcB 4 n) + ((nI (pcB 4 n)).toUInt32 >>> ((nI 4).toUInt32 &&& Int32.toUInt32 31)).toInt32) &&& nI (pcM 15 4) = nI (pcC 4 n) := by
    rw [nn_ushr (by omega) (by decide), nI_add, nn_and, pcC, Nat.pow_zero, Nat.div_one]
  have lC : pcC 4 n ≤ pcM 15 4 := Nat.and_le_right
  simp only [hC]
  have hD : nI (pcC 4 n) + ((nI (pcC 4 n)).toUInt32 >>> ((nI 8).toUInt32 &&& Int32.toUInt32 31)).toInt32 = nI (pcC 4 n + pcC 4 n / 2 ^ 8) := by
    rw [nn_ushr (by omega) (by decide), nI_add]
  simp only [hD]
  rw [nn_ushr (by omega) (by decide), nI_add, nn_and, pc_32 n (by omega)]
