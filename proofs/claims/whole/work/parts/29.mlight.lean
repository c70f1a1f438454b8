/-! ===== the reference's light ===== -/
theorem of_M {h : PH} {a : Nat} {c : AC} (hm : ModS h a c) {s w : Nat} (hs : s < 4) (hw : w < 4) : pm_ev (188, 0, [vr 8 0, vi (nI s), vi (nI w)], [], h) = some (some (vi (h.1 33 0 (a+14+4*s+w))), h) := by
  obtain ⟨⟨⟨_, _, _, _, _, _, ha⟩, _⟩, a1, _⟩ := hm
  rw [E_X9_of]
  simp (disch := omega) only [y_0, y_1, y_2, y_3, y_4, y_5, y_6, y_7, y_8, y_9, y_10, y_11, y_12, y_13, y_14, y_15, y_16, y_17, y_18, y_19, y_20, y_21, y_22, y_23, y_24, y_29, y_30, y_31, y_32, y_39, y_40, y_48, y_49, y_50, y_60, y_64, y_69, y_78, y_99, y_100, y_142, y_161, y_600, y_610, y_894, y_999, y_1000, y_1216, y_1276, neg1, neg2, nI_add, nI_mul, nn_sub, nn_lt, nn_le, nn_eq, in_lt, ni_lt, in_le, ni_le, in_eq, ni_eq, iI_lt, iI_le, iI_eq, nn_clamp, inb_n, t_lt, f_lt, t_le, f_le, t_eq, f_eq, ti_lt, fi_lt, ti_le, fi_le, ti_eq, fi_eq, ↓reduceIte, ite_true, ite_false, eq_self, decide_true, decide_false, Bool.true_and, Bool.and_true, Bool.false_and, Bool.and_false, Bool.true_or, Bool.or_true, Bool.false_or, Bool.or_false, bI_t, bI_f, bI_nand, n_mod, an11, an01, negn1, negn2, false_and, and_false, true_and, and_true, not_true_eq_false, not_false_eq_true, bI_n0, bI_n1, Bool.true_eq_false, Bool.false_eq_true, cI_s, cL_s, cV_s, cR_n, pm_bR_self, bI_ite, bL_ite, bV_ite, bR_ite, E_X9_of_18, a1]
theorem of_M2 {h : PH} {a : Nat} {c : AC} (hv : cV c) (hm : ModS h a c) {s : Nat} (hs : s < (c (6)).val) : pm_ev (188, 0, [vr 8 0, vi (nI s), vi (nI 2)], [], h) = some (some (vi (nI (c (70+s)).val)), h) := by
  have hV1 := hv.1
  rw [of_M hm (show s < 4 by omega) (by decide), (hm.1.2.2.1 s hs).1]
theorem of_M3 {h : PH} {a : Nat} {c : AC} (hv : cV c) (hm : ModS h a c) {s : Nat} (hs : s < (c (6)).val) : pm_ev (188, 0, [vr 8 0, vi (nI s), vi (nI 3)], [], h) = some (some (vi (nI (c (80+s)).val)), h) := by
  have hV1 := hv.1
  rw [of_M hm (show s < 4 by omega) (by decide), (hm.1.2.2.1 s hs).2]
theorem meansAlone_M {h : PH} {c : AC} (hv : cV c) (hA : AliveM h c) {s k hr : Nat} (hs : s < (c (6)).val) (hk : k < (c (80+s)).val) (hh : hr < 24) :
    pm_ev (192, 0, [vr 8 0, vi (nI (12*s+3*k)), vi (nI hr), none], [], h) = some (some (vi (nI (aMean1 c (4*s+k) hr))), h) := by
  obtain ⟨s2, hM⟩ := hA s hs
  obtain ⟨m1, m2, m3⟩ := hM k hk
  have hV1 := hv.1
  obtain ⟨_, _, _, _, v5, v6⟩ := hv.2.2.1 s hs
  obtain ⟨w1, w2, w3, w4⟩ := v6 k hk
  rw [E_X9_meansAlone]
  unfold aMean1
  by_cases q0 : (c (100+(4*s+k))).val = 0
  · simp (disch := omega) only [y_0, y_1, y_2, y_3, y_4, y_5, y_6, y_7, y_8, y_9, y_10, y_11, y_12, y_13, y_14, y_15, y_16, y_17, y_18, y_19, y_20, y_21, y_22, y_23, y_24, y_29, y_30, y_31, y_32, y_39, y_40, y_48, y_49, y_50, y_60, y_64, y_69, y_78, y_99, y_100, y_142, y_161, y_600, y_610, y_894, y_999, y_1000, y_1216, y_1276, neg1, neg2, nI_add, nI_mul, nn_sub, nn_lt, nn_le, nn_eq, in_lt, ni_lt, in_le, ni_le, in_eq, ni_eq, iI_lt, iI_le, iI_eq, nn_clamp, inb_n, t_lt, f_lt, t_le, f_le, t_eq, f_eq, ti_lt, fi_lt, ti_le, fi_le, ti_eq, fi_eq, ↓reduceIte, ite_true, ite_false, eq_self, decide_true, decide_false, Bool.true_and, Bool.and_true, Bool.false_and, Bool.and_false, Bool.true_or, Bool.or_true, Bool.false_or, Bool.or_false, bI_t, bI_f, bI_nand, n_mod, an11, an01, negn1, negn2, false_and, and_false, true_and, and_true, not_true_eq_false, not_false_eq_true, bI_n0, bI_n1, Bool.true_eq_false, Bool.false_eq_true, cI_s, cL_s, cV_s, cR_n, pm_bR_self, bI_ite, bL_ite, bV_ite, bR_ite, E_X9_meansAlone_8, E_X9_meansAlone_15, E_X9_meansAlone_90, E_X9_meansAlone_63, m1, m2, q0]
  by_cases q1 : (c (100+(4*s+k))).val = 1
  · simp (disch := omega) only [y_0, y_1, y_2, y_3, y_4, y_5, y_6, y_7, y_8, y_9, y_10, y_11, y_12, y_13, y_14, y_15, y_16, y_17, y_18, y_19, y_20, y_21, y_22, y_23, y_24, y_29, y_30, y_31, y_32, y_39, y_40, y_48, y_49, y_50, y_60, y_64, y_69, y_78, y_99, y_100, y_142, y_161, y_600, y_610, y_894, y_999, y_1000, y_1216, y_1276, neg1, neg2, nI_add, nI_mul, nn_sub, nn_lt, nn_le, nn_eq, in_lt, ni_lt, in_le, ni_le, in_eq, ni_eq, iI_lt, iI_le, iI_eq, nn_clamp, inb_n, t_lt, f_lt, t_le, f_le, t_eq, f_eq, ti_lt, fi_lt, ti_le, fi_le, ti_eq, fi_eq, ↓reduceIte, ite_true, ite_false, eq_self, decide_true, decide_false, Bool.true_and, Bool.and_true, Bool.false_and, Bool.and_false, Bool.true_or, Bool.or_true, Bool.false_or, Bool.or_false, bI_t, bI_f, bI_nand, n_mod, an11, an01, negn1, negn2, false_and, and_false, true_and, and_true, not_true_eq_false, not_false_eq_true, bI_n0, bI_n1, Bool.true_eq_false, Bool.false_eq_true, cI_s, cL_s, cV_s, cR_n, pm_bR_self, bI_ite, bL_ite, bV_ite, bR_ite, E_X9_meansAlone_8, E_X9_meansAlone_15, E_X9_meansAlone_90, E_X9_meansAlone_63, m1, m2, q1]
  by_cases q2 : (c (100+(4*s+k))).val = 2
  · by_cases q : hr < (c (140+(4*s+k))).val
    · simp (disch := omega) only [y_0, y_1, y_2, y_3, y_4, y_5, y_6, y_7, y_8, y_9, y_10, y_11, y_12, y_13, y_14, y_15, y_16, y_17, y_18, y_19, y_20, y_21, y_22, y_23, y_24, y_29, y_30, y_31, y_32, y_39, y_40, y_48, y_49, y_50, y_60, y_64, y_69, y_78, y_99, y_100, y_142, y_161, y_600, y_610, y_894, y_999, y_1000, y_1216, y_1276, neg1, neg2, nI_add, nI_mul, nn_sub, nn_lt, nn_le, nn_eq, in_lt, ni_lt, in_le, ni_le, in_eq, ni_eq, iI_lt, iI_le, iI_eq, nn_clamp, inb_n, t_lt, f_lt, t_le, f_le, t_eq, f_eq, ti_lt, fi_lt, ti_le, fi_le, ti_eq, fi_eq, ↓reduceIte, ite_true, ite_false, eq_self, decide_true, decide_false, Bool.true_and, Bool.and_true, Bool.false_and, Bool.and_false, Bool.true_or, Bool.or_true, Bool.false_or, Bool.or_false, bI_t, bI_f, bI_nand, n_mod, an11, an01, negn1, negn2, false_and, and_false, true_and, and_true, not_true_eq_false, not_false_eq_true, bI_n0, bI_n1, Bool.true_eq_false, Bool.false_eq_true, cI_s, cL_s, cV_s, cR_n, pm_bR_self, bI_ite, bL_ite, bV_ite, bR_ite, E_X9_meansAlone_8, E_X9_meansAlone_15, E_X9_meansAlone_90, E_X9_meansAlone_63, m1, m2, m3, q2]
    · simp (disch := omega) only [y_0, y_1, y_2, y_3, y_4, y_5, y_6, y_7, y_8, y_9, y_10, y_11, y_12, y_13, y_14, y_15, y_16, y_17, y_18, y_19, y_20, y_21, y_22, y_23, y_24, y_29, y_30, y_31, y_32, y_39, y_40, y_48, y_49, y_50, y_60, y_64, y_69, y_78, y_99, y_100, y_142, y_161, y_600, y_610, y_894, y_999, y_1000, y_1216, y_1276, neg1, neg2, nI_add, nI_mul, nn_sub, nn_lt, nn_le, nn_eq, in_lt, ni_lt, in_le, ni_le, in_eq, ni_eq, iI_lt, iI_le, iI_eq, nn_clamp, inb_n, t_lt, f_lt, t_le, f_le, t_eq, f_eq, ti_lt, fi_lt, ti_le, fi_le, ti_eq, fi_eq, ↓reduceIte, ite_true, ite_false, eq_self, decide_true, decide_false, Bool.true_and, Bool.and_true, Bool.false_and, Bool.and_false, Bool.true_or, Bool.or_true, Bool.false_or, Bool.or_false, bI_t, bI_f, bI_nand, n_mod, an11, an01, negn1, negn2, false_and, and_false, true_and, and_true, not_true_eq_false, not_false_eq_true, bI_n0, bI_n1, Bool.true_eq_false, Bool.false_eq_true, cI_s, cL_s, cV_s, cR_n, pm_bR_self, bI_ite, bL_ite, bV_ite, bR_ite, E_X9_meansAlone_8, E_X9_meansAlone_15, E_X9_meansAlone_90, E_X9_meansAlone_63, m1, m2, m3, q2]
  by_cases q3 : (c (100+(4*s+k))).val = 3
  · by_cases q : hr % 2 = 0
    · simp (disch := omega) only [y_0, y_1, y_2, y_3, y_4, y_5, y_6, y_7, y_8, y_9, y_10, y_11, y_12, y_13, y_14, y_15, y_16, y_17, y_18, y_19, y_20, y_21, y_22, y_23, y_24, y_29, y_30, y_31, y_32, y_39, y_40, y_48, y_49, y_50, y_60, y_64, y_69, y_78, y_99, y_100, y_142, y_161, y_600, y_610, y_894, y_999, y_1000, y_1216, y_1276, neg1, neg2, nI_add, nI_mul, nn_sub, nn_lt, nn_le, nn_eq, in_lt, ni_lt, in_le, ni_le, in_eq, ni_eq, iI_lt, iI_le, iI_eq, nn_clamp, inb_n, t_lt, f_lt, t_le, f_le, t_eq, f_eq, ti_lt, fi_lt, ti_le, fi_le, ti_eq, fi_eq, ↓reduceIte, ite_true, ite_false, eq_self, decide_true, decide_false, Bool.true_and, Bool.and_true, Bool.false_and, Bool.and_false, Bool.true_or, Bool.or_true, Bool.false_or, Bool.or_false, bI_t, bI_f, bI_nand, n_mod, an11, an01, negn1, negn2, false_and, and_false, true_and, and_true, not_true_eq_false, not_false_eq_true, bI_n0, bI_n1, Bool.true_eq_false, Bool.false_eq_true, cI_s, cL_s, cV_s, cR_n, pm_bR_self, bI_ite, bL_ite, bV_ite, bR_ite, E_X9_meansAlone_8, E_X9_meansAlone_15, E_X9_meansAlone_90, E_X9_meansAlone_63, m1, m2, q3, nn_div, nn_rem2]
    · simp (disch := omega) only [y_0, y_1, y_2, y_3, y_4, y_5, y_6, y_7, y_8, y_9, y_10, y_11, y_12, y_13, y_14, y_15, y_16, y_17, y_18, y_19, y_20, y_21, y_22, y_23, y_24, y_29, y_30, y_31, y_32, y_39, y_40, y_48, y_49, y_50, y_60, y_64, y_69, y_78, y_99, y_100, y_142, y_161, y_600, y_610, y_894, y_999, y_1000, y_1216, y_1276, neg1, neg2, nI_add, nI_mul, nn_sub, nn_lt, nn_le, nn_eq, in_lt, ni_lt, in_le, ni_le, in_eq, ni_eq, iI_lt, iI_le, iI_eq, nn_clamp, inb_n, t_lt, f_lt, t_le, f_le, t_eq, f_eq, ti_lt, fi_lt, ti_le, fi_le, ti_eq, fi_eq, ↓reduceIte, ite_true, ite_false, eq_self, decide_true, decide_false, Bool.true_and, Bool.and_true, Bool.false_and, Bool.and_false, Bool.true_or, Bool.or_true, Bool.false_or, Bool.or_false, bI_t, bI_f, bI_nand, n_mod, an11, an01, negn1, negn2, false_and, and_false, true_and, and_true, not_true_eq_false, not_false_eq_true, bI_n0, bI_n1, Bool.true_eq_false, Bool.false_eq_true, cI_s, cL_s, cV_s, cR_n, pm_bR_self, bI_ite, bL_ite, bV_ite, bR_ite, E_X9_meansAlone_8, E_X9_meansAlone_15, E_X9_meansAlone_90, E_X9_meansAlone_63, m1, m2, q3, nn_div, nn_rem2]
  by_cases q4 : (c (100+(4*s+k))).val = 4
  · simp (disch := omega) only [y_0, y_1, y_2, y_3, y_4, y_5, y_6, y_7, y_8, y_9, y_10, y_11, y_12, y_13, y_14, y_15, y_16, y_17, y_18, y_19, y_20, y_21, y_22, y_23, y_24, y_29, y_30, y_31, y_32, y_39, y_40, y_48, y_49, y_50, y_60, y_64, y_69, y_78, y_99, y_100, y_142, y_161, y_600, y_610, y_894, y_999, y_1000, y_1216, y_1276, neg1, neg2, nI_add, nI_mul, nn_sub, nn_lt, nn_le, nn_eq, in_lt, ni_lt, in_le, ni_le, in_eq, ni_eq, iI_lt, iI_le, iI_eq, nn_clamp, inb_n, t_lt, f_lt, t_le, f_le, t_eq, f_eq, ti_lt, fi_lt, ti_le, fi_le, ti_eq, fi_eq, ↓reduceIte, ite_true, ite_false, eq_self, decide_true, decide_false, Bool.true_and, Bool.and_true, Bool.false_and, Bool.and_false, Bool.true_or, Bool.or_true, Bool.false_or, Bool.or_false, bI_t, bI_f, bI_nand, n_mod, an11, an01, negn1, negn2, false_and, and_false, true_and, and_true, not_true_eq_false, not_false_eq_true, bI_n0, bI_n1, Bool.true_eq_false, Bool.false_eq_true, cI_s, cL_s, cV_s, cR_n, pm_bR_self, bI_ite, bL_ite, bV_ite, bR_ite, E_X9_meansAlone_8, E_X9_meansAlone_15, E_X9_meansAlone_90, E_X9_meansAlone_63, m1, m2, q4]
  · have q5 : (c (100+(4*s+k))).val = 5 := by omega
    have w5 := w4 q5
    have u2 := (hA _ w5).1
    simp (disch := omega) only [y_0, y_1, y_2, y_3, y_4, y_5, y_6, y_7, y_8, y_9, y_10, y_11, y_12, y_13, y_14, y_15, y_16, y_17, y_18, y_19, y_20, y_21, y_22, y_23, y_24, y_29, y_30, y_31, y_32, y_39, y_40, y_48, y_49, y_50, y_60, y_64, y_69, y_78, y_99, y_100, y_142, y_161, y_600, y_610, y_894, y_999, y_1000, y_1216, y_1276, neg1, neg2, nI_add, nI_mul, nn_sub, nn_lt, nn_le, nn_eq, in_lt, ni_lt, in_le, ni_le, in_eq, ni_eq, iI_lt, iI_le, iI_eq, nn_clamp, inb_n, t_lt, f_lt, t_le, f_le, t_eq, f_eq, ti_lt, fi_lt, ti_le, fi_le, ti_eq, fi_eq, ↓reduceIte, ite_true, ite_false, eq_self, decide_true, decide_false, Bool.true_and, Bool.and_true, Bool.false_and, Bool.and_false, Bool.true_or, Bool.or_true, Bool.false_or, Bool.or_false, bI_t, bI_f, bI_nand, n_mod, an11, an01, negn1, negn2, false_and, and_false, true_and, and_true, not_true_eq_false, not_false_eq_true, bI_n0, bI_n1, Bool.true_eq_false, Bool.false_eq_true, cI_s, cL_s, cV_s, cR_n, pm_bR_self, bI_ite, bL_ite, bV_ite, bR_ite, E_X9_meansAlone_8, E_X9_meansAlone_15, E_X9_meansAlone_90, E_X9_meansAlone_63, m1, m2, q5, u2]
/-- what a man aboard means -/
theorem means_M {h : PH} {c : AC} (hv : cV c) (hA : AliveM h c) {s k hr ab : Nat} (hab : h.1 8 0 19 = nI ab) (hab2 : ab < 16) (hs : s < (c (6)).val) (hk : k < (c (80+s)).val) (hh : hr < 24) (hb : ab.testBit k = true) :
    pm_ev (193, 0, [vr 8 0, vi (nI s), vi (nI k), vi (nI hr), none], [], h) = some (some (vi (nI (aMean (lullA c s ab) s k hr))), h) := by
  have e1 := meansAlone_M hv hA hs hk hh
  have e0 := meansAlone_M hv hA (k := 0) hs (by omega) hh
  rw [Nat.mul_zero, Nat.add_zero, Nat.add_zero] at e0
  obtain ⟨s2, hM⟩ := hA s hs
  obtain ⟨m1, m2, m3⟩ := hM k hk
  obtain ⟨n1, n2, n3⟩ := hM 0 (by omega)
  rw [Nat.mul_zero, Nat.add_zero, Nat.add_zero] at n1
  have hV1 := hv.1
  obtain ⟨_, _, _, _, v5, v6⟩ := hv.2.2.1 s hs
  obtain ⟨w1, w2, w3, w4⟩ := v6 k hk
  have w0 := (v6 0 (by omega)).2.1
  rw [Nat.add_zero] at w0
  have lk : lullA c s ab (100 + (4*s+k)) = c (100 + (4*s+k)) := by rw [lullA_k c s ab k (by omega), if_pos hb]
  have l0 := lullA_k c s ab 0 (by decide)
  rw [Nat.add_zero] at l0
  rw [E_X9_means]
  unfold aMean
  rw [lk]
  by_cases q1 : (c (100+(4*s+k))).val = 1
  · rw [if_pos q1]
    by_cases q0 : k = 0
    · subst q0
      rw [Nat.add_zero] at q1
      rw [if_pos hb] at l0
      simp (disch := omega) only [y_0, y_1, y_2, y_3, y_4, y_5, y_6, y_7, y_8, y_9, y_10, y_11, y_12, y_13, y_14, y_15, y_16, y_17, y_18, y_19, y_20, y_21, y_22, y_23, y_24, y_29, y_30, y_31, y_32, y_39, y_40, y_48, y_49, y_50, y_60, y_64, y_69, y_78, y_99, y_100, y_142, y_161, y_600, y_610, y_894, y_999, y_1000, y_1216, y_1276, neg1, neg2, nI_add, nI_mul, nn_sub, nn_lt, nn_le, nn_eq, in_lt, ni_lt, in_le, ni_le, in_eq, ni_eq, iI_lt, iI_le, iI_eq, nn_clamp, inb_n, t_lt, f_lt, t_le, f_le, t_eq, f_eq, ti_lt, fi_lt, ti_le, fi_le, ti_eq, fi_eq, ↓reduceIte, ite_true, ite_false, eq_self, decide_true, decide_false, Bool.true_and, Bool.and_true, Bool.false_and, Bool.and_false, Bool.true_or, Bool.or_true, Bool.false_or, Bool.or_false, bI_t, bI_f, bI_nand, n_mod, an11, an01, negn1, negn2, false_and, and_false, true_and, and_true, not_true_eq_false, not_false_eq_true, bI_n0, bI_n1, Bool.true_eq_false, Bool.false_eq_true, cI_s, cL_s, cV_s, cR_n, pm_bR_self, bI_ite, bL_ite, bV_ite, bR_ite, E_X9_means_17, n1, q1, Nat.mul_zero, Nat.add_zero]
      congr 4
      unfold aMean1
      rw [l0]
      simp [q1]
    · by_cases qb : ab.testBit 0 = true
      · rw [if_pos qb] at l0
        simp (disch := omega) only [y_0, y_1, y_2, y_3, y_4, y_5, y_6, y_7, y_8, y_9, y_10, y_11, y_12, y_13, y_14, y_15, y_16, y_17, y_18, y_19, y_20, y_21, y_22, y_23, y_24, y_29, y_30, y_31, y_32, y_39, y_40, y_48, y_49, y_50, y_60, y_64, y_69, y_78, y_99, y_100, y_142, y_161, y_600, y_610, y_894, y_999, y_1000, y_1216, y_1276, neg1, neg2, nI_add, nI_mul, nn_sub, nn_lt, nn_le, nn_eq, in_lt, ni_lt, in_le, ni_le, in_eq, ni_eq, iI_lt, iI_le, iI_eq, nn_clamp, inb_n, t_lt, f_lt, t_le, f_le, t_eq, f_eq, ti_lt, fi_lt, ti_le, fi_le, ti_eq, fi_eq, ↓reduceIte, ite_true, ite_false, eq_self, decide_true, decide_false, Bool.true_and, Bool.and_true, Bool.false_and, Bool.and_false, Bool.true_or, Bool.or_true, Bool.false_or, Bool.or_false, bI_t, bI_f, bI_nand, n_mod, an11, an01, negn1, negn2, false_and, and_false, true_and, and_true, not_true_eq_false, not_false_eq_true, bI_n0, bI_n1, Bool.true_eq_false, Bool.false_eq_true, cI_s, cL_s, cV_s, cR_n, pm_bR_self, bI_ite, bL_ite, bV_ite, bR_ite, E_X9_means_17, m1, q1, hab, nn_and, and_1, bI_n0, qb, Bool.true_eq_false, e0]
        congr 4
        unfold aMean1
        rw [l0, lullA_o c s ab (120 + 4*s) (by omega), lullA_o c s ab (140 + 4*s) (by omega), lullA_o c s ab (60 + _) (by omega)]
      · have qb : ab.testBit 0 = false := by simpa using qb
        rw [if_neg (by rw [qb]; decide)] at l0
        simp (disch := omega) only [y_0, y_1, y_2, y_3, y_4, y_5, y_6, y_7, y_8, y_9, y_10, y_11, y_12, y_13, y_14, y_15, y_16, y_17, y_18, y_19, y_20, y_21, y_22, y_23, y_24, y_29, y_30, y_31, y_32, y_39, y_40, y_48, y_49, y_50, y_60, y_64, y_69, y_78, y_99, y_100, y_142, y_161, y_600, y_610, y_894, y_999, y_1000, y_1216, y_1276, neg1, neg2, nI_add, nI_mul, nn_sub, nn_lt, nn_le, nn_eq, in_lt, ni_lt, in_le, ni_le, in_eq, ni_eq, iI_lt, iI_le, iI_eq, nn_clamp, inb_n, t_lt, f_lt, t_le, f_le, t_eq, f_eq, ti_lt, fi_lt, ti_le, fi_le, ti_eq, fi_eq, ↓reduceIte, ite_true, ite_false, eq_self, decide_true, decide_false, Bool.true_and, Bool.and_true, Bool.false_and, Bool.and_false, Bool.true_or, Bool.or_true, Bool.false_or, Bool.or_false, bI_t, bI_f, bI_nand, n_mod, an11, an01, negn1, negn2, false_and, and_false, true_and, and_true, not_true_eq_false, not_false_eq_true, bI_n0, bI_n1, Bool.true_eq_false, Bool.false_eq_true, cI_s, cL_s, cV_s, cR_n, pm_bR_self, bI_ite, bL_ite, bV_ite, bR_ite, E_X9_means_17, m1, q1, hab, nn_and, and_1, bI_n0, qb]
        congr 4
        unfold aMean1
        rw [l0]
        rfl
  · rw [if_neg q1]
    simp (disch := omega) only [y_0, y_1, y_2, y_3, y_4, y_5, y_6, y_7, y_8, y_9, y_10, y_11, y_12, y_13, y_14, y_15, y_16, y_17, y_18, y_19, y_20, y_21, y_22, y_23, y_24, y_29, y_30, y_31, y_32, y_39, y_40, y_48, y_49, y_50, y_60, y_64, y_69, y_78, y_99, y_100, y_142, y_161, y_600, y_610, y_894, y_999, y_1000, y_1216, y_1276, neg1, neg2, nI_add, nI_mul, nn_sub, nn_lt, nn_le, nn_eq, in_lt, ni_lt, in_le, ni_le, in_eq, ni_eq, iI_lt, iI_le, iI_eq, nn_clamp, inb_n, t_lt, f_lt, t_le, f_le, t_eq, f_eq, ti_lt, fi_lt, ti_le, fi_le, ti_eq, fi_eq, ↓reduceIte, ite_true, ite_false, eq_self, decide_true, decide_false, Bool.true_and, Bool.and_true, Bool.false_and, Bool.and_false, Bool.true_or, Bool.or_true, Bool.false_or, Bool.or_false, bI_t, bI_f, bI_nand, n_mod, an11, an01, negn1, negn2, false_and, and_false, true_and, and_true, not_true_eq_false, not_false_eq_true, bI_n0, bI_n1, Bool.true_eq_false, Bool.false_eq_true, cI_s, cL_s, cV_s, cR_n, pm_bR_self, bI_ite, bL_ite, bV_ite, bR_ite, E_X9_means_17, m1, e1]
    congr 4
    unfold aMean1
    rw [lk, lullA_o c s ab (120 + (4*s+k)) (by omega), lullA_o c s ab (140 + (4*s+k)) (by omega), lullA_o c s ab (60 + _) (by omega)]
theorem mean_not {c : AC} {s k hr ab : Nat} (hk : k < 4) (hb : ab.testBit k = false) : aMean (lullA c s ab) s k hr = 0 := by
  have lk : lullA c s ab (100 + (4*s+k)) = 4 := by rw [lullA_k c s ab k hk, if_neg (by rw [hb]; decide)]
  unfold aMean
  rw [lk, if_neg (by decide)]
  unfold aMean1
  rw [lk]
  rfl
theorem bit_M {h : PH} {ab k : Nat} (hab : h.1 8 0 19 = nI ab) (hab2 : ab < 16) (hk : k < 32) : h.1 8 0 19 >>> (nI k &&& nI 31) &&& nI 1 = bI (ab.testBit k) := by
  rw [hab, nn_and, shr_n (by omega) hk, nn_and, bit_i]
theorem harm_M19 {h : PH} {a : Nat} {c : AC} (hv : cV c) (hm : ModS h a c) (hA : AliveM h c) {s hr ab : Nat} (hab : h.1 8 0 19 = nI ab) (hab2 : ab < 16) (hs : s < (c (6)).val) (hh : hr < 24) :
    ∀ r k, k + r = (c (80+s)).val → pm_ev (194, 19, [vr 8 0, vi (nI s), vi (nI hr), vi (iI (((c (60+s)).val : Int) - 2 * (c (70+s)).val + fb_sm (fun k => aMean (lullA c s ab) s k hr) k)), vi (nI k)], [], h) = some (some (vi (nI (aHarm (lullA c s ab) s hr))), h) := by
  have hV1 := hv.1
  obtain ⟨_, _, _, _, v5, v6⟩ := hv.2.2.1 s hs
  have o3 := of_M3 hv hm hs
  have l6 : lullA c s ab (60+s) = c (60+s) := lullA_o _ _ _ _ (by omega)
  have l7 : lullA c s ab (70+s) = c (70+s) := lullA_o _ _ _ _ (by omega)
  have l8 : lullA c s ab (80+s) = c (80+s) := lullA_o _ _ _ _ (by omega)
  intro r
  induction r with
  | zero =>
    intro k hk
    have hk : k = (c (80+s)).val := by omega
    subst hk
    have hb := aSum_lt (lullA c s ab) s hr (c (80+s)).val
    rw [E_X9_harmOf_19]
    unfold aHarm
    rw [l6, l7, l8]
    by_cases q : 0 < ((c (60+s)).val : Int) - 2 * (c (70+s)).val + fb_sm (fun k => aMean (lullA c s ab) s k hr) (c (80+s)).val
    · simp (disch := omega) only [y_0, y_1, y_2, y_3, y_4, y_5, y_6, y_7, y_8, y_9, y_10, y_11, y_12, y_13, y_14, y_15, y_16, y_17, y_18, y_19, y_20, y_21, y_22, y_23, y_24, y_29, y_30, y_31, y_32, y_39, y_40, y_48, y_49, y_50, y_60, y_64, y_69, y_78, y_99, y_100, y_142, y_161, y_600, y_610, y_894, y_999, y_1000, y_1216, y_1276, neg1, neg2, nI_add, nI_mul, nn_sub, nn_lt, nn_le, nn_eq, in_lt, ni_lt, in_le, ni_le, in_eq, ni_eq, iI_lt, iI_le, iI_eq, nn_clamp, inb_n, t_lt, f_lt, t_le, f_le, t_eq, f_eq, ti_lt, fi_lt, ti_le, fi_le, ti_eq, fi_eq, ↓reduceIte, ite_true, ite_false, eq_self, decide_true, decide_false, Bool.true_and, Bool.and_true, Bool.false_and, Bool.and_false, Bool.true_or, Bool.or_true, Bool.false_or, Bool.or_false, bI_t, bI_f, bI_nand, n_mod, an11, an01, negn1, negn2, false_and, and_false, true_and, and_true, not_true_eq_false, not_false_eq_true, bI_n0, bI_n1, Bool.true_eq_false, Bool.false_eq_true, cI_s, cL_s, cV_s, cR_n, pm_bR_self, bI_ite, bL_ite, bV_ite, bR_ite, E_X9_harmOf_6, E_X9_harmOf_52, o3]
      rw [iI_toNat (by omega), show (((c (60+s)).val : Int) - 2 * (c (70+s)).val + fb_sm (fun k => aMean (lullA c s ab) s k hr) (c (80+s)).val).toNat = (c (60+s)).val + fb_sm (fun k => aMean (lullA c s ab) s k hr) (c (80+s)).val - 2 * (c (70+s)).val by omega]
    · simp (disch := omega) only [y_0, y_1, y_2, y_3, y_4, y_5, y_6, y_7, y_8, y_9, y_10, y_11, y_12, y_13, y_14, y_15, y_16, y_17, y_18, y_19, y_20, y_21, y_22, y_23, y_24, y_29, y_30, y_31, y_32, y_39, y_40, y_48, y_49, y_50, y_60, y_64, y_69, y_78, y_99, y_100, y_142, y_161, y_600, y_610, y_894, y_999, y_1000, y_1216, y_1276, neg1, neg2, nI_add, nI_mul, nn_sub, nn_lt, nn_le, nn_eq, in_lt, ni_lt, in_le, ni_le, in_eq, ni_eq, iI_lt, iI_le, iI_eq, nn_clamp, inb_n, t_lt, f_lt, t_le, f_le, t_eq, f_eq, ti_lt, fi_lt, ti_le, fi_le, ti_eq, fi_eq, ↓reduceIte, ite_true, ite_false, eq_self, decide_true, decide_false, Bool.true_and, Bool.and_true, Bool.false_and, Bool.and_false, Bool.true_or, Bool.or_true, Bool.false_or, Bool.or_false, bI_t, bI_f, bI_nand, n_mod, an11, an01, negn1, negn2, false_and, and_false, true_and, and_true, not_true_eq_false, not_false_eq_true, bI_n0, bI_n1, Bool.true_eq_false, Bool.false_eq_true, cI_s, cL_s, cV_s, cR_n, pm_bR_self, bI_ite, bL_ite, bV_ite, bR_ite, E_X9_harmOf_6, E_X9_harmOf_52, o3]
      rw [show (c (60+s)).val + fb_sm (fun k => aMean (lullA c s ab) s k hr) (c (80+s)).val - 2 * (c (70+s)).val = 0 by omega]
  | succ r ih =>
    intro k hk
    have e := ih (k + 1) (by omega)
    rw [fb_sm_succ, Int.natCast_add, ← Int.add_assoc] at e
    have hb := bit_M hab hab2 (show k < 32 by omega)
    rw [E_X9_harmOf_19]
    cases q : ab.testBit k with
    | true =>
      rw [q] at hb
      simp (disch := omega) only [y_0, y_1, y_2, y_3, y_4, y_5, y_6, y_7, y_8, y_9, y_10, y_11, y_12, y_13, y_14, y_15, y_16, y_17, y_18, y_19, y_20, y_21, y_22, y_23, y_24, y_29, y_30, y_31, y_32, y_39, y_40, y_48, y_49, y_50, y_60, y_64, y_69, y_78, y_99, y_100, y_142, y_161, y_600, y_610, y_894, y_999, y_1000, y_1216, y_1276, neg1, neg2, nI_add, nI_mul, nn_sub, nn_lt, nn_le, nn_eq, in_lt, ni_lt, in_le, ni_le, in_eq, ni_eq, iI_lt, iI_le, iI_eq, nn_clamp, inb_n, t_lt, f_lt, t_le, f_le, t_eq, f_eq, ti_lt, fi_lt, ti_le, fi_le, ti_eq, fi_eq, ↓reduceIte, ite_true, ite_false, eq_self, decide_true, decide_false, Bool.true_and, Bool.and_true, Bool.false_and, Bool.and_false, Bool.true_or, Bool.or_true, Bool.false_or, Bool.or_false, bI_t, bI_f, bI_nand, n_mod, an11, an01, negn1, negn2, false_and, and_false, true_and, and_true, not_true_eq_false, not_false_eq_true, bI_n0, bI_n1, Bool.true_eq_false, Bool.false_eq_true, cI_s, cL_s, cV_s, cR_n, pm_bR_self, bI_ite, bL_ite, bV_ite, bR_ite, E_X9_harmOf_6, E_X9_harmOf_52, o3, hb, bI_t, means_M hv hA hab hab2 hs (show k < (c (80+s)).val by omega) hh q, iI_addn]
      exact e
    | false =>
      rw [q] at hb
      rw [mean_not (by omega) q] at e
      simp (disch := omega) only [y_0, y_1, y_2, y_3, y_4, y_5, y_6, y_7, y_8, y_9, y_10, y_11, y_12, y_13, y_14, y_15, y_16, y_17, y_18, y_19, y_20, y_21, y_22, y_23, y_24, y_29, y_30, y_31, y_32, y_39, y_40, y_48, y_49, y_50, y_60, y_64, y_69, y_78, y_99, y_100, y_142, y_161, y_600, y_610, y_894, y_999, y_1000, y_1216, y_1276, neg1, neg2, nI_add, nI_mul, nn_sub, nn_lt, nn_le, nn_eq, in_lt, ni_lt, in_le, ni_le, in_eq, ni_eq, iI_lt, iI_le, iI_eq, nn_clamp, inb_n, t_lt, f_lt, t_le, f_le, t_eq, f_eq, ti_lt, fi_lt, ti_le, fi_le, ti_eq, fi_eq, ↓reduceIte, ite_true, ite_false, eq_self, decide_true, decide_false, Bool.true_and, Bool.and_true, Bool.false_and, Bool.and_false, Bool.true_or, Bool.or_true, Bool.false_or, Bool.or_false, bI_t, bI_f, bI_nand, n_mod, an11, an01, negn1, negn2, false_and, and_false, true_and, and_true, not_true_eq_false, not_false_eq_true, bI_n0, bI_n1, Bool.true_eq_false, Bool.false_eq_true, cI_s, cL_s, cV_s, cR_n, pm_bR_self, bI_ite, bL_ite, bV_ite, bR_ite, E_X9_harmOf_6, E_X9_harmOf_52, o3, hb, bI_f, iI_addn]
      exact e
theorem harm_M {h : PH} {a : Nat} {c : AC} (hv : cV c) (hm : ModS h a c) (hA : AliveM h c) {s hr ab : Nat} (hab : h.1 8 0 19 = nI ab) (hab2 : ab < 16) (hs : s < (c (6)).val) (hh : hr < 24) :
    pm_ev (194, 0, [vr 8 0, vi (nI s), vi (nI hr), none, none], [], h) = some (some (vi (nI (aHarm (lullA c s ab) s hr))), h) := by
  have e := harm_M19 hv hm hA hab hab2 hs hh _ 0 (Nat.zero_add _)
  have s2 := (hA s hs).1
  have hV1 := hv.1
  rw [E_X9_harmOf]
  simp (disch := omega) only [y_0, y_1, y_2, y_3, y_4, y_5, y_6, y_7, y_8, y_9, y_10, y_11, y_12, y_13, y_14, y_15, y_16, y_17, y_18, y_19, y_20, y_21, y_22, y_23, y_24, y_29, y_30, y_31, y_32, y_39, y_40, y_48, y_49, y_50, y_60, y_64, y_69, y_78, y_99, y_100, y_142, y_161, y_600, y_610, y_894, y_999, y_1000, y_1216, y_1276, neg1, neg2, nI_add, nI_mul, nn_sub, nn_lt, nn_le, nn_eq, in_lt, ni_lt, in_le, ni_le, in_eq, ni_eq, iI_lt, iI_le, iI_eq, nn_clamp, inb_n, t_lt, f_lt, t_le, f_le, t_eq, f_eq, ti_lt, fi_lt, ti_le, fi_le, ti_eq, fi_eq, ↓reduceIte, ite_true, ite_false, eq_self, decide_true, decide_false, Bool.true_and, Bool.and_true, Bool.false_and, Bool.and_false, Bool.true_or, Bool.or_true, Bool.false_or, Bool.or_false, bI_t, bI_f, bI_nand, n_mod, an11, an01, negn1, negn2, false_and, and_false, true_and, and_true, not_true_eq_false, not_false_eq_true, bI_n0, bI_n1, Bool.true_eq_false, Bool.false_eq_true, cI_s, cL_s, cV_s, cR_n, pm_bR_self, bI_ite, bL_ite, bV_ite, bR_ite, E_X9_harmOf_6, E_X9_harmOf_52, of_M2 hv hm hs, s2, nI_sub]
  rw [show (((c (60+s)).val : Int) - ((2 * (c (70+s)).val : Nat) : Int)) = ((c (60+s)).val : Int) - 2 * (c (70+s)).val + (fb_sm (fun k => aMean (lullA c s ab) s k hr) 0 : Nat) by simp [fb_sm]]
  exact e
theorem flick_M {c : AC} {s hr ab k : Nat} (hk : k < 4) : aFlick (lullA c s ab) s hr k = (ab.testBit k && (decide ((c (100+(4*s+k))).val ≠ 4) && decide (aMean (lullA c s ab) s k hr = 0))) := by
  unfold aFlick
  rw [lullA_k c s ab k hk]
  cases q : ab.testBit k
  · rfl
  · rfl
theorem light_M27 {h : PH} {a : Nat} {c : AC} (hv : cV c) (hm : ModS h a c) (hA : AliveM h c) {s hr ab : Nat} (hab : h.1 8 0 19 = nI ab) (hab2 : ab < 16) (hs : s < (c (6)).val) (hh : hr < 24) :
    ∀ r k, k + r = (c (80+s)).val → pm_ev (195, 27, [vr 8 0, vi (nI s), vi (nI hr), vi (bI (anyB (aFlick (lullA c s ab) s hr) k)), vi (nI k)], [], h) = some (some (vi (nI (if anyB (aFlick (lullA c s ab) s hr) (c (80+s)).val then 1 else 2))), h) := by
  have hV1 := hv.1
  obtain ⟨_, _, _, _, v5, v6⟩ := hv.2.2.1 s hs
  have o3 := of_M3 hv hm hs
  intro r
  induction r with
  | zero =>
    intro k hk
    have hk : k = (c (80+s)).val := by omega
    subst hk
    rw [E_X9_lightOf_27]
    cases q : anyB (aFlick (lullA c s ab) s hr) (c (80+s)).val
    · simp (disch := omega) only [y_0, y_1, y_2, y_3, y_4, y_5, y_6, y_7, y_8, y_9, y_10, y_11, y_12, y_13, y_14, y_15, y_16, y_17, y_18, y_19, y_20, y_21, y_22, y_23, y_24, y_29, y_30, y_31, y_32, y_39, y_40, y_48, y_49, y_50, y_60, y_64, y_69, y_78, y_99, y_100, y_142, y_161, y_600, y_610, y_894, y_999, y_1000, y_1216, y_1276, neg1, neg2, nI_add, nI_mul, nn_sub, nn_lt, nn_le, nn_eq, in_lt, ni_lt, in_le, ni_le, in_eq, ni_eq, iI_lt, iI_le, iI_eq, nn_clamp, inb_n, t_lt, f_lt, t_le, f_le, t_eq, f_eq, ti_lt, fi_lt, ti_le, fi_le, ti_eq, fi_eq, ↓reduceIte, ite_true, ite_false, eq_self, decide_true, decide_false, Bool.true_and, Bool.and_true, Bool.false_and, Bool.and_false, Bool.true_or, Bool.or_true, Bool.false_or, Bool.or_false, bI_t, bI_f, bI_nand, n_mod, an11, an01, negn1, negn2, false_and, and_false, true_and, and_true, not_true_eq_false, not_false_eq_true, bI_n0, bI_n1, Bool.true_eq_false, Bool.false_eq_true, cI_s, cL_s, cV_s, cR_n, pm_bR_self, bI_ite, bL_ite, bV_ite, bR_ite, E_X9_lightOf_17, E_X9_lightOf_69, o3, bI_n0, Bool.false_eq_true]
    · simp (disch := omega) only [y_0, y_1, y_2, y_3, y_4, y_5, y_6, y_7, y_8, y_9, y_10, y_11, y_12, y_13, y_14, y_15, y_16, y_17, y_18, y_19, y_20, y_21, y_22, y_23, y_24, y_29, y_30, y_31, y_32, y_39, y_40, y_48, y_49, y_50, y_60, y_64, y_69, y_78, y_99, y_100, y_142, y_161, y_600, y_610, y_894, y_999, y_1000, y_1216, y_1276, neg1, neg2, nI_add, nI_mul, nn_sub, nn_lt, nn_le, nn_eq, in_lt, ni_lt, in_le, ni_le, in_eq, ni_eq, iI_lt, iI_le, iI_eq, nn_clamp, inb_n, t_lt, f_lt, t_le, f_le, t_eq, f_eq, ti_lt, fi_lt, ti_le, fi_le, ti_eq, fi_eq, ↓reduceIte, ite_true, ite_false, eq_self, decide_true, decide_false, Bool.true_and, Bool.and_true, Bool.false_and, Bool.and_false, Bool.true_or, Bool.or_true, Bool.false_or, Bool.or_false, bI_t, bI_f, bI_nand, n_mod, an11, an01, negn1, negn2, false_and, and_false, true_and, and_true, not_true_eq_false, not_false_eq_true, bI_n0, bI_n1, Bool.true_eq_false, Bool.false_eq_true, cI_s, cL_s, cV_s, cR_n, pm_bR_self, bI_ite, bL_ite, bV_ite, bR_ite, E_X9_lightOf_17, E_X9_lightOf_69, o3, bI_n0, Bool.true_eq_false]
  | succ r ih =>
    intro k hk
    have e := ih (k + 1) (by omega)
    have hb := bit_M hab hab2 (show k < 32 by omega)
    have hk2 : k < (c (80+s)).val := by omega
    obtain ⟨m1, m2, m3⟩ := (hA s hs).2 k hk2
    have hl := aMean_lt (lullA c s ab) s k hr
    have w := v6 k hk2
    rw [anyB, flick_M (show k < 4 by omega)] at e
    rw [E_X9_lightOf_27]
    cases q : anyB (aFlick (lullA c s ab) s hr) k with
    | true =>
      rw [q] at e
      simp (disch := omega) only [y_0, y_1, y_2, y_3, y_4, y_5, y_6, y_7, y_8, y_9, y_10, y_11, y_12, y_13, y_14, y_15, y_16, y_17, y_18, y_19, y_20, y_21, y_22, y_23, y_24, y_29, y_30, y_31, y_32, y_39, y_40, y_48, y_49, y_50, y_60, y_64, y_69, y_78, y_99, y_100, y_142, y_161, y_600, y_610, y_894, y_999, y_1000, y_1216, y_1276, neg1, neg2, nI_add, nI_mul, nn_sub, nn_lt, nn_le, nn_eq, in_lt, ni_lt, in_le, ni_le, in_eq, ni_eq, iI_lt, iI_le, iI_eq, nn_clamp, inb_n, t_lt, f_lt, t_le, f_le, t_eq, f_eq, ti_lt, fi_lt, ti_le, fi_le, ti_eq, fi_eq, ↓reduceIte, ite_true, ite_false, eq_self, decide_true, decide_false, Bool.true_and, Bool.and_true, Bool.false_and, Bool.and_false, Bool.true_or, Bool.or_true, Bool.false_or, Bool.or_false, bI_t, bI_f, bI_nand, n_mod, an11, an01, negn1, negn2, false_and, and_false, true_and, and_true, not_true_eq_false, not_false_eq_true, bI_n0, bI_n1, Bool.true_eq_false, Bool.false_eq_true, cI_s, cL_s, cV_s, cR_n, pm_bR_self, bI_ite, bL_ite, bV_ite, bR_ite, E_X9_lightOf_17, E_X9_lightOf_69, o3, bI_n0, Bool.true_eq_false]
      exact e
    | false =>
      rw [q] at e
      cases qb : ab.testBit k with
      | false =>
        rw [qb] at e hb
        simp (disch := omega) only [y_0, y_1, y_2, y_3, y_4, y_5, y_6, y_7, y_8, y_9, y_10, y_11, y_12, y_13, y_14, y_15, y_16, y_17, y_18, y_19, y_20, y_21, y_22, y_23, y_24, y_29, y_30, y_31, y_32, y_39, y_40, y_48, y_49, y_50, y_60, y_64, y_69, y_78, y_99, y_100, y_142, y_161, y_600, y_610, y_894, y_999, y_1000, y_1216, y_1276, neg1, neg2, nI_add, nI_mul, nn_sub, nn_lt, nn_le, nn_eq, in_lt, ni_lt, in_le, ni_le, in_eq, ni_eq, iI_lt, iI_le, iI_eq, nn_clamp, inb_n, t_lt, f_lt, t_le, f_le, t_eq, f_eq, ti_lt, fi_lt, ti_le, fi_le, ti_eq, fi_eq, ↓reduceIte, ite_true, ite_false, eq_self, decide_true, decide_false, Bool.true_and, Bool.and_true, Bool.false_and, Bool.and_false, Bool.true_or, Bool.or_true, Bool.false_or, Bool.or_false, bI_t, bI_f, bI_nand, n_mod, an11, an01, negn1, negn2, false_and, and_false, true_and, and_true, not_true_eq_false, not_false_eq_true, bI_n0, bI_n1, Bool.true_eq_false, Bool.false_eq_true, cI_s, cL_s, cV_s, cR_n, pm_bR_self, bI_ite, bL_ite, bV_ite, bR_ite, E_X9_lightOf_17, E_X9_lightOf_69, o3, bI_n0, hb, bI_f]
        exact e
      | true =>
        rw [qb] at e hb
        by_cases q4 : (c (100+(4*s+k))).val = 4
        · rw [decide_eq_false (by omega : ¬ (c (100+(4*s+k))).val ≠ 4)] at e
          simp (disch := omega) only [y_0, y_1, y_2, y_3, y_4, y_5, y_6, y_7, y_8, y_9, y_10, y_11, y_12, y_13, y_14, y_15, y_16, y_17, y_18, y_19, y_20, y_21, y_22, y_23, y_24, y_29, y_30, y_31, y_32, y_39, y_40, y_48, y_49, y_50, y_60, y_64, y_69, y_78, y_99, y_100, y_142, y_161, y_600, y_610, y_894, y_999, y_1000, y_1216, y_1276, neg1, neg2, nI_add, nI_mul, nn_sub, nn_lt, nn_le, nn_eq, in_lt, ni_lt, in_le, ni_le, in_eq, ni_eq, iI_lt, iI_le, iI_eq, nn_clamp, inb_n, t_lt, f_lt, t_le, f_le, t_eq, f_eq, ti_lt, fi_lt, ti_le, fi_le, ti_eq, fi_eq, ↓reduceIte, ite_true, ite_false, eq_self, decide_true, decide_false, Bool.true_and, Bool.and_true, Bool.false_and, Bool.and_false, Bool.true_or, Bool.or_true, Bool.false_or, Bool.or_false, bI_t, bI_f, bI_nand, n_mod, an11, an01, negn1, negn2, false_and, and_false, true_and, and_true, not_true_eq_false, not_false_eq_true, bI_n0, bI_n1, Bool.true_eq_false, Bool.false_eq_true, cI_s, cL_s, cV_s, cR_n, pm_bR_self, bI_ite, bL_ite, bV_ite, bR_ite, E_X9_lightOf_17, E_X9_lightOf_69, o3, bI_n0, hb, bI_t, m1]
          exact e
        · rw [decide_eq_true q4] at e
          by_cases qm : aMean (lullA c s ab) s k hr = 0
          · rw [decide_eq_true qm] at e
            simp (disch := omega) only [y_0, y_1, y_2, y_3, y_4, y_5, y_6, y_7, y_8, y_9, y_10, y_11, y_12, y_13, y_14, y_15, y_16, y_17, y_18, y_19, y_20, y_21, y_22, y_23, y_24, y_29, y_30, y_31, y_32, y_39, y_40, y_48, y_49, y_50, y_60, y_64, y_69, y_78, y_99, y_100, y_142, y_161, y_600, y_610, y_894, y_999, y_1000, y_1216, y_1276, neg1, neg2, nI_add, nI_mul, nn_sub, nn_lt, nn_le, nn_eq, in_lt, ni_lt, in_le, ni_le, in_eq, ni_eq, iI_lt, iI_le, iI_eq, nn_clamp, inb_n, t_lt, f_lt, t_le, f_le, t_eq, f_eq, ti_lt, fi_lt, ti_le, fi_le, ti_eq, fi_eq, ↓reduceIte, ite_true, ite_false, eq_self, decide_true, decide_false, Bool.true_and, Bool.and_true, Bool.false_and, Bool.and_false, Bool.true_or, Bool.or_true, Bool.false_or, Bool.or_false, bI_t, bI_f, bI_nand, n_mod, an11, an01, negn1, negn2, false_and, and_false, true_and, and_true, not_true_eq_false, not_false_eq_true, bI_n0, bI_n1, Bool.true_eq_false, Bool.false_eq_true, cI_s, cL_s, cV_s, cR_n, pm_bR_self, bI_ite, bL_ite, bV_ite, bR_ite, E_X9_lightOf_17, E_X9_lightOf_69, o3, bI_n0, hb, bI_t, m1, means_M hv hA hab hab2 hs hk2 hh qb]
            exact e
          · rw [decide_eq_false qm] at e
            simp (disch := omega) only [y_0, y_1, y_2, y_3, y_4, y_5, y_6, y_7, y_8, y_9, y_10, y_11, y_12, y_13, y_14, y_15, y_16, y_17, y_18, y_19, y_20, y_21, y_22, y_23, y_24, y_29, y_30, y_31, y_32, y_39, y_40, y_48, y_49, y_50, y_60, y_64, y_69, y_78, y_99, y_100, y_142, y_161, y_600, y_610, y_894, y_999, y_1000, y_1216, y_1276, neg1, neg2, nI_add, nI_mul, nn_sub, nn_lt, nn_le, nn_eq, in_lt, ni_lt, in_le, ni_le, in_eq, ni_eq, iI_lt, iI_le, iI_eq, nn_clamp, inb_n, t_lt, f_lt, t_le, f_le, t_eq, f_eq, ti_lt, fi_lt, ti_le, fi_le, ti_eq, fi_eq, ↓reduceIte, ite_true, ite_false, eq_self, decide_true, decide_false, Bool.true_and, Bool.and_true, Bool.false_and, Bool.and_false, Bool.true_or, Bool.or_true, Bool.false_or, Bool.or_false, bI_t, bI_f, bI_nand, n_mod, an11, an01, negn1, negn2, false_and, and_false, true_and, and_true, not_true_eq_false, not_false_eq_true, bI_n0, bI_n1, Bool.true_eq_false, Bool.false_eq_true, cI_s, cL_s, cV_s, cR_n, pm_bR_self, bI_ite, bL_ite, bV_ite, bR_ite, E_X9_lightOf_17, E_X9_lightOf_69, o3, bI_n0, hb, bI_t, m1, means_M hv hA hab hab2 hs hk2 hh qb]
            exact e
theorem light_M {h : PH} {a : Nat} {c : AC} (hv : cV c) (hm : ModS h a c) (hA : AliveM h c) {s hr ab : Nat} (hab : h.1 8 0 19 = nI ab) (hab2 : ab < 16) (hs : s < (c (6)).val) (hh : hr < 24) :
    pm_ev (195, 0, [vr 8 0, vi (nI s), vi (nI hr), none, none], [], h) = some (some (vi (nI (aGlow (lullA c s ab) s hr))), h) := by
  have e := light_M27 hv hm hA hab hab2 hs hh _ 0 (Nat.zero_add _)
  have hV1 := hv.1
  obtain ⟨⟨⟨_, _, _, a3, _, _, ha⟩, _⟩, a1, _⟩ := id hm
  have l4 : lullA c s ab 4 = c 4 := lullA_o _ _ _ _ (by omega)
  have l8 : lullA c s ab (80+s) = c (80+s) := lullA_o _ _ _ _ (by omega)
  have hb := aHarm_lt (lullA c s ab) s hr (by rw [l8]; exact (hv.2.2.1 s hs).2.2.2.2.1)
  rw [E_X9_lightOf]
  unfold aGlow
  rw [l4, l8]
  by_cases q : aHarm (lullA c s ab) s hr < (c (4)).val
  · simp (disch := omega) only [y_0, y_1, y_2, y_3, y_4, y_5, y_6, y_7, y_8, y_9, y_10, y_11, y_12, y_13, y_14, y_15, y_16, y_17, y_18, y_19, y_20, y_21, y_22, y_23, y_24, y_29, y_30, y_31, y_32, y_39, y_40, y_48, y_49, y_50, y_60, y_64, y_69, y_78, y_99, y_100, y_142, y_161, y_600, y_610, y_894, y_999, y_1000, y_1216, y_1276, neg1, neg2, nI_add, nI_mul, nn_sub, nn_lt, nn_le, nn_eq, in_lt, ni_lt, in_le, ni_le, in_eq, ni_eq, iI_lt, iI_le, iI_eq, nn_clamp, inb_n, t_lt, f_lt, t_le, f_le, t_eq, f_eq, ti_lt, fi_lt, ti_le, fi_le, ti_eq, fi_eq, ↓reduceIte, ite_true, ite_false, eq_self, decide_true, decide_false, Bool.true_and, Bool.and_true, Bool.false_and, Bool.and_false, Bool.true_or, Bool.or_true, Bool.false_or, Bool.or_false, bI_t, bI_f, bI_nand, n_mod, an11, an01, negn1, negn2, false_and, and_false, true_and, and_true, not_true_eq_false, not_false_eq_true, bI_n0, bI_n1, Bool.true_eq_false, Bool.false_eq_true, cI_s, cL_s, cV_s, cR_n, pm_bR_self, bI_ite, bL_ite, bV_ite, bR_ite, E_X9_lightOf_17, E_X9_lightOf_69, harm_M hv hm hA hab hab2 hs hh, a1, a3]
  · simp (disch := omega) only [y_0, y_1, y_2, y_3, y_4, y_5, y_6, y_7, y_8, y_9, y_10, y_11, y_12, y_13, y_14, y_15, y_16, y_17, y_18, y_19, y_20, y_21, y_22, y_23, y_24, y_29, y_30, y_31, y_32, y_39, y_40, y_48, y_49, y_50, y_60, y_64, y_69, y_78, y_99, y_100, y_142, y_161, y_600, y_610, y_894, y_999, y_1000, y_1216, y_1276, neg1, neg2, nI_add, nI_mul, nn_sub, nn_lt, nn_le, nn_eq, in_lt, ni_lt, in_le, ni_le, in_eq, ni_eq, iI_lt, iI_le, iI_eq, nn_clamp, inb_n, t_lt, f_lt, t_le, f_le, t_eq, f_eq, ti_lt, fi_lt, ti_le, fi_le, ti_eq, fi_eq, ↓reduceIte, ite_true, ite_false, eq_self, decide_true, decide_false, Bool.true_and, Bool.and_true, Bool.false_and, Bool.and_false, Bool.true_or, Bool.or_true, Bool.false_or, Bool.or_false, bI_t, bI_f, bI_nand, n_mod, an11, an01, negn1, negn2, false_and, and_false, true_and, and_true, not_true_eq_false, not_false_eq_true, bI_n0, bI_n1, Bool.true_eq_false, Bool.false_eq_true, cI_s, cL_s, cV_s, cR_n, pm_bR_self, bI_ite, bL_ite, bV_ite, bR_ite, E_X9_lightOf_17, E_X9_lightOf_69, harm_M hv hm hA hab hab2 hs hh, a1, a3]
    exact e
theorem isLit_M {h : PH} {a : Nat} {c : AC} (hv : cV c) (hm : ModS h a c) (hA : AliveM h c) {s hr ab : Nat} (hab : h.1 8 0 19 = nI ab) (hab2 : ab < 16) (hs : s < (c (6)).val) (hh : hr < 24) :
    pm_ev (196, 0, [vr 8 0, vi (nI s), vi (nI hr), none], [], h) = some (some (vi (bI (aLit (lullA c s ab) s hr))), h) := by
  have hg := aGlow_lt (lullA c s ab) s hr
  rw [E_X9_isLit]
  unfold aLit
  by_cases q2 : aGlow (lullA c s ab) s hr = 2
  · simp (disch := omega) only [y_0, y_1, y_2, y_3, y_4, y_5, y_6, y_7, y_8, y_9, y_10, y_11, y_12, y_13, y_14, y_15, y_16, y_17, y_18, y_19, y_20, y_21, y_22, y_23, y_24, y_29, y_30, y_31, y_32, y_39, y_40, y_48, y_49, y_50, y_60, y_64, y_69, y_78, y_99, y_100, y_142, y_161, y_600, y_610, y_894, y_999, y_1000, y_1216, y_1276, neg1, neg2, nI_add, nI_mul, nn_sub, nn_lt, nn_le, nn_eq, in_lt, ni_lt, in_le, ni_le, in_eq, ni_eq, iI_lt, iI_le, iI_eq, nn_clamp, inb_n, t_lt, f_lt, t_le, f_le, t_eq, f_eq, ti_lt, fi_lt, ti_le, fi_le, ti_eq, fi_eq, ↓reduceIte, ite_true, ite_false, eq_self, decide_true, decide_false, Bool.true_and, Bool.and_true, Bool.false_and, Bool.and_false, Bool.true_or, Bool.or_true, Bool.false_or, Bool.or_false, bI_t, bI_f, bI_nand, n_mod, an11, an01, negn1, negn2, false_and, and_false, true_and, and_true, not_true_eq_false, not_false_eq_true, bI_n0, bI_n1, Bool.true_eq_false, Bool.false_eq_true, cI_s, cL_s, cV_s, cR_n, pm_bR_self, bI_ite, bL_ite, bV_ite, bR_ite, light_M hv hm hA hab hab2 hs hh, q2, decide_true, Bool.true_or, bI_t]
  by_cases q1 : aGlow (lullA c s ab) s hr = 1
  · by_cases q : hr % 2 = 0
    · simp (disch := omega) only [y_0, y_1, y_2, y_3, y_4, y_5, y_6, y_7, y_8, y_9, y_10, y_11, y_12, y_13, y_14, y_15, y_16, y_17, y_18, y_19, y_20, y_21, y_22, y_23, y_24, y_29, y_30, y_31, y_32, y_39, y_40, y_48, y_49, y_50, y_60, y_64, y_69, y_78, y_99, y_100, y_142, y_161, y_600, y_610, y_894, y_999, y_1000, y_1216, y_1276, neg1, neg2, nI_add, nI_mul, nn_sub, nn_lt, nn_le, nn_eq, in_lt, ni_lt, in_le, ni_le, in_eq, ni_eq, iI_lt, iI_le, iI_eq, nn_clamp, inb_n, t_lt, f_lt, t_le, f_le, t_eq, f_eq, ti_lt, fi_lt, ti_le, fi_le, ti_eq, fi_eq, ↓reduceIte, ite_true, ite_false, eq_self, decide_true, decide_false, Bool.true_and, Bool.and_true, Bool.false_and, Bool.and_false, Bool.true_or, Bool.or_true, Bool.false_or, Bool.or_false, bI_t, bI_f, bI_nand, n_mod, an11, an01, negn1, negn2, false_and, and_false, true_and, and_true, not_true_eq_false, not_false_eq_true, bI_n0, bI_n1, Bool.true_eq_false, Bool.false_eq_true, cI_s, cL_s, cV_s, cR_n, pm_bR_self, bI_ite, bL_ite, bV_ite, bR_ite, light_M hv hm hA hab hab2 hs hh, q1, nn_div, nn_rem2, decide_true, decide_false, Bool.true_and, Bool.false_or, Bool.or_true, bI_t]
    · simp (disch := omega) only [y_0, y_1, y_2, y_3, y_4, y_5, y_6, y_7, y_8, y_9, y_10, y_11, y_12, y_13, y_14, y_15, y_16, y_17, y_18, y_19, y_20, y_21, y_22, y_23, y_24, y_29, y_30, y_31, y_32, y_39, y_40, y_48, y_49, y_50, y_60, y_64, y_69, y_78, y_99, y_100, y_142, y_161, y_600, y_610, y_894, y_999, y_1000, y_1216, y_1276, neg1, neg2, nI_add, nI_mul, nn_sub, nn_lt, nn_le, nn_eq, in_lt, ni_lt, in_le, ni_le, in_eq, ni_eq, iI_lt, iI_le, iI_eq, nn_clamp, inb_n, t_lt, f_lt, t_le, f_le, t_eq, f_eq, ti_lt, fi_lt, ti_le, fi_le, ti_eq, fi_eq, ↓reduceIte, ite_true, ite_false, eq_self, decide_true, decide_false, Bool.true_and, Bool.and_true, Bool.false_and, Bool.and_false, Bool.true_or, Bool.or_true, Bool.false_or, Bool.or_false, bI_t, bI_f, bI_nand, n_mod, an11, an01, negn1, negn2, false_and, and_false, true_and, and_true, not_true_eq_false, not_false_eq_true, bI_n0, bI_n1, Bool.true_eq_false, Bool.false_eq_true, cI_s, cL_s, cV_s, cR_n, pm_bR_self, bI_ite, bL_ite, bV_ite, bR_ite, light_M hv hm hA hab hab2 hs hh, q1, nn_div, nn_rem2, decide_true, decide_false, Bool.and_false, Bool.false_or, Bool.or_true, bI_f]
  · simp (disch := omega) only [y_0, y_1, y_2, y_3, y_4, y_5, y_6, y_7, y_8, y_9, y_10, y_11, y_12, y_13, y_14, y_15, y_16, y_17, y_18, y_19, y_20, y_21, y_22, y_23, y_24, y_29, y_30, y_31, y_32, y_39, y_40, y_48, y_49, y_50, y_60, y_64, y_69, y_78, y_99, y_100, y_142, y_161, y_600, y_610, y_894, y_999, y_1000, y_1216, y_1276, neg1, neg2, nI_add, nI_mul, nn_sub, nn_lt, nn_le, nn_eq, in_lt, ni_lt, in_le, ni_le, in_eq, ni_eq, iI_lt, iI_le, iI_eq, nn_clamp, inb_n, t_lt, f_lt, t_le, f_le, t_eq, f_eq, ti_lt, fi_lt, ti_le, fi_le, ti_eq, fi_eq, ↓reduceIte, ite_true, ite_false, eq_self, decide_true, decide_false, Bool.true_and, Bool.and_true, Bool.false_and, Bool.and_false, Bool.true_or, Bool.or_true, Bool.false_or, Bool.or_false, bI_t, bI_f, bI_nand, n_mod, an11, an01, negn1, negn2, false_and, and_false, true_and, and_true, not_true_eq_false, not_false_eq_true, bI_n0, bI_n1, Bool.true_eq_false, Bool.false_eq_true, cI_s, cL_s, cV_s, cR_n, pm_bR_self, bI_ite, bL_ite, bV_ite, bR_ite, light_M hv hm hA hab hab2 hs hh, decide_false, Bool.false_and, Bool.false_or, bI_f]
/-! with all aboard -/
theorem means_M15 {h : PH} {c : AC} (hv : cV c) (hA : AliveM h c) {s k hr : Nat} (hab : h.1 8 0 19 = nI 15) (hs : s < (c (6)).val) (hk : k < (c (80+s)).val) (hh : hr < 24) :
    pm_ev (193, 0, [vr 8 0, vi (nI s), vi (nI k), vi (nI hr), none], [], h) = some (some (vi (nI (aMean c s k hr))), h) := by
  have h4 := (hv.2.2.1 s hs).2.2.2.2.1
  have e := means_M hv hA hab (by decide) hs hk hh ((by decide : ∀ k, k < 4 → (15 : Nat).testBit k = true) k (by omega))
  rwa [lullA_15] at e
theorem harm_M15 {h : PH} {a : Nat} {c : AC} (hv : cV c) (hm : ModS h a c) (hA : AliveM h c) {s hr : Nat} (hab : h.1 8 0 19 = nI 15) (hs : s < (c (6)).val) (hh : hr < 24) :
    pm_ev (194, 0, [vr 8 0, vi (nI s), vi (nI hr), none, none], [], h) = some (some (vi (nI (aHarm c s hr))), h) := by
  have e := harm_M hv hm hA hab (by decide) hs hh
  rwa [lullA_15] at e
theorem light_M15 {h : PH} {a : Nat} {c : AC} (hv : cV c) (hm : ModS h a c) (hA : AliveM h c) {s hr : Nat} (hab : h.1 8 0 19 = nI 15) (hs : s < (c (6)).val) (hh : hr < 24) :
    pm_ev (195, 0, [vr 8 0, vi (nI s), vi (nI hr), none, none], [], h) = some (some (vi (nI (aGlow c s hr))), h) := by
  have e := light_M hv hm hA hab (by decide) hs hh
  rwa [lullA_15] at e
theorem isLit_M15 {h : PH} {a : Nat} {c : AC} (hv : cV c) (hm : ModS h a c) (hA : AliveM h c) {s hr : Nat} (hab : h.1 8 0 19 = nI 15) (hs : s < (c (6)).val) (hh : hr < 24) :
    pm_ev (196, 0, [vr 8 0, vi (nI s), vi (nI hr), none], [], h) = some (some (vi (bI (aLit c s hr))), h) := by
  have e := isLit_M hv hm hA hab (by decide) hs hh
  rwa [lullA_15] at e
