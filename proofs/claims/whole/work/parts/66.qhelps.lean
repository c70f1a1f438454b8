theorem q_helps {h : PH} (hI : NowC h) (a b d e w : Int32) : Same2 (fun h => (120, 0, [vr 7 0, vi a, vi b, vi d, vi e, vi w, none], [], h)) (fun h => (229, 0, [vr 8 0, vi a, vi b, vi d, vi e, vi w], [], h)) h := by
  refine ask1 hI (w := vi (iI (-1))) (E_X8_helps h a b d e w) (fun h => E_X9_helps h a b d e w) (fun h => by rw [E_X8_isVoyage_n, bI_s, if_pos rfl, E_X8_helps_25]; rfl) (fun _ => rfl) (fun k co ek hk hv hC => ?_)
  have hV1 := hv.1
  have hWb := WH_le hv
  rcases ix b (show (co (6)).val < 2147483648 by omega) with ⟨z, rfl, z1, z2⟩ | ⟨s, rfl, k1, k2⟩ | ⟨s, rfl, hs⟩
  · refine ⟨vi (iI (-1)), h, ?_, Fr.rfl', fun g hm hd => ⟨g, ?_, Fr.rfl'⟩⟩
    · simp (disch := omega) only [y_0, y_1, y_2, y_3, y_4, y_5, y_6, y_7, y_8, y_9, y_10, y_11, y_12, y_13, y_14, y_15, y_16, y_17, y_18, y_19, y_20, y_21, y_22, y_23, y_24, y_29, y_30, y_31, y_32, y_39, y_40, y_48, y_49, y_50, y_60, y_64, y_69, y_78, y_99, y_100, y_142, y_161, y_600, y_610, y_894, y_999, y_1000, y_1216, y_1276, neg1, neg2, nI_add, nI_mul, nn_sub, nn_lt, nn_le, nn_eq, in_lt, ni_lt, in_le, ni_le, in_eq, ni_eq, iI_lt, iI_le, iI_eq, nn_clamp, inb_n, t_lt, f_lt, t_le, f_le, t_eq, f_eq, ti_lt, fi_lt, ti_le, fi_le, ti_eq, fi_eq, ↓reduceIte, ite_true, ite_false, eq_self, decide_true, decide_false, Bool.true_and, Bool.and_true, Bool.false_and, Bool.and_false, Bool.true_or, Bool.or_true, Bool.false_or, Bool.or_false, bI_t, bI_f, bI_nand, n_mod, an11, an01, negn1, negn2, false_and, and_false, true_and, and_true, not_true_eq_false, not_false_eq_true, bI_n0, bI_n1, Bool.true_eq_false, Bool.false_eq_true, cI_s, cL_s, cV_s, cR_n, pm_bR_self, bI_ite, bL_ite, bV_ite, bR_ite, E_X8_helps_25, E_X8_helps_27, E_X8_helps_27_v1, E_X8_helps_45, E_X8_helps_135, E_X8_helps_124, E_X8_helps_111, E_X8_helps_101, E_X8_helps_91, E_X8_helps_80, E_X8_isVoyage_n, E_X9_helps_13, E_X9_helps_32, E_X9_lulledOf_35, E_X9_lulledOf_87, E_X9_lulledOf_101, E_X9_takenOf_35, E_X8_isVoyage, hasShip_C hC]
    · simp (disch := omega) only [y_0, y_1, y_2, y_3, y_4, y_5, y_6, y_7, y_8, y_9, y_10, y_11, y_12, y_13, y_14, y_15, y_16, y_17, y_18, y_19, y_20, y_21, y_22, y_23, y_24, y_29, y_30, y_31, y_32, y_39, y_40, y_48, y_49, y_50, y_60, y_64, y_69, y_78, y_99, y_100, y_142, y_161, y_600, y_610, y_894, y_999, y_1000, y_1216, y_1276, neg1, neg2, nI_add, nI_mul, nn_sub, nn_lt, nn_le, nn_eq, in_lt, ni_lt, in_le, ni_le, in_eq, ni_eq, iI_lt, iI_le, iI_eq, nn_clamp, inb_n, t_lt, f_lt, t_le, f_le, t_eq, f_eq, ti_lt, fi_lt, ti_le, fi_le, ti_eq, fi_eq, ↓reduceIte, ite_true, ite_false, eq_self, decide_true, decide_false, Bool.true_and, Bool.and_true, Bool.false_and, Bool.and_false, Bool.true_or, Bool.or_true, Bool.false_or, Bool.or_false, bI_t, bI_f, bI_nand, n_mod, an11, an01, negn1, negn2, false_and, and_false, true_and, and_true, not_true_eq_false, not_false_eq_true, bI_n0, bI_n1, Bool.true_eq_false, Bool.false_eq_true, cI_s, cL_s, cV_s, cR_n, pm_bR_self, bI_ite, bL_ite, bV_ite, bR_ite, E_X8_helps_25, E_X8_helps_27, E_X8_helps_27_v1, E_X8_helps_45, E_X8_helps_135, E_X8_helps_124, E_X8_helps_111, E_X8_helps_101, E_X8_helps_91, E_X8_helps_80, E_X8_isVoyage_n, E_X9_helps_13, E_X9_helps_32, E_X9_lulledOf_35, E_X9_lulledOf_87, E_X9_lulledOf_101, E_X9_takenOf_35, isShip_M hm]
  · refine ⟨vi (iI (-1)), h, ?_, Fr.rfl', fun g hm hd => ⟨g, ?_, Fr.rfl'⟩⟩
    · simp (disch := omega) only [y_0, y_1, y_2, y_3, y_4, y_5, y_6, y_7, y_8, y_9, y_10, y_11, y_12, y_13, y_14, y_15, y_16, y_17, y_18, y_19, y_20, y_21, y_22, y_23, y_24, y_29, y_30, y_31, y_32, y_39, y_40, y_48, y_49, y_50, y_60, y_64, y_69, y_78, y_99, y_100, y_142, y_161, y_600, y_610, y_894, y_999, y_1000, y_1216, y_1276, neg1, neg2, nI_add, nI_mul, nn_sub, nn_lt, nn_le, nn_eq, in_lt, ni_lt, in_le, ni_le, in_eq, ni_eq, iI_lt, iI_le, iI_eq, nn_clamp, inb_n, t_lt, f_lt, t_le, f_le, t_eq, f_eq, ti_lt, fi_lt, ti_le, fi_le, ti_eq, fi_eq, ↓reduceIte, ite_true, ite_false, eq_self, decide_true, decide_false, Bool.true_and, Bool.and_true, Bool.false_and, Bool.and_false, Bool.true_or, Bool.or_true, Bool.false_or, Bool.or_false, bI_t, bI_f, bI_nand, n_mod, an11, an01, negn1, negn2, false_and, and_false, true_and, and_true, not_true_eq_false, not_false_eq_true, bI_n0, bI_n1, Bool.true_eq_false, Bool.false_eq_true, cI_s, cL_s, cV_s, cR_n, pm_bR_self, bI_ite, bL_ite, bV_ite, bR_ite, E_X8_helps_25, E_X8_helps_27, E_X8_helps_27_v1, E_X8_helps_45, E_X8_helps_135, E_X8_helps_124, E_X8_helps_111, E_X8_helps_101, E_X8_helps_91, E_X8_helps_80, E_X8_isVoyage_n, E_X9_helps_13, E_X9_helps_32, E_X9_lulledOf_35, E_X9_lulledOf_87, E_X9_lulledOf_101, E_X9_takenOf_35, E_X8_isVoyage, hasShip_Cn hC]
    · simp (disch := omega) only [y_0, y_1, y_2, y_3, y_4, y_5, y_6, y_7, y_8, y_9, y_10, y_11, y_12, y_13, y_14, y_15, y_16, y_17, y_18, y_19, y_20, y_21, y_22, y_23, y_24, y_29, y_30, y_31, y_32, y_39, y_40, y_48, y_49, y_50, y_60, y_64, y_69, y_78, y_99, y_100, y_142, y_161, y_600, y_610, y_894, y_999, y_1000, y_1216, y_1276, neg1, neg2, nI_add, nI_mul, nn_sub, nn_lt, nn_le, nn_eq, in_lt, ni_lt, in_le, ni_le, in_eq, ni_eq, iI_lt, iI_le, iI_eq, nn_clamp, inb_n, t_lt, f_lt, t_le, f_le, t_eq, f_eq, ti_lt, fi_lt, ti_le, fi_le, ti_eq, fi_eq, ↓reduceIte, ite_true, ite_false, eq_self, decide_true, decide_false, Bool.true_and, Bool.and_true, Bool.false_and, Bool.and_false, Bool.true_or, Bool.or_true, Bool.false_or, Bool.or_false, bI_t, bI_f, bI_nand, n_mod, an11, an01, negn1, negn2, false_and, and_false, true_and, and_true, not_true_eq_false, not_false_eq_true, bI_n0, bI_n1, Bool.true_eq_false, Bool.false_eq_true, cI_s, cL_s, cV_s, cR_n, pm_bR_self, bI_ite, bL_ite, bV_ite, bR_ite, E_X8_helps_25, E_X8_helps_27, E_X8_helps_27_v1, E_X8_helps_45, E_X8_helps_135, E_X8_helps_124, E_X8_helps_111, E_X8_helps_101, E_X8_helps_91, E_X8_helps_80, E_X8_isVoyage_n, E_X9_helps_13, E_X9_helps_32, E_X9_lulledOf_35, E_X9_lulledOf_87, E_X9_lulledOf_101, E_X9_takenOf_35, isShip_Mn hm]
  rcases ix d (show (co (0)).val * (co (1)).val < 2147483648 by omega) with ⟨z, rfl, z1, z2⟩ | ⟨n, rfl, k1, k2⟩ | ⟨n, rfl, hn⟩
  · refine ⟨vi (iI (-1)), h, ?_, Fr.rfl', fun g hm hd => ⟨g, ?_, Fr.rfl'⟩⟩
    · have iv : pm_ev (144, 0, [vr 0 k, vi (nI s), vi (iI z)], [], h) = some (some (vi (nI 0)), h) := by
        rw [E_X8_isVoyage]
        simp (disch := omega) only [y_0, y_1, y_2, y_3, y_4, y_5, y_6, y_7, y_8, y_9, y_10, y_11, y_12, y_13, y_14, y_15, y_16, y_17, y_18, y_19, y_20, y_21, y_22, y_23, y_24, y_29, y_30, y_31, y_32, y_39, y_40, y_48, y_49, y_50, y_60, y_64, y_69, y_78, y_99, y_100, y_142, y_161, y_600, y_610, y_894, y_999, y_1000, y_1216, y_1276, neg1, neg2, nI_add, nI_mul, nn_sub, nn_lt, nn_le, nn_eq, in_lt, ni_lt, in_le, ni_le, in_eq, ni_eq, iI_lt, iI_le, iI_eq, nn_clamp, inb_n, t_lt, f_lt, t_le, f_le, t_eq, f_eq, ti_lt, fi_lt, ti_le, fi_le, ti_eq, fi_eq, ↓reduceIte, ite_true, ite_false, eq_self, decide_true, decide_false, Bool.true_and, Bool.and_true, Bool.false_and, Bool.and_false, Bool.true_or, Bool.or_true, Bool.false_or, Bool.or_false, bI_t, bI_f, bI_nand, n_mod, an11, an01, negn1, negn2, false_and, and_false, true_and, and_true, not_true_eq_false, not_false_eq_true, bI_n0, bI_n1, Bool.true_eq_false, Bool.false_eq_true, cI_s, cL_s, cV_s, cR_n, pm_bR_self, bI_ite, bL_ite, bV_ite, bR_ite, hasShip_Cn hC, spotOf_neg hv hC z1 z2]
      rw [iv, cI_s, if_pos (by rfl), E_X8_helps_25]
      rfl
    · have iS := isShip_Mn hm (show s < 2147483648 by omega)
      rw [decide_eq_true hs] at iS
      rw [iS, cI_s, E_X9_helps_13, if_neg (by decide), isCell_M hv hm z1 z2, cI_s, if_pos (by rfl)]
      rfl
  · refine ⟨vi (iI (-1)), h, ?_, Fr.rfl', fun g hm hd => ⟨g, ?_, Fr.rfl'⟩⟩
    · have iv : pm_ev (144, 0, [vr 0 k, vi (nI s), vi (nI n)], [], h) = some (some (vi (nI 0)), h) := by
        rw [E_X8_isVoyage]
        simp (disch := omega) only [y_0, y_1, y_2, y_3, y_4, y_5, y_6, y_7, y_8, y_9, y_10, y_11, y_12, y_13, y_14, y_15, y_16, y_17, y_18, y_19, y_20, y_21, y_22, y_23, y_24, y_29, y_30, y_31, y_32, y_39, y_40, y_48, y_49, y_50, y_60, y_64, y_69, y_78, y_99, y_100, y_142, y_161, y_600, y_610, y_894, y_999, y_1000, y_1216, y_1276, neg1, neg2, nI_add, nI_mul, nn_sub, nn_lt, nn_le, nn_eq, in_lt, ni_lt, in_le, ni_le, in_eq, ni_eq, iI_lt, iI_le, iI_eq, nn_clamp, inb_n, t_lt, f_lt, t_le, f_le, t_eq, f_eq, ti_lt, fi_lt, ti_le, fi_le, ti_eq, fi_eq, ↓reduceIte, ite_true, ite_false, eq_self, decide_true, decide_false, Bool.true_and, Bool.and_true, Bool.false_and, Bool.and_false, Bool.true_or, Bool.or_true, Bool.false_or, Bool.or_false, bI_t, bI_f, bI_nand, n_mod, an11, an01, negn1, negn2, false_and, and_false, true_and, and_true, not_true_eq_false, not_false_eq_true, bI_n0, bI_n1, Bool.true_eq_false, Bool.false_eq_true, cI_s, cL_s, cV_s, cR_n, pm_bR_self, bI_ite, bL_ite, bV_ite, bR_ite, hasShip_Cn hC, spotOf_big hv hC k1 k2]
      rw [iv, cI_s, if_pos (by rfl), E_X8_helps_25]
      rfl
    · have ic := isCell_Mn hv hm k2
      rw [decide_eq_false (by omega)] at ic
      have iS := isShip_Mn hm (show s < 2147483648 by omega)
      rw [decide_eq_true hs] at iS
      rw [iS, cI_s, E_X9_helps_13, if_neg (by decide), ic, cI_s, if_pos (by rfl)]
      rfl
  obtain ⟨x1, x2, x3⟩ := cell_xy (show 0 < (co (0)).val by omega) hn
  have sp := spotOf_C hv hC hn
  have hsp : 8 * (n / (co (0)).val) + n % (co (0)).val < 64 := by omega
  have ic : ∀ g, ModS g (610 + 142 * k) co → pm_ev (186, 0, [vr 8 0, vi (nI n)], [], g) = some (some (vi (nI 1)), g) := fun g hm => by
    have := isCell_Mn hv hm (show n < 2147483648 by omega)
    rw [decide_eq_true hn] at this
    exact this
  have n64 : n < 64 := by omega
  rcases ix e (show 61 < 2147483648 by omega) with ⟨z, rfl, z1, z2⟩ | ⟨m, rfl, k1, k2⟩ | ⟨m, rfl, hm61⟩
  · refine ⟨vi (iI (-1)), h, ?_, Fr.rfl', fun g hm hd => ⟨g, ?_, Fr.rfl'⟩⟩
    · clear x3
      generalize n % (co (0)).val = gx at *
      generalize n / (co (0)).val = gy at *
      simp (disch := omega) only [y_0, y_1, y_2, y_3, y_4, y_5, y_6, y_7, y_8, y_9, y_10, y_11, y_12, y_13, y_14, y_15, y_16, y_17, y_18, y_19, y_20, y_21, y_22, y_23, y_24, y_29, y_30, y_31, y_32, y_39, y_40, y_48, y_49, y_50, y_60, y_64, y_69, y_78, y_99, y_100, y_142, y_161, y_600, y_610, y_894, y_999, y_1000, y_1216, y_1276, neg1, neg2, nI_add, nI_mul, nn_sub, nn_lt, nn_le, nn_eq, in_lt, ni_lt, in_le, ni_le, in_eq, ni_eq, iI_lt, iI_le, iI_eq, nn_clamp, inb_n, t_lt, f_lt, t_le, f_le, t_eq, f_eq, ti_lt, fi_lt, ti_le, fi_le, ti_eq, fi_eq, ↓reduceIte, ite_true, ite_false, eq_self, decide_true, decide_false, Bool.true_and, Bool.and_true, Bool.false_and, Bool.and_false, Bool.true_or, Bool.or_true, Bool.false_or, Bool.or_false, bI_t, bI_f, bI_nand, n_mod, an11, an01, negn1, negn2, false_and, and_false, true_and, and_true, not_true_eq_false, not_false_eq_true, bI_n0, bI_n1, Bool.true_eq_false, Bool.false_eq_true, cI_s, cL_s, cV_s, cR_n, pm_bR_self, bI_ite, bL_ite, bV_ite, bR_ite, E_X8_helps_25, E_X8_helps_27, E_X8_helps_27_v1, E_X8_helps_45, E_X8_helps_135, E_X8_helps_124, E_X8_helps_111, E_X8_helps_101, E_X8_helps_91, E_X8_helps_80, E_X8_isVoyage_n, E_X9_helps_13, E_X9_helps_32, E_X9_lulledOf_35, E_X9_lulledOf_87, E_X9_lulledOf_101, E_X9_takenOf_35, E_X8_isVoyage, hasShip_Cn hC, sp, E_X8_isLength]
    · simp (disch := omega) only [y_0, y_1, y_2, y_3, y_4, y_5, y_6, y_7, y_8, y_9, y_10, y_11, y_12, y_13, y_14, y_15, y_16, y_17, y_18, y_19, y_20, y_21, y_22, y_23, y_24, y_29, y_30, y_31, y_32, y_39, y_40, y_48, y_49, y_50, y_60, y_64, y_69, y_78, y_99, y_100, y_142, y_161, y_600, y_610, y_894, y_999, y_1000, y_1216, y_1276, neg1, neg2, nI_add, nI_mul, nn_sub, nn_lt, nn_le, nn_eq, in_lt, ni_lt, in_le, ni_le, in_eq, ni_eq, iI_lt, iI_le, iI_eq, nn_clamp, inb_n, t_lt, f_lt, t_le, f_le, t_eq, f_eq, ti_lt, fi_lt, ti_le, fi_le, ti_eq, fi_eq, ↓reduceIte, ite_true, ite_false, eq_self, decide_true, decide_false, Bool.true_and, Bool.and_true, Bool.false_and, Bool.and_false, Bool.true_or, Bool.or_true, Bool.false_or, Bool.or_false, bI_t, bI_f, bI_nand, n_mod, an11, an01, negn1, negn2, false_and, and_false, true_and, and_true, not_true_eq_false, not_false_eq_true, bI_n0, bI_n1, Bool.true_eq_false, Bool.false_eq_true, cI_s, cL_s, cV_s, cR_n, pm_bR_self, bI_ite, bL_ite, bV_ite, bR_ite, E_X8_helps_25, E_X8_helps_27, E_X8_helps_27_v1, E_X8_helps_45, E_X8_helps_135, E_X8_helps_124, E_X8_helps_111, E_X8_helps_101, E_X8_helps_91, E_X8_helps_80, E_X8_isVoyage_n, E_X9_helps_13, E_X9_helps_32, E_X9_lulledOf_35, E_X9_lulledOf_87, E_X9_lulledOf_101, E_X9_takenOf_35, isShip_Mn hm, ic g hm, isIn_inn]
  · refine ⟨vi (iI (-1)), h, ?_, Fr.rfl', fun g hm hd => ⟨g, ?_, Fr.rfl'⟩⟩
    · clear x3
      generalize n % (co (0)).val = gx at *
      generalize n / (co (0)).val = gy at *
      simp (disch := omega) only [y_0, y_1, y_2, y_3, y_4, y_5, y_6, y_7, y_8, y_9, y_10, y_11, y_12, y_13, y_14, y_15, y_16, y_17, y_18, y_19, y_20, y_21, y_22, y_23, y_24, y_29, y_30, y_31, y_32, y_39, y_40, y_48, y_49, y_50, y_60, y_64, y_69, y_78, y_99, y_100, y_142, y_161, y_600, y_610, y_894, y_999, y_1000, y_1216, y_1276, neg1, neg2, nI_add, nI_mul, nn_sub, nn_lt, nn_le, nn_eq, in_lt, ni_lt, in_le, ni_le, in_eq, ni_eq, iI_lt, iI_le, iI_eq, nn_clamp, inb_n, t_lt, f_lt, t_le, f_le, t_eq, f_eq, ti_lt, fi_lt, ti_le, fi_le, ti_eq, fi_eq, ↓reduceIte, ite_true, ite_false, eq_self, decide_true, decide_false, Bool.true_and, Bool.and_true, Bool.false_and, Bool.and_false, Bool.true_or, Bool.or_true, Bool.false_or, Bool.or_false, bI_t, bI_f, bI_nand, n_mod, an11, an01, negn1, negn2, false_and, and_false, true_and, and_true, not_true_eq_false, not_false_eq_true, bI_n0, bI_n1, Bool.true_eq_false, Bool.false_eq_true, cI_s, cL_s, cV_s, cR_n, pm_bR_self, bI_ite, bL_ite, bV_ite, bR_ite, E_X8_helps_25, E_X8_helps_27, E_X8_helps_27_v1, E_X8_helps_45, E_X8_helps_135, E_X8_helps_124, E_X8_helps_111, E_X8_helps_101, E_X8_helps_91, E_X8_helps_80, E_X8_isVoyage_n, E_X9_helps_13, E_X9_helps_32, E_X9_lulledOf_35, E_X9_lulledOf_87, E_X9_lulledOf_101, E_X9_takenOf_35, E_X8_isVoyage, hasShip_Cn hC, sp, E_X8_isLength]
    · simp (disch := omega) only [y_0, y_1, y_2, y_3, y_4, y_5, y_6, y_7, y_8, y_9, y_10, y_11, y_12, y_13, y_14, y_15, y_16, y_17, y_18, y_19, y_20, y_21, y_22, y_23, y_24, y_29, y_30, y_31, y_32, y_39, y_40, y_48, y_49, y_50, y_60, y_64, y_69, y_78, y_99, y_100, y_142, y_161, y_600, y_610, y_894, y_999, y_1000, y_1216, y_1276, neg1, neg2, nI_add, nI_mul, nn_sub, nn_lt, nn_le, nn_eq, in_lt, ni_lt, in_le, ni_le, in_eq, ni_eq, iI_lt, iI_le, iI_eq, nn_clamp, inb_n, t_lt, f_lt, t_le, f_le, t_eq, f_eq, ti_lt, fi_lt, ti_le, fi_le, ti_eq, fi_eq, ↓reduceIte, ite_true, ite_false, eq_self, decide_true, decide_false, Bool.true_and, Bool.and_true, Bool.false_and, Bool.and_false, Bool.true_or, Bool.or_true, Bool.false_or, Bool.or_false, bI_t, bI_f, bI_nand, n_mod, an11, an01, negn1, negn2, false_and, and_false, true_and, and_true, not_true_eq_false, not_false_eq_true, bI_n0, bI_n1, Bool.true_eq_false, Bool.false_eq_true, cI_s, cL_s, cV_s, cR_n, pm_bR_self, bI_ite, bL_ite, bV_ite, bR_ite, E_X8_helps_25, E_X8_helps_27, E_X8_helps_27_v1, E_X8_helps_45, E_X8_helps_135, E_X8_helps_124, E_X8_helps_111, E_X8_helps_101, E_X8_helps_91, E_X8_helps_80, E_X8_isVoyage_n, E_X9_helps_13, E_X9_helps_32, E_X9_lulledOf_35, E_X9_lulledOf_87, E_X9_lulledOf_101, E_X9_takenOf_35, isShip_Mn hm, ic g hm, isIn_nnn]
  obtain ⟨h', e1, hS, f1, f2⟩ := chart_C hv hC (gx := n % (co (0)).val) (gy := n / (co (0)).val) hs (by omega) (by omega)
  have hC' := hC.ch f1 f2
  have fr1 := chart_fr f1 f2
  have hT : TrC h' k co (co (40+s)).val (co (50+s)).val (n % (co (0)).val) (n / (co (0)).val) := ⟨hS, hC'⟩
  have m99 : m < 99 := by omega
  -- both come to the question itself
  have goC : pm_ev (144, 0, [vr 0 k, vi (nI s), vi (nI n)], [], h) = some (some (vi (nI 1)), h) ∧ pm_ev (142, 0, [vi (nI m)], [], h) = some (some (vi (nI 1)), h) ∧ pm_ev (120, 27, [vr 7 0, none, vi (nI s), vi (nI n), vi (nI m), vi w, vr 0 k], [], h) = pm_ev (120, 45, [vr 7 0, none, vi (nI s), vi (nI n), vi (nI m), vi w, vr 0 k], [vi w], h') := by
    clear x3
    generalize n % (co (0)).val = gx at *
    generalize n / (co (0)).val = gy at *
    refine ⟨?_, ?_, ?_⟩
    · rw [E_X8_isVoyage]
      simp (disch := omega) only [y_0, y_1, y_2, y_3, y_4, y_5, y_6, y_7, y_8, y_9, y_10, y_11, y_12, y_13, y_14, y_15, y_16, y_17, y_18, y_19, y_20, y_21, y_22, y_23, y_24, y_29, y_30, y_31, y_32, y_39, y_40, y_48, y_49, y_50, y_60, y_64, y_69, y_78, y_99, y_100, y_142, y_161, y_600, y_610, y_894, y_999, y_1000, y_1216, y_1276, neg1, neg2, nI_add, nI_mul, nn_sub, nn_lt, nn_le, nn_eq, in_lt, ni_lt, in_le, ni_le, in_eq, ni_eq, iI_lt, iI_le, iI_eq, nn_clamp, inb_n, t_lt, f_lt, t_le, f_le, t_eq, f_eq, ti_lt, fi_lt, ti_le, fi_le, ti_eq, fi_eq, ↓reduceIte, ite_true, ite_false, eq_self, decide_true, decide_false, Bool.true_and, Bool.and_true, Bool.false_and, Bool.and_false, Bool.true_or, Bool.or_true, Bool.false_or, Bool.or_false, bI_t, bI_f, bI_nand, n_mod, an11, an01, negn1, negn2, false_and, and_false, true_and, and_true, not_true_eq_false, not_false_eq_true, bI_n0, bI_n1, Bool.true_eq_false, Bool.false_eq_true, cI_s, cL_s, cV_s, cR_n, pm_bR_self, bI_ite, bL_ite, bV_ite, bR_ite, E_X8_helps_25, E_X8_helps_27, E_X8_helps_27_v1, E_X8_helps_45, E_X8_helps_135, E_X8_helps_124, E_X8_helps_111, E_X8_helps_101, E_X8_helps_91, E_X8_helps_80, E_X8_isVoyage_n, E_X9_helps_13, E_X9_helps_32, E_X9_lulledOf_35, E_X9_lulledOf_87, E_X9_lulledOf_101, E_X9_takenOf_35, hasShip_Cn hC, sp]
    · rw [E_X8_isLength]
      simp (disch := omega) only [y_0, y_1, y_2, y_3, y_4, y_5, y_6, y_7, y_8, y_9, y_10, y_11, y_12, y_13, y_14, y_15, y_16, y_17, y_18, y_19, y_20, y_21, y_22, y_23, y_24, y_29, y_30, y_31, y_32, y_39, y_40, y_48, y_49, y_50, y_60, y_64, y_69, y_78, y_99, y_100, y_142, y_161, y_600, y_610, y_894, y_999, y_1000, y_1216, y_1276, neg1, neg2, nI_add, nI_mul, nn_sub, nn_lt, nn_le, nn_eq, in_lt, ni_lt, in_le, ni_le, in_eq, ni_eq, iI_lt, iI_le, iI_eq, nn_clamp, inb_n, t_lt, f_lt, t_le, f_le, t_eq, f_eq, ti_lt, fi_lt, ti_le, fi_le, ti_eq, fi_eq, ↓reduceIte, ite_true, ite_false, eq_self, decide_true, decide_false, Bool.true_and, Bool.and_true, Bool.false_and, Bool.and_false, Bool.true_or, Bool.or_true, Bool.false_or, Bool.or_false, bI_t, bI_f, bI_nand, n_mod, an11, an01, negn1, negn2, false_and, and_false, true_and, and_true, not_true_eq_false, not_false_eq_true, bI_n0, bI_n1, Bool.true_eq_false, Bool.false_eq_true, cI_s, cL_s, cV_s, cR_n, pm_bR_self, bI_ite, bL_ite, bV_ite, bR_ite, E_X8_helps_25, E_X8_helps_27, E_X8_helps_27_v1, E_X8_helps_45, E_X8_helps_135, E_X8_helps_124, E_X8_helps_111, E_X8_helps_101, E_X8_helps_91, E_X8_helps_80, E_X8_isVoyage_n, E_X9_helps_13, E_X9_helps_32, E_X9_lulledOf_35, E_X9_lulledOf_87, E_X9_lulledOf_101, E_X9_takenOf_35, ]
    · rw [E_X8_helps_27_v1, sp, cI_s, e1, cV_s]
  have goM : ∀ g, ModS g (610 + 142 * k) co → CoastMd g (610 + 142 * k) co → ∃ g1, pm_ev (191, 0, [vr 8 0, none], [], g) = some (none, g1) ∧ MI g1 (610 + 142 * k) co 15 ∧ Fr scM g g1 := fun g hm hd => by
    obtain ⟨g1, T, hm2, hd2, hA, h19, fr2, _⟩ := asTold_pack hv hm hd
    exact ⟨g1, T, ⟨hm2, hd2, hA, h19⟩, fr2⟩
  obtain ⟨go1, go2, go3⟩ := goC
  suffices H : ∃ v h'', pm_ev (120, 45, [vr 7 0, none, vi (nI s), vi (nI n), vi (nI m), vi w, vr 0 k], [vi w], h') = some (some v, h'') ∧ Fr scC h' h'' ∧ ∀ g0 g, pm_ev (191, 0, [vr 8 0, none], [], g0) = some (none, g) → MI g (610 + 142 * k) co 15 → ∃ g', pm_ev (229, 32, [vr 8 0, vi a, vi (nI s), vi (nI n), vi (nI m), vi w], [vi (nI 1)], g0) = some (some v, g') ∧ Fr scM g g' by
    obtain ⟨v, h'', eC, fC, K⟩ := H
    refine ⟨v, h'', ?_, fr1.tr fC, fun g hm hd => ?_⟩
    · rw [go1, cI_s, if_neg (by decide), go2, cI_s, if_neg (by decide), go3]
      exact eC
    · obtain ⟨g1, T, hI1, fr2⟩ := goM g hm hd
      obtain ⟨g2, eM, fM⟩ := K g g1 T hI1
      refine ⟨g2, ?_, fr2.tr fM⟩
      have iS := isShip_Mn hm (show s < 2147483648 by omega)
      rw [decide_eq_true hs] at iS
      have iL := isIn_nnn g (show m < 2147483648 by omega) (show 0 < 2147483648 by decide) (show 60 < 2147483648 by decide)
      rw [decide_eq_true (Nat.zero_le m), decide_eq_true (show m ≤ 60 by omega)] at iL
      rw [iS, cI_s, E_X9_helps_13, if_neg (by decide), ic g hm, cI_s, if_neg (by decide), show (0 : Int32) = nI 0 from rfl, show (60 : Int32) = nI 60 from rfl, iL, cI_s]
      exact eM
  have gx8 : n % (co (0)).val < 8 := by omega
  have gy8 : n / (co (0)).val < 8 := by omega
  have v5 := (hv.2.2.1 s hs).2.2.2.2.1
  rcases ix w (show 5 < 2147483648 by omega) with ⟨z, rfl, z1, z2⟩ | ⟨q, rfl, k1, k2⟩ | ⟨q, rfl, hq⟩
  · refine ⟨vi (iI (-1)), h', ?_, Fr.rfl', fun g0 g T _ => ⟨g, ?_, Fr.rfl'⟩⟩
    · rw [E_X8_helps_45]
      simp (disch := omega) only [y_0, y_1, y_2, y_3, y_4, y_5, y_6, y_7, y_8, y_9, y_10, y_11, y_12, y_13, y_14, y_15, y_16, y_17, y_18, y_19, y_20, y_21, y_22, y_23, y_24, y_29, y_30, y_31, y_32, y_39, y_40, y_48, y_49, y_50, y_60, y_64, y_69, y_78, y_99, y_100, y_142, y_161, y_600, y_610, y_894, y_999, y_1000, y_1216, y_1276, neg1, neg2, nI_add, nI_mul, nn_sub, nn_lt, nn_le, nn_eq, in_lt, ni_lt, in_le, ni_le, in_eq, ni_eq, iI_lt, iI_le, iI_eq, nn_clamp, inb_n, t_lt, f_lt, t_le, f_le, t_eq, f_eq, ti_lt, fi_lt, ti_le, fi_le, ti_eq, fi_eq, ↓reduceIte, ite_true, ite_false, eq_self, decide_true, decide_false, Bool.true_and, Bool.and_true, Bool.false_and, Bool.and_false, Bool.true_or, Bool.or_true, Bool.false_or, Bool.or_false, bI_t, bI_f, bI_nand, n_mod, an11, an01, negn1, negn2, false_and, and_false, true_and, and_true, not_true_eq_false, not_false_eq_true, bI_n0, bI_n1, Bool.true_eq_false, Bool.false_eq_true, cI_s, cL_s, cV_s, cR_n, pm_bR_self, bI_ite, bL_ite, bV_ite, bR_ite, E_X8_helps_135]
    · rw [E_X9_helps_32]
      simp (disch := omega) only [y_0, y_1, y_2, y_3, y_4, y_5, y_6, y_7, y_8, y_9, y_10, y_11, y_12, y_13, y_14, y_15, y_16, y_17, y_18, y_19, y_20, y_21, y_22, y_23, y_24, y_29, y_30, y_31, y_32, y_39, y_40, y_48, y_49, y_50, y_60, y_64, y_69, y_78, y_99, y_100, y_142, y_161, y_600, y_610, y_894, y_999, y_1000, y_1216, y_1276, neg1, neg2, nI_add, nI_mul, nn_sub, nn_lt, nn_le, nn_eq, in_lt, ni_lt, in_le, ni_le, in_eq, ni_eq, iI_lt, iI_le, iI_eq, nn_clamp, inb_n, t_lt, f_lt, t_le, f_le, t_eq, f_eq, ti_lt, fi_lt, ti_le, fi_le, ti_eq, fi_eq, ↓reduceIte, ite_true, ite_false, eq_self, decide_true, decide_false, Bool.true_and, Bool.and_true, Bool.false_and, Bool.and_false, Bool.true_or, Bool.or_true, Bool.false_or, Bool.or_false, bI_t, bI_f, bI_nand, n_mod, an11, an01, negn1, negn2, false_and, and_false, true_and, and_true, not_true_eq_false, not_false_eq_true, bI_n0, bI_n1, Bool.true_eq_false, Bool.false_eq_true, cI_s, cL_s, cV_s, cR_n, pm_bR_self, bI_ite, bL_ite, bV_ite, bR_ite, T]
  · refine ⟨vi (iI (-1)), h', ?_, Fr.rfl', fun g0 g T _ => ⟨g, ?_, Fr.rfl'⟩⟩
    · rw [E_X8_helps_45]
      simp (disch := omega) only [y_0, y_1, y_2, y_3, y_4, y_5, y_6, y_7, y_8, y_9, y_10, y_11, y_12, y_13, y_14, y_15, y_16, y_17, y_18, y_19, y_20, y_21, y_22, y_23, y_24, y_29, y_30, y_31, y_32, y_39, y_40, y_48, y_49, y_50, y_60, y_64, y_69, y_78, y_99, y_100, y_142, y_161, y_600, y_610, y_894, y_999, y_1000, y_1216, y_1276, neg1, neg2, nI_add, nI_mul, nn_sub, nn_lt, nn_le, nn_eq, in_lt, ni_lt, in_le, ni_le, in_eq, ni_eq, iI_lt, iI_le, iI_eq, nn_clamp, inb_n, t_lt, f_lt, t_le, f_le, t_eq, f_eq, ti_lt, fi_lt, ti_le, fi_le, ti_eq, fi_eq, ↓reduceIte, ite_true, ite_false, eq_self, decide_true, decide_false, Bool.true_and, Bool.and_true, Bool.false_and, Bool.and_false, Bool.true_or, Bool.or_true, Bool.false_or, Bool.or_false, bI_t, bI_f, bI_nand, n_mod, an11, an01, negn1, negn2, false_and, and_false, true_and, and_true, not_true_eq_false, not_false_eq_true, bI_n0, bI_n1, Bool.true_eq_false, Bool.false_eq_true, cI_s, cL_s, cV_s, cR_n, pm_bR_self, bI_ite, bL_ite, bV_ite, bR_ite, E_X8_helps_135]
    · rw [E_X9_helps_32]
      simp (disch := omega) only [y_0, y_1, y_2, y_3, y_4, y_5, y_6, y_7, y_8, y_9, y_10, y_11, y_12, y_13, y_14, y_15, y_16, y_17, y_18, y_19, y_20, y_21, y_22, y_23, y_24, y_29, y_30, y_31, y_32, y_39, y_40, y_48, y_49, y_50, y_60, y_64, y_69, y_78, y_99, y_100, y_142, y_161, y_600, y_610, y_894, y_999, y_1000, y_1216, y_1276, neg1, neg2, nI_add, nI_mul, nn_sub, nn_lt, nn_le, nn_eq, in_lt, ni_lt, in_le, ni_le, in_eq, ni_eq, iI_lt, iI_le, iI_eq, nn_clamp, inb_n, t_lt, f_lt, t_le, f_le, t_eq, f_eq, ti_lt, fi_lt, ti_le, fi_le, ti_eq, fi_eq, ↓reduceIte, ite_true, ite_false, eq_self, decide_true, decide_false, Bool.true_and, Bool.and_true, Bool.false_and, Bool.and_false, Bool.true_or, Bool.or_true, Bool.false_or, Bool.or_false, bI_t, bI_f, bI_nand, n_mod, an11, an01, negn1, negn2, false_and, and_false, true_and, and_true, not_true_eq_false, not_false_eq_true, bI_n0, bI_n1, Bool.true_eq_false, Bool.false_eq_true, cI_s, cL_s, cV_s, cR_n, pm_bR_self, bI_ite, bL_ite, bV_ite, bR_ite, T]
  have : q = 0 ∨ q = 1 ∨ q = 2 ∨ q = 3 ∨ q = 4 := by omega
  rcases this with e | e | e | e | e <;> subst e
  · obtain ⟨h'', e2, f3⟩ := fm_C (ab := 1) hv (show k < 8 by omega) hs gx8 gy8 m99 (by decide) hT
    refine ⟨vi (oN (srO (aTry co s 1 (co (40+s)).val (co (50+s)).val (n % (co (0)).val) (n / (co (0)).val) m) (2 ^ (co (80+s)).val) ((co (80+s)).val + 1) 0)), h'', ?_, f3.coC (by decide), fun g0 g T hI1 => ?_⟩
    · rw [E_X8_helps_45, if_pos (by rfl), E_X8_helps_80, show (1 : Int32) = nI 1 from rfl, e2, cI_s]
    · obtain ⟨g', e3, f4⟩ := tk_3 hv hs m99 hn _ 0 g 15 (Nat.zero_add _) hI1
      refine ⟨g', ?_, f4⟩
      rw [E_X9_helps_32, if_neg (by decide), T, cV_s, if_pos (by rfl), E_X9_takenOf, show (0 : Int32) = nI 0 from rfl, e3, cI_s]
  · by_cases h0 : (co (80+s)).val = 0
    · refine ⟨vi (iI (-1)), h', ?_, Fr.rfl', fun g0 g T hI1 => ?_⟩
      · have M := hasMan_Cn hv hC' hs (show 0 < 2147483648 by decide)
        rw [decide_eq_false (by omega)] at M
        rw [E_X8_helps_45, if_neg (by decide), if_pos (by rfl), E_X8_helps_91, E_X8_leastIll, show (0 : Int32) = nI 0 from rfl, M, cI_s, if_pos (by rfl), cI_s]
        rfl
      · obtain ⟨g', e3, f4⟩ := il_M hv hs m99 hn hI1
        rw [if_pos h0] at e3
        refine ⟨g', ?_, f4⟩
        rw [E_X9_helps_32, if_neg (by decide), T, cV_s, if_neg (by decide), if_pos (by rfl), e3, cI_s]
    · obtain ⟨h'', e2, f3⟩ := ill_C hv (show k < 8 by omega) hs (by omega) gx8 gy8 m99 hT
      refine ⟨vi (oN (fstB (aIll co s (co (40+s)).val (co (50+s)).val (n % (co (0)).val) (n / (co (0)).val) m) 10 0)), h'', ?_, f3.coC (by decide), fun g0 g T hI1 => ?_⟩
      · rw [E_X8_helps_45, if_neg (by decide), if_pos (by rfl), E_X8_helps_91, e2, cI_s]
      · obtain ⟨g', e3, f4⟩ := il_M hv hs m99 hn hI1
        rw [if_neg h0] at e3
        refine ⟨g', ?_, f4⟩
        rw [E_X9_helps_32, if_neg (by decide), T, cV_s, if_neg (by decide), if_pos (by rfl), e3, cI_s]
  · obtain ⟨h'', e2, f3⟩ := thr_C hv (show k < 8 by omega) hs gx8 gy8 m99 hT
    refine ⟨vi (oN (fstB (aThr co s (co (40+s)).val (co (50+s)).val (n % (co (0)).val) (n / (co (0)).val) m) ((co (60+s)).val + 1) 0)), h'', ?_, f3.coC (by decide), fun g0 g T hI1 => ?_⟩
    · rw [E_X8_helps_45, if_neg (by decide), if_neg (by decide), if_pos (by rfl), E_X8_helps_101, e2, cI_s]
    · obtain ⟨g', e3, f4⟩ := th_M hv hs m99 hn hI1
      refine ⟨g', ?_, f4⟩
      rw [E_X9_helps_32, if_neg (by decide), T, cV_s, if_neg (by decide), if_neg (by decide), if_pos (by rfl), e3, cI_s]
  · have tl := toLeave_C hS gx8 gy8 (p := aLit co s) m99 24 0 rfl
    have FC := first_C h' (fun b => aCome co (aLit co s) b (co (40+s)).val (co (50+s)).val (n % (co (0)).val) (n / (co (0)).val) m)
    refine ⟨vi (oN (fstB (fun b => aCome co (aLit co s) b (co (40+s)).val (co (50+s)).val (n % (co (0)).val) (n / (co (0)).val) m) 24 0)), h', ?_, Fr.rfl', fun g0 g T hI1 => ?_⟩
    · rw [E_X8_helps_45, if_neg (by decide), if_neg (by decide), if_neg (by decide), if_pos (by rfl), E_X8_helps_111, E_X8_hoursToLeave, litHours_C hv hC' hs, cI_s]
      rw [show pm_ev (148, 13, [vr 7 0, none, none, vi (nI m), vi (nI (bitsB (aLit co s) 24)), vi 0, vi 0], [], h') = _ from tl, cI_s, FC, cI_s]
    · obtain ⟨g', e3, f4⟩ := le_3 hv hs m99 hn 24 0 g rfl hI1
      refine ⟨g', ?_, f4⟩
      rw [E_X9_helps_32, if_neg (by decide), T, cV_s, if_neg (by decide), if_neg (by decide), if_neg (by decide), if_pos (by rfl), E_X9_leaveOf, show (0 : Int32) = nI 0 from rfl, e3, cI_s]
  · obtain ⟨h'', e2, f3⟩ := fm_C (ab := 0) hv (show k < 8 by omega) hs gx8 gy8 m99 (by decide) hT
    refine ⟨vi (oN (srO (aTry co s 0 (co (40+s)).val (co (50+s)).val (n % (co (0)).val) (n / (co (0)).val) m) (2 ^ (co (80+s)).val) ((co (80+s)).val + 1) 0)), h'', ?_, f3.coC (by decide), fun g0 g T hI1 => ?_⟩
    · rw [E_X8_helps_45, if_neg (by decide), if_neg (by decide), if_neg (by decide), if_neg (by decide), if_pos (by rfl), E_X8_helps_124, show (0 : Int32) = nI 0 from rfl, e2, cI_s]
    · obtain ⟨g', e3, f4⟩ := lu_3 hv hs m99 hn _ 0 g (Nat.zero_add _) hI1.1 hI1.2.1
      refine ⟨g', ?_, f4⟩
      rw [E_X9_helps_32, if_neg (by decide), T, cV_s, if_neg (by decide), if_neg (by decide), if_neg (by decide), if_neg (by decide), if_pos (by rfl), E_X9_lulledOf, show (0 : Int32) = nI 0 from rfl, e3, cI_s]
