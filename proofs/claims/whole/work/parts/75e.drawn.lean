theorem q_drawn {h : PH} (hI : NowC h) (a b d e : Int32) : Same2 (fun h => (126, 0, [vr 7 0, vi a, vi b, vi d, vi e, none], [], h)) (fun h => (263, 0, [vr 8 0, vi a, vi b, vi d, vi e, none], [], h)) h := by
  obtain ⟨nx, rd, hR⟩ := ex_rd
  refine ask1 hI (E_X8_drawn h a b d e) (fun h => E_X9_drawn h a b d e) (fun _ => rfl) (fun _ => rfl) (fun k co ek hk hv hC => ?_)
  have hV1 := hv.1
  have c8 := hC.1.2.2.2.2.2.1
  by_cases q0 : (co (6)).val = 0
  · refine ⟨vi (-2), h, ?_, Fr.rfl', fun g hm hd => ⟨g, ?_, Fr.rfl'⟩⟩
    · rw [c8, q0, if_pos (by rfl)]
    · rw [hm.2.2.2.2, q0, if_pos (by rfl)]
  · have n0 : ¬ nI (co (6)).val = 0 := fun z => q0 ((nn_eq (by omega) (by decide)).mp (z.trans (show (0 : Int32) = nI 0 from rfl)))
    rcases ix d (show 61 < 2147483648 by omega) with ⟨z, rfl, z1, z2⟩ | ⟨n, rfl, k1, k2⟩ | ⟨n, rfl, hn⟩
    · refine ⟨vi (iI (-2)), h, ?_, Fr.rfl', fun g hm hd => ⟨g, ?_, Fr.rfl'⟩⟩
      · rw [c8, if_neg n0, E_X8_isLength]
        simp (disch := omega) only [y_0, y_1, y_2, y_3, y_4, y_5, y_6, y_7, y_8, y_9, y_10, y_11, y_12, y_13, y_14, y_15, y_16, y_17, y_18, y_19, y_20, y_21, y_22, y_23, y_24, y_29, y_30, y_31, y_32, y_39, y_40, y_48, y_49, y_50, y_60, y_64, y_69, y_78, y_99, y_100, y_142, y_161, y_600, y_610, y_894, y_999, y_1000, y_1216, y_1276, neg1, neg2, nI_add, nI_mul, nn_sub, nn_lt, nn_le, nn_eq, in_lt, ni_lt, in_le, ni_le, in_eq, ni_eq, iI_lt, iI_le, iI_eq, nn_clamp, inb_n, t_lt, f_lt, t_le, f_le, t_eq, f_eq, ti_lt, fi_lt, ti_le, fi_le, ti_eq, fi_eq, ↓reduceIte, ite_true, ite_false, eq_self, decide_true, decide_false, Bool.true_and, Bool.and_true, Bool.false_and, Bool.and_false, Bool.true_or, Bool.or_true, Bool.false_or, Bool.or_false, bI_t, bI_f, bI_nand, n_mod, an11, an01, negn1, negn2, false_and, and_false, true_and, and_true, not_true_eq_false, not_false_eq_true, bI_n0, bI_n1, Bool.true_eq_false, Bool.false_eq_true, cI_s, cL_s, cV_s, cR_n, pm_bR_self, bI_ite, bL_ite, bV_ite, bR_ite]
      · rw [hm.2.2.2.2, if_neg n0]
        simp (disch := omega) only [y_0, y_1, y_2, y_3, y_4, y_5, y_6, y_7, y_8, y_9, y_10, y_11, y_12, y_13, y_14, y_15, y_16, y_17, y_18, y_19, y_20, y_21, y_22, y_23, y_24, y_29, y_30, y_31, y_32, y_39, y_40, y_48, y_49, y_50, y_60, y_64, y_69, y_78, y_99, y_100, y_142, y_161, y_600, y_610, y_894, y_999, y_1000, y_1216, y_1276, neg1, neg2, nI_add, nI_mul, nn_sub, nn_lt, nn_le, nn_eq, in_lt, ni_lt, in_le, ni_le, in_eq, ni_eq, iI_lt, iI_le, iI_eq, nn_clamp, inb_n, t_lt, f_lt, t_le, f_le, t_eq, f_eq, ti_lt, fi_lt, ti_le, fi_le, ti_eq, fi_eq, ↓reduceIte, ite_true, ite_false, eq_self, decide_true, decide_false, Bool.true_and, Bool.and_true, Bool.false_and, Bool.and_false, Bool.true_or, Bool.or_true, Bool.false_or, Bool.or_false, bI_t, bI_f, bI_nand, n_mod, an11, an01, negn1, negn2, false_and, and_false, true_and, and_true, not_true_eq_false, not_false_eq_true, bI_n0, bI_n1, Bool.true_eq_false, Bool.false_eq_true, cI_s, cL_s, cV_s, cR_n, pm_bR_self, bI_ite, bL_ite, bV_ite, bR_ite, isIn_inn, E_X9_drawn_22]
    · refine ⟨vi (iI (-2)), h, ?_, Fr.rfl', fun g hm hd => ⟨g, ?_, Fr.rfl'⟩⟩
      · rw [c8, if_neg n0, E_X8_isLength]
        simp (disch := omega) only [y_0, y_1, y_2, y_3, y_4, y_5, y_6, y_7, y_8, y_9, y_10, y_11, y_12, y_13, y_14, y_15, y_16, y_17, y_18, y_19, y_20, y_21, y_22, y_23, y_24, y_29, y_30, y_31, y_32, y_39, y_40, y_48, y_49, y_50, y_60, y_64, y_69, y_78, y_99, y_100, y_142, y_161, y_600, y_610, y_894, y_999, y_1000, y_1216, y_1276, neg1, neg2, nI_add, nI_mul, nn_sub, nn_lt, nn_le, nn_eq, in_lt, ni_lt, in_le, ni_le, in_eq, ni_eq, iI_lt, iI_le, iI_eq, nn_clamp, inb_n, t_lt, f_lt, t_le, f_le, t_eq, f_eq, ti_lt, fi_lt, ti_le, fi_le, ti_eq, fi_eq, ↓reduceIte, ite_true, ite_false, eq_self, decide_true, decide_false, Bool.true_and, Bool.and_true, Bool.false_and, Bool.and_false, Bool.true_or, Bool.or_true, Bool.false_or, Bool.or_false, bI_t, bI_f, bI_nand, n_mod, an11, an01, negn1, negn2, false_and, and_false, true_and, and_true, not_true_eq_false, not_false_eq_true, bI_n0, bI_n1, Bool.true_eq_false, Bool.false_eq_true, cI_s, cL_s, cV_s, cR_n, pm_bR_self, bI_ite, bL_ite, bV_ite, bR_ite]
      · rw [hm.2.2.2.2, if_neg n0]
        simp (disch := omega) only [y_0, y_1, y_2, y_3, y_4, y_5, y_6, y_7, y_8, y_9, y_10, y_11, y_12, y_13, y_14, y_15, y_16, y_17, y_18, y_19, y_20, y_21, y_22, y_23, y_24, y_29, y_30, y_31, y_32, y_39, y_40, y_48, y_49, y_50, y_60, y_64, y_69, y_78, y_99, y_100, y_142, y_161, y_600, y_610, y_894, y_999, y_1000, y_1216, y_1276, neg1, neg2, nI_add, nI_mul, nn_sub, nn_lt, nn_le, nn_eq, in_lt, ni_lt, in_le, ni_le, in_eq, ni_eq, iI_lt, iI_le, iI_eq, nn_clamp, inb_n, t_lt, f_lt, t_le, f_le, t_eq, f_eq, ti_lt, fi_lt, ti_le, fi_le, ti_eq, fi_eq, ↓reduceIte, ite_true, ite_false, eq_self, decide_true, decide_false, Bool.true_and, Bool.and_true, Bool.false_and, Bool.and_false, Bool.true_or, Bool.or_true, Bool.false_or, Bool.or_false, bI_t, bI_f, bI_nand, n_mod, an11, an01, negn1, negn2, false_and, and_false, true_and, and_true, not_true_eq_false, not_false_eq_true, bI_n0, bI_n1, Bool.true_eq_false, Bool.false_eq_true, cI_s, cL_s, cV_s, cR_n, pm_bR_self, bI_ite, bL_ite, bV_ite, bR_ite, isIn_nnn, E_X9_drawn_22]
    · obtain ⟨h1, e1, hC1, f1⟩ := begin_C hv hC (show k ≠ 9 by omega)
      obtain ⟨h', e2, hC', hV', f2⟩ := drawL_C hR (n := n) (by omega) n 0 (co, 0, 0, 0, 0) (pm_sI h1 1 0 5 b) (Nat.zero_add _) (csV0 hv) (show 0 < (co (6)).val by omega) (hC1.sd b)
      rw [sI_same] at hC' hV'
      generalize hF : aDrawN nx rd n b (co, 0, 0, 0, 0) = τ at hC' hV'
      have fC : Fr scC h h' := ((f1.tr (Fr.sI _ _ _ rfl)).tr f2).mono (fun _ _ => crT_scC)
      have goC : pm_ev (31, 0, [vr 1 0, vr 0 k, vi b, vi (nI n), none, none, none, none, none], [], h) = some (none, h') := by
        rw [E_X1_draw, e1, cV_s]; exact e2
      have iL : pm_ev (142, 0, [vi (nI n)], [], h) = some (some (vi (nI 1)), h) := by
        rw [E_X8_isLength]
        simp (disch := omega) only [y_0, y_1, y_2, y_3, y_4, y_5, y_6, y_7, y_8, y_9, y_10, y_11, y_12, y_13, y_14, y_15, y_16, y_17, y_18, y_19, y_20, y_21, y_22, y_23, y_24, y_29, y_30, y_31, y_32, y_39, y_40, y_48, y_49, y_50, y_60, y_64, y_69, y_78, y_99, y_100, y_142, y_161, y_600, y_610, y_894, y_999, y_1000, y_1216, y_1276, neg1, neg2, nI_add, nI_mul, nn_sub, nn_lt, nn_le, nn_eq, in_lt, ni_lt, in_le, ni_le, in_eq, ni_eq, iI_lt, iI_le, iI_eq, nn_clamp, inb_n, t_lt, f_lt, t_le, f_le, t_eq, f_eq, ti_lt, fi_lt, ti_le, fi_le, ti_eq, fi_eq, ↓reduceIte, ite_true, ite_false, eq_self, decide_true, decide_false, Bool.true_and, Bool.and_true, Bool.false_and, Bool.and_false, Bool.true_or, Bool.or_true, Bool.false_or, Bool.or_false, bI_t, bI_f, bI_nand, n_mod, an11, an01, negn1, negn2, false_and, and_false, true_and, and_true, not_true_eq_false, not_false_eq_true, bI_n0, bI_n1, Bool.true_eq_false, Bool.false_eq_true, cI_s, cL_s, cV_s, cR_n, pm_bR_self, bI_ite, bL_ite, bV_ite, bR_ite]
      have i2 : ∀ g, pm_ev (153, 0, [vi (nI n), vi 0, vi 60], [], g) = some (some (vi (nI 1)), g) := fun g => by
        have := isIn_nnn g (show n < 2147483648 by omega) (show 0 < 2147483648 by decide) (show 60 < 2147483648 by decide)
        rw [decide_eq_true (Nat.zero_le n), decide_eq_true (show n ≤ 60 by omega)] at this
        exact this
      rcases ix0 e with ⟨z, rfl, z1, z2⟩ | ⟨w, rfl, hw31⟩
      · have lz : iI z < 0 := by rw [show (0 : Int32) = nI 0 from rfl, in_lt (by decide) z1 (by omega)]; omega
        refine ⟨vi (iI (-2)), h', ?_, fC, fun g hm hd => ⟨g, ?_, Fr.rfl'⟩⟩
        · rw [c8, if_neg n0, iL, cI_s, if_neg (by decide), goC, cV_s, told_Cneg h' z1 z2, cI_s]
        · rw [hm.2.2.2.2, if_neg n0, i2, cI_s, E_X9_drawn_22, if_neg (by decide), if_pos lz]; rfl
      · have lw : ¬ nI w < 0 := by rw [show (0 : Int32) = nI 0 from rfl, nn_lt hw31 (by decide)]; omega
        refine ⟨vi (aNow τ w), h', ?_, fC, fun g hm hd => ?_⟩
        · rw [c8, if_neg n0, iL, cI_s, if_neg (by decide), goC, cV_s, told_C hV' hC' hw31, cI_s]
        · have f0 : Fr scM g (pm_sI g 8 0 36 b) := Fr.sI _ _ _ rfl
          obtain ⟨g1, e3, hM1, _, f3, k3⟩ := begins_M hv (hm.fr (h' := pm_sI g 8 0 36 b) (fun _ => sI_tag _ _ _ _ _ _ (by decide)) (fun _ _ _ => sI_pl _ _ _ _ _ (by omega))) (hd.fr (fun _ => sI_tag _ _ _ _ _ _ (by decide)))
          obtain ⟨g', e4, hM', f4⟩ := drawL_M hR (n := n) (by omega) (nI w) n 0 (co, 0, 0, 0, 0) g1 (Nat.zero_add _) (csV0 hv) (show 0 < (co (6)).val by omega) hM1
          rw [k3 36 (by omega), sI_same, hF] at hM'
          refine ⟨g', ?_, (f0.tr f3).tr f4⟩
          rw [hm.2.2.2.2, if_neg n0, i2, cI_s, E_X9_drawn_22, if_neg (by decide), if_neg lw, e3, cV_s, show (0 : Int32) = nI 0 from rfl, e4, nowOf_M hV' hM' hw31, cI_s]
