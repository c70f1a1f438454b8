/-! ===== the reference is asked for a coast ===== -/
theorem isIn_ini (h : PH) {x hi : Int} {lo : Nat} (h1 : -2147483648 ≤ x) (h2 : x < 2147483648) (h4 : lo < 2147483648) (h5 : -2147483648 ≤ hi) (h6 : hi < 2147483648) : pm_ev (153, 0, [vi (iI x), vi (nI lo), vi (iI hi)], [], h) = some (some (vi (bI (decide ((lo : Int) ≤ x) && decide (x ≤ hi)))), h) := by
  rw [← iI_nat]; exact isIn_M h h1 h2 (by omega) (by omega) h5 h6
theorem isIn_inn (h : PH) {x : Int} {lo hi : Nat} (h1 : -2147483648 ≤ x) (h2 : x < 2147483648) (h4 : lo < 2147483648) (h6 : hi < 2147483648) : pm_ev (153, 0, [vi (iI x), vi (nI lo), vi (nI hi)], [], h) = some (some (vi (bI (decide ((lo : Int) ≤ x) && decide (x ≤ (hi : Int))))), h) := by
  rw [← iI_nat hi]; exact isIn_ini h h1 h2 h4 (by omega) (by omega)
theorem isIn_nni (h : PH) {x lo : Nat} {hi : Int} (h2 : x < 2147483648) (h4 : lo < 2147483648) (h5 : -2147483648 ≤ hi) (h6 : hi < 2147483648) : pm_ev (153, 0, [vi (nI x), vi (nI lo), vi (iI hi)], [], h) = some (some (vi (bI (decide (lo ≤ x) && decide ((x : Int) ≤ hi)))), h) := by
  rw [← iI_nat x, isIn_ini h (by omega) (by omega) h4 h5 h6, show decide ((lo : Int) ≤ (x : Int)) = decide (lo ≤ x) from decide_eq_decide.mpr (by omega)]
theorem isIn_nnn (h : PH) {x lo hi : Nat} (h2 : x < 2147483648) (h4 : lo < 2147483648) (h6 : hi < 2147483648) : pm_ev (153, 0, [vi (nI x), vi (nI lo), vi (nI hi)], [], h) = some (some (vi (bI (decide (lo ≤ x) && decide (x ≤ hi)))), h) := by
  rw [← iI_nat hi, isIn_nni h h2 h4 (by omega) (by omega), show decide ((x : Int) ≤ (hi : Int)) = decide (x ≤ hi) from decide_eq_decide.mpr (by omega)]
theorem isCoast_no {h : PH} {nc : Nat} {z : Int} (hn : h.1 33 0 0 = nI nc) (hnc : nc ≤ 2) (h1 : -2147483648 ≤ z) (h2 : z < 2147483648) (hz : ¬ (0 ≤ z ∧ z < nc)) : pm_ev (185, 0, [vr 8 0, vi (iI z)], [], h) = some (some (vi (nI 0)), h) := by
  rw [E_X9_isCoast, E_X9_isOf]
  have e : (decide (((0 : Nat) : Int) ≤ z) && decide (z ≤ (nc : Int) - ((1 : Nat) : Int))) = false := by
    rw [Bool.and_eq_false_iff, decide_eq_false_iff_not, decide_eq_false_iff_not]; omega
  simp (disch := omega) only [z_0, z_1, inb_n, nn_clamp, ↓reduceIte, hn, nI_sub, isIn_ini, e, bI_s, E_X9_isOf_8,  bI_f, bI_nand, eq_self, E_X9_isCoast_6, show nI 0 &&& nI 1 = nI 0 from rfl]
def isCoastH (h : PH) (a : Nat) (c : AC) : PH := pm_sI (pm_sI (pm_sI (pm_sI h 8 0 13 (nI a)) 8 0 14 (nI (c (0)).val)) 8 0 15 (nI (c (1)).val)) 8 0 16 (nI (c (6)).val)
theorem isCoast_yes {h : PH} {nc k : Nat} {c : AC} (hn : h.1 33 0 0 = nI nc) (hnc : nc ≤ 2) (hk : k < nc) (hs : CoastMs h (610 + 142 * k) c) : pm_ev (185, 0, [vr 8 0, vi (nI k)], [], h) = some (some (vi (nI 1)), isCoastH h (610 + 142 * k) c) := by
  obtain ⟨⟨a0, a1, _, _, _, a5, _⟩, _⟩ := hs
  rw [E_X9_isCoast, E_X9_isOf]
  simp (disch := omega) only [y_0, y_1, y_2, y_3, y_4, y_5, y_6, y_7, y_8, y_9, y_10, y_11, y_12, y_13, y_14, y_15, y_16, y_17, y_18, y_19, y_20, y_21, y_22, y_23, y_24, y_29, y_30, y_31, y_32, y_39, y_40, y_48, y_49, y_50, y_60, y_64, y_69, y_78, y_99, y_100, y_142, y_161, y_600, y_610, y_894, y_999, y_1000, y_1216, y_1276, neg1, neg2, nI_add, nI_mul, nn_sub, nn_lt, nn_le, nn_eq, in_lt, ni_lt, in_le, ni_le, in_eq, ni_eq, iI_lt, iI_le, iI_eq, nn_clamp, inb_n, t_lt, f_lt, t_le, f_le, t_eq, f_eq, ti_lt, fi_lt, ti_le, fi_le, ti_eq, fi_eq, ↓reduceIte, ite_true, ite_false, eq_self, decide_true, decide_false, Bool.true_and, Bool.and_true, Bool.false_and, Bool.and_false, Bool.true_or, Bool.or_true, Bool.false_or, Bool.or_false, bI_t, bI_f, bI_nand, n_mod, an11, an01, negn1, negn2, false_and, and_false, true_and, and_true, not_true_eq_false, not_false_eq_true, bI_n0, bI_n1, Bool.true_eq_false, Bool.false_eq_true, cI_s, cL_s, cV_s, cR_n, pm_bR_self, bI_ite, bL_ite, bV_ite, bR_ite, E_X9_isCoast_6, E_X9_isCoast_17, E_X9_isCoast_20, E_X9_isCoast_30, E_X9_isCoast_33, E_X9_isCoast_45, E_X9_isCoast_48, E_X9_isCoast_60, E_X9_isCoast_63, E_X9_isOf_8, hn, isIn_nnn, E_X9_placeOf, sI_same, sI_tag, sI_num, sI_pl, sI_2, sL_1, sL_same, sL_tag, sL_num, sL_pl, cp_in, cp_tag, cp_num, cp_2, a0, a1, a5, E_X9_isCoast_6, E_X9_isCoast_17, E_X9_isCoast_20, E_X9_isCoast_33, E_X9_isCoast_48, E_X9_isCoast_63]
  rfl
theorem isCoastH_ne (h : PH) (a : Nat) (c : AC) {t : Nat} (i k : Nat) (ht : t ≠ 8) : (isCoastH h a c).1 t i k = h.1 t i k := by
  unfold isCoastH
  simp (disch := omega) only [sI_tag]
theorem isCoastH_8 (h : PH) (a : Nat) (c : AC) (i : Nat) {k : Nat} (hk : k < 13 ∨ 16 < k) : (isCoastH h a c).1 8 i k = h.1 8 i k := by
  unfold isCoastH
  simp (disch := omega) only [sI_pl]
theorem isCoastH_2 (h : PH) (a : Nat) (c : AC) : (isCoastH h a c).2 = h.2 := rfl
theorem isCoastH_m {h : PH} {a : Nat} {c : AC} (hs : CoastMs h a c) : ModS (isCoastH h a c) a c := by
  refine ⟨hs.fr (fun k => isCoastH_ne h a c 0 k (by decide)), ?_, ?_, ?_, ?_⟩ <;> (unfold isCoastH; simp (disch := omega) only [sI_pl, sI_same])
theorem isCoastH_fr (h : PH) (a : Nat) (c : AC) : Fr scM h (isCoastH h a c) := ((Fr.sI _ _ _ rfl).tr (Fr.sI _ _ _ rfl)).tr ((Fr.sI _ _ _ rfl).tr (Fr.sI _ _ _ rfl))
theorem asTold_2 {h : PH} {a : Nat} (ha : a < 4900) (h13 : h.1 8 0 13 = nI a) : ∀ r k, k + r = 48 → pm_ev (191, 2, [vr 8 0, vi (nI k)], [], pm_cp h 33 0 (a+30) 36 0 0 k) = pm_ev (191, 36, [vr 8 0, vi (nI 0)], [], pm_cp h 33 0 (a+30) 36 0 0 48) := by
  intro r
  induction r with
  | zero =>
    intro k hk
    have hk : k = 48 := by omega
    subst hk
    rw [E_X9_asTold_2]
    simp (disch := omega) only [y_0, y_1, y_2, y_3, y_4, y_5, y_6, y_7, y_8, y_9, y_10, y_11, y_12, y_13, y_14, y_15, y_16, y_17, y_18, y_19, y_20, y_21, y_22, y_23, y_24, y_29, y_30, y_31, y_32, y_39, y_40, y_48, y_49, y_50, y_60, y_64, y_69, y_78, y_99, y_100, y_142, y_161, y_600, y_610, y_894, y_999, y_1000, y_1216, y_1276, neg1, neg2, nI_add, nI_mul, nn_sub, nn_lt, nn_le, nn_eq, in_lt, ni_lt, in_le, ni_le, in_eq, ni_eq, iI_lt, iI_le, iI_eq, nn_clamp, inb_n, t_lt, f_lt, t_le, f_le, t_eq, f_eq, ti_lt, fi_lt, ti_le, fi_le, ti_eq, fi_eq, ↓reduceIte, ite_true, ite_false, eq_self, decide_true, decide_false, Bool.true_and, Bool.and_true, Bool.false_and, Bool.and_false, Bool.true_or, Bool.or_true, Bool.false_or, Bool.or_false, bI_t, bI_f, bI_nand, n_mod, an11, an01, negn1, negn2, false_and, and_false, true_and, and_true, not_true_eq_false, not_false_eq_true, bI_n0, bI_n1, Bool.true_eq_false, Bool.false_eq_true, cI_s, cL_s, cV_s, cR_n, pm_bR_self, bI_ite, bL_ite, bV_ite, bR_ite, E_X9_asTold_27, E_X9_asTold_28, E_X9_asTold_53, ]
  | succ r ih =>
    intro k hk
    have e := ih (k + 1) (by omega)
    have cs := cp_succ h 33 0 (a+30) 36 0 0 k
    rw [Nat.zero_add] at cs
    rw [E_X9_asTold_2]
    simp (disch := omega) only [y_0, y_1, y_2, y_3, y_4, y_5, y_6, y_7, y_8, y_9, y_10, y_11, y_12, y_13, y_14, y_15, y_16, y_17, y_18, y_19, y_20, y_21, y_22, y_23, y_24, y_29, y_30, y_31, y_32, y_39, y_40, y_48, y_49, y_50, y_60, y_64, y_69, y_78, y_99, y_100, y_142, y_161, y_600, y_610, y_894, y_999, y_1000, y_1216, y_1276, neg1, neg2, nI_add, nI_mul, nn_sub, nn_lt, nn_le, nn_eq, in_lt, ni_lt, in_le, ni_le, in_eq, ni_eq, iI_lt, iI_le, iI_eq, nn_clamp, inb_n, t_lt, f_lt, t_le, f_le, t_eq, f_eq, ti_lt, fi_lt, ti_le, fi_le, ti_eq, fi_eq, ↓reduceIte, ite_true, ite_false, eq_self, decide_true, decide_false, Bool.true_and, Bool.and_true, Bool.false_and, Bool.and_false, Bool.true_or, Bool.or_true, Bool.false_or, Bool.or_false, bI_t, bI_f, bI_nand, n_mod, an11, an01, negn1, negn2, false_and, and_false, true_and, and_true, not_true_eq_false, not_false_eq_true, bI_n0, bI_n1, Bool.true_eq_false, Bool.false_eq_true, cI_s, cL_s, cV_s, cR_n, pm_bR_self, bI_ite, bL_ite, bV_ite, bR_ite, E_X9_asTold_27, E_X9_asTold_28, E_X9_asTold_53, sI_same, sI_tag, sI_num, sI_pl, sI_2, sL_1, sL_same, sL_tag, sL_num, sL_pl, cp_in, cp_tag, cp_num, cp_2, h13, cs, E_X9_asTold_28]
    exact e
theorem asTold_36 {g : PH} {a : Nat} (ha : a < 4900) (h13 : g.1 8 0 13 = nI a) : pm_ev (191, 36, [vr 8 0, vi (nI 0)], [], g) = some (none, pm_sI (pm_sI (pm_sI (pm_sI (pm_sI g 37 0 0 (g.1 33 0 (a+14+4*0+1))) 37 0 1 (g.1 33 0 (a+14+4*1+1))) 37 0 2 (g.1 33 0 (a+14+4*2+1))) 37 0 3 (g.1 33 0 (a+14+4*3+1))) 8 0 19 (nI 15)) := by
  rw [E_X9_asTold_36]
  simp (disch := omega) only [y_0, y_1, y_2, y_3, y_4, y_5, y_6, y_7, y_8, y_9, y_10, y_11, y_12, y_13, y_14, y_15, y_16, y_17, y_18, y_19, y_20, y_21, y_22, y_23, y_24, y_29, y_30, y_31, y_32, y_39, y_40, y_48, y_49, y_50, y_60, y_64, y_69, y_78, y_99, y_100, y_142, y_161, y_600, y_610, y_894, y_999, y_1000, y_1216, y_1276, neg1, neg2, nI_add, nI_mul, nn_sub, nn_lt, nn_le, nn_eq, in_lt, ni_lt, in_le, ni_le, in_eq, ni_eq, iI_lt, iI_le, iI_eq, nn_clamp, inb_n, t_lt, f_lt, t_le, f_le, t_eq, f_eq, ti_lt, fi_lt, ti_le, fi_le, ti_eq, fi_eq, ↓reduceIte, ite_true, ite_false, eq_self, decide_true, decide_false, Bool.true_and, Bool.and_true, Bool.false_and, Bool.and_false, Bool.true_or, Bool.or_true, Bool.false_or, Bool.or_false, bI_t, bI_f, bI_nand, n_mod, an11, an01, negn1, negn2, false_and, and_false, true_and, and_true, not_true_eq_false, not_false_eq_true, bI_n0, bI_n1, Bool.true_eq_false, Bool.false_eq_true, cI_s, cL_s, cV_s, cR_n, pm_bR_self, bI_ite, bL_ite, bV_ite, bR_ite, E_X9_asTold_27, E_X9_asTold_28, E_X9_asTold_53, E_X9_of_18, sI_same, sI_tag, sI_num, sI_pl, sI_2, sL_1, sL_same, sL_tag, sL_num, sL_pl, cp_in, cp_tag, cp_num, cp_2, h13, E_X9_of, E_X9_asTold_53, Nat.reduceAdd]
  rw [E_X9_asTold_36]
  simp (disch := omega) only [y_0, y_1, y_2, y_3, y_4, y_5, y_6, y_7, y_8, y_9, y_10, y_11, y_12, y_13, y_14, y_15, y_16, y_17, y_18, y_19, y_20, y_21, y_22, y_23, y_24, y_29, y_30, y_31, y_32, y_39, y_40, y_48, y_49, y_50, y_60, y_64, y_69, y_78, y_99, y_100, y_142, y_161, y_600, y_610, y_894, y_999, y_1000, y_1216, y_1276, neg1, neg2, nI_add, nI_mul, nn_sub, nn_lt, nn_le, nn_eq, in_lt, ni_lt, in_le, ni_le, in_eq, ni_eq, iI_lt, iI_le, iI_eq, nn_clamp, inb_n, t_lt, f_lt, t_le, f_le, t_eq, f_eq, ti_lt, fi_lt, ti_le, fi_le, ti_eq, fi_eq, ↓reduceIte, ite_true, ite_false, eq_self, decide_true, decide_false, Bool.true_and, Bool.and_true, Bool.false_and, Bool.and_false, Bool.true_or, Bool.or_true, Bool.false_or, Bool.or_false, bI_t, bI_f, bI_nand, n_mod, an11, an01, negn1, negn2, false_and, and_false, true_and, and_true, not_true_eq_false, not_false_eq_true, bI_n0, bI_n1, Bool.true_eq_false, Bool.false_eq_true, cI_s, cL_s, cV_s, cR_n, pm_bR_self, bI_ite, bL_ite, bV_ite, bR_ite, E_X9_asTold_27, E_X9_asTold_28, E_X9_asTold_53, E_X9_of_18, sI_same, sI_tag, sI_num, sI_pl, sI_2, sL_1, sL_same, sL_tag, sL_num, sL_pl, cp_in, cp_tag, cp_num, cp_2, h13, E_X9_of, E_X9_asTold_53, Nat.reduceAdd]
  rw [E_X9_asTold_36]
  simp (disch := omega) only [y_0, y_1, y_2, y_3, y_4, y_5, y_6, y_7, y_8, y_9, y_10, y_11, y_12, y_13, y_14, y_15, y_16, y_17, y_18, y_19, y_20, y_21, y_22, y_23, y_24, y_29, y_30, y_31, y_32, y_39, y_40, y_48, y_49, y_50, y_60, y_64, y_69, y_78, y_99, y_100, y_142, y_161, y_600, y_610, y_894, y_999, y_1000, y_1216, y_1276, neg1, neg2, nI_add, nI_mul, nn_sub, nn_lt, nn_le, nn_eq, in_lt, ni_lt, in_le, ni_le, in_eq, ni_eq, iI_lt, iI_le, iI_eq, nn_clamp, inb_n, t_lt, f_lt, t_le, f_le, t_eq, f_eq, ti_lt, fi_lt, ti_le, fi_le, ti_eq, fi_eq, ↓reduceIte, ite_true, ite_false, eq_self, decide_true, decide_false, Bool.true_and, Bool.and_true, Bool.false_and, Bool.and_false, Bool.true_or, Bool.or_true, Bool.false_or, Bool.or_false, bI_t, bI_f, bI_nand, n_mod, an11, an01, negn1, negn2, false_and, and_false, true_and, and_true, not_true_eq_false, not_false_eq_true, bI_n0, bI_n1, Bool.true_eq_false, Bool.false_eq_true, cI_s, cL_s, cV_s, cR_n, pm_bR_self, bI_ite, bL_ite, bV_ite, bR_ite, E_X9_asTold_27, E_X9_asTold_28, E_X9_asTold_53, E_X9_of_18, sI_same, sI_tag, sI_num, sI_pl, sI_2, sL_1, sL_same, sL_tag, sL_num, sL_pl, cp_in, cp_tag, cp_num, cp_2, h13, E_X9_of, E_X9_asTold_53, Nat.reduceAdd]
  rw [E_X9_asTold_36]
  simp (disch := omega) only [y_0, y_1, y_2, y_3, y_4, y_5, y_6, y_7, y_8, y_9, y_10, y_11, y_12, y_13, y_14, y_15, y_16, y_17, y_18, y_19, y_20, y_21, y_22, y_23, y_24, y_29, y_30, y_31, y_32, y_39, y_40, y_48, y_49, y_50, y_60, y_64, y_69, y_78, y_99, y_100, y_142, y_161, y_600, y_610, y_894, y_999, y_1000, y_1216, y_1276, neg1, neg2, nI_add, nI_mul, nn_sub, nn_lt, nn_le, nn_eq, in_lt, ni_lt, in_le, ni_le, in_eq, ni_eq, iI_lt, iI_le, iI_eq, nn_clamp, inb_n, t_lt, f_lt, t_le, f_le, t_eq, f_eq, ti_lt, fi_lt, ti_le, fi_le, ti_eq, fi_eq, ↓reduceIte, ite_true, ite_false, eq_self, decide_true, decide_false, Bool.true_and, Bool.and_true, Bool.false_and, Bool.and_false, Bool.true_or, Bool.or_true, Bool.false_or, Bool.or_false, bI_t, bI_f, bI_nand, n_mod, an11, an01, negn1, negn2, false_and, and_false, true_and, and_true, not_true_eq_false, not_false_eq_true, bI_n0, bI_n1, Bool.true_eq_false, Bool.false_eq_true, cI_s, cL_s, cV_s, cR_n, pm_bR_self, bI_ite, bL_ite, bV_ite, bR_ite, E_X9_asTold_27, E_X9_asTold_28, E_X9_asTold_53, E_X9_of_18, sI_same, sI_tag, sI_num, sI_pl, sI_2, sL_1, sL_same, sL_tag, sL_num, sL_pl, cp_in, cp_tag, cp_num, cp_2, h13, E_X9_of, E_X9_asTold_53, Nat.reduceAdd]
  rw [E_X9_asTold_36]
  simp (disch := omega) only [y_0, y_1, y_2, y_3, y_4, y_5, y_6, y_7, y_8, y_9, y_10, y_11, y_12, y_13, y_14, y_15, y_16, y_17, y_18, y_19, y_20, y_21, y_22, y_23, y_24, y_29, y_30, y_31, y_32, y_39, y_40, y_48, y_49, y_50, y_60, y_64, y_69, y_78, y_99, y_100, y_142, y_161, y_600, y_610, y_894, y_999, y_1000, y_1216, y_1276, neg1, neg2, nI_add, nI_mul, nn_sub, nn_lt, nn_le, nn_eq, in_lt, ni_lt, in_le, ni_le, in_eq, ni_eq, iI_lt, iI_le, iI_eq, nn_clamp, inb_n, t_lt, f_lt, t_le, f_le, t_eq, f_eq, ti_lt, fi_lt, ti_le, fi_le, ti_eq, fi_eq, ↓reduceIte, ite_true, ite_false, eq_self, decide_true, decide_false, Bool.true_and, Bool.and_true, Bool.false_and, Bool.and_false, Bool.true_or, Bool.or_true, Bool.false_or, Bool.or_false, bI_t, bI_f, bI_nand, n_mod, an11, an01, negn1, negn2, false_and, and_false, true_and, and_true, not_true_eq_false, not_false_eq_true, bI_n0, bI_n1, Bool.true_eq_false, Bool.false_eq_true, cI_s, cL_s, cV_s, cR_n, pm_bR_self, bI_ite, bL_ite, bV_ite, bR_ite, E_X9_asTold_27, E_X9_asTold_28, E_X9_asTold_53, E_X9_of_18, ]
def asToldH (h : PH) (a : Nat) : PH := pm_sI (pm_sI (pm_sI (pm_sI (pm_sI (pm_cp h 33 0 (a+30) 36 0 0 48) 37 0 0 (h.1 33 0 (a+14+4*0+1))) 37 0 1 (h.1 33 0 (a+14+4*1+1))) 37 0 2 (h.1 33 0 (a+14+4*2+1))) 37 0 3 (h.1 33 0 (a+14+4*3+1))) 8 0 19 (nI 15)
theorem asTold_M {h : PH} {a : Nat} {c : AC} (hm : ModS h a c) : pm_ev (191, 0, [vr 8 0, none], [], h) = some (none, asToldH h a) := by
  obtain ⟨⟨⟨_, _, _, _, _, _, ha⟩, _⟩, h13, _⟩ := hm
  rw [E_X9_asTold]
  have e := asTold_2 ha h13 48 0 rfl
  rw [cp_0] at e
  have e2 := asTold_36 (g := pm_cp h 33 0 (a+30) 36 0 0 48) ha (by rw [cp_tag _ _ _ _ _ _ _ _ _ (by decide)]; exact h13)
  simp (disch := omega) only [cp_tag] at e2
  exact e.trans e2
theorem asToldH_fr (h : PH) (a : Nat) : Fr scM h (asToldH h a) := (((Fr.cp _ _ _ _ _ _ rfl).tr (Fr.sI _ _ _ rfl)).tr ((Fr.sI _ _ _ rfl).tr (Fr.sI _ _ _ rfl))).tr ((Fr.sI _ _ _ rfl).tr (Fr.sI _ _ _ rfl))
theorem asToldH_ne (h : PH) (a : Nat) {t : Nat} (i k : Nat) (ht : t ≠ 8) (ht2 : t ≠ 36) (ht3 : t ≠ 37) : (asToldH h a).1 t i k = h.1 t i k := by
  unfold asToldH
  simp (disch := omega) only [sI_tag, cp_tag]
theorem asToldH_8 (h : PH) (a : Nat) (i : Nat) {k : Nat} (hk : k ≠ 19) : (asToldH h a).1 8 i k = h.1 8 i k := by
  unfold asToldH
  simp (disch := omega) only [sI_tag, cp_tag, sI_pl]
theorem asToldH_19 (h : PH) (a : Nat) : (asToldH h a).1 8 0 19 = nI 15 := by
  unfold asToldH
  simp (disch := omega) only [sI_same]
theorem asToldH_m {h : PH} {a : Nat} {c : AC} (hm : ModS h a c) : ModS (asToldH h a) a c := hm.fr (fun k => asToldH_ne h a 0 k (by decide) (by decide) (by decide)) (fun k h1 h2 => asToldH_8 h a 0 (by omega))
theorem asToldH_d {h : PH} {a : Nat} {c : AC} (hd : CoastMd h a c) : CoastMd (asToldH h a) a c := hd.fr (fun k => asToldH_ne h a 0 k (by decide) (by decide) (by decide))
theorem asToldH_A {h : PH} {a : Nat} {c : AC} (hv : cV c) (hd : CoastMd h a c) : AliveM (asToldH h a) c := by
  have hV1 := hv.1
  intro s hs
  obtain ⟨⟨d0, d1⟩, dk⟩ := hd s hs
  constructor
  · unfold asToldH
    have : s = 0 ∨ s = 1 ∨ s = 2 ∨ s = 3 := by omega
    rcases this with e | e | e | e <;> subst e <;> (simp (disch := omega) only [sI_tag, sI_pl, sI_same]; exact d1)
  · intro k hk
    have v5 := (hv.2.2.1 s hs).2.2.2.2.1
    obtain ⟨k1, k2, k3⟩ := dk k hk
    unfold asToldH
    refine ⟨?_, ?_, ?_⟩
    · simp (disch := omega) only [sI_tag, cp_in, Nat.sub_zero]; exact k1
    · simp (disch := omega) only [sI_tag, cp_in, Nat.sub_zero]; exact k2
    · simp (disch := omega) only [sI_tag, cp_in, Nat.sub_zero]; exact k3
