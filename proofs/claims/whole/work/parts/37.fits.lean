theorem allAgree_2 {h : PH} {j : Nat} {l : AC} (hv : lV l) (hC : LogC h j l) {st : Nat} (hs : st < 64) : ∀ r k, k + r = (l (3)).val → (∀ q, q < k → lAgree l st q = true) → pm_ev (53, 2, [vr 2 j, vi (nI st), vi (nI k)], [], h) = some (some (vi (bI (lFit l st))), h) := by
  have l3 := hC.1.2.2.2
  have hV := hv.1
  intro r
  induction r with
  | zero =>
    intro k hk hq
    have hk : k = (l (3)).val := by omega
    subst hk
    have e : lFit l st = true := by
      unfold lFit lWrong
      exact decide_eq_true (fb_ct_zero.mpr (fun q hq2 => by rw [hq q hq2]; rfl))
    rw [E_X2_allAgree_2, e]
    simp (disch := omega) only [y_0, y_1, y_2, y_3, y_4, y_5, y_6, y_7, y_8, y_9, y_10, y_11, y_12, y_13, y_14, y_15, y_16, y_17, y_18, y_19, y_20, y_21, y_22, y_23, y_24, y_29, y_30, y_31, y_32, y_39, y_40, y_48, y_49, y_50, y_60, y_64, y_69, y_78, y_99, y_100, y_142, y_161, y_600, y_610, y_894, y_999, y_1000, y_1216, y_1276, neg1, neg2, nI_add, nI_mul, nn_sub, nn_lt, nn_le, nn_eq, in_lt, ni_lt, in_le, ni_le, in_eq, ni_eq, iI_lt, iI_le, iI_eq, nn_clamp, inb_n, t_lt, f_lt, t_le, f_le, t_eq, f_eq, ti_lt, fi_lt, ti_le, fi_le, ti_eq, fi_eq, ↓reduceIte, ite_true, ite_false, eq_self, decide_true, decide_false, Bool.true_and, Bool.and_true, Bool.false_and, Bool.and_false, Bool.true_or, Bool.or_true, Bool.false_or, Bool.or_false, bI_t, bI_f, bI_nand, n_mod, an11, an01, negn1, negn2, false_and, and_false, true_and, and_true, not_true_eq_false, not_false_eq_true, bI_n0, bI_n1, Bool.true_eq_false, Bool.false_eq_true, cI_s, cL_s, cV_s, cR_n, pm_bR_self, bI_ite, bL_ite, bV_ite, bR_ite, l3]
  | succ r ih =>
    intro k hk hq
    have hk2 : k < (l (3)).val := by omega
    have A := agrees_C hv hC hs hk2
    rw [E_X2_allAgree_2]
    cases qa : lAgree l st k with
    | true =>
      rw [qa] at A
      have e := ih (k + 1) (by omega) (fun q hq2 => by
        by_cases e : q = k
        · subst e; exact qa
        · exact hq q (by omega))
      simp (disch := omega) only [y_0, y_1, y_2, y_3, y_4, y_5, y_6, y_7, y_8, y_9, y_10, y_11, y_12, y_13, y_14, y_15, y_16, y_17, y_18, y_19, y_20, y_21, y_22, y_23, y_24, y_29, y_30, y_31, y_32, y_39, y_40, y_48, y_49, y_50, y_60, y_64, y_69, y_78, y_99, y_100, y_142, y_161, y_600, y_610, y_894, y_999, y_1000, y_1216, y_1276, neg1, neg2, nI_add, nI_mul, nn_sub, nn_lt, nn_le, nn_eq, in_lt, ni_lt, in_le, ni_le, in_eq, ni_eq, iI_lt, iI_le, iI_eq, nn_clamp, inb_n, t_lt, f_lt, t_le, f_le, t_eq, f_eq, ti_lt, fi_lt, ti_le, fi_le, ti_eq, fi_eq, ↓reduceIte, ite_true, ite_false, eq_self, decide_true, decide_false, Bool.true_and, Bool.and_true, Bool.false_and, Bool.and_false, Bool.true_or, Bool.or_true, Bool.false_or, Bool.or_false, bI_t, bI_f, bI_nand, n_mod, an11, an01, negn1, negn2, false_and, and_false, true_and, and_true, not_true_eq_false, not_false_eq_true, bI_n0, bI_n1, Bool.true_eq_false, Bool.false_eq_true, cI_s, cL_s, cV_s, cR_n, pm_bR_self, bI_ite, bL_ite, bV_ite, bR_ite, l3, A]
      exact e
    | false =>
      rw [qa] at A
      have e : lFit l st = false := by
        unfold lFit lWrong
        refine decide_eq_false (fun e => ?_)
        have := fb_ct_zero.mp e k hk2
        rw [qa] at this; cases this
      rw [e]
      simp (disch := omega) only [y_0, y_1, y_2, y_3, y_4, y_5, y_6, y_7, y_8, y_9, y_10, y_11, y_12, y_13, y_14, y_15, y_16, y_17, y_18, y_19, y_20, y_21, y_22, y_23, y_24, y_29, y_30, y_31, y_32, y_39, y_40, y_48, y_49, y_50, y_60, y_64, y_69, y_78, y_99, y_100, y_142, y_161, y_600, y_610, y_894, y_999, y_1000, y_1216, y_1276, neg1, neg2, nI_add, nI_mul, nn_sub, nn_lt, nn_le, nn_eq, in_lt, ni_lt, in_le, ni_le, in_eq, ni_eq, iI_lt, iI_le, iI_eq, nn_clamp, inb_n, t_lt, f_lt, t_le, f_le, t_eq, f_eq, ti_lt, fi_lt, ti_le, fi_le, ti_eq, fi_eq, ↓reduceIte, ite_true, ite_false, eq_self, decide_true, decide_false, Bool.true_and, Bool.and_true, Bool.false_and, Bool.and_false, Bool.true_or, Bool.or_true, Bool.false_or, Bool.or_false, bI_t, bI_f, bI_nand, n_mod, an11, an01, negn1, negn2, false_and, and_false, true_and, and_true, not_true_eq_false, not_false_eq_true, bI_n0, bI_n1, Bool.true_eq_false, Bool.false_eq_true, cI_s, cL_s, cV_s, cR_n, pm_bR_self, bI_ite, bL_ite, bV_ite, bR_ite, l3, A]
theorem allAgree_C {h : PH} {j : Nat} {l : AC} (hv : lV l) (hC : LogC h j l) {st : Nat} (hs : st < 64) : pm_ev (53, 0, [vr 2 j, vi (nI st), none], [], h) = some (some (vi (bI (lFit l st))), h) := by
  rw [E_X2_allAgree]
  exact allAgree_2 hv hC hs _ 0 (Nat.zero_add _) (fun q hq => absurd hq (by omega))
theorem pw6 {n : Nat} (h : n ≤ 6) : 0 < 2 ^ n ∧ 2 ^ n ≤ 64 := ⟨Nat.two_pow_pos n, pw_le h⟩
theorem sets_C {h : PH} {j : Nat} {l : AC} (hv : lV l) (hC : LogC h j l) : pm_ev (50, 0, [vr 2 j], [], h) = some (some (vi (nI (2 ^ (l (0)).val))), h) := by
  have l0 := hC.1.1
  have hV := hv.1
  rw [E_X2_sets]
  simp (disch := omega) only [y_0, y_1, y_2, y_3, y_4, y_5, y_6, y_7, y_8, y_9, y_10, y_11, y_12, y_13, y_14, y_15, y_16, y_17, y_18, y_19, y_20, y_21, y_22, y_23, y_24, y_29, y_30, y_31, y_32, y_39, y_40, y_48, y_49, y_50, y_60, y_64, y_69, y_78, y_99, y_100, y_142, y_161, y_600, y_610, y_894, y_999, y_1000, y_1216, y_1276, neg1, neg2, nI_add, nI_mul, nn_sub, nn_lt, nn_le, nn_eq, in_lt, ni_lt, in_le, ni_le, in_eq, ni_eq, iI_lt, iI_le, iI_eq, nn_clamp, inb_n, t_lt, f_lt, t_le, f_le, t_eq, f_eq, ti_lt, fi_lt, ti_le, fi_le, ti_eq, fi_eq, ↓reduceIte, ite_true, ite_false, eq_self, decide_true, decide_false, Bool.true_and, Bool.and_true, Bool.false_and, Bool.and_false, Bool.true_or, Bool.or_true, Bool.false_or, Bool.or_false, bI_t, bI_f, bI_nand, n_mod, an11, an01, negn1, negn2, false_and, and_false, true_and, and_true, not_true_eq_false, not_false_eq_true, bI_n0, bI_n1, Bool.true_eq_false, Bool.false_eq_true, cI_s, cL_s, cV_s, cR_n, pm_bR_self, bI_ite, bL_ite, bV_ite, bR_ite, l0, nn_and, shl_1]
theorem sets_M {h : PH} {a : Nat} {l : AC} (hv : lV l) (hM : ModL h a l) : nI 1 <<< (h.1 33 0 a &&& nI 31) = nI (2 ^ (l (0)).val) := by
  have hV := hv.1
  rw [hM.1.1.1, nn_and, shl_1 (by omega)]
theorem lS_add {S : Nat → Bool} {q : Nat} (hq : q < 64) : lS S ||| lS (fun i => decide (i = q)) = lS (fun i => S i || decide (i = q)) := lS_or _ _
theorem lS_step_t {p : Nat → Bool} {q : Nat} (hp : p q = true) : lS (fun i => decide (i < q) && p i) ||| lS (fun i => decide (i = q)) = lS (fun i => decide (i < q + 1) && p i) := by
  rw [lS_or]
  refine lS_cong (fun i hi => ?_)
  by_cases e : i = q
  · subst e; simp [hp]
  · have : decide (i < q + 1) = decide (i < q) := decide_eq_decide.mpr (by omega)
    simp [e, this]
theorem lS_step_f {p : Nat → Bool} {q : Nat} (hp : p q = false) : lS (fun i => decide (i < q) && p i) = lS (fun i => decide (i < q + 1) && p i) := by
  refine lS_cong (fun i hi => ?_)
  by_cases e : i = q
  · subst e; simp [hp]
  · have : decide (i < q + 1) = decide (i < q) := decide_eq_decide.mpr (by omega)
    simp [this]
theorem lS_step_0 (p : Nat → Bool) : (0 : Int64) = lS (fun i => decide (i < 0) && p i) := lS_0.trans (lS_cong (fun i _ => by simp))
theorem fitting_4 {h : PH} {j : Nat} {l : AC} (hv : lV l) (hC : LogC h j l) : ∀ r k, k + r = 2 ^ (l (0)).val → pm_ev (54, 4, [vr 2 j, vl (lS (fun i => decide (i < k) && lFit l i)), none, vi (nI k)], [], h) = some (some (vl (lS (fun i => decide (i < 2 ^ (l (0)).val) && lFit l i))), h) := by
  have hP := pw6 hv.1.1
  intro r
  induction r with
  | zero =>
    intro k hk
    have hk : k = 2 ^ (l (0)).val := by omega
    rw [E_X2_fitting_4, hk]
    simp (disch := omega) only [y_0, y_1, y_2, y_3, y_4, y_5, y_6, y_7, y_8, y_9, y_10, y_11, y_12, y_13, y_14, y_15, y_16, y_17, y_18, y_19, y_20, y_21, y_22, y_23, y_24, y_29, y_30, y_31, y_32, y_39, y_40, y_48, y_49, y_50, y_60, y_64, y_69, y_78, y_99, y_100, y_142, y_161, y_600, y_610, y_894, y_999, y_1000, y_1216, y_1276, neg1, neg2, nI_add, nI_mul, nn_sub, nn_lt, nn_le, nn_eq, in_lt, ni_lt, in_le, ni_le, in_eq, ni_eq, iI_lt, iI_le, iI_eq, nn_clamp, inb_n, t_lt, f_lt, t_le, f_le, t_eq, f_eq, ti_lt, fi_lt, ti_le, fi_le, ti_eq, fi_eq, ↓reduceIte, ite_true, ite_false, eq_self, decide_true, decide_false, Bool.true_and, Bool.and_true, Bool.false_and, Bool.and_false, Bool.true_or, Bool.or_true, Bool.false_or, Bool.or_false, bI_t, bI_f, bI_nand, n_mod, an11, an01, negn1, negn2, false_and, and_false, true_and, and_true, not_true_eq_false, not_false_eq_true, bI_n0, bI_n1, Bool.true_eq_false, Bool.false_eq_true, cI_s, cL_s, cV_s, cR_n, pm_bR_self, bI_ite, bL_ite, bV_ite, bR_ite, sets_C hv hC]
  | succ r ih =>
    intro k hk
    have e := ih (k + 1) (by omega)
    have A := allAgree_C hv hC (show k < 64 by omega)
    rw [E_X2_fitting_4]
    cases q : lFit l k with
    | true =>
      rw [q] at A
      rw [← lS_step_t q] at e
      simp (disch := omega) only [y_0, y_1, y_2, y_3, y_4, y_5, y_6, y_7, y_8, y_9, y_10, y_11, y_12, y_13, y_14, y_15, y_16, y_17, y_18, y_19, y_20, y_21, y_22, y_23, y_24, y_29, y_30, y_31, y_32, y_39, y_40, y_48, y_49, y_50, y_60, y_64, y_69, y_78, y_99, y_100, y_142, y_161, y_600, y_610, y_894, y_999, y_1000, y_1216, y_1276, neg1, neg2, nI_add, nI_mul, nn_sub, nn_lt, nn_le, nn_eq, in_lt, ni_lt, in_le, ni_le, in_eq, ni_eq, iI_lt, iI_le, iI_eq, nn_clamp, inb_n, t_lt, f_lt, t_le, f_le, t_eq, f_eq, ti_lt, fi_lt, ti_le, fi_le, ti_eq, fi_eq, ↓reduceIte, ite_true, ite_false, eq_self, decide_true, decide_false, Bool.true_and, Bool.and_true, Bool.false_and, Bool.and_false, Bool.true_or, Bool.or_true, Bool.false_or, Bool.or_false, bI_t, bI_f, bI_nand, n_mod, an11, an01, negn1, negn2, false_and, and_false, true_and, and_true, not_true_eq_false, not_false_eq_true, bI_n0, bI_n1, Bool.true_eq_false, Bool.false_eq_true, cI_s, cL_s, cV_s, cR_n, pm_bR_self, bI_ite, bL_ite, bV_ite, bR_ite, sets_C hv hC, A, lS_one]
      exact e
    | false =>
      rw [q] at A
      rw [← lS_step_f q] at e
      simp (disch := omega) only [y_0, y_1, y_2, y_3, y_4, y_5, y_6, y_7, y_8, y_9, y_10, y_11, y_12, y_13, y_14, y_15, y_16, y_17, y_18, y_19, y_20, y_21, y_22, y_23, y_24, y_29, y_30, y_31, y_32, y_39, y_40, y_48, y_49, y_50, y_60, y_64, y_69, y_78, y_99, y_100, y_142, y_161, y_600, y_610, y_894, y_999, y_1000, y_1216, y_1276, neg1, neg2, nI_add, nI_mul, nn_sub, nn_lt, nn_le, nn_eq, in_lt, ni_lt, in_le, ni_le, in_eq, ni_eq, iI_lt, iI_le, iI_eq, nn_clamp, inb_n, t_lt, f_lt, t_le, f_le, t_eq, f_eq, ti_lt, fi_lt, ti_le, fi_le, ti_eq, fi_eq, ↓reduceIte, ite_true, ite_false, eq_self, decide_true, decide_false, Bool.true_and, Bool.and_true, Bool.false_and, Bool.and_false, Bool.true_or, Bool.or_true, Bool.false_or, Bool.or_false, bI_t, bI_f, bI_nand, n_mod, an11, an01, negn1, negn2, false_and, and_false, true_and, and_true, not_true_eq_false, not_false_eq_true, bI_n0, bI_n1, Bool.true_eq_false, Bool.false_eq_true, cI_s, cL_s, cV_s, cR_n, pm_bR_self, bI_ite, bL_ite, bV_ite, bR_ite, sets_C hv hC, A]
      exact e
theorem fitting_C {h : PH} {j : Nat} {l : AC} (hv : lV l) (hC : LogC h j l) : pm_ev (54, 0, [vr 2 j, none, none, none], [], h) = some (some (vl (lS (fun i => decide (i < 2 ^ (l (0)).val) && lFit l i))), h) := by
  rw [E_X2_fitting, lS_step_0 (lFit l)]
  exact fitting_4 hv hC _ 0 (Nat.zero_add _)
theorem shiningAt_5 {h : PH} {j : Nat} {l : AC} (hv : lV l) (hC : LogC h j l) {at' : Nat} (ha : at' < 24) : ∀ r k, k + r = 2 ^ (l (0)).val → pm_ev (58, 5, [vr 2 j, vi (nI at'), vl (lS (fun i => decide (i < k) && lShine l i at')), none, vi (nI k)], [], h) = some (some (vl (lS (fun i => decide (i < 2 ^ (l (0)).val) && lShine l i at'))), h) := by
  have hP := pw6 hv.1.1
  intro r
  induction r with
  | zero =>
    intro k hk
    have hk : k = 2 ^ (l (0)).val := by omega
    rw [E_X2_shiningAt_5, hk]
    simp (disch := omega) only [y_0, y_1, y_2, y_3, y_4, y_5, y_6, y_7, y_8, y_9, y_10, y_11, y_12, y_13, y_14, y_15, y_16, y_17, y_18, y_19, y_20, y_21, y_22, y_23, y_24, y_29, y_30, y_31, y_32, y_39, y_40, y_48, y_49, y_50, y_60, y_64, y_69, y_78, y_99, y_100, y_142, y_161, y_600, y_610, y_894, y_999, y_1000, y_1216, y_1276, neg1, neg2, nI_add, nI_mul, nn_sub, nn_lt, nn_le, nn_eq, in_lt, ni_lt, in_le, ni_le, in_eq, ni_eq, iI_lt, iI_le, iI_eq, nn_clamp, inb_n, t_lt, f_lt, t_le, f_le, t_eq, f_eq, ti_lt, fi_lt, ti_le, fi_le, ti_eq, fi_eq, ↓reduceIte, ite_true, ite_false, eq_self, decide_true, decide_false, Bool.true_and, Bool.and_true, Bool.false_and, Bool.and_false, Bool.true_or, Bool.or_true, Bool.false_or, Bool.or_false, bI_t, bI_f, bI_nand, n_mod, an11, an01, negn1, negn2, false_and, and_false, true_and, and_true, not_true_eq_false, not_false_eq_true, bI_n0, bI_n1, Bool.true_eq_false, Bool.false_eq_true, cI_s, cL_s, cV_s, cR_n, pm_bR_self, bI_ite, bL_ite, bV_ite, bR_ite, sets_C hv hC]
  | succ r ih =>
    intro k hk
    have e := ih (k + 1) (by omega)
    have A := shines_C hv hC (show k < 64 by omega) (show at' < 2147483648 by omega)
    rw [E_X2_shiningAt_5]
    cases q : lShine l k at' with
    | true =>
      rw [q] at A
      rw [← lS_step_t (p := fun i => lShine l i at') q] at e
      simp (disch := omega) only [y_0, y_1, y_2, y_3, y_4, y_5, y_6, y_7, y_8, y_9, y_10, y_11, y_12, y_13, y_14, y_15, y_16, y_17, y_18, y_19, y_20, y_21, y_22, y_23, y_24, y_29, y_30, y_31, y_32, y_39, y_40, y_48, y_49, y_50, y_60, y_64, y_69, y_78, y_99, y_100, y_142, y_161, y_600, y_610, y_894, y_999, y_1000, y_1216, y_1276, neg1, neg2, nI_add, nI_mul, nn_sub, nn_lt, nn_le, nn_eq, in_lt, ni_lt, in_le, ni_le, in_eq, ni_eq, iI_lt, iI_le, iI_eq, nn_clamp, inb_n, t_lt, f_lt, t_le, f_le, t_eq, f_eq, ti_lt, fi_lt, ti_le, fi_le, ti_eq, fi_eq, ↓reduceIte, ite_true, ite_false, eq_self, decide_true, decide_false, Bool.true_and, Bool.and_true, Bool.false_and, Bool.and_false, Bool.true_or, Bool.or_true, Bool.false_or, Bool.or_false, bI_t, bI_f, bI_nand, n_mod, an11, an01, negn1, negn2, false_and, and_false, true_and, and_true, not_true_eq_false, not_false_eq_true, bI_n0, bI_n1, Bool.true_eq_false, Bool.false_eq_true, cI_s, cL_s, cV_s, cR_n, pm_bR_self, bI_ite, bL_ite, bV_ite, bR_ite, sets_C hv hC, A, lS_one]
      exact e
    | false =>
      rw [q] at A
      rw [← lS_step_f (p := fun i => lShine l i at') q] at e
      simp (disch := omega) only [y_0, y_1, y_2, y_3, y_4, y_5, y_6, y_7, y_8, y_9, y_10, y_11, y_12, y_13, y_14, y_15, y_16, y_17, y_18, y_19, y_20, y_21, y_22, y_23, y_24, y_29, y_30, y_31, y_32, y_39, y_40, y_48, y_49, y_50, y_60, y_64, y_69, y_78, y_99, y_100, y_142, y_161, y_600, y_610, y_894, y_999, y_1000, y_1216, y_1276, neg1, neg2, nI_add, nI_mul, nn_sub, nn_lt, nn_le, nn_eq, in_lt, ni_lt, in_le, ni_le, in_eq, ni_eq, iI_lt, iI_le, iI_eq, nn_clamp, inb_n, t_lt, f_lt, t_le, f_le, t_eq, f_eq, ti_lt, fi_lt, ti_le, fi_le, ti_eq, fi_eq, ↓reduceIte, ite_true, ite_false, eq_self, decide_true, decide_false, Bool.true_and, Bool.and_true, Bool.false_and, Bool.and_false, Bool.true_or, Bool.or_true, Bool.false_or, Bool.or_false, bI_t, bI_f, bI_nand, n_mod, an11, an01, negn1, negn2, false_and, and_false, true_and, and_true, not_true_eq_false, not_false_eq_true, bI_n0, bI_n1, Bool.true_eq_false, Bool.false_eq_true, cI_s, cL_s, cV_s, cR_n, pm_bR_self, bI_ite, bL_ite, bV_ite, bR_ite, sets_C hv hC, A]
      exact e
theorem shiningAt_C {h : PH} {j : Nat} {l : AC} (hv : lV l) (hC : LogC h j l) {at' : Nat} (ha : at' < 24) : pm_ev (58, 0, [vr 2 j, vi (nI at'), none, none, none], [], h) = some (some (vl (lS (fun i => decide (i < 2 ^ (l (0)).val) && lShine l i at'))), h) := by
  rw [E_X2_shiningAt, lS_step_0 (fun i => lShine l i at')]
  exact shiningAt_5 hv hC ha _ 0 (Nat.zero_add _)
theorem ct_64 (p : Nat → Bool) {n : Nat} (hn : n ≤ 64) : fb_ct (fun i => decide (i < n) && p i) 64 = fb_ct p n := by
  have e : fb_ct (fun i => decide (i < n) && p i) (n + (64 - n)) = fb_ct (fun i => decide (i < n) && p i) n + fb_ct (fun k => decide (n + k < n) && p (n + k)) (64 - n) := fb_ct_split _ n (64 - n)
  rw [show 64 = n + (64 - n) by omega, e]
  have e2 : fb_ct (fun k => decide (n + k < n) && p (n + k)) (64 - n) = 0 := fb_ct_zero.mpr (fun k _ => by rw [decide_eq_false (by omega), Bool.false_and])
  rw [e2, Nat.add_zero]
  exact fb_ct_cong (fun k hk => by rw [decide_eq_true hk, Bool.true_and])
theorem countOf_4 {h : PH} {a : Nat} {l : AC} (hv : lV l) (hM : ModL h a l) {x : Int32} {p : Nat → Bool} (hp : (x = iI (-1) ∧ ∀ i, p i = lFit l i) ∨ ∃ at' : Nat, at' < 24 ∧ x = nI at' ∧ ∀ i, p i = (lFit l i && lShine l i at')) : ∀ r k, k + r = 2 ^ (l (0)).val → pm_ev (242, 4, [vr 8 0, vi x, vi (nI (fb_ct p k)), vi (nI k)], [], h) = some (some (vi (nI (fb_ct p (2 ^ (l (0)).val)))), h) := by
  obtain ⟨⟨⟨l0, l1, l2, l3, hl⟩, _, lF⟩, a0⟩ := id hM
  have hP := pw6 hv.1.1
  have hs := sets_M hv hM
  intro r
  induction r with
  | zero =>
    intro k hk
    have hk : k = 2 ^ (l (0)).val := by omega
    rw [E_X9_countOf_4, hk]
    simp (disch := omega) only [y_0, y_1, y_2, y_3, y_4, y_5, y_6, y_7, y_8, y_9, y_10, y_11, y_12, y_13, y_14, y_15, y_16, y_17, y_18, y_19, y_20, y_21, y_22, y_23, y_24, y_29, y_30, y_31, y_32, y_39, y_40, y_48, y_49, y_50, y_60, y_64, y_69, y_78, y_99, y_100, y_142, y_161, y_600, y_610, y_894, y_999, y_1000, y_1216, y_1276, neg1, neg2, nI_add, nI_mul, nn_sub, nn_lt, nn_le, nn_eq, in_lt, ni_lt, in_le, ni_le, in_eq, ni_eq, iI_lt, iI_le, iI_eq, nn_clamp, inb_n, t_lt, f_lt, t_le, f_le, t_eq, f_eq, ti_lt, fi_lt, ti_le, fi_le, ti_eq, fi_eq, ↓reduceIte, ite_true, ite_false, eq_self, decide_true, decide_false, Bool.true_and, Bool.and_true, Bool.false_and, Bool.and_false, Bool.true_or, Bool.or_true, Bool.false_or, Bool.or_false, bI_t, bI_f, bI_nand, n_mod, an11, an01, negn1, negn2, false_and, and_false, true_and, and_true, not_true_eq_false, not_false_eq_true, bI_n0, bI_n1, Bool.true_eq_false, Bool.false_eq_true, cI_s, cL_s, cV_s, cR_n, pm_bR_self, bI_ite, bL_ite, bV_ite, bR_ite, E_X9_countOf_15, E_X9_countOf_39, a0, hs]
  | succ r ih =>
    intro k hk
    have e := ih (k + 1) (by omega)
    rw [fb_ct_succ] at e
    have W := wrongBy_M hv hM (show k < 64 by omega)
    have hw : lWrong l k ≤ 10 := Nat.le_trans (fb_ct_le _ _) hv.1.2.2.2.2
    rw [E_X9_countOf_4]
    rcases hp with ⟨rfl, hp⟩ | ⟨at', ha, rfl, hp⟩
    · rw [hp k] at e
      unfold lFit at e
      by_cases q : lWrong l k = 0
      · rw [decide_eq_true q, if_pos rfl] at e
        simp (disch := omega) only [y_0, y_1, y_2, y_3, y_4, y_5, y_6, y_7, y_8, y_9, y_10, y_11, y_12, y_13, y_14, y_15, y_16, y_17, y_18, y_19, y_20, y_21, y_22, y_23, y_24, y_29, y_30, y_31, y_32, y_39, y_40, y_48, y_49, y_50, y_60, y_64, y_69, y_78, y_99, y_100, y_142, y_161, y_600, y_610, y_894, y_999, y_1000, y_1216, y_1276, neg1, neg2, nI_add, nI_mul, nn_sub, nn_lt, nn_le, nn_eq, in_lt, ni_lt, in_le, ni_le, in_eq, ni_eq, iI_lt, iI_le, iI_eq, nn_clamp, inb_n, t_lt, f_lt, t_le, f_le, t_eq, f_eq, ti_lt, fi_lt, ti_le, fi_le, ti_eq, fi_eq, ↓reduceIte, ite_true, ite_false, eq_self, decide_true, decide_false, Bool.true_and, Bool.and_true, Bool.false_and, Bool.and_false, Bool.true_or, Bool.or_true, Bool.false_or, Bool.or_false, bI_t, bI_f, bI_nand, n_mod, an11, an01, negn1, negn2, false_and, and_false, true_and, and_true, not_true_eq_false, not_false_eq_true, bI_n0, bI_n1, Bool.true_eq_false, Bool.false_eq_true, cI_s, cL_s, cV_s, cR_n, pm_bR_self, bI_ite, bL_ite, bV_ite, bR_ite, E_X9_countOf_15, E_X9_countOf_39, a0, hs, W, q]
        exact e
      · rw [decide_eq_false q, if_neg (by decide)] at e
        simp (disch := omega) only [y_0, y_1, y_2, y_3, y_4, y_5, y_6, y_7, y_8, y_9, y_10, y_11, y_12, y_13, y_14, y_15, y_16, y_17, y_18, y_19, y_20, y_21, y_22, y_23, y_24, y_29, y_30, y_31, y_32, y_39, y_40, y_48, y_49, y_50, y_60, y_64, y_69, y_78, y_99, y_100, y_142, y_161, y_600, y_610, y_894, y_999, y_1000, y_1216, y_1276, neg1, neg2, nI_add, nI_mul, nn_sub, nn_lt, nn_le, nn_eq, in_lt, ni_lt, in_le, ni_le, in_eq, ni_eq, iI_lt, iI_le, iI_eq, nn_clamp, inb_n, t_lt, f_lt, t_le, f_le, t_eq, f_eq, ti_lt, fi_lt, ti_le, fi_le, ti_eq, fi_eq, ↓reduceIte, ite_true, ite_false, eq_self, decide_true, decide_false, Bool.true_and, Bool.and_true, Bool.false_and, Bool.and_false, Bool.true_or, Bool.or_true, Bool.false_or, Bool.or_false, bI_t, bI_f, bI_nand, n_mod, an11, an01, negn1, negn2, false_and, and_false, true_and, and_true, not_true_eq_false, not_false_eq_true, bI_n0, bI_n1, Bool.true_eq_false, Bool.false_eq_true, cI_s, cL_s, cV_s, cR_n, pm_bR_self, bI_ite, bL_ite, bV_ite, bR_ite, E_X9_countOf_15, E_X9_countOf_39, a0, hs, W]
        exact e
    · have S := shines_M hv hM (show k < 64 by omega) (show at' < 2147483648 by omega)
      rw [hp k] at e
      unfold lFit at e
      by_cases q : lWrong l k = 0
      · rw [decide_eq_true q, Bool.true_and] at e
        cases q2 : lShine l k at'
        · rw [q2, if_neg (by decide)] at e
          rw [q2] at S
          simp (disch := omega) only [y_0, y_1, y_2, y_3, y_4, y_5, y_6, y_7, y_8, y_9, y_10, y_11, y_12, y_13, y_14, y_15, y_16, y_17, y_18, y_19, y_20, y_21, y_22, y_23, y_24, y_29, y_30, y_31, y_32, y_39, y_40, y_48, y_49, y_50, y_60, y_64, y_69, y_78, y_99, y_100, y_142, y_161, y_600, y_610, y_894, y_999, y_1000, y_1216, y_1276, neg1, neg2, nI_add, nI_mul, nn_sub, nn_lt, nn_le, nn_eq, in_lt, ni_lt, in_le, ni_le, in_eq, ni_eq, iI_lt, iI_le, iI_eq, nn_clamp, inb_n, t_lt, f_lt, t_le, f_le, t_eq, f_eq, ti_lt, fi_lt, ti_le, fi_le, ti_eq, fi_eq, ↓reduceIte, ite_true, ite_false, eq_self, decide_true, decide_false, Bool.true_and, Bool.and_true, Bool.false_and, Bool.and_false, Bool.true_or, Bool.or_true, Bool.false_or, Bool.or_false, bI_t, bI_f, bI_nand, n_mod, an11, an01, negn1, negn2, false_and, and_false, true_and, and_true, not_true_eq_false, not_false_eq_true, bI_n0, bI_n1, Bool.true_eq_false, Bool.false_eq_true, cI_s, cL_s, cV_s, cR_n, pm_bR_self, bI_ite, bL_ite, bV_ite, bR_ite, E_X9_countOf_15, E_X9_countOf_39, a0, hs, W, q, S]
          exact e
        · rw [q2, if_pos rfl] at e
          rw [q2] at S
          simp (disch := omega) only [y_0, y_1, y_2, y_3, y_4, y_5, y_6, y_7, y_8, y_9, y_10, y_11, y_12, y_13, y_14, y_15, y_16, y_17, y_18, y_19, y_20, y_21, y_22, y_23, y_24, y_29, y_30, y_31, y_32, y_39, y_40, y_48, y_49, y_50, y_60, y_64, y_69, y_78, y_99, y_100, y_142, y_161, y_600, y_610, y_894, y_999, y_1000, y_1216, y_1276, neg1, neg2, nI_add, nI_mul, nn_sub, nn_lt, nn_le, nn_eq, in_lt, ni_lt, in_le, ni_le, in_eq, ni_eq, iI_lt, iI_le, iI_eq, nn_clamp, inb_n, t_lt, f_lt, t_le, f_le, t_eq, f_eq, ti_lt, fi_lt, ti_le, fi_le, ti_eq, fi_eq, ↓reduceIte, ite_true, ite_false, eq_self, decide_true, decide_false, Bool.true_and, Bool.and_true, Bool.false_and, Bool.and_false, Bool.true_or, Bool.or_true, Bool.false_or, Bool.or_false, bI_t, bI_f, bI_nand, n_mod, an11, an01, negn1, negn2, false_and, and_false, true_and, and_true, not_true_eq_false, not_false_eq_true, bI_n0, bI_n1, Bool.true_eq_false, Bool.false_eq_true, cI_s, cL_s, cV_s, cR_n, pm_bR_self, bI_ite, bL_ite, bV_ite, bR_ite, E_X9_countOf_15, E_X9_countOf_39, a0, hs, W, q, S]
          exact e
      · rw [decide_eq_false q, Bool.false_and, if_neg (by decide)] at e
        simp (disch := omega) only [y_0, y_1, y_2, y_3, y_4, y_5, y_6, y_7, y_8, y_9, y_10, y_11, y_12, y_13, y_14, y_15, y_16, y_17, y_18, y_19, y_20, y_21, y_22, y_23, y_24, y_29, y_30, y_31, y_32, y_39, y_40, y_48, y_49, y_50, y_60, y_64, y_69, y_78, y_99, y_100, y_142, y_161, y_600, y_610, y_894, y_999, y_1000, y_1216, y_1276, neg1, neg2, nI_add, nI_mul, nn_sub, nn_lt, nn_le, nn_eq, in_lt, ni_lt, in_le, ni_le, in_eq, ni_eq, iI_lt, iI_le, iI_eq, nn_clamp, inb_n, t_lt, f_lt, t_le, f_le, t_eq, f_eq, ti_lt, fi_lt, ti_le, fi_le, ti_eq, fi_eq, ↓reduceIte, ite_true, ite_false, eq_self, decide_true, decide_false, Bool.true_and, Bool.and_true, Bool.false_and, Bool.and_false, Bool.true_or, Bool.or_true, Bool.false_or, Bool.or_false, bI_t, bI_f, bI_nand, n_mod, an11, an01, negn1, negn2, false_and, and_false, true_and, and_true, not_true_eq_false, not_false_eq_true, bI_n0, bI_n1, Bool.true_eq_false, Bool.false_eq_true, cI_s, cL_s, cV_s, cR_n, pm_bR_self, bI_ite, bL_ite, bV_ite, bR_ite, E_X9_countOf_15, E_X9_countOf_39, a0, hs, W]
        exact e
theorem countOf_no {h : PH} {a : Nat} {l : AC} (hv : lV l) (hM : ModL h a l) : pm_ev (242, 0, [vr 8 0, vi (iI (-1)), none, none], [], h) = some (some (vi (nI (fb_ct (lFit l) (2 ^ (l (0)).val)))), h) := by
  rw [E_X9_countOf]
  exact countOf_4 hv hM (Or.inl ⟨rfl, fun _ => rfl⟩) _ 0 (Nat.zero_add _)
theorem countOf_at {h : PH} {a : Nat} {l : AC} (hv : lV l) (hM : ModL h a l) {at' : Nat} (ha : at' < 24) : pm_ev (242, 0, [vr 8 0, vi (nI at'), none, none], [], h) = some (some (vi (nI (fb_ct (fun i => lFit l i && lShine l i at') (2 ^ (l (0)).val)))), h) := by
  rw [E_X9_countOf]
  exact countOf_4 hv hM (Or.inr ⟨at', ha, rfl, fun _ => rfl⟩) _ 0 (Nat.zero_add _)
