theorem dst_lt {a b x y : Nat} (h1 : a < 8) (h2 : b < 8) (h3 : x < 8) (h4 : y < 8) : dst a b x y < 100 := by unfold dst; omega
theorem ok3_le {c : AC} (hv : cV c) {R n : Nat} {st : W3} (h : ok3 (aSee c R) n st) : st.1 ≤ 64 := by
  by_cases q : st.1 = 0
  · omega
  · rw [h.2.2 q]; exact aSee_le hv R _ _
theorem pair_6 {h : PH} {c : AC} (hv : cV c) {R : Nat} (h5 : h.1 5 0 5 = nI ((c (0)).val * (c (1)).val)) (h25 : ∀ i, i < (c (0)).val * (c (1)).val → h.2 25 0 i = lS (toS (ballI c R i))) (h2 : 2 ≤ (c (0)).val * (c (1)).val) : ∀ r k, k + r = (c (0)).val * (c (1)).val → pm_ev (102, 6, [vr 5 0, vi (nI (64 * (out3 (aSee c R) ((c (0)).val * (c (1)).val) k (0, 0, 1)).2.1 + (out3 (aSee c R) ((c (0)).val * (c (1)).val) k (0, 0, 1)).2.2)), vi (nI (out3 (aSee c R) ((c (0)).val * (c (1)).val) k (0, 0, 1)).1), vi (nI k), none, none], [], h) = some (some (vi (nI (64 * (out3 (aSee c R) ((c (0)).val * (c (1)).val) ((c (0)).val * (c (1)).val) (0, 0, 1)).2.1 + (out3 (aSee c R) ((c (0)).val * (c (1)).val) ((c (0)).val * (c (1)).val) (0, 0, 1)).2.2))), h) := by
  have hWb := WH_le hv
  intro r
  induction r with
  | zero =>
    intro k hk
    have hk : k = (c (0)).val * (c (1)).val := by omega
    rw [hk, E_X6_bestPair_6]
    generalize (c (0)).val * (c (1)).val = WH at *
    simp (disch := omega) only [y_0, y_1, y_2, y_3, y_4, y_5, y_6, y_7, y_8, y_9, y_10, y_11, y_12, y_13, y_14, y_15, y_16, y_17, y_18, y_19, y_20, y_21, y_22, y_23, y_24, y_29, y_30, y_31, y_32, y_39, y_40, y_48, y_49, y_50, y_60, y_64, y_69, y_78, y_99, y_100, y_142, y_161, y_600, y_610, y_894, y_999, y_1000, y_1216, y_1276, neg1, neg2, nI_add, nI_mul, nn_sub, nn_lt, nn_le, nn_eq, in_lt, ni_lt, in_le, ni_le, in_eq, ni_eq, iI_lt, iI_le, iI_eq, nn_clamp, inb_n, t_lt, f_lt, t_le, f_le, t_eq, f_eq, ti_lt, fi_lt, ti_le, fi_le, ti_eq, fi_eq, ↓reduceIte, ite_true, ite_false, eq_self, decide_true, decide_false, Bool.true_and, Bool.and_true, Bool.false_and, Bool.and_false, Bool.true_or, Bool.or_true, Bool.false_or, Bool.or_false, bI_t, bI_f, bI_nand, n_mod, an11, an01, negn1, negn2, false_and, and_false, true_and, and_true, not_true_eq_false, not_false_eq_true, bI_n0, bI_n1, Bool.true_eq_false, Bool.false_eq_true, cI_s, cL_s, cV_s, cR_n, pm_bR_self, bI_ite, bL_ite, bV_ite, bR_ite, E_X6_bestPair_34, E_X6_bestPair_41, h5]
  | succ r ih =>
    intro k hk
    have e := ih (k + 1) (by omega)
    have ho : ok3 (aSee c R) ((c (0)).val * (c (1)).val) (out3 (aSee c R) ((c (0)).val * (c (1)).val) k (0, 0, 1)) := out3_ok ⟨by show 0 < _; omega, by show 1 < _; omega, fun q => absurd rfl q⟩ k (by omega)
    have P := pair_19 hv h5 h25 (show k < (c (0)).val * (c (1)).val by omega) _ ho (ok3_le hv ho) ((c (0)).val * (c (1)).val - (k + 1)) 0 (by omega)
    rw [show out3 (aSee c R) ((c (0)).val * (c (1)).val) (k + 1) (0, 0, 1) = inn3 (aSee c R) k ((c (0)).val * (c (1)).val - (k + 1)) (out3 (aSee c R) ((c (0)).val * (c (1)).val) k (0, 0, 1)) from rfl] at e
    rw [← e, ← P, E_X6_bestPair_6]
    generalize (c (0)).val * (c (1)).val = WH at *
    simp (disch := omega) only [y_0, y_1, y_2, y_3, y_4, y_5, y_6, y_7, y_8, y_9, y_10, y_11, y_12, y_13, y_14, y_15, y_16, y_17, y_18, y_19, y_20, y_21, y_22, y_23, y_24, y_29, y_30, y_31, y_32, y_39, y_40, y_48, y_49, y_50, y_60, y_64, y_69, y_78, y_99, y_100, y_142, y_161, y_600, y_610, y_894, y_999, y_1000, y_1216, y_1276, neg1, neg2, nI_add, nI_mul, nn_sub, nn_lt, nn_le, nn_eq, in_lt, ni_lt, in_le, ni_le, in_eq, ni_eq, iI_lt, iI_le, iI_eq, nn_clamp, inb_n, t_lt, f_lt, t_le, f_le, t_eq, f_eq, ti_lt, fi_lt, ti_le, fi_le, ti_eq, fi_eq, ↓reduceIte, ite_true, ite_false, eq_self, decide_true, decide_false, Bool.true_and, Bool.and_true, Bool.false_and, Bool.and_false, Bool.true_or, Bool.or_true, Bool.false_or, Bool.or_false, bI_t, bI_f, bI_nand, n_mod, an11, an01, negn1, negn2, false_and, and_false, true_and, and_true, not_true_eq_false, not_false_eq_true, bI_n0, bI_n1, Bool.true_eq_false, Bool.false_eq_true, cI_s, cL_s, cV_s, cR_n, pm_bR_self, bI_ite, bL_ite, bV_ite, bR_ite, E_X6_bestPair_34, E_X6_bestPair_41, h5]
    rfl
/-! the reference -/
theorem seenBy_6 {h : PH} {a0 : Nat} {c : AC} (hv : cV c) (hm : ModS h a0 c) {R a b : Nat} (hR : R < 8) (ha : a < (c (0)).val * (c (1)).val) (hb : b < (c (0)).val * (c (1)).val) : ∀ r k, k + r = (c (0)).val * (c (1)).val → pm_ev (253, 6, [vr 8 0, vi (nI a), vi (nI b), vi (nI R), vi (nI (fb_ct (fun i => decide (dst (a % (c (0)).val) (a / (c (0)).val) (i % (c (0)).val) (i / (c (0)).val) ≤ R) || decide (dst (b % (c (0)).val) (b / (c (0)).val) (i % (c (0)).val) (i / (c (0)).val) ≤ R)) k)), vi (nI k)], [], h) = some (some (vi (nI (aSee c R a b))), h) := by
  have hV1 := hv.1
  have hWb := WH_le hv
  have hwh : h.1 8 0 14 * h.1 8 0 15 = nI ((c (0)).val * (c (1)).val) := by rw [hm.2.2.1, hm.2.2.2.1, nI_mul]
  obtain ⟨a1, a2, a3⟩ := cell_xy (show 0 < (c (0)).val by omega) ha
  obtain ⟨b1, b2, b3⟩ := cell_xy (show 0 < (c (0)).val by omega) hb
  intro r
  induction r with
  | zero =>
    intro k hk
    have hk : k = (c (0)).val * (c (1)).val := by omega
    rw [hk, E_X9_seenBy_6]
    unfold aSee
    generalize (c (0)).val * (c (1)).val = WH at *
    simp (disch := omega) only [y_0, y_1, y_2, y_3, y_4, y_5, y_6, y_7, y_8, y_9, y_10, y_11, y_12, y_13, y_14, y_15, y_16, y_17, y_18, y_19, y_20, y_21, y_22, y_23, y_24, y_29, y_30, y_31, y_32, y_39, y_40, y_48, y_49, y_50, y_60, y_64, y_69, y_78, y_99, y_100, y_142, y_161, y_600, y_610, y_894, y_999, y_1000, y_1216, y_1276, neg1, neg2, nI_add, nI_mul, nn_sub, nn_lt, nn_le, nn_eq, in_lt, ni_lt, in_le, ni_le, in_eq, ni_eq, iI_lt, iI_le, iI_eq, nn_clamp, inb_n, t_lt, f_lt, t_le, f_le, t_eq, f_eq, ti_lt, fi_lt, ti_le, fi_le, ti_eq, fi_eq, ↓reduceIte, ite_true, ite_false, eq_self, decide_true, decide_false, Bool.true_and, Bool.and_true, Bool.false_and, Bool.and_false, Bool.true_or, Bool.or_true, Bool.false_or, Bool.or_false, bI_t, bI_f, bI_nand, n_mod, an11, an01, negn1, negn2, false_and, and_false, true_and, and_true, not_true_eq_false, not_false_eq_true, bI_n0, bI_n1, Bool.true_eq_false, Bool.false_eq_true, cI_s, cL_s, cV_s, cR_n, pm_bR_self, bI_ite, bL_ite, bV_ite, bR_ite, E_X9_seenBy_40, hwh]
  | succ r ih =>
    intro k hk
    have e := ih (k + 1) (by omega)
    obtain ⟨x1, x2, x3⟩ := cell_xy (show 0 < (c (0)).val by omega) (show k < (c (0)).val * (c (1)).val by omega)
    have A := apart_M hv hm a1 a2 x1 x2
    have B := apart_M hv hm b1 b2 x1 x2
    rw [a3, x3] at A
    rw [b3, x3] at B
    have d1 : dst (a % (c (0)).val) (a / (c (0)).val) (k % (c (0)).val) (k / (c (0)).val) < 100 := dst_lt (by omega) (by omega) (by omega) (by omega)
    have d2 : dst (b % (c (0)).val) (b / (c (0)).val) (k % (c (0)).val) (k / (c (0)).val) < 100 := dst_lt (by omega) (by omega) (by omega) (by omega)
    rw [fb_ct_succ] at e
    rw [E_X9_seenBy_6]
    generalize dst (a % (c (0)).val) (a / (c (0)).val) (k % (c (0)).val) (k / (c (0)).val) = D1 at *
    generalize dst (b % (c (0)).val) (b / (c (0)).val) (k % (c (0)).val) (k / (c (0)).val) = D2 at *
    clear a1 a2 a3 b1 b2 b3 x1 x2 x3
    generalize (c (0)).val * (c (1)).val = WH at *
    by_cases q1 : D1 ≤ R
    · rw [decide_eq_true q1, Bool.true_or, if_pos rfl] at e
      simp (disch := omega) only [y_0, y_1, y_2, y_3, y_4, y_5, y_6, y_7, y_8, y_9, y_10, y_11, y_12, y_13, y_14, y_15, y_16, y_17, y_18, y_19, y_20, y_21, y_22, y_23, y_24, y_29, y_30, y_31, y_32, y_39, y_40, y_48, y_49, y_50, y_60, y_64, y_69, y_78, y_99, y_100, y_142, y_161, y_600, y_610, y_894, y_999, y_1000, y_1216, y_1276, neg1, neg2, nI_add, nI_mul, nn_sub, nn_lt, nn_le, nn_eq, in_lt, ni_lt, in_le, ni_le, in_eq, ni_eq, iI_lt, iI_le, iI_eq, nn_clamp, inb_n, t_lt, f_lt, t_le, f_le, t_eq, f_eq, ti_lt, fi_lt, ti_le, fi_le, ti_eq, fi_eq, ↓reduceIte, ite_true, ite_false, eq_self, decide_true, decide_false, Bool.true_and, Bool.and_true, Bool.false_and, Bool.and_false, Bool.true_or, Bool.or_true, Bool.false_or, Bool.or_false, bI_t, bI_f, bI_nand, n_mod, an11, an01, negn1, negn2, false_and, and_false, true_and, and_true, not_true_eq_false, not_false_eq_true, bI_n0, bI_n1, Bool.true_eq_false, Bool.false_eq_true, cI_s, cL_s, cV_s, cR_n, pm_bR_self, bI_ite, bL_ite, bV_ite, bR_ite, E_X9_seenBy_40, hwh, A]
      exact e
    · rw [decide_eq_false q1, Bool.false_or] at e
      by_cases q2 : D2 ≤ R
      · rw [decide_eq_true q2, if_pos rfl] at e
        simp (disch := omega) only [y_0, y_1, y_2, y_3, y_4, y_5, y_6, y_7, y_8, y_9, y_10, y_11, y_12, y_13, y_14, y_15, y_16, y_17, y_18, y_19, y_20, y_21, y_22, y_23, y_24, y_29, y_30, y_31, y_32, y_39, y_40, y_48, y_49, y_50, y_60, y_64, y_69, y_78, y_99, y_100, y_142, y_161, y_600, y_610, y_894, y_999, y_1000, y_1216, y_1276, neg1, neg2, nI_add, nI_mul, nn_sub, nn_lt, nn_le, nn_eq, in_lt, ni_lt, in_le, ni_le, in_eq, ni_eq, iI_lt, iI_le, iI_eq, nn_clamp, inb_n, t_lt, f_lt, t_le, f_le, t_eq, f_eq, ti_lt, fi_lt, ti_le, fi_le, ti_eq, fi_eq, ↓reduceIte, ite_true, ite_false, eq_self, decide_true, decide_false, Bool.true_and, Bool.and_true, Bool.false_and, Bool.and_false, Bool.true_or, Bool.or_true, Bool.false_or, Bool.or_false, bI_t, bI_f, bI_nand, n_mod, an11, an01, negn1, negn2, false_and, and_false, true_and, and_true, not_true_eq_false, not_false_eq_true, bI_n0, bI_n1, Bool.true_eq_false, Bool.false_eq_true, cI_s, cL_s, cV_s, cR_n, pm_bR_self, bI_ite, bL_ite, bV_ite, bR_ite, E_X9_seenBy_40, hwh, A, B]
        exact e
      · rw [decide_eq_false q2, if_neg (by decide)] at e
        simp (disch := omega) only [y_0, y_1, y_2, y_3, y_4, y_5, y_6, y_7, y_8, y_9, y_10, y_11, y_12, y_13, y_14, y_15, y_16, y_17, y_18, y_19, y_20, y_21, y_22, y_23, y_24, y_29, y_30, y_31, y_32, y_39, y_40, y_48, y_49, y_50, y_60, y_64, y_69, y_78, y_99, y_100, y_142, y_161, y_600, y_610, y_894, y_999, y_1000, y_1216, y_1276, neg1, neg2, nI_add, nI_mul, nn_sub, nn_lt, nn_le, nn_eq, in_lt, ni_lt, in_le, ni_le, in_eq, ni_eq, iI_lt, iI_le, iI_eq, nn_clamp, inb_n, t_lt, f_lt, t_le, f_le, t_eq, f_eq, ti_lt, fi_lt, ti_le, fi_le, ti_eq, fi_eq, ↓reduceIte, ite_true, ite_false, eq_self, decide_true, decide_false, Bool.true_and, Bool.and_true, Bool.false_and, Bool.and_false, Bool.true_or, Bool.or_true, Bool.false_or, Bool.or_false, bI_t, bI_f, bI_nand, n_mod, an11, an01, negn1, negn2, false_and, and_false, true_and, and_true, not_true_eq_false, not_false_eq_true, bI_n0, bI_n1, Bool.true_eq_false, Bool.false_eq_true, cI_s, cL_s, cV_s, cR_n, pm_bR_self, bI_ite, bL_ite, bV_ite, bR_ite, E_X9_seenBy_40, hwh, A, B]
        exact e
theorem seenBy_M {h : PH} {a0 : Nat} {c : AC} (hv : cV c) (hm : ModS h a0 c) {R a b : Nat} (hR : R < 8) (ha : a < (c (0)).val * (c (1)).val) (hb : b < (c (0)).val * (c (1)).val) : pm_ev (253, 0, [vr 8 0, vi (nI a), vi (nI b), vi (nI R), none, none], [], h) = some (some (vi (nI (aSee c R a b))), h) := by
  rw [E_X9_seenBy]
  exact seenBy_6 hv hm hR ha hb _ 0 (Nat.zero_add _)
def mI (m v : Nat) : Int32 := if m = 0 then iI (-1) else nI v
theorem watch_72 {h : PH} {a0 : Nat} {c : AC} (hv : cV c) (hm : ModS h a0 c) {R a : Nat} (hR : R < 8) (ha : a < (c (0)).val * (c (1)).val) (w : Int32) (st : W3) (hst : ok3 (aSee c R) ((c (0)).val * (c (1)).val) st) : ∀ r j, a + 1 + j + r = (c (0)).val * (c (1)).val → pm_ev (255, 72, [vr 8 0, none, vi (nI R), vi w, vi (mI (inn3 (aSee c R) a j st).1 (inn3 (aSee c R) a j st).2.1), vi (mI (inn3 (aSee c R) a j st).1 (inn3 (aSee c R) a j st).2.2), vi (mI (inn3 (aSee c R) a j st).1 (inn3 (aSee c R) a j st).1), vi (nI a), vi (nI (a + 1 + j)), none], [], h) = pm_ev (255, 52, [vr 8 0, none, vi (nI R), vi w, vi (mI (inn3 (aSee c R) a ((c (0)).val * (c (1)).val - (a + 1)) st).1 (inn3 (aSee c R) a ((c (0)).val * (c (1)).val - (a + 1)) st).2.1), vi (mI (inn3 (aSee c R) a ((c (0)).val * (c (1)).val - (a + 1)) st).1 (inn3 (aSee c R) a ((c (0)).val * (c (1)).val - (a + 1)) st).2.2), vi (mI (inn3 (aSee c R) a ((c (0)).val * (c (1)).val - (a + 1)) st).1 (inn3 (aSee c R) a ((c (0)).val * (c (1)).val - (a + 1)) st).1), vi (nI (a + 1)), none, none], [], h) := by
  have hWb := WH_le hv
  have hwh : h.1 8 0 14 * h.1 8 0 15 = nI ((c (0)).val * (c (1)).val) := by rw [hm.2.2.1, hm.2.2.2.1, nI_mul]
  intro r
  induction r with
  | zero =>
    intro j hj
    have hj2 : j = (c (0)).val * (c (1)).val - (a + 1) := by omega
    have hj3 : a + 1 + j = (c (0)).val * (c (1)).val := by omega
    rw [E_X9_watch_72]
    rw [← hj2]
    generalize (c (0)).val * (c (1)).val = WH at *
    simp (disch := omega) only [y_0, y_1, y_2, y_3, y_4, y_5, y_6, y_7, y_8, y_9, y_10, y_11, y_12, y_13, y_14, y_15, y_16, y_17, y_18, y_19, y_20, y_21, y_22, y_23, y_24, y_29, y_30, y_31, y_32, y_39, y_40, y_48, y_49, y_50, y_60, y_64, y_69, y_78, y_99, y_100, y_142, y_161, y_600, y_610, y_894, y_999, y_1000, y_1216, y_1276, neg1, neg2, nI_add, nI_mul, nn_sub, nn_lt, nn_le, nn_eq, in_lt, ni_lt, in_le, ni_le, in_eq, ni_eq, iI_lt, iI_le, iI_eq, nn_clamp, inb_n, t_lt, f_lt, t_le, f_le, t_eq, f_eq, ti_lt, fi_lt, ti_le, fi_le, ti_eq, fi_eq, ↓reduceIte, ite_true, ite_false, eq_self, decide_true, decide_false, Bool.true_and, Bool.and_true, Bool.false_and, Bool.and_false, Bool.true_or, Bool.or_true, Bool.false_or, Bool.or_false, bI_t, bI_f, bI_nand, n_mod, an11, an01, negn1, negn2, false_and, and_false, true_and, and_true, not_true_eq_false, not_false_eq_true, bI_n0, bI_n1, Bool.true_eq_false, Bool.false_eq_true, cI_s, cL_s, cV_s, cR_n, pm_bR_self, bI_ite, bL_ite, bV_ite, bR_ite, E_X9_watch_15, hwh]
  | succ r ih =>
    intro j hj
    have e := ih (j + 1) (by omega)
    have S := seenBy_M hv hm hR ha (show a + 1 + j < (c (0)).val * (c (1)).val by omega)
    have hp := aSee_pos hv (R := R) (b := a + 1 + j) ha
    have hb := aSee_le hv R a (a + 1 + j)
    have hI := ok3_le hv (inn3_ok ha hst j (by omega))
    have es : inn3 (aSee c R) a (j + 1) st = upd3 (aSee c R) a (a + 1 + j) (inn3 (aSee c R) a j st) := rfl
    rw [es] at e
    rw [← e, E_X9_watch_72]
    unfold upd3
    generalize inn3 (aSee c R) a j st = st2 at *
    generalize aSee c R a (a + 1 + j) = v at *
    generalize (c (0)).val * (c (1)).val = WH at *
    have hcmp : (mI st2.1 st2.1 < nI v) = (st2.1 < v) := by
      unfold mI
      by_cases q : st2.1 = 0
      · rw [if_pos q, in_lt (by omega) (by decide) (by decide)]
        exact propext ⟨fun _ => by omega, fun _ => by omega⟩
      · rw [if_neg q, nn_lt (by omega) (by omega)]
    by_cases q : st2.1 < v
    · rw [if_pos q]
      have m1 : ∀ u, mI v u = nI u := fun u => by unfold mI; rw [if_neg (by omega)]
      simp (disch := omega) only [y_0, y_1, y_2, y_3, y_4, y_5, y_6, y_7, y_8, y_9, y_10, y_11, y_12, y_13, y_14, y_15, y_16, y_17, y_18, y_19, y_20, y_21, y_22, y_23, y_24, y_29, y_30, y_31, y_32, y_39, y_40, y_48, y_49, y_50, y_60, y_64, y_69, y_78, y_99, y_100, y_142, y_161, y_600, y_610, y_894, y_999, y_1000, y_1216, y_1276, neg1, neg2, nI_add, nI_mul, nn_sub, nn_lt, nn_le, nn_eq, in_lt, ni_lt, in_le, ni_le, in_eq, ni_eq, iI_lt, iI_le, iI_eq, nn_clamp, inb_n, t_lt, f_lt, t_le, f_le, t_eq, f_eq, ti_lt, fi_lt, ti_le, fi_le, ti_eq, fi_eq, ↓reduceIte, ite_true, ite_false, eq_self, decide_true, decide_false, Bool.true_and, Bool.and_true, Bool.false_and, Bool.and_false, Bool.true_or, Bool.or_true, Bool.false_or, Bool.or_false, bI_t, bI_f, bI_nand, n_mod, an11, an01, negn1, negn2, false_and, and_false, true_and, and_true, not_true_eq_false, not_false_eq_true, bI_n0, bI_n1, Bool.true_eq_false, Bool.false_eq_true, cI_s, cL_s, cV_s, cR_n, pm_bR_self, bI_ite, bL_ite, bV_ite, bR_ite, E_X9_watch_15, hwh, S, hcmp, q, m1]
      rfl
    · rw [if_neg q]
      simp (disch := omega) only [y_0, y_1, y_2, y_3, y_4, y_5, y_6, y_7, y_8, y_9, y_10, y_11, y_12, y_13, y_14, y_15, y_16, y_17, y_18, y_19, y_20, y_21, y_22, y_23, y_24, y_29, y_30, y_31, y_32, y_39, y_40, y_48, y_49, y_50, y_60, y_64, y_69, y_78, y_99, y_100, y_142, y_161, y_600, y_610, y_894, y_999, y_1000, y_1216, y_1276, neg1, neg2, nI_add, nI_mul, nn_sub, nn_lt, nn_le, nn_eq, in_lt, ni_lt, in_le, ni_le, in_eq, ni_eq, iI_lt, iI_le, iI_eq, nn_clamp, inb_n, t_lt, f_lt, t_le, f_le, t_eq, f_eq, ti_lt, fi_lt, ti_le, fi_le, ti_eq, fi_eq, ↓reduceIte, ite_true, ite_false, eq_self, decide_true, decide_false, Bool.true_and, Bool.and_true, Bool.false_and, Bool.and_false, Bool.true_or, Bool.or_true, Bool.false_or, Bool.or_false, bI_t, bI_f, bI_nand, n_mod, an11, an01, negn1, negn2, false_and, and_false, true_and, and_true, not_true_eq_false, not_false_eq_true, bI_n0, bI_n1, Bool.true_eq_false, Bool.false_eq_true, cI_s, cL_s, cV_s, cR_n, pm_bR_self, bI_ite, bL_ite, bV_ite, bR_ite, E_X9_watch_15, hwh, S, hcmp, q]
      rfl
theorem watch_52 {h : PH} {a0 : Nat} {c : AC} (hv : cV c) (hm : ModS h a0 c) {R : Nat} (hR : R < 8) (w : Int32) (h2 : 2 ≤ (c (0)).val * (c (1)).val) : ∀ r k, k + r = (c (0)).val * (c (1)).val → pm_ev (255, 52, [vr 8 0, none, vi (nI R), vi w, vi (mI (out3 (aSee c R) ((c (0)).val * (c (1)).val) k (0, 0, 1)).1 (out3 (aSee c R) ((c (0)).val * (c (1)).val) k (0, 0, 1)).2.1), vi (mI (out3 (aSee c R) ((c (0)).val * (c (1)).val) k (0, 0, 1)).1 (out3 (aSee c R) ((c (0)).val * (c (1)).val) k (0, 0, 1)).2.2), vi (mI (out3 (aSee c R) ((c (0)).val * (c (1)).val) k (0, 0, 1)).1 (out3 (aSee c R) ((c (0)).val * (c (1)).val) k (0, 0, 1)).1), vi (nI k), none, none], [], h) = some (some (vi (if w = nI 0 then mI (out3 (aSee c R) ((c (0)).val * (c (1)).val) ((c (0)).val * (c (1)).val) (0, 0, 1)).1 (out3 (aSee c R) ((c (0)).val * (c (1)).val) ((c (0)).val * (c (1)).val) (0, 0, 1)).1 else if w = nI 1 then mI (out3 (aSee c R) ((c (0)).val * (c (1)).val) ((c (0)).val * (c (1)).val) (0, 0, 1)).1 (out3 (aSee c R) ((c (0)).val * (c (1)).val) ((c (0)).val * (c (1)).val) (0, 0, 1)).2.1 else mI (out3 (aSee c R) ((c (0)).val * (c (1)).val) ((c (0)).val * (c (1)).val) (0, 0, 1)).1 (out3 (aSee c R) ((c (0)).val * (c (1)).val) ((c (0)).val * (c (1)).val) (0, 0, 1)).2.2)), h) := by
  have hWb := WH_le hv
  have hwh : h.1 8 0 14 * h.1 8 0 15 = nI ((c (0)).val * (c (1)).val) := by rw [hm.2.2.1, hm.2.2.2.1, nI_mul]
  intro r
  induction r with
  | zero =>
    intro k hk
    have hk : k = (c (0)).val * (c (1)).val := by omega
    rw [hk, E_X9_watch_52]
    generalize (c (0)).val * (c (1)).val = WH at *
    by_cases w0 : w = nI 0
    · simp (disch := omega) only [y_0, y_1, y_2, y_3, y_4, y_5, y_6, y_7, y_8, y_9, y_10, y_11, y_12, y_13, y_14, y_15, y_16, y_17, y_18, y_19, y_20, y_21, y_22, y_23, y_24, y_29, y_30, y_31, y_32, y_39, y_40, y_48, y_49, y_50, y_60, y_64, y_69, y_78, y_99, y_100, y_142, y_161, y_600, y_610, y_894, y_999, y_1000, y_1216, y_1276, neg1, neg2, nI_add, nI_mul, nn_sub, nn_lt, nn_le, nn_eq, in_lt, ni_lt, in_le, ni_le, in_eq, ni_eq, iI_lt, iI_le, iI_eq, nn_clamp, inb_n, t_lt, f_lt, t_le, f_le, t_eq, f_eq, ti_lt, fi_lt, ti_le, fi_le, ti_eq, fi_eq, ↓reduceIte, ite_true, ite_false, eq_self, decide_true, decide_false, Bool.true_and, Bool.and_true, Bool.false_and, Bool.and_false, Bool.true_or, Bool.or_true, Bool.false_or, Bool.or_false, bI_t, bI_f, bI_nand, n_mod, an11, an01, negn1, negn2, false_and, and_false, true_and, and_true, not_true_eq_false, not_false_eq_true, bI_n0, bI_n1, Bool.true_eq_false, Bool.false_eq_true, cI_s, cL_s, cV_s, cR_n, pm_bR_self, bI_ite, bL_ite, bV_ite, bR_ite, E_X9_watch_15, hwh, w0]
    · by_cases w1 : w = nI 1
      · simp (disch := omega) only [y_0, y_1, y_2, y_3, y_4, y_5, y_6, y_7, y_8, y_9, y_10, y_11, y_12, y_13, y_14, y_15, y_16, y_17, y_18, y_19, y_20, y_21, y_22, y_23, y_24, y_29, y_30, y_31, y_32, y_39, y_40, y_48, y_49, y_50, y_60, y_64, y_69, y_78, y_99, y_100, y_142, y_161, y_600, y_610, y_894, y_999, y_1000, y_1216, y_1276, neg1, neg2, nI_add, nI_mul, nn_sub, nn_lt, nn_le, nn_eq, in_lt, ni_lt, in_le, ni_le, in_eq, ni_eq, iI_lt, iI_le, iI_eq, nn_clamp, inb_n, t_lt, f_lt, t_le, f_le, t_eq, f_eq, ti_lt, fi_lt, ti_le, fi_le, ti_eq, fi_eq, ↓reduceIte, ite_true, ite_false, eq_self, decide_true, decide_false, Bool.true_and, Bool.and_true, Bool.false_and, Bool.and_false, Bool.true_or, Bool.or_true, Bool.false_or, Bool.or_false, bI_t, bI_f, bI_nand, n_mod, an11, an01, negn1, negn2, false_and, and_false, true_and, and_true, not_true_eq_false, not_false_eq_true, bI_n0, bI_n1, Bool.true_eq_false, Bool.false_eq_true, cI_s, cL_s, cV_s, cR_n, pm_bR_self, bI_ite, bL_ite, bV_ite, bR_ite, E_X9_watch_15, hwh, w0, w1]
      · simp (disch := omega) only [y_0, y_1, y_2, y_3, y_4, y_5, y_6, y_7, y_8, y_9, y_10, y_11, y_12, y_13, y_14, y_15, y_16, y_17, y_18, y_19, y_20, y_21, y_22, y_23, y_24, y_29, y_30, y_31, y_32, y_39, y_40, y_48, y_49, y_50, y_60, y_64, y_69, y_78, y_99, y_100, y_142, y_161, y_600, y_610, y_894, y_999, y_1000, y_1216, y_1276, neg1, neg2, nI_add, nI_mul, nn_sub, nn_lt, nn_le, nn_eq, in_lt, ni_lt, in_le, ni_le, in_eq, ni_eq, iI_lt, iI_le, iI_eq, nn_clamp, inb_n, t_lt, f_lt, t_le, f_le, t_eq, f_eq, ti_lt, fi_lt, ti_le, fi_le, ti_eq, fi_eq, ↓reduceIte, ite_true, ite_false, eq_self, decide_true, decide_false, Bool.true_and, Bool.and_true, Bool.false_and, Bool.and_false, Bool.true_or, Bool.or_true, Bool.false_or, Bool.or_false, bI_t, bI_f, bI_nand, n_mod, an11, an01, negn1, negn2, false_and, and_false, true_and, and_true, not_true_eq_false, not_false_eq_true, bI_n0, bI_n1, Bool.true_eq_false, Bool.false_eq_true, cI_s, cL_s, cV_s, cR_n, pm_bR_self, bI_ite, bL_ite, bV_ite, bR_ite, E_X9_watch_15, hwh, w0, w1]
  | succ r ih =>
    intro k hk
    have e := ih (k + 1) (by omega)
    have ho : ok3 (aSee c R) ((c (0)).val * (c (1)).val) (out3 (aSee c R) ((c (0)).val * (c (1)).val) k (0, 0, 1)) := out3_ok ⟨by show 0 < _; omega, by show 1 < _; omega, fun q => absurd rfl q⟩ k (by omega)
    have P := watch_72 hv hm hR (show k < (c (0)).val * (c (1)).val by omega) w _ ho ((c (0)).val * (c (1)).val - (k + 1)) 0 (by omega)
    rw [show out3 (aSee c R) ((c (0)).val * (c (1)).val) (k + 1) (0, 0, 1) = inn3 (aSee c R) k ((c (0)).val * (c (1)).val - (k + 1)) (out3 (aSee c R) ((c (0)).val * (c (1)).val) k (0, 0, 1)) from rfl] at e
    rw [← e, ← P, E_X9_watch_52]
    generalize (c (0)).val * (c (1)).val = WH at *
    simp (disch := omega) only [y_0, y_1, y_2, y_3, y_4, y_5, y_6, y_7, y_8, y_9, y_10, y_11, y_12, y_13, y_14, y_15, y_16, y_17, y_18, y_19, y_20, y_21, y_22, y_23, y_24, y_29, y_30, y_31, y_32, y_39, y_40, y_48, y_49, y_50, y_60, y_64, y_69, y_78, y_99, y_100, y_142, y_161, y_600, y_610, y_894, y_999, y_1000, y_1216, y_1276, neg1, neg2, nI_add, nI_mul, nn_sub, nn_lt, nn_le, nn_eq, in_lt, ni_lt, in_le, ni_le, in_eq, ni_eq, iI_lt, iI_le, iI_eq, nn_clamp, inb_n, t_lt, f_lt, t_le, f_le, t_eq, f_eq, ti_lt, fi_lt, ti_le, fi_le, ti_eq, fi_eq, ↓reduceIte, ite_true, ite_false, eq_self, decide_true, decide_false, Bool.true_and, Bool.and_true, Bool.false_and, Bool.and_false, Bool.true_or, Bool.or_true, Bool.false_or, Bool.or_false, bI_t, bI_f, bI_nand, n_mod, an11, an01, negn1, negn2, false_and, and_false, true_and, and_true, not_true_eq_false, not_false_eq_true, bI_n0, bI_n1, Bool.true_eq_false, Bool.false_eq_true, cI_s, cL_s, cV_s, cR_n, pm_bR_self, bI_ite, bL_ite, bV_ite, bR_ite, E_X9_watch_15, hwh]
    rfl
