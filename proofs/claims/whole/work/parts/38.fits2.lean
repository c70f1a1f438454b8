theorem lS_bit (S : Nat → Bool) {k : Nat} (hk : k < 64) : lg_cmp (((lS S).toUInt64 >>> ((nI k).toInt64.toUInt64 &&& Int64.toUInt64 63)).toInt64 &&& 1) 0 = bI (S k) := by
  rw [lS_shr _ hk, lS_and1, lcmp_lb]
  congr 1
  rw [Nat.zero_add, decide_eq_true hk, Bool.true_and]
def sureB (p : Nat → Bool) (i0 : Nat) : Nat → Nat
  | 0 => i0
  | k + 1 => if p k then sureB p i0 k &&& k else sureB p i0 k
theorem sureB_succ (p : Nat → Bool) (i0 k : Nat) : sureB p i0 (k + 1) = if p k then sureB p i0 k &&& k else sureB p i0 k := rfl
theorem sure_C {h : PH} {j : Nat} {l : AC} (hv : lV l) (hC : LogC h j l) : ∀ r k, k + r = 2 ^ (l (0)).val → pm_ev (55, 18, [vr 2 j, vl (lS (fun i => decide (i < 2 ^ (l (0)).val) && lFit l i)), none, vi (nI (sureB (lFit l) (2 ^ (l (0)).val - 1) k)), vi (nI k)], [], h) = some (some (vi (nI (sureB (lFit l) (2 ^ (l (0)).val - 1) (2 ^ (l (0)).val)))), h) := by
  have hP := pw6 hv.1.1
  intro r
  induction r with
  | zero =>
    intro k hk
    have hk : k = 2 ^ (l (0)).val := by omega
    rw [E_X2_sure_18, hk]
    simp (disch := omega) only [y_0, y_1, y_2, y_3, y_4, y_5, y_6, y_7, y_8, y_9, y_10, y_11, y_12, y_13, y_14, y_15, y_16, y_17, y_18, y_19, y_20, y_21, y_22, y_23, y_24, y_29, y_30, y_31, y_32, y_39, y_40, y_48, y_49, y_50, y_60, y_64, y_69, y_78, y_99, y_100, y_142, y_161, y_600, y_610, y_894, y_999, y_1000, y_1216, y_1276, neg1, neg2, nI_add, nI_mul, nn_sub, nn_lt, nn_le, nn_eq, in_lt, ni_lt, in_le, ni_le, in_eq, ni_eq, iI_lt, iI_le, iI_eq, nn_clamp, inb_n, t_lt, f_lt, t_le, f_le, t_eq, f_eq, ti_lt, fi_lt, ti_le, fi_le, ti_eq, fi_eq, ↓reduceIte, ite_true, ite_false, eq_self, decide_true, decide_false, Bool.true_and, Bool.and_true, Bool.false_and, Bool.and_false, Bool.true_or, Bool.or_true, Bool.false_or, Bool.or_false, bI_t, bI_f, bI_nand, n_mod, an11, an01, negn1, negn2, false_and, and_false, true_and, and_true, not_true_eq_false, not_false_eq_true, bI_n0, bI_n1, Bool.true_eq_false, Bool.false_eq_true, cI_s, cL_s, cV_s, cR_n, pm_bR_self, bI_ite, bL_ite, bV_ite, bR_ite, sets_C hv hC]
  | succ r ih =>
    intro k hk
    have e := ih (k + 1) (by omega)
    have B := lS_bit (fun i => decide (i < 2 ^ (l (0)).val) && lFit l i) (show k < 64 by omega)
    rw [decide_eq_true (show k < 2 ^ (l (0)).val by omega), Bool.true_and] at B
    rw [E_X2_sure_18]
    rw [sureB_succ (lFit l) (2 ^ (l (0)).val - 1) k] at e
    cases q : lFit l k with
    | true =>
      rw [q] at B e
      simp (disch := omega) only [y_0, y_1, y_2, y_3, y_4, y_5, y_6, y_7, y_8, y_9, y_10, y_11, y_12, y_13, y_14, y_15, y_16, y_17, y_18, y_19, y_20, y_21, y_22, y_23, y_24, y_29, y_30, y_31, y_32, y_39, y_40, y_48, y_49, y_50, y_60, y_64, y_69, y_78, y_99, y_100, y_142, y_161, y_600, y_610, y_894, y_999, y_1000, y_1216, y_1276, neg1, neg2, nI_add, nI_mul, nn_sub, nn_lt, nn_le, nn_eq, in_lt, ni_lt, in_le, ni_le, in_eq, ni_eq, iI_lt, iI_le, iI_eq, nn_clamp, inb_n, t_lt, f_lt, t_le, f_le, t_eq, f_eq, ti_lt, fi_lt, ti_le, fi_le, ti_eq, fi_eq, ↓reduceIte, ite_true, ite_false, eq_self, decide_true, decide_false, Bool.true_and, Bool.and_true, Bool.false_and, Bool.and_false, Bool.true_or, Bool.or_true, Bool.false_or, Bool.or_false, bI_t, bI_f, bI_nand, n_mod, an11, an01, negn1, negn2, false_and, and_false, true_and, and_true, not_true_eq_false, not_false_eq_true, bI_n0, bI_n1, Bool.true_eq_false, Bool.false_eq_true, cI_s, cL_s, cV_s, cR_n, pm_bR_self, bI_ite, bL_ite, bV_ite, bR_ite, sets_C hv hC, B, nn_and]
      exact e
    | false =>
      rw [q] at B e
      simp (disch := omega) only [y_0, y_1, y_2, y_3, y_4, y_5, y_6, y_7, y_8, y_9, y_10, y_11, y_12, y_13, y_14, y_15, y_16, y_17, y_18, y_19, y_20, y_21, y_22, y_23, y_24, y_29, y_30, y_31, y_32, y_39, y_40, y_48, y_49, y_50, y_60, y_64, y_69, y_78, y_99, y_100, y_142, y_161, y_600, y_610, y_894, y_999, y_1000, y_1216, y_1276, neg1, neg2, nI_add, nI_mul, nn_sub, nn_lt, nn_le, nn_eq, in_lt, ni_lt, in_le, ni_le, in_eq, ni_eq, iI_lt, iI_le, iI_eq, nn_clamp, inb_n, t_lt, f_lt, t_le, f_le, t_eq, f_eq, ti_lt, fi_lt, ti_le, fi_le, ti_eq, fi_eq, ↓reduceIte, ite_true, ite_false, eq_self, decide_true, decide_false, Bool.true_and, Bool.and_true, Bool.false_and, Bool.and_false, Bool.true_or, Bool.or_true, Bool.false_or, Bool.or_false, bI_t, bI_f, bI_nand, n_mod, an11, an01, negn1, negn2, false_and, and_false, true_and, and_true, not_true_eq_false, not_false_eq_true, bI_n0, bI_n1, Bool.true_eq_false, Bool.false_eq_true, cI_s, cL_s, cV_s, cR_n, pm_bR_self, bI_ite, bL_ite, bV_ite, bR_ite, sets_C hv hC, B]
      exact e
theorem nn_self (x : Int32) : x &&& x = x := by
  apply Int32.toBitVec_inj.mp
  rw [Int32.toBitVec_and]
  exact BitVec.and_self
theorem sure_M {g : PH} {a : Nat} {l : AC} (hv : lV l) (hM : ModL g a l) {w : Int32} : ∀ r k, k + r = 2 ^ (l (0)).val → pm_ev (244, 64, [vr 8 0, none, vi w, vi (nI (sureB (lFit l) (2 ^ (l (0)).val - 1) k)), vi (nI k)], [], g) = pm_ev (244, 64, [vr 8 0, none, vi w, vi (nI (sureB (lFit l) (2 ^ (l (0)).val - 1) (2 ^ (l (0)).val))), vi (nI (2 ^ (l (0)).val))], [], g) := by
  have hP := pw6 hv.1.1
  have a0 := hM.2
  have hl := hM.1.1.2.2.2.2
  have hs := sets_M hv hM
  intro r
  induction r with
  | zero =>
    intro k hk
    have hk : k = 2 ^ (l (0)).val := by omega
    rw [hk]
  | succ r ih =>
    intro k hk
    have e := ih (k + 1) (by omega)
    have W := wrongBy_M hv hM (show k < 64 by omega)
    have hw : lWrong l k ≤ 10 := Nat.le_trans (fb_ct_le _ _) hv.1.2.2.2.2
    rw [← e, E_X9_fits_64]
    rw [show sureB (lFit l) (2 ^ (l (0)).val - 1) (k + 1) = if lFit l k then sureB (lFit l) (2 ^ (l (0)).val - 1) k &&& k else sureB (lFit l) (2 ^ (l (0)).val - 1) k from rfl]
    unfold lFit
    by_cases q : lWrong l k = 0
    · simp (disch := omega) only [y_0, y_1, y_2, y_3, y_4, y_5, y_6, y_7, y_8, y_9, y_10, y_11, y_12, y_13, y_14, y_15, y_16, y_17, y_18, y_19, y_20, y_21, y_22, y_23, y_24, y_29, y_30, y_31, y_32, y_39, y_40, y_48, y_49, y_50, y_60, y_64, y_69, y_78, y_99, y_100, y_142, y_161, y_600, y_610, y_894, y_999, y_1000, y_1216, y_1276, neg1, neg2, nI_add, nI_mul, nn_sub, nn_lt, nn_le, nn_eq, in_lt, ni_lt, in_le, ni_le, in_eq, ni_eq, iI_lt, iI_le, iI_eq, nn_clamp, inb_n, t_lt, f_lt, t_le, f_le, t_eq, f_eq, ti_lt, fi_lt, ti_le, fi_le, ti_eq, fi_eq, ↓reduceIte, ite_true, ite_false, eq_self, decide_true, decide_false, Bool.true_and, Bool.and_true, Bool.false_and, Bool.and_false, Bool.true_or, Bool.or_true, Bool.false_or, Bool.or_false, bI_t, bI_f, bI_nand, n_mod, an11, an01, negn1, negn2, false_and, and_false, true_and, and_true, not_true_eq_false, not_false_eq_true, bI_n0, bI_n1, Bool.true_eq_false, Bool.false_eq_true, cI_s, cL_s, cV_s, cR_n, pm_bR_self, bI_ite, bL_ite, bV_ite, bR_ite, E_X9_fits_17, E_X9_fits_57, E_X9_fits_135, E_X9_fits_76, a0, hs, W, q, nn_and]
    · simp (disch := omega) only [y_0, y_1, y_2, y_3, y_4, y_5, y_6, y_7, y_8, y_9, y_10, y_11, y_12, y_13, y_14, y_15, y_16, y_17, y_18, y_19, y_20, y_21, y_22, y_23, y_24, y_29, y_30, y_31, y_32, y_39, y_40, y_48, y_49, y_50, y_60, y_64, y_69, y_78, y_99, y_100, y_142, y_161, y_600, y_610, y_894, y_999, y_1000, y_1216, y_1276, neg1, neg2, nI_add, nI_mul, nn_sub, nn_lt, nn_le, nn_eq, in_lt, ni_lt, in_le, ni_le, in_eq, ni_eq, iI_lt, iI_le, iI_eq, nn_clamp, inb_n, t_lt, f_lt, t_le, f_le, t_eq, f_eq, ti_lt, fi_lt, ti_le, fi_le, ti_eq, fi_eq, ↓reduceIte, ite_true, ite_false, eq_self, decide_true, decide_false, Bool.true_and, Bool.and_true, Bool.false_and, Bool.and_false, Bool.true_or, Bool.or_true, Bool.false_or, Bool.or_false, bI_t, bI_f, bI_nand, n_mod, an11, an01, negn1, negn2, false_and, and_false, true_and, and_true, not_true_eq_false, not_false_eq_true, bI_n0, bI_n1, Bool.true_eq_false, Bool.false_eq_true, cI_s, cL_s, cV_s, cR_n, pm_bR_self, bI_ite, bL_ite, bV_ite, bR_ite, E_X9_fits_17, E_X9_fits_57, E_X9_fits_135, E_X9_fits_76, a0, hs, W, q, nn_self]
def nthB (p : Nat → Bool) (k : Nat) : Nat → Nat → Option Nat
  | 0, _ => none
  | r + 1, q => if p q = true ∧ fb_ct p q = k then some q else nthB p k r (q + 1)
theorem nthB_hit {p : Nat → Bool} {k r q : Nat} (h1 : p q = true) (h2 : fb_ct p q = k) : nthB p k (r + 1) q = some q := by rw [nthB, if_pos ⟨h1, h2⟩]
theorem nthB_miss {p : Nat → Bool} {k r q : Nat} (h : ¬ (p q = true ∧ fb_ct p q = k)) : nthB p k (r + 1) q = nthB p k r (q + 1) := by rw [nthB, if_neg h]
def oI (o : Option Nat) : Int32 := match o with
  | none => iI (-2)
  | some q => nI q
theorem setAt_C {h : PH} {j : Nat} {l : AC} (hv : lV l) (hC : LogC h j l) {w : Nat} (hw : w < 2147483648) : ∀ r k, k + r = 2 ^ (l (0)).val → pm_ev (56, 6, [vr 2 j, vl (lS (fun i => decide (i < 2 ^ (l (0)).val) && lFit l i)), none, vi (nI w), vi (nI (fb_ct (lFit l) k)), vi (nI k)], [], h) = some (some (vi (oI (nthB (lFit l) w r k))), h) := by
  have hP := pw6 hv.1.1
  intro r
  induction r with
  | zero =>
    intro k hk
    have hk : k = 2 ^ (l (0)).val := by omega
    rw [E_X2_setAt_6, hk]
    simp (disch := omega) only [y_0, y_1, y_2, y_3, y_4, y_5, y_6, y_7, y_8, y_9, y_10, y_11, y_12, y_13, y_14, y_15, y_16, y_17, y_18, y_19, y_20, y_21, y_22, y_23, y_24, y_29, y_30, y_31, y_32, y_39, y_40, y_48, y_49, y_50, y_60, y_64, y_69, y_78, y_99, y_100, y_142, y_161, y_600, y_610, y_894, y_999, y_1000, y_1216, y_1276, neg1, neg2, nI_add, nI_mul, nn_sub, nn_lt, nn_le, nn_eq, in_lt, ni_lt, in_le, ni_le, in_eq, ni_eq, iI_lt, iI_le, iI_eq, nn_clamp, inb_n, t_lt, f_lt, t_le, f_le, t_eq, f_eq, ti_lt, fi_lt, ti_le, fi_le, ti_eq, fi_eq, ↓reduceIte, ite_true, ite_false, eq_self, decide_true, decide_false, Bool.true_and, Bool.and_true, Bool.false_and, Bool.and_false, Bool.true_or, Bool.or_true, Bool.false_or, Bool.or_false, bI_t, bI_f, bI_nand, n_mod, an11, an01, negn1, negn2, false_and, and_false, true_and, and_true, not_true_eq_false, not_false_eq_true, bI_n0, bI_n1, Bool.true_eq_false, Bool.false_eq_true, cI_s, cL_s, cV_s, cR_n, pm_bR_self, bI_ite, bL_ite, bV_ite, bR_ite, sets_C hv hC]
    rfl
  | succ r ih =>
    intro k hk
    have e := ih (k + 1) (by omega)
    rw [fb_ct_succ] at e
    have hc := fb_ct_le (lFit l) k
    have B := lS_bit (fun i => decide (i < 2 ^ (l (0)).val) && lFit l i) (show k < 64 by omega)
    rw [decide_eq_true (show k < 2 ^ (l (0)).val by omega), Bool.true_and] at B
    rw [E_X2_setAt_6]
    unfold nthB
    cases q : lFit l k with
    | true =>
      rw [q, if_pos rfl] at e
      rw [q] at B
      by_cases q2 : fb_ct (lFit l) k = w
      · rw [if_pos ⟨rfl, q2⟩]
        simp (disch := omega) only [y_0, y_1, y_2, y_3, y_4, y_5, y_6, y_7, y_8, y_9, y_10, y_11, y_12, y_13, y_14, y_15, y_16, y_17, y_18, y_19, y_20, y_21, y_22, y_23, y_24, y_29, y_30, y_31, y_32, y_39, y_40, y_48, y_49, y_50, y_60, y_64, y_69, y_78, y_99, y_100, y_142, y_161, y_600, y_610, y_894, y_999, y_1000, y_1216, y_1276, neg1, neg2, nI_add, nI_mul, nn_sub, nn_lt, nn_le, nn_eq, in_lt, ni_lt, in_le, ni_le, in_eq, ni_eq, iI_lt, iI_le, iI_eq, nn_clamp, inb_n, t_lt, f_lt, t_le, f_le, t_eq, f_eq, ti_lt, fi_lt, ti_le, fi_le, ti_eq, fi_eq, ↓reduceIte, ite_true, ite_false, eq_self, decide_true, decide_false, Bool.true_and, Bool.and_true, Bool.false_and, Bool.and_false, Bool.true_or, Bool.or_true, Bool.false_or, Bool.or_false, bI_t, bI_f, bI_nand, n_mod, an11, an01, negn1, negn2, false_and, and_false, true_and, and_true, not_true_eq_false, not_false_eq_true, bI_n0, bI_n1, Bool.true_eq_false, Bool.false_eq_true, cI_s, cL_s, cV_s, cR_n, pm_bR_self, bI_ite, bL_ite, bV_ite, bR_ite, sets_C hv hC, B]
        rfl
      · rw [if_neg (fun x => q2 x.2)]
        simp (disch := omega) only [y_0, y_1, y_2, y_3, y_4, y_5, y_6, y_7, y_8, y_9, y_10, y_11, y_12, y_13, y_14, y_15, y_16, y_17, y_18, y_19, y_20, y_21, y_22, y_23, y_24, y_29, y_30, y_31, y_32, y_39, y_40, y_48, y_49, y_50, y_60, y_64, y_69, y_78, y_99, y_100, y_142, y_161, y_600, y_610, y_894, y_999, y_1000, y_1216, y_1276, neg1, neg2, nI_add, nI_mul, nn_sub, nn_lt, nn_le, nn_eq, in_lt, ni_lt, in_le, ni_le, in_eq, ni_eq, iI_lt, iI_le, iI_eq, nn_clamp, inb_n, t_lt, f_lt, t_le, f_le, t_eq, f_eq, ti_lt, fi_lt, ti_le, fi_le, ti_eq, fi_eq, ↓reduceIte, ite_true, ite_false, eq_self, decide_true, decide_false, Bool.true_and, Bool.and_true, Bool.false_and, Bool.and_false, Bool.true_or, Bool.or_true, Bool.false_or, Bool.or_false, bI_t, bI_f, bI_nand, n_mod, an11, an01, negn1, negn2, false_and, and_false, true_and, and_true, not_true_eq_false, not_false_eq_true, bI_n0, bI_n1, Bool.true_eq_false, Bool.false_eq_true, cI_s, cL_s, cV_s, cR_n, pm_bR_self, bI_ite, bL_ite, bV_ite, bR_ite, sets_C hv hC, B]
        exact e
    | false =>
      rw [q, if_neg (by decide)] at e
      rw [q] at B
      rw [if_neg (fun x => by cases x.1)]
      simp (disch := omega) only [y_0, y_1, y_2, y_3, y_4, y_5, y_6, y_7, y_8, y_9, y_10, y_11, y_12, y_13, y_14, y_15, y_16, y_17, y_18, y_19, y_20, y_21, y_22, y_23, y_24, y_29, y_30, y_31, y_32, y_39, y_40, y_48, y_49, y_50, y_60, y_64, y_69, y_78, y_99, y_100, y_142, y_161, y_600, y_610, y_894, y_999, y_1000, y_1216, y_1276, neg1, neg2, nI_add, nI_mul, nn_sub, nn_lt, nn_le, nn_eq, in_lt, ni_lt, in_le, ni_le, in_eq, ni_eq, iI_lt, iI_le, iI_eq, nn_clamp, inb_n, t_lt, f_lt, t_le, f_le, t_eq, f_eq, ti_lt, fi_lt, ti_le, fi_le, ti_eq, fi_eq, ↓reduceIte, ite_true, ite_false, eq_self, decide_true, decide_false, Bool.true_and, Bool.and_true, Bool.false_and, Bool.and_false, Bool.true_or, Bool.or_true, Bool.false_or, Bool.or_false, bI_t, bI_f, bI_nand, n_mod, an11, an01, negn1, negn2, false_and, and_false, true_and, and_true, not_true_eq_false, not_false_eq_true, bI_n0, bI_n1, Bool.true_eq_false, Bool.false_eq_true, cI_s, cL_s, cV_s, cR_n, pm_bR_self, bI_ite, bL_ite, bV_ite, bR_ite, sets_C hv hC, B]
      exact e
theorem setAt_M {g : PH} {a : Nat} {l : AC} (hv : lV l) (hM : ModL g a l) {w : Nat} (hw : w < 2147483648 - 100) : ∀ r k, k + r = 2 ^ (l (0)).val → pm_ev (244, 123, [vr 8 0, none, vi (nI (10 + w)), vi (nI (fb_ct (lFit l) k)), vi (nI k)], [], g) = some (some (vi (oI (nthB (lFit l) w r k))), g) := by
  have hP := pw6 hv.1.1
  have a0 := hM.2
  have hl := hM.1.1.2.2.2.2
  have hs := sets_M hv hM
  intro r
  induction r with
  | zero =>
    intro k hk
    have hk : k = 2 ^ (l (0)).val := by omega
    rw [E_X9_fits_123, hk]
    simp (disch := omega) only [y_0, y_1, y_2, y_3, y_4, y_5, y_6, y_7, y_8, y_9, y_10, y_11, y_12, y_13, y_14, y_15, y_16, y_17, y_18, y_19, y_20, y_21, y_22, y_23, y_24, y_29, y_30, y_31, y_32, y_39, y_40, y_48, y_49, y_50, y_60, y_64, y_69, y_78, y_99, y_100, y_142, y_161, y_600, y_610, y_894, y_999, y_1000, y_1216, y_1276, neg1, neg2, nI_add, nI_mul, nn_sub, nn_lt, nn_le, nn_eq, in_lt, ni_lt, in_le, ni_le, in_eq, ni_eq, iI_lt, iI_le, iI_eq, nn_clamp, inb_n, t_lt, f_lt, t_le, f_le, t_eq, f_eq, ti_lt, fi_lt, ti_le, fi_le, ti_eq, fi_eq, ↓reduceIte, ite_true, ite_false, eq_self, decide_true, decide_false, Bool.true_and, Bool.and_true, Bool.false_and, Bool.and_false, Bool.true_or, Bool.or_true, Bool.false_or, Bool.or_false, bI_t, bI_f, bI_nand, n_mod, an11, an01, negn1, negn2, false_and, and_false, true_and, and_true, not_true_eq_false, not_false_eq_true, bI_n0, bI_n1, Bool.true_eq_false, Bool.false_eq_true, cI_s, cL_s, cV_s, cR_n, pm_bR_self, bI_ite, bL_ite, bV_ite, bR_ite, E_X9_fits_17, E_X9_fits_57, E_X9_fits_135, E_X9_fits_76, a0, hs]
    rfl
  | succ r ih =>
    intro k hk
    have e := ih (k + 1) (by omega)
    rw [fb_ct_succ] at e
    have hc := fb_ct_le (lFit l) k
    have W := wrongBy_M hv hM (show k < 64 by omega)
    have hwr : lWrong l k ≤ 10 := Nat.le_trans (fb_ct_le _ _) hv.1.2.2.2.2
    rw [E_X9_fits_123]
    have hf : lFit l k = decide (lWrong l k = 0) := rfl
    by_cases q : lWrong l k = 0
    · rw [decide_eq_true q] at hf
      rw [hf, if_pos rfl] at e
      by_cases q2 : fb_ct (lFit l) k = w
      · rw [nthB_hit hf q2]
        simp (disch := omega) only [y_0, y_1, y_2, y_3, y_4, y_5, y_6, y_7, y_8, y_9, y_10, y_11, y_12, y_13, y_14, y_15, y_16, y_17, y_18, y_19, y_20, y_21, y_22, y_23, y_24, y_29, y_30, y_31, y_32, y_39, y_40, y_48, y_49, y_50, y_60, y_64, y_69, y_78, y_99, y_100, y_142, y_161, y_600, y_610, y_894, y_999, y_1000, y_1216, y_1276, neg1, neg2, nI_add, nI_mul, nn_sub, nn_lt, nn_le, nn_eq, in_lt, ni_lt, in_le, ni_le, in_eq, ni_eq, iI_lt, iI_le, iI_eq, nn_clamp, inb_n, t_lt, f_lt, t_le, f_le, t_eq, f_eq, ti_lt, fi_lt, ti_le, fi_le, ti_eq, fi_eq, ↓reduceIte, ite_true, ite_false, eq_self, decide_true, decide_false, Bool.true_and, Bool.and_true, Bool.false_and, Bool.and_false, Bool.true_or, Bool.or_true, Bool.false_or, Bool.or_false, bI_t, bI_f, bI_nand, n_mod, an11, an01, negn1, negn2, false_and, and_false, true_and, and_true, not_true_eq_false, not_false_eq_true, bI_n0, bI_n1, Bool.true_eq_false, Bool.false_eq_true, cI_s, cL_s, cV_s, cR_n, pm_bR_self, bI_ite, bL_ite, bV_ite, bR_ite, E_X9_fits_17, E_X9_fits_57, E_X9_fits_135, E_X9_fits_76, a0, hs, W]
        rfl
      · rw [nthB_miss (fun x => q2 x.2)]
        simp (disch := omega) only [y_0, y_1, y_2, y_3, y_4, y_5, y_6, y_7, y_8, y_9, y_10, y_11, y_12, y_13, y_14, y_15, y_16, y_17, y_18, y_19, y_20, y_21, y_22, y_23, y_24, y_29, y_30, y_31, y_32, y_39, y_40, y_48, y_49, y_50, y_60, y_64, y_69, y_78, y_99, y_100, y_142, y_161, y_600, y_610, y_894, y_999, y_1000, y_1216, y_1276, neg1, neg2, nI_add, nI_mul, nn_sub, nn_lt, nn_le, nn_eq, in_lt, ni_lt, in_le, ni_le, in_eq, ni_eq, iI_lt, iI_le, iI_eq, nn_clamp, inb_n, t_lt, f_lt, t_le, f_le, t_eq, f_eq, ti_lt, fi_lt, ti_le, fi_le, ti_eq, fi_eq, ↓reduceIte, ite_true, ite_false, eq_self, decide_true, decide_false, Bool.true_and, Bool.and_true, Bool.false_and, Bool.and_false, Bool.true_or, Bool.or_true, Bool.false_or, Bool.or_false, bI_t, bI_f, bI_nand, n_mod, an11, an01, negn1, negn2, false_and, and_false, true_and, and_true, not_true_eq_false, not_false_eq_true, bI_n0, bI_n1, Bool.true_eq_false, Bool.false_eq_true, cI_s, cL_s, cV_s, cR_n, pm_bR_self, bI_ite, bL_ite, bV_ite, bR_ite, E_X9_fits_17, E_X9_fits_57, E_X9_fits_135, E_X9_fits_76, a0, hs, W]
        exact e
    · rw [decide_eq_false q] at hf
      rw [hf, if_neg (by decide)] at e
      rw [nthB_miss (fun x => by rw [hf] at x; cases x.1)]
      simp (disch := omega) only [y_0, y_1, y_2, y_3, y_4, y_5, y_6, y_7, y_8, y_9, y_10, y_11, y_12, y_13, y_14, y_15, y_16, y_17, y_18, y_19, y_20, y_21, y_22, y_23, y_24, y_29, y_30, y_31, y_32, y_39, y_40, y_48, y_49, y_50, y_60, y_64, y_69, y_78, y_99, y_100, y_142, y_161, y_600, y_610, y_894, y_999, y_1000, y_1216, y_1276, neg1, neg2, nI_add, nI_mul, nn_sub, nn_lt, nn_le, nn_eq, in_lt, ni_lt, in_le, ni_le, in_eq, ni_eq, iI_lt, iI_le, iI_eq, nn_clamp, inb_n, t_lt, f_lt, t_le, f_le, t_eq, f_eq, ti_lt, fi_lt, ti_le, fi_le, ti_eq, fi_eq, ↓reduceIte, ite_true, ite_false, eq_self, decide_true, decide_false, Bool.true_and, Bool.and_true, Bool.false_and, Bool.and_false, Bool.true_or, Bool.or_true, Bool.false_or, Bool.or_false, bI_t, bI_f, bI_nand, n_mod, an11, an01, negn1, negn2, false_and, and_false, true_and, and_true, not_true_eq_false, not_false_eq_true, bI_n0, bI_n1, Bool.true_eq_false, Bool.false_eq_true, cI_s, cL_s, cV_s, cR_n, pm_bR_self, bI_ite, bL_ite, bV_ite, bR_ite, E_X9_fits_17, E_X9_fits_57, E_X9_fits_135, E_X9_fits_76, a0, hs, W]
      exact e
/-- no set is asked for: none is found -/
theorem setAt_no {g : PH} {a : Nat} {l : AC} (hv : lV l) (hM : ModL g a l) {w : Int32} (hw : ∀ k : Nat, k ≤ 64 → ¬ w = nI (10 + k)) : ∀ r k, k + r = 2 ^ (l (0)).val → pm_ev (244, 123, [vr 8 0, none, vi w, vi (nI (fb_ct (lFit l) k)), vi (nI k)], [], g) = some (some (vi (iI (-2))), g) := by
  have hP := pw6 hv.1.1
  have a0 := hM.2
  have hl := hM.1.1.2.2.2.2
  have hs := sets_M hv hM
  intro r
  induction r with
  | zero =>
    intro k hk
    have hk : k = 2 ^ (l (0)).val := by omega
    rw [E_X9_fits_123, hk]
    simp (disch := omega) only [y_0, y_1, y_2, y_3, y_4, y_5, y_6, y_7, y_8, y_9, y_10, y_11, y_12, y_13, y_14, y_15, y_16, y_17, y_18, y_19, y_20, y_21, y_22, y_23, y_24, y_29, y_30, y_31, y_32, y_39, y_40, y_48, y_49, y_50, y_60, y_64, y_69, y_78, y_99, y_100, y_142, y_161, y_600, y_610, y_894, y_999, y_1000, y_1216, y_1276, neg1, neg2, nI_add, nI_mul, nn_sub, nn_lt, nn_le, nn_eq, in_lt, ni_lt, in_le, ni_le, in_eq, ni_eq, iI_lt, iI_le, iI_eq, nn_clamp, inb_n, t_lt, f_lt, t_le, f_le, t_eq, f_eq, ti_lt, fi_lt, ti_le, fi_le, ti_eq, fi_eq, ↓reduceIte, ite_true, ite_false, eq_self, decide_true, decide_false, Bool.true_and, Bool.and_true, Bool.false_and, Bool.and_false, Bool.true_or, Bool.or_true, Bool.false_or, Bool.or_false, bI_t, bI_f, bI_nand, n_mod, an11, an01, negn1, negn2, false_and, and_false, true_and, and_true, not_true_eq_false, not_false_eq_true, bI_n0, bI_n1, Bool.true_eq_false, Bool.false_eq_true, cI_s, cL_s, cV_s, cR_n, pm_bR_self, bI_ite, bL_ite, bV_ite, bR_ite, E_X9_fits_17, E_X9_fits_57, E_X9_fits_135, E_X9_fits_76, a0, hs]
  | succ r ih =>
    intro k hk
    have e := ih (k + 1) (by omega)
    rw [fb_ct_succ] at e
    have hc := fb_ct_le (lFit l) k
    have W := wrongBy_M hv hM (show k < 64 by omega)
    have hwr : lWrong l k ≤ 10 := Nat.le_trans (fb_ct_le _ _) hv.1.2.2.2.2
    have hn := hw (fb_ct (lFit l) k) (by omega)
    rw [E_X9_fits_123]
    have hf : lFit l k = decide (lWrong l k = 0) := rfl
    by_cases q : lWrong l k = 0
    · rw [hf, decide_eq_true q, if_pos rfl] at e
      simp (disch := omega) only [y_0, y_1, y_2, y_3, y_4, y_5, y_6, y_7, y_8, y_9, y_10, y_11, y_12, y_13, y_14, y_15, y_16, y_17, y_18, y_19, y_20, y_21, y_22, y_23, y_24, y_29, y_30, y_31, y_32, y_39, y_40, y_48, y_49, y_50, y_60, y_64, y_69, y_78, y_99, y_100, y_142, y_161, y_600, y_610, y_894, y_999, y_1000, y_1216, y_1276, neg1, neg2, nI_add, nI_mul, nn_sub, nn_lt, nn_le, nn_eq, in_lt, ni_lt, in_le, ni_le, in_eq, ni_eq, iI_lt, iI_le, iI_eq, nn_clamp, inb_n, t_lt, f_lt, t_le, f_le, t_eq, f_eq, ti_lt, fi_lt, ti_le, fi_le, ti_eq, fi_eq, ↓reduceIte, ite_true, ite_false, eq_self, decide_true, decide_false, Bool.true_and, Bool.and_true, Bool.false_and, Bool.and_false, Bool.true_or, Bool.or_true, Bool.false_or, Bool.or_false, bI_t, bI_f, bI_nand, n_mod, an11, an01, negn1, negn2, false_and, and_false, true_and, and_true, not_true_eq_false, not_false_eq_true, bI_n0, bI_n1, Bool.true_eq_false, Bool.false_eq_true, cI_s, cL_s, cV_s, cR_n, pm_bR_self, bI_ite, bL_ite, bV_ite, bR_ite, E_X9_fits_17, E_X9_fits_57, E_X9_fits_135, E_X9_fits_76, a0, hs, W, hn]
      exact e
    · rw [hf, decide_eq_false q, if_neg (by decide)] at e
      simp (disch := omega) only [y_0, y_1, y_2, y_3, y_4, y_5, y_6, y_7, y_8, y_9, y_10, y_11, y_12, y_13, y_14, y_15, y_16, y_17, y_18, y_19, y_20, y_21, y_22, y_23, y_24, y_29, y_30, y_31, y_32, y_39, y_40, y_48, y_49, y_50, y_60, y_64, y_69, y_78, y_99, y_100, y_142, y_161, y_600, y_610, y_894, y_999, y_1000, y_1216, y_1276, neg1, neg2, nI_add, nI_mul, nn_sub, nn_lt, nn_le, nn_eq, in_lt, ni_lt, in_le, ni_le, in_eq, ni_eq, iI_lt, iI_le, iI_eq, nn_clamp, inb_n, t_lt, f_lt, t_le, f_le, t_eq, f_eq, ti_lt, fi_lt, ti_le, fi_le, ti_eq, fi_eq, ↓reduceIte, ite_true, ite_false, eq_self, decide_true, decide_false, Bool.true_and, Bool.and_true, Bool.false_and, Bool.and_false, Bool.true_or, Bool.or_true, Bool.false_or, Bool.or_false, bI_t, bI_f, bI_nand, n_mod, an11, an01, negn1, negn2, false_and, and_false, true_and, and_true, not_true_eq_false, not_false_eq_true, bI_n0, bI_n1, Bool.true_eq_false, Bool.false_eq_true, cI_s, cL_s, cV_s, cR_n, pm_bR_self, bI_ite, bL_ite, bV_ite, bR_ite, E_X9_fits_17, E_X9_fits_57, E_X9_fits_135, E_X9_fits_76, a0, hs, W]
      exact e
def argmB (f : Nat → Nat) : Nat → Nat
  | 0 => 0
  | k + 1 => if f k < f (argmB f k) then k else argmB f k
theorem argmB_le (f : Nat → Nat) : ∀ n, argmB f n ≤ n
  | 0 => Nat.le_refl _
  | n + 1 => by
    have := argmB_le f n
    unfold argmB
    split <;> omega
theorem argmB_1 (f : Nat → Nat) : argmB f 1 = 0 := by
  show (if f 0 < f 0 then 0 else 0) = 0
  split <;> rfl
theorem argmB_succ (f : Nat → Nat) (n : Nat) : argmB f (n + 1) = if f n < f (argmB f n) then n else argmB f n := rfl
/-- the greater number of those that fit, by an hour -/
def lGr (l : AC) (at' : Nat) : Nat := max (fb_ct (fun i => lFit l i && lShine l i at') (2 ^ (l (0)).val)) (fb_ct (lFit l) (2 ^ (l (0)).val) - fb_ct (fun i => lFit l i && lShine l i at') (2 ^ (l (0)).val))
theorem ct_sub {p q : Nat → Bool} (n : Nat) : fb_ct (fun i => p i && q i) n ≤ fb_ct p n := fb_ct_sub (fun k _ h => by
  have h : (p k && q k) = true := h
  rw [Bool.and_eq_true] at h; exact h.1)
theorem lGr_le (l : AC) (at' : Nat) (hP : 2 ^ (l (0)).val ≤ 64) : lGr l at' ≤ 64 := by
  have h1 := ct_sub (p := lFit l) (q := fun i => lShine l i at') (2 ^ (l (0)).val)
  have h2 := fb_ct_le (lFit l) (2 ^ (l (0)).val)
  unfold lGr; omega
theorem ask_C {h : PH} {j : Nat} {l : AC} (hv : lV l) (hC : LogC h j l) (hp : 0 < fb_ct (lFit l) (2 ^ (l (0)).val)) : ∀ r k, k + r = 24 → 0 < k → pm_ev (57, 16, [vr 2 j, vl (lS (fun i => decide (i < 2 ^ (l (0)).val) && lFit l i)), none, vi (nI (fb_ct (lFit l) (2 ^ (l (0)).val))), vi (nI (argmB (lGr l) k)), vi (nI (lGr l (argmB (lGr l) k))), vi (nI k), none, none], [], h) = some (some (vi (nI (argmB (lGr l) 24))), h) := by
  have hP := pw6 hv.1.1
  have hc := fb_ct_le (lFit l) (2 ^ (l (0)).val)
  intro r
  induction r with
  | zero =>
    intro k hk _
    have hk : k = 24 := by omega
    rw [E_X2_hourToAsk_16, hk]
    simp (disch := omega) only [y_0, y_1, y_2, y_3, y_4, y_5, y_6, y_7, y_8, y_9, y_10, y_11, y_12, y_13, y_14, y_15, y_16, y_17, y_18, y_19, y_20, y_21, y_22, y_23, y_24, y_29, y_30, y_31, y_32, y_39, y_40, y_48, y_49, y_50, y_60, y_64, y_69, y_78, y_99, y_100, y_142, y_161, y_600, y_610, y_894, y_999, y_1000, y_1216, y_1276, neg1, neg2, nI_add, nI_mul, nn_sub, nn_lt, nn_le, nn_eq, in_lt, ni_lt, in_le, ni_le, in_eq, ni_eq, iI_lt, iI_le, iI_eq, nn_clamp, inb_n, t_lt, f_lt, t_le, f_le, t_eq, f_eq, ti_lt, fi_lt, ti_le, fi_le, ti_eq, fi_eq, ↓reduceIte, ite_true, ite_false, eq_self, decide_true, decide_false, Bool.true_and, Bool.and_true, Bool.false_and, Bool.and_false, Bool.true_or, Bool.or_true, Bool.false_or, Bool.or_false, bI_t, bI_f, bI_nand, n_mod, an11, an01, negn1, negn2, false_and, and_false, true_and, and_true, not_true_eq_false, not_false_eq_true, bI_n0, bI_n1, Bool.true_eq_false, Bool.false_eq_true, cI_s, cL_s, cV_s, cR_n, pm_bR_self, bI_ite, bL_ite, bV_ite, bR_ite, E_X2_hourToAsk_66, E_X2_hourToAsk_72, E_X2_hourToAsk_72]
  | succ r ih =>
    intro k hk h0
    have e := ih (k + 1) (by omega) (by omega)
    have hsb := ct_sub (p := lFit l) (q := fun i => lShine l i k) (2 ^ (l (0)).val)
    have hg := lGr_le l (argmB (lGr l) k) hP.2
    have S := shiningAt_C hv hC (show k < 24 by omega)
    have B := bc_long (fun i => (decide (i < 2 ^ (l (0)).val) && lFit l i) && (decide (i < 2 ^ (l (0)).val) && lShine l i k)) h
    have e1 : fb_ct (fun i => (decide (i < 2 ^ (l (0)).val) && lFit l i) && (decide (i < 2 ^ (l (0)).val) && lShine l i k)) 64 = fb_ct (fun i => lFit l i && lShine l i k) (2 ^ (l (0)).val) := by
      rw [← ct_64 _ hP.2]
      exact fb_ct_cong (fun i _ => by cases decide (i < 2 ^ (l (0)).val) <;> simp)
    rw [e1] at B
    rw [argmB_succ (lGr l) k] at e
    have hG : lGr l k = max (fb_ct (fun i => lFit l i && lShine l i k) (2 ^ (l (0)).val)) (fb_ct (lFit l) (2 ^ (l (0)).val) - fb_ct (fun i => lFit l i && lShine l i k) (2 ^ (l (0)).val)) := rfl
    rw [E_X2_hourToAsk_16]
    by_cases q1 : fb_ct (fun i => lFit l i && lShine l i k) (2 ^ (l (0)).val) < fb_ct (lFit l) (2 ^ (l (0)).val) - fb_ct (fun i => lFit l i && lShine l i k) (2 ^ (l (0)).val)
    · rw [Nat.max_eq_right (by omega)] at hG
      by_cases q2 : lGr l k < lGr l (argmB (lGr l) k)
      · rw [if_pos q2] at e
        rw [hG] at e q2
        simp (disch := omega) only [y_0, y_1, y_2, y_3, y_4, y_5, y_6, y_7, y_8, y_9, y_10, y_11, y_12, y_13, y_14, y_15, y_16, y_17, y_18, y_19, y_20, y_21, y_22, y_23, y_24, y_29, y_30, y_31, y_32, y_39, y_40, y_48, y_49, y_50, y_60, y_64, y_69, y_78, y_99, y_100, y_142, y_161, y_600, y_610, y_894, y_999, y_1000, y_1216, y_1276, neg1, neg2, nI_add, nI_mul, nn_sub, nn_lt, nn_le, nn_eq, in_lt, ni_lt, in_le, ni_le, in_eq, ni_eq, iI_lt, iI_le, iI_eq, nn_clamp, inb_n, t_lt, f_lt, t_le, f_le, t_eq, f_eq, ti_lt, fi_lt, ti_le, fi_le, ti_eq, fi_eq, ↓reduceIte, ite_true, ite_false, eq_self, decide_true, decide_false, Bool.true_and, Bool.and_true, Bool.false_and, Bool.and_false, Bool.true_or, Bool.or_true, Bool.false_or, Bool.or_false, bI_t, bI_f, bI_nand, n_mod, an11, an01, negn1, negn2, false_and, and_false, true_and, and_true, not_true_eq_false, not_false_eq_true, bI_n0, bI_n1, Bool.true_eq_false, Bool.false_eq_true, cI_s, cL_s, cV_s, cR_n, pm_bR_self, bI_ite, bL_ite, bV_ite, bR_ite, E_X2_hourToAsk_66, E_X2_hourToAsk_72, S, lS_and, B, E_X2_hourToAsk_66]
        exact e
      · rw [if_neg q2] at e
        rw [hG] at q2
        simp (disch := omega) only [y_0, y_1, y_2, y_3, y_4, y_5, y_6, y_7, y_8, y_9, y_10, y_11, y_12, y_13, y_14, y_15, y_16, y_17, y_18, y_19, y_20, y_21, y_22, y_23, y_24, y_29, y_30, y_31, y_32, y_39, y_40, y_48, y_49, y_50, y_60, y_64, y_69, y_78, y_99, y_100, y_142, y_161, y_600, y_610, y_894, y_999, y_1000, y_1216, y_1276, neg1, neg2, nI_add, nI_mul, nn_sub, nn_lt, nn_le, nn_eq, in_lt, ni_lt, in_le, ni_le, in_eq, ni_eq, iI_lt, iI_le, iI_eq, nn_clamp, inb_n, t_lt, f_lt, t_le, f_le, t_eq, f_eq, ti_lt, fi_lt, ti_le, fi_le, ti_eq, fi_eq, ↓reduceIte, ite_true, ite_false, eq_self, decide_true, decide_false, Bool.true_and, Bool.and_true, Bool.false_and, Bool.and_false, Bool.true_or, Bool.or_true, Bool.false_or, Bool.or_false, bI_t, bI_f, bI_nand, n_mod, an11, an01, negn1, negn2, false_and, and_false, true_and, and_true, not_true_eq_false, not_false_eq_true, bI_n0, bI_n1, Bool.true_eq_false, Bool.false_eq_true, cI_s, cL_s, cV_s, cR_n, pm_bR_self, bI_ite, bL_ite, bV_ite, bR_ite, E_X2_hourToAsk_66, E_X2_hourToAsk_72, S, lS_and, B, E_X2_hourToAsk_66]
        exact e
    · rw [Nat.max_eq_left (by omega)] at hG
      by_cases q2 : lGr l k < lGr l (argmB (lGr l) k)
      · rw [if_pos q2] at e
        rw [hG] at e q2
        simp (disch := omega) only [y_0, y_1, y_2, y_3, y_4, y_5, y_6, y_7, y_8, y_9, y_10, y_11, y_12, y_13, y_14, y_15, y_16, y_17, y_18, y_19, y_20, y_21, y_22, y_23, y_24, y_29, y_30, y_31, y_32, y_39, y_40, y_48, y_49, y_50, y_60, y_64, y_69, y_78, y_99, y_100, y_142, y_161, y_600, y_610, y_894, y_999, y_1000, y_1216, y_1276, neg1, neg2, nI_add, nI_mul, nn_sub, nn_lt, nn_le, nn_eq, in_lt, ni_lt, in_le, ni_le, in_eq, ni_eq, iI_lt, iI_le, iI_eq, nn_clamp, inb_n, t_lt, f_lt, t_le, f_le, t_eq, f_eq, ti_lt, fi_lt, ti_le, fi_le, ti_eq, fi_eq, ↓reduceIte, ite_true, ite_false, eq_self, decide_true, decide_false, Bool.true_and, Bool.and_true, Bool.false_and, Bool.and_false, Bool.true_or, Bool.or_true, Bool.false_or, Bool.or_false, bI_t, bI_f, bI_nand, n_mod, an11, an01, negn1, negn2, false_and, and_false, true_and, and_true, not_true_eq_false, not_false_eq_true, bI_n0, bI_n1, Bool.true_eq_false, Bool.false_eq_true, cI_s, cL_s, cV_s, cR_n, pm_bR_self, bI_ite, bL_ite, bV_ite, bR_ite, E_X2_hourToAsk_66, E_X2_hourToAsk_72, S, lS_and, B, E_X2_hourToAsk_66]
        exact e
      · rw [if_neg q2] at e
        rw [hG] at q2
        simp (disch := omega) only [y_0, y_1, y_2, y_3, y_4, y_5, y_6, y_7, y_8, y_9, y_10, y_11, y_12, y_13, y_14, y_15, y_16, y_17, y_18, y_19, y_20, y_21, y_22, y_23, y_24, y_29, y_30, y_31, y_32, y_39, y_40, y_48, y_49, y_50, y_60, y_64, y_69, y_78, y_99, y_100, y_142, y_161, y_600, y_610, y_894, y_999, y_1000, y_1216, y_1276, neg1, neg2, nI_add, nI_mul, nn_sub, nn_lt, nn_le, nn_eq, in_lt, ni_lt, in_le, ni_le, in_eq, ni_eq, iI_lt, iI_le, iI_eq, nn_clamp, inb_n, t_lt, f_lt, t_le, f_le, t_eq, f_eq, ti_lt, fi_lt, ti_le, fi_le, ti_eq, fi_eq, ↓reduceIte, ite_true, ite_false, eq_self, decide_true, decide_false, Bool.true_and, Bool.and_true, Bool.false_and, Bool.and_false, Bool.true_or, Bool.or_true, Bool.false_or, Bool.or_false, bI_t, bI_f, bI_nand, n_mod, an11, an01, negn1, negn2, false_and, and_false, true_and, and_true, not_true_eq_false, not_false_eq_true, bI_n0, bI_n1, Bool.true_eq_false, Bool.false_eq_true, cI_s, cL_s, cV_s, cR_n, pm_bR_self, bI_ite, bL_ite, bV_ite, bR_ite, E_X2_hourToAsk_66, E_X2_hourToAsk_72, S, lS_and, B, E_X2_hourToAsk_66]
        exact e
theorem ask_M {g : PH} {a : Nat} {l : AC} (hv : lV l) (hM : ModL g a l) (h31 : g.1 8 0 31 = nI (fb_ct (lFit l) (2 ^ (l (0)).val))) : ∀ r k, k + r = 24 → 0 < k → pm_ev (243, 8, [vr 8 0, vi (nI (argmB (lGr l) k)), vi (nI (lGr l (argmB (lGr l) k))), vi (nI k), none, none], [], g) = some (some (vi (nI (argmB (lGr l) 24))), g) := by
  have hP := pw6 hv.1.1
  have hc := fb_ct_le (lFit l) (2 ^ (l (0)).val)
  intro r
  induction r with
  | zero =>
    intro k hk _
    have hk : k = 24 := by omega
    rw [E_X9_askOf_8, hk]
    simp (disch := omega) only [y_0, y_1, y_2, y_3, y_4, y_5, y_6, y_7, y_8, y_9, y_10, y_11, y_12, y_13, y_14, y_15, y_16, y_17, y_18, y_19, y_20, y_21, y_22, y_23, y_24, y_29, y_30, y_31, y_32, y_39, y_40, y_48, y_49, y_50, y_60, y_64, y_69, y_78, y_99, y_100, y_142, y_161, y_600, y_610, y_894, y_999, y_1000, y_1216, y_1276, neg1, neg2, nI_add, nI_mul, nn_sub, nn_lt, nn_le, nn_eq, in_lt, ni_lt, in_le, ni_le, in_eq, ni_eq, iI_lt, iI_le, iI_eq, nn_clamp, inb_n, t_lt, f_lt, t_le, f_le, t_eq, f_eq, ti_lt, fi_lt, ti_le, fi_le, ti_eq, fi_eq, ↓reduceIte, ite_true, ite_false, eq_self, decide_true, decide_false, Bool.true_and, Bool.and_true, Bool.false_and, Bool.and_false, Bool.true_or, Bool.or_true, Bool.false_or, Bool.or_false, bI_t, bI_f, bI_nand, n_mod, an11, an01, negn1, negn2, false_and, and_false, true_and, and_true, not_true_eq_false, not_false_eq_true, bI_n0, bI_n1, Bool.true_eq_false, Bool.false_eq_true, cI_s, cL_s, cV_s, cR_n, pm_bR_self, bI_ite, bL_ite, bV_ite, bR_ite, ]
  | succ r ih =>
    intro k hk h0
    have e := ih (k + 1) (by omega) (by omega)
    have hsb := ct_sub (p := lFit l) (q := fun i => lShine l i k) (2 ^ (l (0)).val)
    have hg := lGr_le l (argmB (lGr l) k) hP.2
    have S := countOf_at hv hM (show k < 24 by omega)
    rw [argmB_succ (lGr l) k] at e
    have hG : lGr l k = max (fb_ct (fun i => lFit l i && lShine l i k) (2 ^ (l (0)).val)) (fb_ct (lFit l) (2 ^ (l (0)).val) - fb_ct (fun i => lFit l i && lShine l i k) (2 ^ (l (0)).val)) := rfl
    rw [E_X9_askOf_8]
    by_cases q1 : fb_ct (lFit l) (2 ^ (l (0)).val) - fb_ct (fun i => lFit l i && lShine l i k) (2 ^ (l (0)).val) < fb_ct (fun i => lFit l i && lShine l i k) (2 ^ (l (0)).val)
    · rw [Nat.max_eq_left (by omega)] at hG
      by_cases q2 : lGr l k < lGr l (argmB (lGr l) k)
      · rw [if_pos q2] at e
        rw [hG] at e q2
        simp (disch := omega) only [y_0, y_1, y_2, y_3, y_4, y_5, y_6, y_7, y_8, y_9, y_10, y_11, y_12, y_13, y_14, y_15, y_16, y_17, y_18, y_19, y_20, y_21, y_22, y_23, y_24, y_29, y_30, y_31, y_32, y_39, y_40, y_48, y_49, y_50, y_60, y_64, y_69, y_78, y_99, y_100, y_142, y_161, y_600, y_610, y_894, y_999, y_1000, y_1216, y_1276, neg1, neg2, nI_add, nI_mul, nn_sub, nn_lt, nn_le, nn_eq, in_lt, ni_lt, in_le, ni_le, in_eq, ni_eq, iI_lt, iI_le, iI_eq, nn_clamp, inb_n, t_lt, f_lt, t_le, f_le, t_eq, f_eq, ti_lt, fi_lt, ti_le, fi_le, ti_eq, fi_eq, ↓reduceIte, ite_true, ite_false, eq_self, decide_true, decide_false, Bool.true_and, Bool.and_true, Bool.false_and, Bool.and_false, Bool.true_or, Bool.or_true, Bool.false_or, Bool.or_false, bI_t, bI_f, bI_nand, n_mod, an11, an01, negn1, negn2, false_and, and_false, true_and, and_true, not_true_eq_false, not_false_eq_true, bI_n0, bI_n1, Bool.true_eq_false, Bool.false_eq_true, cI_s, cL_s, cV_s, cR_n, pm_bR_self, bI_ite, bL_ite, bV_ite, bR_ite, S, h31]
        exact e
      · rw [if_neg q2] at e
        rw [hG] at q2
        simp (disch := omega) only [y_0, y_1, y_2, y_3, y_4, y_5, y_6, y_7, y_8, y_9, y_10, y_11, y_12, y_13, y_14, y_15, y_16, y_17, y_18, y_19, y_20, y_21, y_22, y_23, y_24, y_29, y_30, y_31, y_32, y_39, y_40, y_48, y_49, y_50, y_60, y_64, y_69, y_78, y_99, y_100, y_142, y_161, y_600, y_610, y_894, y_999, y_1000, y_1216, y_1276, neg1, neg2, nI_add, nI_mul, nn_sub, nn_lt, nn_le, nn_eq, in_lt, ni_lt, in_le, ni_le, in_eq, ni_eq, iI_lt, iI_le, iI_eq, nn_clamp, inb_n, t_lt, f_lt, t_le, f_le, t_eq, f_eq, ti_lt, fi_lt, ti_le, fi_le, ti_eq, fi_eq, ↓reduceIte, ite_true, ite_false, eq_self, decide_true, decide_false, Bool.true_and, Bool.and_true, Bool.false_and, Bool.and_false, Bool.true_or, Bool.or_true, Bool.false_or, Bool.or_false, bI_t, bI_f, bI_nand, n_mod, an11, an01, negn1, negn2, false_and, and_false, true_and, and_true, not_true_eq_false, not_false_eq_true, bI_n0, bI_n1, Bool.true_eq_false, Bool.false_eq_true, cI_s, cL_s, cV_s, cR_n, pm_bR_self, bI_ite, bL_ite, bV_ite, bR_ite, S, h31]
        exact e
    · rw [Nat.max_eq_right (by omega)] at hG
      by_cases q2 : lGr l k < lGr l (argmB (lGr l) k)
      · rw [if_pos q2] at e
        rw [hG] at e q2
        simp (disch := omega) only [y_0, y_1, y_2, y_3, y_4, y_5, y_6, y_7, y_8, y_9, y_10, y_11, y_12, y_13, y_14, y_15, y_16, y_17, y_18, y_19, y_20, y_21, y_22, y_23, y_24, y_29, y_30, y_31, y_32, y_39, y_40, y_48, y_49, y_50, y_60, y_64, y_69, y_78, y_99, y_100, y_142, y_161, y_600, y_610, y_894, y_999, y_1000, y_1216, y_1276, neg1, neg2, nI_add, nI_mul, nn_sub, nn_lt, nn_le, nn_eq, in_lt, ni_lt, in_le, ni_le, in_eq, ni_eq, iI_lt, iI_le, iI_eq, nn_clamp, inb_n, t_lt, f_lt, t_le, f_le, t_eq, f_eq, ti_lt, fi_lt, ti_le, fi_le, ti_eq, fi_eq, ↓reduceIte, ite_true, ite_false, eq_self, decide_true, decide_false, Bool.true_and, Bool.and_true, Bool.false_and, Bool.and_false, Bool.true_or, Bool.or_true, Bool.false_or, Bool.or_false, bI_t, bI_f, bI_nand, n_mod, an11, an01, negn1, negn2, false_and, and_false, true_and, and_true, not_true_eq_false, not_false_eq_true, bI_n0, bI_n1, Bool.true_eq_false, Bool.false_eq_true, cI_s, cL_s, cV_s, cR_n, pm_bR_self, bI_ite, bL_ite, bV_ite, bR_ite, S, h31]
        exact e
      · rw [if_neg q2] at e
        rw [hG] at q2
        simp (disch := omega) only [y_0, y_1, y_2, y_3, y_4, y_5, y_6, y_7, y_8, y_9, y_10, y_11, y_12, y_13, y_14, y_15, y_16, y_17, y_18, y_19, y_20, y_21, y_22, y_23, y_24, y_29, y_30, y_31, y_32, y_39, y_40, y_48, y_49, y_50, y_60, y_64, y_69, y_78, y_99, y_100, y_142, y_161, y_600, y_610, y_894, y_999, y_1000, y_1216, y_1276, neg1, neg2, nI_add, nI_mul, nn_sub, nn_lt, nn_le, nn_eq, in_lt, ni_lt, in_le, ni_le, in_eq, ni_eq, iI_lt, iI_le, iI_eq, nn_clamp, inb_n, t_lt, f_lt, t_le, f_le, t_eq, f_eq, ti_lt, fi_lt, ti_le, fi_le, ti_eq, fi_eq, ↓reduceIte, ite_true, ite_false, eq_self, decide_true, decide_false, Bool.true_and, Bool.and_true, Bool.false_and, Bool.and_false, Bool.true_or, Bool.or_true, Bool.false_or, Bool.or_false, bI_t, bI_f, bI_nand, n_mod, an11, an01, negn1, negn2, false_and, and_false, true_and, and_true, not_true_eq_false, not_false_eq_true, bI_n0, bI_n1, Bool.true_eq_false, Bool.false_eq_true, cI_s, cL_s, cV_s, cR_n, pm_bR_self, bI_ite, bL_ite, bV_ite, bR_ite, S, h31]
        exact e
theorem ask_C0 {h : PH} {j : Nat} {l : AC} (hv : lV l) (hC : LogC h j l) (hp : 0 < fb_ct (lFit l) (2 ^ (l (0)).val)) : pm_ev (57, 0, [vr 2 j, vl (lS (fun i => decide (i < 2 ^ (l (0)).val) && lFit l i)), none, none, none, none, none, none, none], [], h) = some (some (vi (nI (argmB (lGr l) 24))), h) := by
  have hP := pw6 hv.1.1
  have hc := fb_ct_le (lFit l) (2 ^ (l (0)).val)
  have e := ask_C hv hC hp 23 1 rfl (by decide)
  rw [argmB_1] at e
  have B0 := bc_long (fun i => decide (i < 2 ^ (l (0)).val) && lFit l i) h
  rw [ct_64 _ hP.2] at B0
  have hsb := ct_sub (p := lFit l) (q := fun i => lShine l i 0) (2 ^ (l (0)).val)
  have S := shiningAt_C hv hC (show 0 < 24 by omega)
  have B := bc_long (fun i => (decide (i < 2 ^ (l (0)).val) && lFit l i) && (decide (i < 2 ^ (l (0)).val) && lShine l i 0)) h
  have e1 : fb_ct (fun i => (decide (i < 2 ^ (l (0)).val) && lFit l i) && (decide (i < 2 ^ (l (0)).val) && lShine l i 0)) 64 = fb_ct (fun i => lFit l i && lShine l i 0) (2 ^ (l (0)).val) := by
    rw [← ct_64 _ hP.2]
    exact fb_ct_cong (fun i _ => by cases decide (i < 2 ^ (l (0)).val) <;> simp)
  rw [e1] at B
  have hG : lGr l 0 = max (fb_ct (fun i => lFit l i && lShine l i 0) (2 ^ (l (0)).val)) (fb_ct (lFit l) (2 ^ (l (0)).val) - fb_ct (fun i => lFit l i && lShine l i 0) (2 ^ (l (0)).val)) := rfl
  rw [E_X2_hourToAsk, B0]
  simp (disch := omega) only [y_0, y_1, y_2, y_3, y_4, y_5, y_6, y_7, y_8, y_9, y_10, y_11, y_12, y_13, y_14, y_15, y_16, y_17, y_18, y_19, y_20, y_21, y_22, y_23, y_24, y_29, y_30, y_31, y_32, y_39, y_40, y_48, y_49, y_50, y_60, y_64, y_69, y_78, y_99, y_100, y_142, y_161, y_600, y_610, y_894, y_999, y_1000, y_1216, y_1276, neg1, neg2, nI_add, nI_mul, nn_sub, nn_lt, nn_le, nn_eq, in_lt, ni_lt, in_le, ni_le, in_eq, ni_eq, iI_lt, iI_le, iI_eq, nn_clamp, inb_n, t_lt, f_lt, t_le, f_le, t_eq, f_eq, ti_lt, fi_lt, ti_le, fi_le, ti_eq, fi_eq, ↓reduceIte, ite_true, ite_false, eq_self, decide_true, decide_false, Bool.true_and, Bool.and_true, Bool.false_and, Bool.and_false, Bool.true_or, Bool.or_true, Bool.false_or, Bool.or_false, bI_t, bI_f, bI_nand, n_mod, an11, an01, negn1, negn2, false_and, and_false, true_and, and_true, not_true_eq_false, not_false_eq_true, bI_n0, bI_n1, Bool.true_eq_false, Bool.false_eq_true, cI_s, cL_s, cV_s, cR_n, pm_bR_self, bI_ite, bL_ite, bV_ite, bR_ite, E_X2_hourToAsk_66, E_X2_hourToAsk_72, ]
  rw [E_X2_hourToAsk_16]
  by_cases q1 : fb_ct (fun i => lFit l i && lShine l i 0) (2 ^ (l (0)).val) < fb_ct (lFit l) (2 ^ (l (0)).val) - fb_ct (fun i => lFit l i && lShine l i 0) (2 ^ (l (0)).val)
  · rw [Nat.max_eq_right (by omega)] at hG
    rw [hG] at e
    simp (disch := omega) only [y_0, y_1, y_2, y_3, y_4, y_5, y_6, y_7, y_8, y_9, y_10, y_11, y_12, y_13, y_14, y_15, y_16, y_17, y_18, y_19, y_20, y_21, y_22, y_23, y_24, y_29, y_30, y_31, y_32, y_39, y_40, y_48, y_49, y_50, y_60, y_64, y_69, y_78, y_99, y_100, y_142, y_161, y_600, y_610, y_894, y_999, y_1000, y_1216, y_1276, neg1, neg2, nI_add, nI_mul, nn_sub, nn_lt, nn_le, nn_eq, in_lt, ni_lt, in_le, ni_le, in_eq, ni_eq, iI_lt, iI_le, iI_eq, nn_clamp, inb_n, t_lt, f_lt, t_le, f_le, t_eq, f_eq, ti_lt, fi_lt, ti_le, fi_le, ti_eq, fi_eq, ↓reduceIte, ite_true, ite_false, eq_self, decide_true, decide_false, Bool.true_and, Bool.and_true, Bool.false_and, Bool.and_false, Bool.true_or, Bool.or_true, Bool.false_or, Bool.or_false, bI_t, bI_f, bI_nand, n_mod, an11, an01, negn1, negn2, false_and, and_false, true_and, and_true, not_true_eq_false, not_false_eq_true, bI_n0, bI_n1, Bool.true_eq_false, Bool.false_eq_true, cI_s, cL_s, cV_s, cR_n, pm_bR_self, bI_ite, bL_ite, bV_ite, bR_ite, E_X2_hourToAsk_66, E_X2_hourToAsk_72, S, lS_and, B, E_X2_hourToAsk_66]
    exact e
  · rw [Nat.max_eq_left (by omega)] at hG
    rw [hG] at e
    simp (disch := omega) only [y_0, y_1, y_2, y_3, y_4, y_5, y_6, y_7, y_8, y_9, y_10, y_11, y_12, y_13, y_14, y_15, y_16, y_17, y_18, y_19, y_20, y_21, y_22, y_23, y_24, y_29, y_30, y_31, y_32, y_39, y_40, y_48, y_49, y_50, y_60, y_64, y_69, y_78, y_99, y_100, y_142, y_161, y_600, y_610, y_894, y_999, y_1000, y_1216, y_1276, neg1, neg2, nI_add, nI_mul, nn_sub, nn_lt, nn_le, nn_eq, in_lt, ni_lt, in_le, ni_le, in_eq, ni_eq, iI_lt, iI_le, iI_eq, nn_clamp, inb_n, t_lt, f_lt, t_le, f_le, t_eq, f_eq, ti_lt, fi_lt, ti_le, fi_le, ti_eq, fi_eq, ↓reduceIte, ite_true, ite_false, eq_self, decide_true, decide_false, Bool.true_and, Bool.and_true, Bool.false_and, Bool.and_false, Bool.true_or, Bool.or_true, Bool.false_or, Bool.or_false, bI_t, bI_f, bI_nand, n_mod, an11, an01, negn1, negn2, false_and, and_false, true_and, and_true, not_true_eq_false, not_false_eq_true, bI_n0, bI_n1, Bool.true_eq_false, Bool.false_eq_true, cI_s, cL_s, cV_s, cR_n, pm_bR_self, bI_ite, bL_ite, bV_ite, bR_ite, E_X2_hourToAsk_66, E_X2_hourToAsk_72, S, lS_and, B, E_X2_hourToAsk_66]
    exact e
theorem ask_M0 {g : PH} {a : Nat} {l : AC} (hv : lV l) (hM : ModL g a l) (h31 : g.1 8 0 31 = nI (fb_ct (lFit l) (2 ^ (l (0)).val))) : pm_ev (243, 0, [vr 8 0, none, none, none, none, none], [], g) = some (some (vi (nI (argmB (lGr l) 24))), g) := by
  have hP := pw6 hv.1.1
  have hc := fb_ct_le (lFit l) (2 ^ (l (0)).val)
  have e := ask_M hv hM h31 23 1 rfl (by decide)
  rw [argmB_1] at e
  have hsb := ct_sub (p := lFit l) (q := fun i => lShine l i 0) (2 ^ (l (0)).val)
  have S := countOf_at hv hM (show 0 < 24 by omega)
  have hG : lGr l 0 = max (fb_ct (fun i => lFit l i && lShine l i 0) (2 ^ (l (0)).val)) (fb_ct (lFit l) (2 ^ (l (0)).val) - fb_ct (fun i => lFit l i && lShine l i 0) (2 ^ (l (0)).val)) := rfl
  rw [E_X9_askOf]
  simp (disch := omega) only [y_0, y_1, y_2, y_3, y_4, y_5, y_6, y_7, y_8, y_9, y_10, y_11, y_12, y_13, y_14, y_15, y_16, y_17, y_18, y_19, y_20, y_21, y_22, y_23, y_24, y_29, y_30, y_31, y_32, y_39, y_40, y_48, y_49, y_50, y_60, y_64, y_69, y_78, y_99, y_100, y_142, y_161, y_600, y_610, y_894, y_999, y_1000, y_1216, y_1276, neg1, neg2, nI_add, nI_mul, nn_sub, nn_lt, nn_le, nn_eq, in_lt, ni_lt, in_le, ni_le, in_eq, ni_eq, iI_lt, iI_le, iI_eq, nn_clamp, inb_n, t_lt, f_lt, t_le, f_le, t_eq, f_eq, ti_lt, fi_lt, ti_le, fi_le, ti_eq, fi_eq, ↓reduceIte, ite_true, ite_false, eq_self, decide_true, decide_false, Bool.true_and, Bool.and_true, Bool.false_and, Bool.and_false, Bool.true_or, Bool.or_true, Bool.false_or, Bool.or_false, bI_t, bI_f, bI_nand, n_mod, an11, an01, negn1, negn2, false_and, and_false, true_and, and_true, not_true_eq_false, not_false_eq_true, bI_n0, bI_n1, Bool.true_eq_false, Bool.false_eq_true, cI_s, cL_s, cV_s, cR_n, pm_bR_self, bI_ite, bL_ite, bV_ite, bR_ite, ]
  rw [E_X9_askOf_8]
  by_cases q1 : fb_ct (lFit l) (2 ^ (l (0)).val) - fb_ct (fun i => lFit l i && lShine l i 0) (2 ^ (l (0)).val) < fb_ct (fun i => lFit l i && lShine l i 0) (2 ^ (l (0)).val)
  · rw [Nat.max_eq_left (by omega)] at hG
    rw [hG] at e
    simp (disch := omega) only [y_0, y_1, y_2, y_3, y_4, y_5, y_6, y_7, y_8, y_9, y_10, y_11, y_12, y_13, y_14, y_15, y_16, y_17, y_18, y_19, y_20, y_21, y_22, y_23, y_24, y_29, y_30, y_31, y_32, y_39, y_40, y_48, y_49, y_50, y_60, y_64, y_69, y_78, y_99, y_100, y_142, y_161, y_600, y_610, y_894, y_999, y_1000, y_1216, y_1276, neg1, neg2, nI_add, nI_mul, nn_sub, nn_lt, nn_le, nn_eq, in_lt, ni_lt, in_le, ni_le, in_eq, ni_eq, iI_lt, iI_le, iI_eq, nn_clamp, inb_n, t_lt, f_lt, t_le, f_le, t_eq, f_eq, ti_lt, fi_lt, ti_le, fi_le, ti_eq, fi_eq, ↓reduceIte, ite_true, ite_false, eq_self, decide_true, decide_false, Bool.true_and, Bool.and_true, Bool.false_and, Bool.and_false, Bool.true_or, Bool.or_true, Bool.false_or, Bool.or_false, bI_t, bI_f, bI_nand, n_mod, an11, an01, negn1, negn2, false_and, and_false, true_and, and_true, not_true_eq_false, not_false_eq_true, bI_n0, bI_n1, Bool.true_eq_false, Bool.false_eq_true, cI_s, cL_s, cV_s, cR_n, pm_bR_self, bI_ite, bL_ite, bV_ite, bR_ite, S, h31]
    exact e
  · rw [Nat.max_eq_right (by omega)] at hG
    rw [hG] at e
    simp (disch := omega) only [y_0, y_1, y_2, y_3, y_4, y_5, y_6, y_7, y_8, y_9, y_10, y_11, y_12, y_13, y_14, y_15, y_16, y_17, y_18, y_19, y_20, y_21, y_22, y_23, y_24, y_29, y_30, y_31, y_32, y_39, y_40, y_48, y_49, y_50, y_60, y_64, y_69, y_78, y_99, y_100, y_142, y_161, y_600, y_610, y_894, y_999, y_1000, y_1216, y_1276, neg1, neg2, nI_add, nI_mul, nn_sub, nn_lt, nn_le, nn_eq, in_lt, ni_lt, in_le, ni_le, in_eq, ni_eq, iI_lt, iI_le, iI_eq, nn_clamp, inb_n, t_lt, f_lt, t_le, f_le, t_eq, f_eq, ti_lt, fi_lt, ti_le, fi_le, ti_eq, fi_eq, ↓reduceIte, ite_true, ite_false, eq_self, decide_true, decide_false, Bool.true_and, Bool.and_true, Bool.false_and, Bool.and_false, Bool.true_or, Bool.or_true, Bool.false_or, Bool.or_false, bI_t, bI_f, bI_nand, n_mod, an11, an01, negn1, negn2, false_and, and_false, true_and, and_true, not_true_eq_false, not_false_eq_true, bI_n0, bI_n1, Bool.true_eq_false, Bool.false_eq_true, cI_s, cL_s, cV_s, cR_n, pm_bR_self, bI_ite, bL_ite, bV_ite, bR_ite, S, h31]
    exact e
theorem ModL.s31 {g : PH} {a : Nat} {l : AC} (hM : ModL g a l) (v : Int32) : ModL (pm_sI g 8 0 31 v) a l := ⟨hM.1.fr (fun x => sI_tag _ _ _ _ _ _ (by decide)), by rw [sI_pl _ _ _ _ _ (by decide)]; exact hM.2⟩
theorem q_fits {h : PH} (hI : NowL h) (a b : Int32) : Same2 (fun h => (124, 0, [vr 7 0, vi a, vi b, none, none, none], [], h)) (fun h => (244, 0, [vr 8 0, vi a, vi b, none, none], [], h)) h := by
  refine ask2 hI (E_X8_fits h a b) (fun h => E_X9_fits h a b) (fun _ => rfl) (fun _ => rfl) (fun k l ek hk hv hC => ?_)
  have hP := pw6 hv.1.1
  have hV := hv.1
  have hc := fb_ct_le (lFit l) (2 ^ (l (0)).val)
  have F := fitting_C hv hC
  have B0 := bc_long (fun i => decide (i < 2 ^ (l (0)).val) && lFit l i) h
  rw [ct_64 _ hP.2] at B0
  have hz : (lS (fun i => decide (i < 2 ^ (l (0)).val) && lFit l i) = 0) = (fb_ct (lFit l) (2 ^ (l (0)).val) = 0) := by
    rw [lS_eq0]
    refine propext ⟨fun h1 => fb_ct_zero.mpr (fun i hi => ?_), fun h1 i hi => ?_⟩
    · have := h1 i (by omega)
      rwa [decide_eq_true hi, Bool.true_and] at this
    · by_cases hi2 : i < 2 ^ (l (0)).val
      · rw [fb_ct_zero.mp h1 i hi2, Bool.and_false]
      · rw [decide_eq_false hi2, Bool.false_and]
  have setno : ∀ (z : Int32), (∀ k : Nat, k ≤ 64 → ¬ z = nI (10 + k)) → ∀ g, ModL g (1216 + 30 * k) l → pm_ev (244, 123, [vr 8 0, none, vi z, vi (nI 0), vi (nI 0)], [], g) = some (some (vi (iI (-2))), g) := fun z hz g hM => setAt_no hv hM hz _ 0 (Nat.zero_add _)
  rcases ix0 b with ⟨z, rfl, z1, z2⟩ | ⟨w, rfl, hw⟩
  · refine ⟨vi (iI (-2)), ?_, fun g hM => ⟨_, ?_, Fr.sI g 31 (nI (fb_ct (lFit l) (2 ^ (l (0)).val))) (t := 8) (i := 0) rfl⟩⟩
    · simp (disch := omega) only [y_0, y_1, y_2, y_3, y_4, y_5, y_6, y_7, y_8, y_9, y_10, y_11, y_12, y_13, y_14, y_15, y_16, y_17, y_18, y_19, y_20, y_21, y_22, y_23, y_24, y_29, y_30, y_31, y_32, y_39, y_40, y_48, y_49, y_50, y_60, y_64, y_69, y_78, y_99, y_100, y_142, y_161, y_600, y_610, y_894, y_999, y_1000, y_1216, y_1276, neg1, neg2, nI_add, nI_mul, nn_sub, nn_lt, nn_le, nn_eq, in_lt, ni_lt, in_le, ni_le, in_eq, ni_eq, iI_lt, iI_le, iI_eq, nn_clamp, inb_n, t_lt, f_lt, t_le, f_le, t_eq, f_eq, ti_lt, fi_lt, ti_le, fi_le, ti_eq, fi_eq, ↓reduceIte, ite_true, ite_false, eq_self, decide_true, decide_false, Bool.true_and, Bool.and_true, Bool.false_and, Bool.and_false, Bool.true_or, Bool.or_true, Bool.false_or, Bool.or_false, bI_t, bI_f, bI_nand, n_mod, an11, an01, negn1, negn2, false_and, and_false, true_and, and_true, not_true_eq_false, not_false_eq_true, bI_n0, bI_n1, Bool.true_eq_false, Bool.false_eq_true, cI_s, cL_s, cV_s, cR_n, pm_bR_self, bI_ite, bL_ite, bV_ite, bR_ite, E_X2_hourToAsk_66, E_X2_hourToAsk_72, E_X9_fits_17, E_X9_fits_57, E_X9_fits_135, E_X9_fits_76, F]
    · have N := setno (iI z) (fun k hk e => by rw [in_eq (by omega) (by omega) (by omega)] at e; omega) _ (hM.s31 (nI (fb_ct (lFit l) (2 ^ (l (0)).val))))
      simp (disch := omega) only [y_0, y_1, y_2, y_3, y_4, y_5, y_6, y_7, y_8, y_9, y_10, y_11, y_12, y_13, y_14, y_15, y_16, y_17, y_18, y_19, y_20, y_21, y_22, y_23, y_24, y_29, y_30, y_31, y_32, y_39, y_40, y_48, y_49, y_50, y_60, y_64, y_69, y_78, y_99, y_100, y_142, y_161, y_600, y_610, y_894, y_999, y_1000, y_1216, y_1276, neg1, neg2, nI_add, nI_mul, nn_sub, nn_lt, nn_le, nn_eq, in_lt, ni_lt, in_le, ni_le, in_eq, ni_eq, iI_lt, iI_le, iI_eq, nn_clamp, inb_n, t_lt, f_lt, t_le, f_le, t_eq, f_eq, ti_lt, fi_lt, ti_le, fi_le, ti_eq, fi_eq, ↓reduceIte, ite_true, ite_false, eq_self, decide_true, decide_false, Bool.true_and, Bool.and_true, Bool.false_and, Bool.and_false, Bool.true_or, Bool.or_true, Bool.false_or, Bool.or_false, bI_t, bI_f, bI_nand, n_mod, an11, an01, negn1, negn2, false_and, and_false, true_and, and_true, not_true_eq_false, not_false_eq_true, bI_n0, bI_n1, Bool.true_eq_false, Bool.false_eq_true, cI_s, cL_s, cV_s, cR_n, pm_bR_self, bI_ite, bL_ite, bV_ite, bR_ite, E_X2_hourToAsk_66, E_X2_hourToAsk_72, E_X9_fits_17, E_X9_fits_57, E_X9_fits_135, E_X9_fits_76, countOf_no hv hM, isIn_inn, sI_same, sI_tag, sI_num, sI_pl, sI_2, sL_1, sL_same, sL_tag, sL_num, sL_pl, cp_in, cp_tag, cp_num, cp_2]
      exact N
  by_cases w0 : w = 0
  · subst w0
    refine ⟨vi (nI (fb_ct (lFit l) (2 ^ (l (0)).val))), ?_, fun g hM => ⟨_, ?_, Fr.sI g 31 (nI (fb_ct (lFit l) (2 ^ (l (0)).val))) (t := 8) (i := 0) rfl⟩⟩
    · simp (disch := omega) only [y_0, y_1, y_2, y_3, y_4, y_5, y_6, y_7, y_8, y_9, y_10, y_11, y_12, y_13, y_14, y_15, y_16, y_17, y_18, y_19, y_20, y_21, y_22, y_23, y_24, y_29, y_30, y_31, y_32, y_39, y_40, y_48, y_49, y_50, y_60, y_64, y_69, y_78, y_99, y_100, y_142, y_161, y_600, y_610, y_894, y_999, y_1000, y_1216, y_1276, neg1, neg2, nI_add, nI_mul, nn_sub, nn_lt, nn_le, nn_eq, in_lt, ni_lt, in_le, ni_le, in_eq, ni_eq, iI_lt, iI_le, iI_eq, nn_clamp, inb_n, t_lt, f_lt, t_le, f_le, t_eq, f_eq, ti_lt, fi_lt, ti_le, fi_le, ti_eq, fi_eq, ↓reduceIte, ite_true, ite_false, eq_self, decide_true, decide_false, Bool.true_and, Bool.and_true, Bool.false_and, Bool.and_false, Bool.true_or, Bool.or_true, Bool.false_or, Bool.or_false, bI_t, bI_f, bI_nand, n_mod, an11, an01, negn1, negn2, false_and, and_false, true_and, and_true, not_true_eq_false, not_false_eq_true, bI_n0, bI_n1, Bool.true_eq_false, Bool.false_eq_true, cI_s, cL_s, cV_s, cR_n, pm_bR_self, bI_ite, bL_ite, bV_ite, bR_ite, E_X2_hourToAsk_66, E_X2_hourToAsk_72, E_X9_fits_17, E_X9_fits_57, E_X9_fits_135, E_X9_fits_76, F, B0]
    · simp (disch := omega) only [y_0, y_1, y_2, y_3, y_4, y_5, y_6, y_7, y_8, y_9, y_10, y_11, y_12, y_13, y_14, y_15, y_16, y_17, y_18, y_19, y_20, y_21, y_22, y_23, y_24, y_29, y_30, y_31, y_32, y_39, y_40, y_48, y_49, y_50, y_60, y_64, y_69, y_78, y_99, y_100, y_142, y_161, y_600, y_610, y_894, y_999, y_1000, y_1216, y_1276, neg1, neg2, nI_add, nI_mul, nn_sub, nn_lt, nn_le, nn_eq, in_lt, ni_lt, in_le, ni_le, in_eq, ni_eq, iI_lt, iI_le, iI_eq, nn_clamp, inb_n, t_lt, f_lt, t_le, f_le, t_eq, f_eq, ti_lt, fi_lt, ti_le, fi_le, ti_eq, fi_eq, ↓reduceIte, ite_true, ite_false, eq_self, decide_true, decide_false, Bool.true_and, Bool.and_true, Bool.false_and, Bool.and_false, Bool.true_or, Bool.or_true, Bool.false_or, Bool.or_false, bI_t, bI_f, bI_nand, n_mod, an11, an01, negn1, negn2, false_and, and_false, true_and, and_true, not_true_eq_false, not_false_eq_true, bI_n0, bI_n1, Bool.true_eq_false, Bool.false_eq_true, cI_s, cL_s, cV_s, cR_n, pm_bR_self, bI_ite, bL_ite, bV_ite, bR_ite, E_X2_hourToAsk_66, E_X2_hourToAsk_72, E_X9_fits_17, E_X9_fits_57, E_X9_fits_135, E_X9_fits_76, countOf_no hv hM, sI_same, sI_tag, sI_num, sI_pl, sI_2, sL_1, sL_same, sL_tag, sL_num, sL_pl, cp_in, cp_tag, cp_num, cp_2]
  by_cases w12 : w ≤ 2
  · by_cases f0 : fb_ct (lFit l) (2 ^ (l (0)).val) = 0
    · refine ⟨vi (iI (-1)), ?_, fun g hM => ⟨_, ?_, Fr.sI g 31 (nI (fb_ct (lFit l) (2 ^ (l (0)).val))) (t := 8) (i := 0) rfl⟩⟩
      · by_cases w1 : w = 1
        · simp (disch := omega) only [y_0, y_1, y_2, y_3, y_4, y_5, y_6, y_7, y_8, y_9, y_10, y_11, y_12, y_13, y_14, y_15, y_16, y_17, y_18, y_19, y_20, y_21, y_22, y_23, y_24, y_29, y_30, y_31, y_32, y_39, y_40, y_48, y_49, y_50, y_60, y_64, y_69, y_78, y_99, y_100, y_142, y_161, y_600, y_610, y_894, y_999, y_1000, y_1216, y_1276, neg1, neg2, nI_add, nI_mul, nn_sub, nn_lt, nn_le, nn_eq, in_lt, ni_lt, in_le, ni_le, in_eq, ni_eq, iI_lt, iI_le, iI_eq, nn_clamp, inb_n, t_lt, f_lt, t_le, f_le, t_eq, f_eq, ti_lt, fi_lt, ti_le, fi_le, ti_eq, fi_eq, ↓reduceIte, ite_true, ite_false, eq_self, decide_true, decide_false, Bool.true_and, Bool.and_true, Bool.false_and, Bool.and_false, Bool.true_or, Bool.or_true, Bool.false_or, Bool.or_false, bI_t, bI_f, bI_nand, n_mod, an11, an01, negn1, negn2, false_and, and_false, true_and, and_true, not_true_eq_false, not_false_eq_true, bI_n0, bI_n1, Bool.true_eq_false, Bool.false_eq_true, cI_s, cL_s, cV_s, cR_n, pm_bR_self, bI_ite, bL_ite, bV_ite, bR_ite, E_X2_hourToAsk_66, E_X2_hourToAsk_72, E_X9_fits_17, E_X9_fits_57, E_X9_fits_135, E_X9_fits_76, F, E_X2_sure, lcmp_0, hz, f0]
        · simp (disch := omega) only [y_0, y_1, y_2, y_3, y_4, y_5, y_6, y_7, y_8, y_9, y_10, y_11, y_12, y_13, y_14, y_15, y_16, y_17, y_18, y_19, y_20, y_21, y_22, y_23, y_24, y_29, y_30, y_31, y_32, y_39, y_40, y_48, y_49, y_50, y_60, y_64, y_69, y_78, y_99, y_100, y_142, y_161, y_600, y_610, y_894, y_999, y_1000, y_1216, y_1276, neg1, neg2, nI_add, nI_mul, nn_sub, nn_lt, nn_le, nn_eq, in_lt, ni_lt, in_le, ni_le, in_eq, ni_eq, iI_lt, iI_le, iI_eq, nn_clamp, inb_n, t_lt, f_lt, t_le, f_le, t_eq, f_eq, ti_lt, fi_lt, ti_le, fi_le, ti_eq, fi_eq, ↓reduceIte, ite_true, ite_false, eq_self, decide_true, decide_false, Bool.true_and, Bool.and_true, Bool.false_and, Bool.and_false, Bool.true_or, Bool.or_true, Bool.false_or, Bool.or_false, bI_t, bI_f, bI_nand, n_mod, an11, an01, negn1, negn2, false_and, and_false, true_and, and_true, not_true_eq_false, not_false_eq_true, bI_n0, bI_n1, Bool.true_eq_false, Bool.false_eq_true, cI_s, cL_s, cV_s, cR_n, pm_bR_self, bI_ite, bL_ite, bV_ite, bR_ite, E_X2_hourToAsk_66, E_X2_hourToAsk_72, E_X9_fits_17, E_X9_fits_57, E_X9_fits_135, E_X9_fits_76, F, E_X2_hourToAsk, B0, f0]
          rw [E_X2_hourToAsk_16]
          simp (disch := omega) only [y_0, y_1, y_2, y_3, y_4, y_5, y_6, y_7, y_8, y_9, y_10, y_11, y_12, y_13, y_14, y_15, y_16, y_17, y_18, y_19, y_20, y_21, y_22, y_23, y_24, y_29, y_30, y_31, y_32, y_39, y_40, y_48, y_49, y_50, y_60, y_64, y_69, y_78, y_99, y_100, y_142, y_161, y_600, y_610, y_894, y_999, y_1000, y_1216, y_1276, neg1, neg2, nI_add, nI_mul, nn_sub, nn_lt, nn_le, nn_eq, in_lt, ni_lt, in_le, ni_le, in_eq, ni_eq, iI_lt, iI_le, iI_eq, nn_clamp, inb_n, t_lt, f_lt, t_le, f_le, t_eq, f_eq, ti_lt, fi_lt, ti_le, fi_le, ti_eq, fi_eq, ↓reduceIte, ite_true, ite_false, eq_self, decide_true, decide_false, Bool.true_and, Bool.and_true, Bool.false_and, Bool.and_false, Bool.true_or, Bool.or_true, Bool.false_or, Bool.or_false, bI_t, bI_f, bI_nand, n_mod, an11, an01, negn1, negn2, false_and, and_false, true_and, and_true, not_true_eq_false, not_false_eq_true, bI_n0, bI_n1, Bool.true_eq_false, Bool.false_eq_true, cI_s, cL_s, cV_s, cR_n, pm_bR_self, bI_ite, bL_ite, bV_ite, bR_ite, E_X2_hourToAsk_66, E_X2_hourToAsk_72, E_X9_fits_17, E_X9_fits_57, E_X9_fits_135, E_X9_fits_76, E_X2_hourToAsk_72]
      · simp (disch := omega) only [y_0, y_1, y_2, y_3, y_4, y_5, y_6, y_7, y_8, y_9, y_10, y_11, y_12, y_13, y_14, y_15, y_16, y_17, y_18, y_19, y_20, y_21, y_22, y_23, y_24, y_29, y_30, y_31, y_32, y_39, y_40, y_48, y_49, y_50, y_60, y_64, y_69, y_78, y_99, y_100, y_142, y_161, y_600, y_610, y_894, y_999, y_1000, y_1216, y_1276, neg1, neg2, nI_add, nI_mul, nn_sub, nn_lt, nn_le, nn_eq, in_lt, ni_lt, in_le, ni_le, in_eq, ni_eq, iI_lt, iI_le, iI_eq, nn_clamp, inb_n, t_lt, f_lt, t_le, f_le, t_eq, f_eq, ti_lt, fi_lt, ti_le, fi_le, ti_eq, fi_eq, ↓reduceIte, ite_true, ite_false, eq_self, decide_true, decide_false, Bool.true_and, Bool.and_true, Bool.false_and, Bool.and_false, Bool.true_or, Bool.or_true, Bool.false_or, Bool.or_false, bI_t, bI_f, bI_nand, n_mod, an11, an01, negn1, negn2, false_and, and_false, true_and, and_true, not_true_eq_false, not_false_eq_true, bI_n0, bI_n1, Bool.true_eq_false, Bool.false_eq_true, cI_s, cL_s, cV_s, cR_n, pm_bR_self, bI_ite, bL_ite, bV_ite, bR_ite, E_X2_hourToAsk_66, E_X2_hourToAsk_72, E_X9_fits_17, E_X9_fits_57, E_X9_fits_135, E_X9_fits_76, countOf_no hv hM, isIn_nnn, f0, sI_same, sI_tag, sI_num, sI_pl, sI_2, sL_1, sL_same, sL_tag, sL_num, sL_pl, cp_in, cp_tag, cp_num, cp_2]
    · by_cases w1 : w = 1
      · subst w1
        refine ⟨vi (nI (sureB (lFit l) (2 ^ (l (0)).val - 1) (2 ^ (l (0)).val))), ?_, fun g hM => ⟨_, ?_, Fr.sI g 31 (nI (fb_ct (lFit l) (2 ^ (l (0)).val))) (t := 8) (i := 0) rfl⟩⟩
        · have e := sure_C hv hC _ 0 (Nat.zero_add _)
          simp (disch := omega) only [y_0, y_1, y_2, y_3, y_4, y_5, y_6, y_7, y_8, y_9, y_10, y_11, y_12, y_13, y_14, y_15, y_16, y_17, y_18, y_19, y_20, y_21, y_22, y_23, y_24, y_29, y_30, y_31, y_32, y_39, y_40, y_48, y_49, y_50, y_60, y_64, y_69, y_78, y_99, y_100, y_142, y_161, y_600, y_610, y_894, y_999, y_1000, y_1216, y_1276, neg1, neg2, nI_add, nI_mul, nn_sub, nn_lt, nn_le, nn_eq, in_lt, ni_lt, in_le, ni_le, in_eq, ni_eq, iI_lt, iI_le, iI_eq, nn_clamp, inb_n, t_lt, f_lt, t_le, f_le, t_eq, f_eq, ti_lt, fi_lt, ti_le, fi_le, ti_eq, fi_eq, ↓reduceIte, ite_true, ite_false, eq_self, decide_true, decide_false, Bool.true_and, Bool.and_true, Bool.false_and, Bool.and_false, Bool.true_or, Bool.or_true, Bool.false_or, Bool.or_false, bI_t, bI_f, bI_nand, n_mod, an11, an01, negn1, negn2, false_and, and_false, true_and, and_true, not_true_eq_false, not_false_eq_true, bI_n0, bI_n1, Bool.true_eq_false, Bool.false_eq_true, cI_s, cL_s, cV_s, cR_n, pm_bR_self, bI_ite, bL_ite, bV_ite, bR_ite, E_X2_hourToAsk_66, E_X2_hourToAsk_72, E_X9_fits_17, E_X9_fits_57, E_X9_fits_135, E_X9_fits_76, F, E_X2_sure, lcmp_0, hz, f0, sets_C hv hC]
          rw [show pm_ev (55, 18, [vr 2 k, vl (lS (fun i => decide (i < 2 ^ (l (0)).val) && lFit l i)), none, vi (nI (2 ^ (l (0)).val - 1)), vi (nI 0)], [], h) = _ from e]
          rfl
        · have hM' := hM.s31 (nI (fb_ct (lFit l) (2 ^ (l (0)).val)))
          have e := sure_M hv hM' (w := nI 1) _ 0 (Nat.zero_add _)
          have a0' := hM'.2
          have hs' := sets_M hv hM'
          have hl := hM'.1.1.2.2.2.2
          simp (disch := omega) only [y_0, y_1, y_2, y_3, y_4, y_5, y_6, y_7, y_8, y_9, y_10, y_11, y_12, y_13, y_14, y_15, y_16, y_17, y_18, y_19, y_20, y_21, y_22, y_23, y_24, y_29, y_30, y_31, y_32, y_39, y_40, y_48, y_49, y_50, y_60, y_64, y_69, y_78, y_99, y_100, y_142, y_161, y_600, y_610, y_894, y_999, y_1000, y_1216, y_1276, neg1, neg2, nI_add, nI_mul, nn_sub, nn_lt, nn_le, nn_eq, in_lt, ni_lt, in_le, ni_le, in_eq, ni_eq, iI_lt, iI_le, iI_eq, nn_clamp, inb_n, t_lt, f_lt, t_le, f_le, t_eq, f_eq, ti_lt, fi_lt, ti_le, fi_le, ti_eq, fi_eq, ↓reduceIte, ite_true, ite_false, eq_self, decide_true, decide_false, Bool.true_and, Bool.and_true, Bool.false_and, Bool.and_false, Bool.true_or, Bool.or_true, Bool.false_or, Bool.or_false, bI_t, bI_f, bI_nand, n_mod, an11, an01, negn1, negn2, false_and, and_false, true_and, and_true, not_true_eq_false, not_false_eq_true, bI_n0, bI_n1, Bool.true_eq_false, Bool.false_eq_true, cI_s, cL_s, cV_s, cR_n, pm_bR_self, bI_ite, bL_ite, bV_ite, bR_ite, E_X2_hourToAsk_66, E_X2_hourToAsk_72, E_X9_fits_17, E_X9_fits_57, E_X9_fits_135, E_X9_fits_76, countOf_no hv hM, isIn_nnn, sI_same, a0', hs', f0]
          refine Eq.trans e ?_
          rw [E_X9_fits_64]
          simp (disch := omega) only [y_0, y_1, y_2, y_3, y_4, y_5, y_6, y_7, y_8, y_9, y_10, y_11, y_12, y_13, y_14, y_15, y_16, y_17, y_18, y_19, y_20, y_21, y_22, y_23, y_24, y_29, y_30, y_31, y_32, y_39, y_40, y_48, y_49, y_50, y_60, y_64, y_69, y_78, y_99, y_100, y_142, y_161, y_600, y_610, y_894, y_999, y_1000, y_1216, y_1276, neg1, neg2, nI_add, nI_mul, nn_sub, nn_lt, nn_le, nn_eq, in_lt, ni_lt, in_le, ni_le, in_eq, ni_eq, iI_lt, iI_le, iI_eq, nn_clamp, inb_n, t_lt, f_lt, t_le, f_le, t_eq, f_eq, ti_lt, fi_lt, ti_le, fi_le, ti_eq, fi_eq, ↓reduceIte, ite_true, ite_false, eq_self, decide_true, decide_false, Bool.true_and, Bool.and_true, Bool.false_and, Bool.and_false, Bool.true_or, Bool.or_true, Bool.false_or, Bool.or_false, bI_t, bI_f, bI_nand, n_mod, an11, an01, negn1, negn2, false_and, and_false, true_and, and_true, not_true_eq_false, not_false_eq_true, bI_n0, bI_n1, Bool.true_eq_false, Bool.false_eq_true, cI_s, cL_s, cV_s, cR_n, pm_bR_self, bI_ite, bL_ite, bV_ite, bR_ite, E_X2_hourToAsk_66, E_X2_hourToAsk_72, E_X9_fits_17, E_X9_fits_57, E_X9_fits_135, E_X9_fits_76, a0', hs']
      · have w2 : w = 2 := by omega
        subst w2
        refine ⟨vi (nI (argmB (lGr l) 24)), ?_, fun g hM => ⟨_, ?_, Fr.sI g 31 (nI (fb_ct (lFit l) (2 ^ (l (0)).val))) (t := 8) (i := 0) rfl⟩⟩
        · simp (disch := omega) only [y_0, y_1, y_2, y_3, y_4, y_5, y_6, y_7, y_8, y_9, y_10, y_11, y_12, y_13, y_14, y_15, y_16, y_17, y_18, y_19, y_20, y_21, y_22, y_23, y_24, y_29, y_30, y_31, y_32, y_39, y_40, y_48, y_49, y_50, y_60, y_64, y_69, y_78, y_99, y_100, y_142, y_161, y_600, y_610, y_894, y_999, y_1000, y_1216, y_1276, neg1, neg2, nI_add, nI_mul, nn_sub, nn_lt, nn_le, nn_eq, in_lt, ni_lt, in_le, ni_le, in_eq, ni_eq, iI_lt, iI_le, iI_eq, nn_clamp, inb_n, t_lt, f_lt, t_le, f_le, t_eq, f_eq, ti_lt, fi_lt, ti_le, fi_le, ti_eq, fi_eq, ↓reduceIte, ite_true, ite_false, eq_self, decide_true, decide_false, Bool.true_and, Bool.and_true, Bool.false_and, Bool.and_false, Bool.true_or, Bool.or_true, Bool.false_or, Bool.or_false, bI_t, bI_f, bI_nand, n_mod, an11, an01, negn1, negn2, false_and, and_false, true_and, and_true, not_true_eq_false, not_false_eq_true, bI_n0, bI_n1, Bool.true_eq_false, Bool.false_eq_true, cI_s, cL_s, cV_s, cR_n, pm_bR_self, bI_ite, bL_ite, bV_ite, bR_ite, E_X2_hourToAsk_66, E_X2_hourToAsk_72, E_X9_fits_17, E_X9_fits_57, E_X9_fits_135, E_X9_fits_76, F, ask_C0 hv hC (show 0 < fb_ct (lFit l) (2 ^ (l (0)).val) by omega)]
        · have hM' := hM.s31 (nI (fb_ct (lFit l) (2 ^ (l (0)).val)))
          have e := sure_M hv hM' (w := nI 2) _ 0 (Nat.zero_add _)
          have a0' := hM'.2
          have hs' := sets_M hv hM'
          have hl := hM'.1.1.2.2.2.2
          simp (disch := omega) only [y_0, y_1, y_2, y_3, y_4, y_5, y_6, y_7, y_8, y_9, y_10, y_11, y_12, y_13, y_14, y_15, y_16, y_17, y_18, y_19, y_20, y_21, y_22, y_23, y_24, y_29, y_30, y_31, y_32, y_39, y_40, y_48, y_49, y_50, y_60, y_64, y_69, y_78, y_99, y_100, y_142, y_161, y_600, y_610, y_894, y_999, y_1000, y_1216, y_1276, neg1, neg2, nI_add, nI_mul, nn_sub, nn_lt, nn_le, nn_eq, in_lt, ni_lt, in_le, ni_le, in_eq, ni_eq, iI_lt, iI_le, iI_eq, nn_clamp, inb_n, t_lt, f_lt, t_le, f_le, t_eq, f_eq, ti_lt, fi_lt, ti_le, fi_le, ti_eq, fi_eq, ↓reduceIte, ite_true, ite_false, eq_self, decide_true, decide_false, Bool.true_and, Bool.and_true, Bool.false_and, Bool.and_false, Bool.true_or, Bool.or_true, Bool.false_or, Bool.or_false, bI_t, bI_f, bI_nand, n_mod, an11, an01, negn1, negn2, false_and, and_false, true_and, and_true, not_true_eq_false, not_false_eq_true, bI_n0, bI_n1, Bool.true_eq_false, Bool.false_eq_true, cI_s, cL_s, cV_s, cR_n, pm_bR_self, bI_ite, bL_ite, bV_ite, bR_ite, E_X2_hourToAsk_66, E_X2_hourToAsk_72, E_X9_fits_17, E_X9_fits_57, E_X9_fits_135, E_X9_fits_76, countOf_no hv hM, isIn_nnn, sI_same, a0', hs', f0]
          refine Eq.trans e ?_
          rw [E_X9_fits_64]
          simp (disch := omega) only [y_0, y_1, y_2, y_3, y_4, y_5, y_6, y_7, y_8, y_9, y_10, y_11, y_12, y_13, y_14, y_15, y_16, y_17, y_18, y_19, y_20, y_21, y_22, y_23, y_24, y_29, y_30, y_31, y_32, y_39, y_40, y_48, y_49, y_50, y_60, y_64, y_69, y_78, y_99, y_100, y_142, y_161, y_600, y_610, y_894, y_999, y_1000, y_1216, y_1276, neg1, neg2, nI_add, nI_mul, nn_sub, nn_lt, nn_le, nn_eq, in_lt, ni_lt, in_le, ni_le, in_eq, ni_eq, iI_lt, iI_le, iI_eq, nn_clamp, inb_n, t_lt, f_lt, t_le, f_le, t_eq, f_eq, ti_lt, fi_lt, ti_le, fi_le, ti_eq, fi_eq, ↓reduceIte, ite_true, ite_false, eq_self, decide_true, decide_false, Bool.true_and, Bool.and_true, Bool.false_and, Bool.and_false, Bool.true_or, Bool.or_true, Bool.false_or, Bool.or_false, bI_t, bI_f, bI_nand, n_mod, an11, an01, negn1, negn2, false_and, and_false, true_and, and_true, not_true_eq_false, not_false_eq_true, bI_n0, bI_n1, Bool.true_eq_false, Bool.false_eq_true, cI_s, cL_s, cV_s, cR_n, pm_bR_self, bI_ite, bL_ite, bV_ite, bR_ite, E_X2_hourToAsk_66, E_X2_hourToAsk_72, E_X9_fits_17, E_X9_fits_57, E_X9_fits_135, E_X9_fits_76, a0', hs', ask_M0 hv hM' (sI_same _ _ _ _ _)]
  by_cases w10 : w < 10
  · refine ⟨vi (iI (-2)), ?_, fun g hM => ⟨_, ?_, Fr.sI g 31 (nI (fb_ct (lFit l) (2 ^ (l (0)).val))) (t := 8) (i := 0) rfl⟩⟩
    · simp (disch := omega) only [y_0, y_1, y_2, y_3, y_4, y_5, y_6, y_7, y_8, y_9, y_10, y_11, y_12, y_13, y_14, y_15, y_16, y_17, y_18, y_19, y_20, y_21, y_22, y_23, y_24, y_29, y_30, y_31, y_32, y_39, y_40, y_48, y_49, y_50, y_60, y_64, y_69, y_78, y_99, y_100, y_142, y_161, y_600, y_610, y_894, y_999, y_1000, y_1216, y_1276, neg1, neg2, nI_add, nI_mul, nn_sub, nn_lt, nn_le, nn_eq, in_lt, ni_lt, in_le, ni_le, in_eq, ni_eq, iI_lt, iI_le, iI_eq, nn_clamp, inb_n, t_lt, f_lt, t_le, f_le, t_eq, f_eq, ti_lt, fi_lt, ti_le, fi_le, ti_eq, fi_eq, ↓reduceIte, ite_true, ite_false, eq_self, decide_true, decide_false, Bool.true_and, Bool.and_true, Bool.false_and, Bool.and_false, Bool.true_or, Bool.or_true, Bool.false_or, Bool.or_false, bI_t, bI_f, bI_nand, n_mod, an11, an01, negn1, negn2, false_and, and_false, true_and, and_true, not_true_eq_false, not_false_eq_true, bI_n0, bI_n1, Bool.true_eq_false, Bool.false_eq_true, cI_s, cL_s, cV_s, cR_n, pm_bR_self, bI_ite, bL_ite, bV_ite, bR_ite, E_X2_hourToAsk_66, E_X2_hourToAsk_72, E_X9_fits_17, E_X9_fits_57, E_X9_fits_135, E_X9_fits_76, F]
    · have N := setno (nI w) (fun k hk e => by rw [nn_eq (by omega) (by omega)] at e; omega) _ (hM.s31 (nI (fb_ct (lFit l) (2 ^ (l (0)).val))))
      simp (disch := omega) only [y_0, y_1, y_2, y_3, y_4, y_5, y_6, y_7, y_8, y_9, y_10, y_11, y_12, y_13, y_14, y_15, y_16, y_17, y_18, y_19, y_20, y_21, y_22, y_23, y_24, y_29, y_30, y_31, y_32, y_39, y_40, y_48, y_49, y_50, y_60, y_64, y_69, y_78, y_99, y_100, y_142, y_161, y_600, y_610, y_894, y_999, y_1000, y_1216, y_1276, neg1, neg2, nI_add, nI_mul, nn_sub, nn_lt, nn_le, nn_eq, in_lt, ni_lt, in_le, ni_le, in_eq, ni_eq, iI_lt, iI_le, iI_eq, nn_clamp, inb_n, t_lt, f_lt, t_le, f_le, t_eq, f_eq, ti_lt, fi_lt, ti_le, fi_le, ti_eq, fi_eq, ↓reduceIte, ite_true, ite_false, eq_self, decide_true, decide_false, Bool.true_and, Bool.and_true, Bool.false_and, Bool.and_false, Bool.true_or, Bool.or_true, Bool.false_or, Bool.or_false, bI_t, bI_f, bI_nand, n_mod, an11, an01, negn1, negn2, false_and, and_false, true_and, and_true, not_true_eq_false, not_false_eq_true, bI_n0, bI_n1, Bool.true_eq_false, Bool.false_eq_true, cI_s, cL_s, cV_s, cR_n, pm_bR_self, bI_ite, bL_ite, bV_ite, bR_ite, E_X2_hourToAsk_66, E_X2_hourToAsk_72, E_X9_fits_17, E_X9_fits_57, E_X9_fits_135, E_X9_fits_76, countOf_no hv hM, isIn_nnn, sI_same, sI_tag, sI_num, sI_pl, sI_2, sL_1, sL_same, sL_tag, sL_num, sL_pl, cp_in, cp_tag, cp_num, cp_2]
      exact N
  · by_cases wb : w - 10 < 2147483648 - 100
    · refine ⟨vi (oI (nthB (lFit l) (w - 10) (2 ^ (l (0)).val) 0)), ?_, fun g hM => ⟨_, ?_, Fr.sI g 31 (nI (fb_ct (lFit l) (2 ^ (l (0)).val))) (t := 8) (i := 0) rfl⟩⟩
      · have e := setAt_C hv hC (w := w - 10) (by omega) _ 0 (Nat.zero_add _)
        simp (disch := omega) only [y_0, y_1, y_2, y_3, y_4, y_5, y_6, y_7, y_8, y_9, y_10, y_11, y_12, y_13, y_14, y_15, y_16, y_17, y_18, y_19, y_20, y_21, y_22, y_23, y_24, y_29, y_30, y_31, y_32, y_39, y_40, y_48, y_49, y_50, y_60, y_64, y_69, y_78, y_99, y_100, y_142, y_161, y_600, y_610, y_894, y_999, y_1000, y_1216, y_1276, neg1, neg2, nI_add, nI_mul, nn_sub, nn_lt, nn_le, nn_eq, in_lt, ni_lt, in_le, ni_le, in_eq, ni_eq, iI_lt, iI_le, iI_eq, nn_clamp, inb_n, t_lt, f_lt, t_le, f_le, t_eq, f_eq, ti_lt, fi_lt, ti_le, fi_le, ti_eq, fi_eq, ↓reduceIte, ite_true, ite_false, eq_self, decide_true, decide_false, Bool.true_and, Bool.and_true, Bool.false_and, Bool.and_false, Bool.true_or, Bool.or_true, Bool.false_or, Bool.or_false, bI_t, bI_f, bI_nand, n_mod, an11, an01, negn1, negn2, false_and, and_false, true_and, and_true, not_true_eq_false, not_false_eq_true, bI_n0, bI_n1, Bool.true_eq_false, Bool.false_eq_true, cI_s, cL_s, cV_s, cR_n, pm_bR_self, bI_ite, bL_ite, bV_ite, bR_ite, E_X2_hourToAsk_66, E_X2_hourToAsk_72, E_X9_fits_17, E_X9_fits_57, E_X9_fits_135, E_X9_fits_76, F, E_X2_setAt]
        rw [show pm_ev (56, 6, [vr 2 k, vl (lS (fun i => decide (i < 2 ^ (l (0)).val) && lFit l i)), none, vi (nI (w - 10)), vi (nI 0), vi (nI 0)], [], h) = _ from e]
        rfl
      · have e := setAt_M hv (hM.s31 (nI (fb_ct (lFit l) (2 ^ (l (0)).val)))) wb _ 0 (Nat.zero_add _)
        rw [show 10 + (w - 10) = w by omega] at e
        simp (disch := omega) only [y_0, y_1, y_2, y_3, y_4, y_5, y_6, y_7, y_8, y_9, y_10, y_11, y_12, y_13, y_14, y_15, y_16, y_17, y_18, y_19, y_20, y_21, y_22, y_23, y_24, y_29, y_30, y_31, y_32, y_39, y_40, y_48, y_49, y_50, y_60, y_64, y_69, y_78, y_99, y_100, y_142, y_161, y_600, y_610, y_894, y_999, y_1000, y_1216, y_1276, neg1, neg2, nI_add, nI_mul, nn_sub, nn_lt, nn_le, nn_eq, in_lt, ni_lt, in_le, ni_le, in_eq, ni_eq, iI_lt, iI_le, iI_eq, nn_clamp, inb_n, t_lt, f_lt, t_le, f_le, t_eq, f_eq, ti_lt, fi_lt, ti_le, fi_le, ti_eq, fi_eq, ↓reduceIte, ite_true, ite_false, eq_self, decide_true, decide_false, Bool.true_and, Bool.and_true, Bool.false_and, Bool.and_false, Bool.true_or, Bool.or_true, Bool.false_or, Bool.or_false, bI_t, bI_f, bI_nand, n_mod, an11, an01, negn1, negn2, false_and, and_false, true_and, and_true, not_true_eq_false, not_false_eq_true, bI_n0, bI_n1, Bool.true_eq_false, Bool.false_eq_true, cI_s, cL_s, cV_s, cR_n, pm_bR_self, bI_ite, bL_ite, bV_ite, bR_ite, E_X2_hourToAsk_66, E_X2_hourToAsk_72, E_X9_fits_17, E_X9_fits_57, E_X9_fits_135, E_X9_fits_76, countOf_no hv hM, isIn_nnn, sI_same, sI_tag, sI_num, sI_pl, sI_2, sL_1, sL_same, sL_tag, sL_num, sL_pl, cp_in, cp_tag, cp_num, cp_2]
        exact e
    · have hno : ∀ r q, q + r ≤ 64 → nthB (lFit l) (w - 10) r q = none := by
        intro r
        induction r with
        | zero => intro q _; rfl
        | succ r ih =>
          intro q hq
          unfold nthB
          have := fb_ct_le (lFit l) q
          rw [if_neg (by omega), ih (q + 1) (by omega)]
      refine ⟨vi (iI (-2)), ?_, fun g hM => ⟨_, ?_, Fr.sI g 31 (nI (fb_ct (lFit l) (2 ^ (l (0)).val))) (t := 8) (i := 0) rfl⟩⟩
      · have e := setAt_C hv hC (w := w - 10) (by omega) _ 0 (Nat.zero_add _)
        rw [hno _ 0 (by omega)] at e
        simp (disch := omega) only [y_0, y_1, y_2, y_3, y_4, y_5, y_6, y_7, y_8, y_9, y_10, y_11, y_12, y_13, y_14, y_15, y_16, y_17, y_18, y_19, y_20, y_21, y_22, y_23, y_24, y_29, y_30, y_31, y_32, y_39, y_40, y_48, y_49, y_50, y_60, y_64, y_69, y_78, y_99, y_100, y_142, y_161, y_600, y_610, y_894, y_999, y_1000, y_1216, y_1276, neg1, neg2, nI_add, nI_mul, nn_sub, nn_lt, nn_le, nn_eq, in_lt, ni_lt, in_le, ni_le, in_eq, ni_eq, iI_lt, iI_le, iI_eq, nn_clamp, inb_n, t_lt, f_lt, t_le, f_le, t_eq, f_eq, ti_lt, fi_lt, ti_le, fi_le, ti_eq, fi_eq, ↓reduceIte, ite_true, ite_false, eq_self, decide_true, decide_false, Bool.true_and, Bool.and_true, Bool.false_and, Bool.and_false, Bool.true_or, Bool.or_true, Bool.false_or, Bool.or_false, bI_t, bI_f, bI_nand, n_mod, an11, an01, negn1, negn2, false_and, and_false, true_and, and_true, not_true_eq_false, not_false_eq_true, bI_n0, bI_n1, Bool.true_eq_false, Bool.false_eq_true, cI_s, cL_s, cV_s, cR_n, pm_bR_self, bI_ite, bL_ite, bV_ite, bR_ite, E_X2_hourToAsk_66, E_X2_hourToAsk_72, E_X9_fits_17, E_X9_fits_57, E_X9_fits_135, E_X9_fits_76, F, E_X2_setAt]
        rw [show pm_ev (56, 6, [vr 2 k, vl (lS (fun i => decide (i < 2 ^ (l (0)).val) && lFit l i)), none, vi (nI (w - 10)), vi (nI 0), vi (nI 0)], [], h) = _ from e]
        rfl
      · have N := setno (nI w) (fun k hk e => by rw [nn_eq (by omega) (by omega)] at e; omega) _ (hM.s31 (nI (fb_ct (lFit l) (2 ^ (l (0)).val))))
        simp (disch := omega) only [y_0, y_1, y_2, y_3, y_4, y_5, y_6, y_7, y_8, y_9, y_10, y_11, y_12, y_13, y_14, y_15, y_16, y_17, y_18, y_19, y_20, y_21, y_22, y_23, y_24, y_29, y_30, y_31, y_32, y_39, y_40, y_48, y_49, y_50, y_60, y_64, y_69, y_78, y_99, y_100, y_142, y_161, y_600, y_610, y_894, y_999, y_1000, y_1216, y_1276, neg1, neg2, nI_add, nI_mul, nn_sub, nn_lt, nn_le, nn_eq, in_lt, ni_lt, in_le, ni_le, in_eq, ni_eq, iI_lt, iI_le, iI_eq, nn_clamp, inb_n, t_lt, f_lt, t_le, f_le, t_eq, f_eq, ti_lt, fi_lt, ti_le, fi_le, ti_eq, fi_eq, ↓reduceIte, ite_true, ite_false, eq_self, decide_true, decide_false, Bool.true_and, Bool.and_true, Bool.false_and, Bool.and_false, Bool.true_or, Bool.or_true, Bool.false_or, Bool.or_false, bI_t, bI_f, bI_nand, n_mod, an11, an01, negn1, negn2, false_and, and_false, true_and, and_true, not_true_eq_false, not_false_eq_true, bI_n0, bI_n1, Bool.true_eq_false, Bool.false_eq_true, cI_s, cL_s, cV_s, cR_n, pm_bR_self, bI_ite, bL_ite, bV_ite, bR_ite, E_X2_hourToAsk_66, E_X2_hourToAsk_72, E_X9_fits_17, E_X9_fits_57, E_X9_fits_135, E_X9_fits_76, countOf_no hv hM, isIn_nnn, sI_same, sI_tag, sI_num, sI_pl, sI_2, sL_1, sL_same, sL_tag, sL_num, sL_pl, cp_in, cp_tag, cp_num, cp_2]
        exact N
