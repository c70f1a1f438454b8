def prodB (f : Nat → Nat) : Nat → Nat
  | 0 => 1
  | n + 1 => prodB f n * f n
theorem prodB_le {f : Nat → Nat} {B : Nat} (h : ∀ k, f k ≤ B) : ∀ n, prodB f n ≤ B ^ n
  | 0 => Nat.le_refl _
  | n + 1 => by
    rw [prodB, Nat.pow_succ]
    exact Nat.mul_le_mul (prodB_le h n) (h n)
def lMen (l : AC) (st k : Nat) : Nat := if st.testBit k then (l (10+k)).val else 10 - (l (10+k)).val
def lFac (l : AC) (st k : Nat) : Nat := if lAgree l st k then 10 - (l (2)).val else (l (2)).val
/-- a set's weight -/
def lW (l : AC) (st : Nat) : Nat := prodB (lMen l st) (l (0)).val * prodB (lFac l st) (l (3)).val
theorem weight_C57 {h : PH} {j : Nat} {l : AC} (hv : lV l) (hC : LogC h j l) {st : Nat} (hs : st < 64) (m : Nat) : ∀ r k, k + r = (l (3)).val → pm_ev (60, 57, [vr 2 j, vi (nI st), vl (lN (m * prodB (lFac l st) k)), none, vi (nI k)], [], h) = some (some (vl (lN (m * prodB (lFac l st) (l (3)).val))), h) := by
  obtain ⟨l0, l1, l2, l3⟩ := hC.1
  have hV := hv.1
  intro r
  induction r with
  | zero =>
    intro k hk
    have hk : k = (l (3)).val := by omega
    subst hk
    rw [E_X2_weight_57]
    simp (disch := omega) only [y_0, y_1, y_2, y_3, y_4, y_5, y_6, y_7, y_8, y_9, y_10, y_11, y_12, y_13, y_14, y_15, y_16, y_17, y_18, y_19, y_20, y_21, y_22, y_23, y_24, y_29, y_30, y_31, y_32, y_39, y_40, y_48, y_49, y_50, y_60, y_64, y_69, y_78, y_99, y_100, y_142, y_161, y_600, y_610, y_894, y_999, y_1000, y_1216, y_1276, neg1, neg2, nI_add, nI_mul, nn_sub, nn_lt, nn_le, nn_eq, in_lt, ni_lt, in_le, ni_le, in_eq, ni_eq, iI_lt, iI_le, iI_eq, nn_clamp, inb_n, t_lt, f_lt, t_le, f_le, t_eq, f_eq, ti_lt, fi_lt, ti_le, fi_le, ti_eq, fi_eq, ↓reduceIte, ite_true, ite_false, eq_self, decide_true, decide_false, Bool.true_and, Bool.and_true, Bool.false_and, Bool.and_false, Bool.true_or, Bool.or_true, Bool.false_or, Bool.or_false, bI_t, bI_f, bI_nand, n_mod, an11, an01, negn1, negn2, false_and, and_false, true_and, and_true, not_true_eq_false, not_false_eq_true, bI_n0, bI_n1, Bool.true_eq_false, Bool.false_eq_true, cI_s, cL_s, cV_s, cR_n, pm_bR_self, bI_ite, bL_ite, bV_ite, bR_ite, l3]
  | succ r ih =>
    intro k hk
    have e := ih (k + 1) (by omega)
    have hk2 : k < (l (3)).val := by omega
    have A := agrees_C hv hC hs hk2
    rw [prodB, ← Nat.mul_assoc] at e
    unfold lFac at e
    rw [E_X2_weight_57]
    unfold lFac
    cases q : lAgree l st k with
    | true =>
      rw [q, if_pos rfl] at e
      rw [q] at A
      simp (disch := omega) only [y_0, y_1, y_2, y_3, y_4, y_5, y_6, y_7, y_8, y_9, y_10, y_11, y_12, y_13, y_14, y_15, y_16, y_17, y_18, y_19, y_20, y_21, y_22, y_23, y_24, y_29, y_30, y_31, y_32, y_39, y_40, y_48, y_49, y_50, y_60, y_64, y_69, y_78, y_99, y_100, y_142, y_161, y_600, y_610, y_894, y_999, y_1000, y_1216, y_1276, neg1, neg2, nI_add, nI_mul, nn_sub, nn_lt, nn_le, nn_eq, in_lt, ni_lt, in_le, ni_le, in_eq, ni_eq, iI_lt, iI_le, iI_eq, nn_clamp, inb_n, t_lt, f_lt, t_le, f_le, t_eq, f_eq, ti_lt, fi_lt, ti_le, fi_le, ti_eq, fi_eq, ↓reduceIte, ite_true, ite_false, eq_self, decide_true, decide_false, Bool.true_and, Bool.and_true, Bool.false_and, Bool.and_false, Bool.true_or, Bool.or_true, Bool.false_or, Bool.or_false, bI_t, bI_f, bI_nand, n_mod, an11, an01, negn1, negn2, false_and, and_false, true_and, and_true, not_true_eq_false, not_false_eq_true, bI_n0, bI_n1, Bool.true_eq_false, Bool.false_eq_true, cI_s, cL_s, cV_s, cR_n, pm_bR_self, bI_ite, bL_ite, bV_ite, bR_ite, l3, l2, A, n_l, lN_mul]
      exact e
    | false =>
      rw [q, if_neg (by decide)] at e
      rw [q] at A
      simp (disch := omega) only [y_0, y_1, y_2, y_3, y_4, y_5, y_6, y_7, y_8, y_9, y_10, y_11, y_12, y_13, y_14, y_15, y_16, y_17, y_18, y_19, y_20, y_21, y_22, y_23, y_24, y_29, y_30, y_31, y_32, y_39, y_40, y_48, y_49, y_50, y_60, y_64, y_69, y_78, y_99, y_100, y_142, y_161, y_600, y_610, y_894, y_999, y_1000, y_1216, y_1276, neg1, neg2, nI_add, nI_mul, nn_sub, nn_lt, nn_le, nn_eq, in_lt, ni_lt, in_le, ni_le, in_eq, ni_eq, iI_lt, iI_le, iI_eq, nn_clamp, inb_n, t_lt, f_lt, t_le, f_le, t_eq, f_eq, ti_lt, fi_lt, ti_le, fi_le, ti_eq, fi_eq, ↓reduceIte, ite_true, ite_false, eq_self, decide_true, decide_false, Bool.true_and, Bool.and_true, Bool.false_and, Bool.and_false, Bool.true_or, Bool.or_true, Bool.false_or, Bool.or_false, bI_t, bI_f, bI_nand, n_mod, an11, an01, negn1, negn2, false_and, and_false, true_and, and_true, not_true_eq_false, not_false_eq_true, bI_n0, bI_n1, Bool.true_eq_false, Bool.false_eq_true, cI_s, cL_s, cV_s, cR_n, pm_bR_self, bI_ite, bL_ite, bV_ite, bR_ite, l3, l2, A, n_l, lN_mul]
      exact e
theorem weight_C5 {h : PH} {j : Nat} {l : AC} (hv : lV l) (hC : LogC h j l) {st : Nat} (hs : st < 64) : ∀ r k, k + r = (l (0)).val → pm_ev (60, 5, [vr 2 j, vi (nI st), vl (lN (prodB (lMen l st) k)), none, vi (nI k)], [], h) = some (some (vl (lN (lW l st))), h) := by
  obtain ⟨l0, l1, l2, l3⟩ := hC.1
  have hV := hv.1
  intro r
  induction r with
  | zero =>
    intro k hk
    have hk : k = (l (0)).val := by omega
    subst hk
    have e := weight_C57 hv hC hs (prodB (lMen l st) (l (0)).val) _ 0 (Nat.zero_add _)
    rw [show prodB (lFac l st) 0 = 1 from rfl, Nat.mul_one] at e
    rw [E_X2_weight_5]
    simp (disch := omega) only [y_0, y_1, y_2, y_3, y_4, y_5, y_6, y_7, y_8, y_9, y_10, y_11, y_12, y_13, y_14, y_15, y_16, y_17, y_18, y_19, y_20, y_21, y_22, y_23, y_24, y_29, y_30, y_31, y_32, y_39, y_40, y_48, y_49, y_50, y_60, y_64, y_69, y_78, y_99, y_100, y_142, y_161, y_600, y_610, y_894, y_999, y_1000, y_1216, y_1276, neg1, neg2, nI_add, nI_mul, nn_sub, nn_lt, nn_le, nn_eq, in_lt, ni_lt, in_le, ni_le, in_eq, ni_eq, iI_lt, iI_le, iI_eq, nn_clamp, inb_n, t_lt, f_lt, t_le, f_le, t_eq, f_eq, ti_lt, fi_lt, ti_le, fi_le, ti_eq, fi_eq, ↓reduceIte, ite_true, ite_false, eq_self, decide_true, decide_false, Bool.true_and, Bool.and_true, Bool.false_and, Bool.and_false, Bool.true_or, Bool.or_true, Bool.false_or, Bool.or_false, bI_t, bI_f, bI_nand, n_mod, an11, an01, negn1, negn2, false_and, and_false, true_and, and_true, not_true_eq_false, not_false_eq_true, bI_n0, bI_n1, Bool.true_eq_false, Bool.false_eq_true, cI_s, cL_s, cV_s, cR_n, pm_bR_self, bI_ite, bL_ite, bV_ite, bR_ite, l0]
    exact e
  | succ r ih =>
    intro k hk
    have e := ih (k + 1) (by omega)
    have hk2 : k < (l (0)).val := by omega
    have o := hC.2.1 k hk2
    have ho := hv.2.1 k hk2
    rw [prodB] at e
    unfold lMen at e
    rw [E_X2_weight_5]
    unfold lMen
    cases q : st.testBit k with
    | true =>
      rw [q, if_pos rfl] at e
      simp (disch := omega) only [y_0, y_1, y_2, y_3, y_4, y_5, y_6, y_7, y_8, y_9, y_10, y_11, y_12, y_13, y_14, y_15, y_16, y_17, y_18, y_19, y_20, y_21, y_22, y_23, y_24, y_29, y_30, y_31, y_32, y_39, y_40, y_48, y_49, y_50, y_60, y_64, y_69, y_78, y_99, y_100, y_142, y_161, y_600, y_610, y_894, y_999, y_1000, y_1216, y_1276, neg1, neg2, nI_add, nI_mul, nn_sub, nn_lt, nn_le, nn_eq, in_lt, ni_lt, in_le, ni_le, in_eq, ni_eq, iI_lt, iI_le, iI_eq, nn_clamp, inb_n, t_lt, f_lt, t_le, f_le, t_eq, f_eq, ti_lt, fi_lt, ti_le, fi_le, ti_eq, fi_eq, ↓reduceIte, ite_true, ite_false, eq_self, decide_true, decide_false, Bool.true_and, Bool.and_true, Bool.false_and, Bool.and_false, Bool.true_or, Bool.or_true, Bool.false_or, Bool.or_false, bI_t, bI_f, bI_nand, n_mod, an11, an01, negn1, negn2, false_and, and_false, true_and, and_true, not_true_eq_false, not_false_eq_true, bI_n0, bI_n1, Bool.true_eq_false, Bool.false_eq_true, cI_s, cL_s, cV_s, cR_n, pm_bR_self, bI_ite, bL_ite, bV_ite, bR_ite, l0, nn_and, shr_n, bit_i, q, o, n_l, lN_mul]
      exact e
    | false =>
      rw [q, if_neg (by decide)] at e
      simp (disch := omega) only [y_0, y_1, y_2, y_3, y_4, y_5, y_6, y_7, y_8, y_9, y_10, y_11, y_12, y_13, y_14, y_15, y_16, y_17, y_18, y_19, y_20, y_21, y_22, y_23, y_24, y_29, y_30, y_31, y_32, y_39, y_40, y_48, y_49, y_50, y_60, y_64, y_69, y_78, y_99, y_100, y_142, y_161, y_600, y_610, y_894, y_999, y_1000, y_1216, y_1276, neg1, neg2, nI_add, nI_mul, nn_sub, nn_lt, nn_le, nn_eq, in_lt, ni_lt, in_le, ni_le, in_eq, ni_eq, iI_lt, iI_le, iI_eq, nn_clamp, inb_n, t_lt, f_lt, t_le, f_le, t_eq, f_eq, ti_lt, fi_lt, ti_le, fi_le, ti_eq, fi_eq, ↓reduceIte, ite_true, ite_false, eq_self, decide_true, decide_false, Bool.true_and, Bool.and_true, Bool.false_and, Bool.and_false, Bool.true_or, Bool.or_true, Bool.false_or, Bool.or_false, bI_t, bI_f, bI_nand, n_mod, an11, an01, negn1, negn2, false_and, and_false, true_and, and_true, not_true_eq_false, not_false_eq_true, bI_n0, bI_n1, Bool.true_eq_false, Bool.false_eq_true, cI_s, cL_s, cV_s, cR_n, pm_bR_self, bI_ite, bL_ite, bV_ite, bR_ite, l0, nn_and, shr_n, bit_i, q, o, n_l, lN_mul]
      exact e
theorem weight_C {h : PH} {j : Nat} {l : AC} (hv : lV l) (hC : LogC h j l) {st : Nat} (hs : st < 64) : pm_ev (60, 0, [vr 2 j, vi (nI st), none, none, none], [], h) = some (some (vl (lN (lW l st))), h) := by
  rw [E_X2_weight]
  exact weight_C5 hv hC hs _ 0 (Nat.zero_add _)
theorem fac_pow (l : AC) (st : Nat) : ∀ n, prodB (lFac l st) n = (l (2)).val ^ fb_ct (fun k => !lAgree l st k) n * (10 - (l (2)).val) ^ (n - fb_ct (fun k => !lAgree l st k) n)
  | 0 => rfl
  | n + 1 => by
    have h := fac_pow l st n
    have hc := fb_ct_le (fun k => !lAgree l st k) n
    rw [prodB, h, fb_ct_succ]
    unfold lFac
    cases q : lAgree l st n
    · simp only [Bool.not_false, if_true, Bool.false_eq_true, if_false]
      rw [Nat.pow_succ, show n + 1 - (fb_ct (fun k => !lAgree l st k) n + 1) = n - fb_ct (fun k => !lAgree l st k) n by omega, Nat.mul_right_comm]
    · simp only [Bool.not_true, if_true, Bool.false_eq_true, if_false, Nat.add_zero]
      rw [show n + 1 - fb_ct (fun k => !lAgree l st k) n = (n - fb_ct (fun k => !lAgree l st k) n) + 1 by omega, Nat.pow_succ, Nat.mul_assoc]
theorem weight_M5 {h : PH} {a : Nat} {l : AC} (hv : lV l) (hM : ModL h a l) {st : Nat} (hs : st < 64) : ∀ r k, k + r = (l (0)).val → pm_ev (245, 5, [vr 8 0, vi (nI st), vl (lN (prodB (lMen l st) k)), none, vi (nI k)], [], h) = some (some (vl (lN (lW l st))), h) := by
  obtain ⟨⟨⟨l0, l1, l2, l3, hl⟩, lO, lF⟩, a0⟩ := id hM
  have hV := hv.1
  intro r
  induction r with
  | zero =>
    intro k hk
    have hk : k = (l (0)).val := by omega
    subst hk
    have W := wrongBy_M hv hM hs
    have hw : lWrong l st ≤ (l (3)).val := fb_ct_le _ _
    rw [E_X9_weightOf_5]
    unfold lW
    rw [fac_pow]
    change _ = some (some (vl (lN (_ * ((l (2)).val ^ lWrong l st * (10 - (l (2)).val) ^ ((l (3)).val - lWrong l st))))), h)
    simp (disch := omega) only [y_0, y_1, y_2, y_3, y_4, y_5, y_6, y_7, y_8, y_9, y_10, y_11, y_12, y_13, y_14, y_15, y_16, y_17, y_18, y_19, y_20, y_21, y_22, y_23, y_24, y_29, y_30, y_31, y_32, y_39, y_40, y_48, y_49, y_50, y_60, y_64, y_69, y_78, y_99, y_100, y_142, y_161, y_600, y_610, y_894, y_999, y_1000, y_1216, y_1276, neg1, neg2, nI_add, nI_mul, nn_sub, nn_lt, nn_le, nn_eq, in_lt, ni_lt, in_le, ni_le, in_eq, ni_eq, iI_lt, iI_le, iI_eq, nn_clamp, inb_n, t_lt, f_lt, t_le, f_le, t_eq, f_eq, ti_lt, fi_lt, ti_le, fi_le, ti_eq, fi_eq, ↓reduceIte, ite_true, ite_false, eq_self, decide_true, decide_false, Bool.true_and, Bool.and_true, Bool.false_and, Bool.and_false, Bool.true_or, Bool.or_true, Bool.false_or, Bool.or_false, bI_t, bI_f, bI_nand, n_mod, an11, an01, negn1, negn2, false_and, and_false, true_and, and_true, not_true_eq_false, not_false_eq_true, bI_n0, bI_n1, Bool.true_eq_false, Bool.false_eq_true, cI_s, cL_s, cV_s, cR_n, pm_bR_self, bI_ite, bL_ite, bV_ite, bR_ite, E_X9_weightOf_16, E_X9_weightOf_44, E_X9_weightOf_64, E_X9_weightOf_93, E_X9_weightOf_113, E_X9_weightOf_126, a0, l0, l2, l3, W, n_l, power_M0 h _ (lWrong l st) (by omega), power_M0 h _ ((l (3)).val - lWrong l st) (by omega), lN_mul, E_X9_weightOf, E_X9_weightOf_16, E_X9_weightOf_44, E_X9_weightOf_64, E_X9_weightOf_93, E_X9_weightOf_113, E_X9_weightOf_126]
    rw [Nat.mul_assoc]
  | succ r ih =>
    intro k hk
    have e := ih (k + 1) (by omega)
    have hk2 : k < (l (0)).val := by omega
    have o := lO k hk2
    have ho := hv.2.1 k hk2
    rw [prodB] at e
    unfold lMen at e
    rw [E_X9_weightOf_5]
    unfold lMen
    cases q : st.testBit k with
    | true =>
      rw [q, if_pos rfl] at e
      simp (disch := omega) only [y_0, y_1, y_2, y_3, y_4, y_5, y_6, y_7, y_8, y_9, y_10, y_11, y_12, y_13, y_14, y_15, y_16, y_17, y_18, y_19, y_20, y_21, y_22, y_23, y_24, y_29, y_30, y_31, y_32, y_39, y_40, y_48, y_49, y_50, y_60, y_64, y_69, y_78, y_99, y_100, y_142, y_161, y_600, y_610, y_894, y_999, y_1000, y_1216, y_1276, neg1, neg2, nI_add, nI_mul, nn_sub, nn_lt, nn_le, nn_eq, in_lt, ni_lt, in_le, ni_le, in_eq, ni_eq, iI_lt, iI_le, iI_eq, nn_clamp, inb_n, t_lt, f_lt, t_le, f_le, t_eq, f_eq, ti_lt, fi_lt, ti_le, fi_le, ti_eq, fi_eq, ↓reduceIte, ite_true, ite_false, eq_self, decide_true, decide_false, Bool.true_and, Bool.and_true, Bool.false_and, Bool.and_false, Bool.true_or, Bool.or_true, Bool.false_or, Bool.or_false, bI_t, bI_f, bI_nand, n_mod, an11, an01, negn1, negn2, false_and, and_false, true_and, and_true, not_true_eq_false, not_false_eq_true, bI_n0, bI_n1, Bool.true_eq_false, Bool.false_eq_true, cI_s, cL_s, cV_s, cR_n, pm_bR_self, bI_ite, bL_ite, bV_ite, bR_ite, E_X9_weightOf_16, E_X9_weightOf_44, E_X9_weightOf_64, E_X9_weightOf_93, E_X9_weightOf_113, E_X9_weightOf_126, a0, l0, nn_and, shr_n, bit_i, q, o, n_l, lN_mul]
      exact e
    | false =>
      rw [q, if_neg (by decide)] at e
      simp (disch := omega) only [y_0, y_1, y_2, y_3, y_4, y_5, y_6, y_7, y_8, y_9, y_10, y_11, y_12, y_13, y_14, y_15, y_16, y_17, y_18, y_19, y_20, y_21, y_22, y_23, y_24, y_29, y_30, y_31, y_32, y_39, y_40, y_48, y_49, y_50, y_60, y_64, y_69, y_78, y_99, y_100, y_142, y_161, y_600, y_610, y_894, y_999, y_1000, y_1216, y_1276, neg1, neg2, nI_add, nI_mul, nn_sub, nn_lt, nn_le, nn_eq, in_lt, ni_lt, in_le, ni_le, in_eq, ni_eq, iI_lt, iI_le, iI_eq, nn_clamp, inb_n, t_lt, f_lt, t_le, f_le, t_eq, f_eq, ti_lt, fi_lt, ti_le, fi_le, ti_eq, fi_eq, ↓reduceIte, ite_true, ite_false, eq_self, decide_true, decide_false, Bool.true_and, Bool.and_true, Bool.false_and, Bool.and_false, Bool.true_or, Bool.or_true, Bool.false_or, Bool.or_false, bI_t, bI_f, bI_nand, n_mod, an11, an01, negn1, negn2, false_and, and_false, true_and, and_true, not_true_eq_false, not_false_eq_true, bI_n0, bI_n1, Bool.true_eq_false, Bool.false_eq_true, cI_s, cL_s, cV_s, cR_n, pm_bR_self, bI_ite, bL_ite, bV_ite, bR_ite, E_X9_weightOf_16, E_X9_weightOf_44, E_X9_weightOf_64, E_X9_weightOf_93, E_X9_weightOf_113, E_X9_weightOf_126, a0, l0, nn_and, shr_n, bit_i, q, o, n_l, lN_mul]
      exact e
theorem weight_M {h : PH} {a : Nat} {l : AC} (hv : lV l) (hM : ModL h a l) {st : Nat} (hs : st < 64) : pm_ev (245, 0, [vr 8 0, vi (nI st), none, none, none], [], h) = some (some (vl (lN (lW l st))), h) := by
  rw [E_X9_weightOf]
  exact weight_M5 hv hM hs _ 0 (Nat.zero_add _)
theorem lMen_le {l : AC} (hv : lV l) (st : Nat) : ∀ n, n ≤ (l (0)).val → prodB (lMen l st) n ≤ 10 ^ n
  | 0, _ => Nat.le_refl _
  | n + 1, h => by
    have ho := hv.2.1 n (by omega)
    have hm : lMen l st n ≤ 10 := by unfold lMen; split <;> omega
    rw [prodB, Nat.pow_succ]
    exact Nat.mul_le_mul (lMen_le hv st n (by omega)) hm
theorem lW_le {l : AC} (hv : lV l) (st : Nat) : lW l st ≤ 10000000000000000 := by
  have hV := hv.1
  have h1 := lMen_le hv st (l (0)).val (Nat.le_refl _)
  have h2 : prodB (lFac l st) (l (3)).val ≤ 10 ^ (l (3)).val := prodB_le (fun k => by unfold lFac; split <;> omega) _
  have h3 : 10 ^ (l (0)).val ≤ 10 ^ 6 := Nat.pow_le_pow_right (by decide) hV.1
  have h4 : 10 ^ (l (3)).val ≤ 10 ^ 10 := Nat.pow_le_pow_right (by decide) hV.2.2.2.2
  exact Nat.mul_le_mul (Nat.le_trans h1 h3) (Nat.le_trans h2 h4)
/-- the weight of those sets that p holds of -/
def lSum (l : AC) (p : Nat → Bool) (n : Nat) : Nat := fb_sm (fun st => if p st then lW l st else 0) n
theorem lSum_succ_t {l : AC} {p : Nat → Bool} {n : Nat} (h : p n = true) : lSum l p (n + 1) = lSum l p n + lW l n := by unfold lSum; rw [fb_sm_succ, if_pos h]
theorem lSum_succ_f {l : AC} {p : Nat → Bool} {n : Nat} (h : p n = false) : lSum l p (n + 1) = lSum l p n := by unfold lSum; rw [fb_sm_succ, if_neg (by rw [h]; decide), Nat.add_zero]
theorem lSum_le {l : AC} (hv : lV l) (p : Nat → Bool) {n : Nat} (hn : n ≤ 64) : lSum l p n < 9223372036854775808 := by
  have h : lSum l p n ≤ 10000000000000000 * n := fb_sm_lt (fun k => by split; exact lW_le hv k; exact Nat.zero_le _) n
  omega
