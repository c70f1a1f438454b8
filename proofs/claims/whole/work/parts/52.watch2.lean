/-! the best pair -/
abbrev W3 : Type := Nat × Nat × Nat
def upd3 (f : Nat → Nat → Nat) (a b : Nat) (st : W3) : W3 := if st.1 < f a b then (f a b, a, b) else st
def inn3 (f : Nat → Nat → Nat) (a : Nat) : Nat → W3 → W3
  | 0, st => st
  | j + 1, st => upd3 f a (a + 1 + j) (inn3 f a j st)
def out3 (f : Nat → Nat → Nat) (n : Nat) : Nat → W3 → W3
  | 0, st => st
  | k + 1, st => inn3 f k (n - (k + 1)) (out3 f n k st)
def ok3 (f : Nat → Nat → Nat) (n : Nat) (st : W3) : Prop := st.2.1 < n ∧ st.2.2 < n ∧ (st.1 ≠ 0 → st.1 = f st.2.1 st.2.2)
theorem upd3_ok {f : Nat → Nat → Nat} {n a b : Nat} {st : W3} (ha : a < n) (hb : b < n) (h : ok3 f n st) : ok3 f n (upd3 f a b st) := by
  unfold upd3
  split
  · exact ⟨ha, hb, fun _ => rfl⟩
  · exact h
theorem inn3_ok {f : Nat → Nat → Nat} {n a : Nat} {st : W3} (ha : a < n) (h : ok3 f n st) : ∀ j, a + 1 + j ≤ n → ok3 f n (inn3 f a j st)
  | 0, _ => h
  | j + 1, hj => upd3_ok ha (by omega) (inn3_ok ha h j (by omega))
theorem out3_ok {f : Nat → Nat → Nat} {n : Nat} {st : W3} (h : ok3 f n st) : ∀ k, k ≤ n → ok3 f n (out3 f n k st)
  | 0, _ => h
  | k + 1, hk => inn3_ok (by omega) (out3_ok h k (by omega)) _ (by omega)
theorem upd3_ge (f : Nat → Nat → Nat) (a b : Nat) (st : W3) : st.1 ≤ (upd3 f a b st).1 ∧ f a b ≤ (upd3 f a b st).1 := by
  unfold upd3
  split
  · exact ⟨by show st.1 ≤ f a b; omega, Nat.le_refl _⟩
  · exact ⟨Nat.le_refl _, by omega⟩
theorem inn3_ge (f : Nat → Nat → Nat) (a : Nat) (st : W3) : ∀ j, st.1 ≤ (inn3 f a j st).1
  | 0 => Nat.le_refl _
  | j + 1 => Nat.le_trans (inn3_ge f a st j) (upd3_ge f a _ _).1
theorem inn3_hit (f : Nat → Nat → Nat) (a : Nat) (st : W3) : ∀ j, f a (a + 1) ≤ (inn3 f a (j + 1) st).1
  | 0 => (upd3_ge f a (a + 1 + 0) st).2
  | j + 1 => Nat.le_trans (inn3_hit f a st j) (upd3_ge f a _ _).1
theorem out3_ge (f : Nat → Nat → Nat) (n : Nat) (st : W3) (hn : 2 ≤ n) : ∀ k, f 0 1 ≤ (out3 f n (k + 1) st).1
  | 0 => by
    show f 0 (0 + 1) ≤ (inn3 f 0 (n - 1) st).1
    rw [show n - 1 = (n - 2) + 1 by omega]
    exact inn3_hit f 0 st (n - 2)
  | k + 1 => Nat.le_trans (out3_ge f n st hn k) (inn3_ge f (k + 1) _ _)
theorem aSee_pos {c : AC} (hv : cV c) {R a b : Nat} (ha : a < (c (0)).val * (c (1)).val) : 1 ≤ aSee c R a b := by
  have : 0 < aSee c R a b := fb_ct_pos.mpr ⟨a, ha, by
    rw [decide_eq_true (show dst (a % (c (0)).val) (a / (c (0)).val) (a % (c (0)).val) (a / (c (0)).val) ≤ R by unfold dst; omega), Bool.true_or]⟩
  omega
theorem pair_19 {h : PH} {c : AC} (hv : cV c) {R : Nat} (h5 : h.1 5 0 5 = nI ((c (0)).val * (c (1)).val)) (h25 : ∀ i, i < (c (0)).val * (c (1)).val → h.2 25 0 i = lS (toS (ballI c R i))) {a : Nat} (ha : a < (c (0)).val * (c (1)).val) (st : W3) (hst : ok3 (aSee c R) ((c (0)).val * (c (1)).val) st) (hm : st.1 ≤ 64) : ∀ r j, a + 1 + j + r = (c (0)).val * (c (1)).val → pm_ev (102, 19, [vr 5 0, vi (nI (64 * (inn3 (aSee c R) a j st).2.1 + (inn3 (aSee c R) a j st).2.2)), vi (nI (inn3 (aSee c R) a j st).1), vi (nI a), vi (nI (a + 1 + j)), none], [], h) = pm_ev (102, 6, [vr 5 0, vi (nI (64 * (inn3 (aSee c R) a ((c (0)).val * (c (1)).val - (a + 1)) st).2.1 + (inn3 (aSee c R) a ((c (0)).val * (c (1)).val - (a + 1)) st).2.2)), vi (nI (inn3 (aSee c R) a ((c (0)).val * (c (1)).val - (a + 1)) st).1), vi (nI (a + 1)), none, none], [], h) := by
  have hV1 := hv.1
  have hWb := WH_le hv
  intro r
  induction r with
  | zero =>
    intro j hj
    have hj2 : j = (c (0)).val * (c (1)).val - (a + 1) := by omega
    have hj3 : a + 1 + j = (c (0)).val * (c (1)).val := by omega
    rw [E_X6_bestPair_19]
    rw [← hj2]
    generalize (c (0)).val * (c (1)).val = WH at *
    simp (disch := omega) only [y_0, y_1, y_2, y_3, y_4, y_5, y_6, y_7, y_8, y_9, y_10, y_11, y_12, y_13, y_14, y_15, y_16, y_17, y_18, y_19, y_20, y_21, y_22, y_23, y_24, y_29, y_30, y_31, y_32, y_39, y_40, y_48, y_49, y_50, y_60, y_64, y_69, y_78, y_99, y_100, y_142, y_161, y_600, y_610, y_894, y_999, y_1000, y_1216, y_1276, neg1, neg2, nI_add, nI_mul, nn_sub, nn_lt, nn_le, nn_eq, in_lt, ni_lt, in_le, ni_le, in_eq, ni_eq, iI_lt, iI_le, iI_eq, nn_clamp, inb_n, t_lt, f_lt, t_le, f_le, t_eq, f_eq, ti_lt, fi_lt, ti_le, fi_le, ti_eq, fi_eq, ↓reduceIte, ite_true, ite_false, eq_self, decide_true, decide_false, Bool.true_and, Bool.and_true, Bool.false_and, Bool.and_false, Bool.true_or, Bool.or_true, Bool.false_or, Bool.or_false, bI_t, bI_f, bI_nand, n_mod, an11, an01, negn1, negn2, false_and, and_false, true_and, and_true, not_true_eq_false, not_false_eq_true, bI_n0, bI_n1, Bool.true_eq_false, Bool.false_eq_true, cI_s, cL_s, cV_s, cR_n, pm_bR_self, bI_ite, bL_ite, bV_ite, bR_ite, E_X6_bestPair_34, E_X6_bestPair_41, h5]
  | succ r ih =>
    intro j hj
    have e := ih (j + 1) (by omega)
    have B := bc_long (fun i => toS (ballI c R a) i || toS (ballI c R (a + 1 + j)) i) h
    have B2 : fb_ct (fun i => toS (ballI c R a) i || toS (ballI c R (a + 1 + j)) i) 64 = aSee c R a (a + 1 + j) := see_C hv R a (a + 1 + j)
    rw [B2] at B
    have g1 := h25 a ha
    have g2 := h25 (a + 1 + j) (by omega)
    have hb := aSee_le hv R a (a + 1 + j)
    have hI : (inn3 (aSee c R) a j st).1 ≤ 64 := by
      have ho := inn3_ok ha hst j (by omega)
      by_cases q : (inn3 (aSee c R) a j st).1 = 0
      · omega
      · rw [ho.2.2 q]; exact aSee_le hv R _ _
    have es : inn3 (aSee c R) a (j + 1) st = upd3 (aSee c R) a (a + 1 + j) (inn3 (aSee c R) a j st) := rfl
    rw [es] at e
    rw [← e, E_X6_bestPair_19]
    unfold upd3
    generalize inn3 (aSee c R) a j st = st2 at *
    generalize (c (0)).val * (c (1)).val = WH at *
    by_cases q : st2.1 < aSee c R a (a + 1 + j)
    · rw [if_pos q]
      simp (disch := omega) only [y_0, y_1, y_2, y_3, y_4, y_5, y_6, y_7, y_8, y_9, y_10, y_11, y_12, y_13, y_14, y_15, y_16, y_17, y_18, y_19, y_20, y_21, y_22, y_23, y_24, y_29, y_30, y_31, y_32, y_39, y_40, y_48, y_49, y_50, y_60, y_64, y_69, y_78, y_99, y_100, y_142, y_161, y_600, y_610, y_894, y_999, y_1000, y_1216, y_1276, neg1, neg2, nI_add, nI_mul, nn_sub, nn_lt, nn_le, nn_eq, in_lt, ni_lt, in_le, ni_le, in_eq, ni_eq, iI_lt, iI_le, iI_eq, nn_clamp, inb_n, t_lt, f_lt, t_le, f_le, t_eq, f_eq, ti_lt, fi_lt, ti_le, fi_le, ti_eq, fi_eq, ↓reduceIte, ite_true, ite_false, eq_self, decide_true, decide_false, Bool.true_and, Bool.and_true, Bool.false_and, Bool.and_false, Bool.true_or, Bool.or_true, Bool.false_or, Bool.or_false, bI_t, bI_f, bI_nand, n_mod, an11, an01, negn1, negn2, false_and, and_false, true_and, and_true, not_true_eq_false, not_false_eq_true, bI_n0, bI_n1, Bool.true_eq_false, Bool.false_eq_true, cI_s, cL_s, cV_s, cR_n, pm_bR_self, bI_ite, bL_ite, bV_ite, bR_ite, E_X6_bestPair_34, E_X6_bestPair_41, h5, g1, g2, lS_or, B, E_X6_bestPair, E_X6_bestPair_34, E_X6_bestPair_41]
      rfl
    · rw [if_neg q]
      simp (disch := omega) only [y_0, y_1, y_2, y_3, y_4, y_5, y_6, y_7, y_8, y_9, y_10, y_11, y_12, y_13, y_14, y_15, y_16, y_17, y_18, y_19, y_20, y_21, y_22, y_23, y_24, y_29, y_30, y_31, y_32, y_39, y_40, y_48, y_49, y_50, y_60, y_64, y_69, y_78, y_99, y_100, y_142, y_161, y_600, y_610, y_894, y_999, y_1000, y_1216, y_1276, neg1, neg2, nI_add, nI_mul, nn_sub, nn_lt, nn_le, nn_eq, in_lt, ni_lt, in_le, ni_le, in_eq, ni_eq, iI_lt, iI_le, iI_eq, nn_clamp, inb_n, t_lt, f_lt, t_le, f_le, t_eq, f_eq, ti_lt, fi_lt, ti_le, fi_le, ti_eq, fi_eq, ↓reduceIte, ite_true, ite_false, eq_self, decide_true, decide_false, Bool.true_and, Bool.and_true, Bool.false_and, Bool.and_false, Bool.true_or, Bool.or_true, Bool.false_or, Bool.or_false, bI_t, bI_f, bI_nand, n_mod, an11, an01, negn1, negn2, false_and, and_false, true_and, and_true, not_true_eq_false, not_false_eq_true, bI_n0, bI_n1, Bool.true_eq_false, Bool.false_eq_true, cI_s, cL_s, cV_s, cR_n, pm_bR_self, bI_ite, bL_ite, bV_ite, bR_ite, E_X6_bestPair_34, E_X6_bestPair_41, h5, g1, g2, lS_or, B, E_X6_bestPair, E_X6_bestPair_34, E_X6_bestPair_41]
      rfl
