/-! ===== shade: the class, and both ===== -/
theorem shaded_C {h : PH} {j : Nat} {c : AC} (hv : cV c) (hC : CoastC h j c) {s : Nat} (hs : s < (c (6)).val) : pm_ev (26, 0, [vr 0 j, vi (nI s)], [], h) = some (some (vi (nI (aShade (c (0)).val (c (1)).val (c (2)).val (c (3)).val (c (40+s)).val (c (50+s)).val))), h) := by
  have hV1 := hv.1
  obtain ⟨v1, v2, _⟩ := hv.2.2.1 s hs
  have s1 := (hC.2.2 s hs).1.1
  obtain ⟨c0, c1, c2, _⟩ := hC.1
  rw [E_X0_shaded, E_X0_side]
  generalize (c (40+s)).val = u at *
  generalize (c (50+s)).val = v at *
  generalize (c (2)).val = p at *
  generalize (c (3)).val = q at *
  have e1 : (8 * v + u) / 2 ^ 3 = v := by omega
  have e2 : 8 * v + u &&& 7 = u := by rw [show (7 : Nat) = 2 ^ 3 - 1 from rfl, Nat.and_two_pow_sub_one_eq_mod]; omega
  have e3 : (8 * q + p) / 2 ^ 3 = q := by omega
  have e4 : 8 * q + p &&& 7 = p := by rw [show (7 : Nat) = 2 ^ 3 - 1 from rfl, Nat.and_two_pow_sub_one_eq_mod]; omega
  have h4 : s < 4 := by omega
  unfold aShade
  rcases Nat.lt_trichotomy u p with a | a | a <;> rcases Nat.lt_trichotomy v q with b | b | b <;> (simp (disch := omega) only [y_0, y_1, y_2, y_3, y_4, y_5, y_6, y_7, y_8, y_9, y_10, y_11, y_12, y_13, y_14, y_15, y_16, y_17, y_18, y_19, y_20, y_21, y_22, y_23, y_24, y_29, y_30, y_31, y_32, y_39, y_40, y_48, y_49, y_50, y_60, y_64, y_69, y_78, y_99, y_100, y_142, y_161, y_600, y_610, y_894, y_999, y_1000, y_1216, y_1276, neg1, neg2, nI_add, nI_mul, nn_sub, nn_lt, nn_le, nn_eq, in_lt, ni_lt, in_le, ni_le, in_eq, ni_eq, iI_lt, iI_le, iI_eq, nn_clamp, inb_n, t_lt, f_lt, t_le, f_le, t_eq, f_eq, ti_lt, fi_lt, ti_le, fi_le, ti_eq, fi_eq, ↓reduceIte, ite_true, ite_false, eq_self, decide_true, decide_false, Bool.true_and, Bool.and_true, Bool.false_and, Bool.and_false, Bool.true_or, Bool.or_true, Bool.false_or, Bool.or_false, bI_t, bI_f, bI_nand, n_mod, an11, an01, negn1, negn2, false_and, and_false, true_and, and_true, not_true_eq_false, not_false_eq_true, bI_n0, bI_n1, Bool.true_eq_false, Bool.false_eq_true, cI_s, cL_s, cV_s, cR_n, pm_bR_self, bI_ite, bL_ite, bV_ite, bR_ite, E_X0_side_70, E_X0_side_60, s1, c0, c1, c2, nn_and, shr_n, e1, e2, e3, e4, nI_sub])
