theorem h0T_27 (h : PH) (x : Nat) : (h0T h).1 27 0 x = h.1 27 0 x := (h0T_fr h 27 0 rfl x).1
/-- no such sort -/
theorem text_Cn (h : PH) {a : Int32} (b : Int32) (ha : a < 0 ∨ ¬ a < 3) : pm_ev (110, 0, [vr 7 0, vi a, vi b, none, none, none, none], [], h) = some (some (vi (-2)), h0T h) := by
  rw [E_X8_text]
  change pm_bI (pm_ev (104, 0, [vr 6 0, vi a], [], h0T h)) _ = _
  have e : pm_ev (104, 0, [vr 6 0, vi a], [], h0T h) = some (some (vi (-2)), h0T h) := by
    rw [E_X7_held]
    by_cases q : a < 0
    · rw [if_pos q]
    · rw [if_neg q, if_neg (by rcases ha with z | z; exact absurd z q; exact z)]
  rw [e, cI_s]
  by_cases q : b = -1
  · rw [if_pos q, if_pos rfl, E_X8_text_85]
  · rw [if_neg q, if_pos rfl, E_X8_text_85]
/-- a sort, but not such a number -/
theorem text_Cb {h : PH} {s m : Nat} (b : Int32) (hs : s < 3) (hm : m ≤ 2) (h27 : h.1 27 0 s = nI m) (hb : (b = -1 ∧ m = 2) ∨ (b ≠ -1 ∧ (b < 0 ∨ ¬ b < nI m))) : pm_ev (110, 0, [vr 7 0, vi (nI s), vi b, none, none, none, none], [], h) = some (some (vi (-2)), h0T h) := by
  rw [E_X8_text]
  change pm_bI (pm_ev (104, 0, [vr 6 0, vi (nI s)], [], h0T h)) _ = _
  have e : pm_ev (104, 0, [vr 6 0, vi (nI s)], [], h0T h) = some (some (vi (nI m)), h0T h) := by
    rw [E_X7_held]
    simp (disch := omega) only [y_0, y_1, y_2, y_3, y_4, y_5, y_6, y_7, y_8, y_9, y_10, y_11, y_12, y_13, y_14, y_15, y_16, y_17, y_18, y_19, y_20, y_21, y_22, y_23, y_24, y_29, y_30, y_31, y_32, y_39, y_40, y_48, y_49, y_50, y_60, y_64, y_69, y_78, y_99, y_100, y_142, y_161, y_600, y_610, y_894, y_999, y_1000, y_1216, y_1276, neg1, neg2, nI_add, nI_mul, nn_sub, nn_lt, nn_le, nn_eq, in_lt, ni_lt, in_le, ni_le, in_eq, ni_eq, iI_lt, iI_le, iI_eq, nn_clamp, inb_n, t_lt, f_lt, t_le, f_le, t_eq, f_eq, ti_lt, fi_lt, ti_le, fi_le, ti_eq, fi_eq, ↓reduceIte, ite_true, ite_false, eq_self, decide_true, decide_false, Bool.true_and, Bool.and_true, Bool.false_and, Bool.and_false, Bool.true_or, Bool.or_true, Bool.false_or, Bool.or_false, bI_t, bI_f, bI_nand, n_mod, an11, an01, negn1, negn2, false_and, and_false, true_and, and_true, not_true_eq_false, not_false_eq_true, bI_n0, bI_n1, Bool.true_eq_false, Bool.false_eq_true, cI_s, cL_s, cV_s, cR_n, pm_bR_self, bI_ite, bL_ite, bV_ite, bR_ite, h0T_27, h27]
  have n2 : ¬ nI m = -2 := by
    have : ∀ m, m ≤ 2 → ¬ nI m = -2 := by decide
    exact this m hm
  rw [e, cI_s]
  rcases hb with ⟨b1, b2⟩ | ⟨b1, b2⟩
  · subst b2
    rw [if_pos b1, if_neg n2, E_X8_text_66, if_neg (by decide), E_X8_text_85]
  · rw [if_neg b1, if_neg n2]
    by_cases q : b < 0
    · rw [if_pos q, E_X8_text_85]
    · rw [if_neg q, E_X8_text_79, if_neg (by rcases b2 with z | z; exact absurd z q; exact z), E_X8_text_85]
/-- a sort and a number: the text is read -/
theorem text_Cg {T : Nat → Nat} {h : PH} {n s k m : Nat} (b : Int32) (hn : n ≤ 600) (hs : s < 3) (hm : m ≤ 2) (hS : StC h) (hT : TapC h n T) (h61 : h.1 6 0 1 = nI n) (h27 : h.1 27 0 s = nI m) (hb : (b = -1 ∧ k = m ∧ m < 2) ∨ (b = nI k ∧ k < m)) : ∃ v h', TxC T n s k m h h' v ∧ pm_ev (110, 0, [vr 7 0, vi (nI s), vi b, none, none, none, none], [], h) = some (some v, h') := by
  have hk : k < 2 := by rcases hb with z | z <;> omega
  obtain ⟨h3, e3, v, h', tx, e4⟩ := textGo_C hn hs hk hm hS hT h27
  refine ⟨v, h', tx, ?_⟩
  rw [E_X8_text]
  change pm_bI (pm_ev (104, 0, [vr 6 0, vi (nI s)], [], h0T h)) _ = _
  have e : pm_ev (104, 0, [vr 6 0, vi (nI s)], [], h0T h) = some (some (vi (nI m)), h0T h) := by
    rw [E_X7_held]
    simp (disch := omega) only [y_0, y_1, y_2, y_3, y_4, y_5, y_6, y_7, y_8, y_9, y_10, y_11, y_12, y_13, y_14, y_15, y_16, y_17, y_18, y_19, y_20, y_21, y_22, y_23, y_24, y_29, y_30, y_31, y_32, y_39, y_40, y_48, y_49, y_50, y_60, y_64, y_69, y_78, y_99, y_100, y_142, y_161, y_600, y_610, y_894, y_999, y_1000, y_1216, y_1276, neg1, neg2, nI_add, nI_mul, nn_sub, nn_lt, nn_le, nn_eq, in_lt, ni_lt, in_le, ni_le, in_eq, ni_eq, iI_lt, iI_le, iI_eq, nn_clamp, inb_n, t_lt, f_lt, t_le, f_le, t_eq, f_eq, ti_lt, fi_lt, ti_le, fi_le, ti_eq, fi_eq, ↓reduceIte, ite_true, ite_false, eq_self, decide_true, decide_false, Bool.true_and, Bool.and_true, Bool.false_and, Bool.and_false, Bool.true_or, Bool.or_true, Bool.false_or, Bool.or_false, bI_t, bI_f, bI_nand, n_mod, an11, an01, negn1, negn2, false_and, and_false, true_and, and_true, not_true_eq_false, not_false_eq_true, bI_n0, bI_n1, Bool.true_eq_false, Bool.false_eq_true, cI_s, cL_s, cV_s, cR_n, pm_bR_self, bI_ite, bL_ite, bV_ite, bR_ite, h0T_27, h27]
  have n2 : ¬ nI m = -2 := by
    have : ∀ m, m ≤ 2 → ¬ nI m = -2 := by decide
    exact this m hm
  rw [e, cI_s, h61]
  rcases hb with ⟨b1, b2, b3⟩ | ⟨b1, b2⟩
  · subst b2
    have c2 : nI k < 2 := by rw [show (2 : Int32) = nI 2 from rfl]; exact (nn_lt (by omega) (by decide)).mpr hk
    rw [if_pos b1, if_neg n2, E_X8_text_66, if_pos c2, e3, cV_s, if_neg (show ¬ (1 : Int32) = 0 by decide)]
    exact e4
  · subst b1
    have c1 : ¬ nI k = -1 := by
      have : ∀ m, m < 2 → ¬ nI m = -1 := by decide
      exact this k hk
    have c0 : ¬ nI k < 0 := by
      have : ∀ m, m < 2 → ¬ nI m < 0 := by decide
      exact this k hk
    rw [if_neg c1, if_neg n2, if_neg c0, E_X8_text_79, if_pos ((nn_lt (by omega) (by omega)).mpr b2), e3, cV_s, if_pos (show (0 : Int32) = 0 from rfl)]
    exact e4
