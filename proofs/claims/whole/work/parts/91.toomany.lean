def DCs (s : Nat) (h : PH) (D : DD) : Prop := if s = 0 then DcC h D else if s = 1 then NightC h 8 D.1 else LogC h 8 D.1
def rVs (s : Nat) (D : DD) : Prop := if s = 0 then rVc D else if s = 1 then nV D.1 else lV D.1
theorem kind_C (h : PH) {q : Nat} (hq : q < 21) : pm_ev (76, 0, [vi (nI q)], [], h) = some (some (vi (bI (decide (6 ≤ q ∧ q < 12)))), h) := by
  rw [E_X4_isKind]
  by_cases q1 : q < 6
  · rw [decide_eq_false (by omega)]; simp (disch := omega) only [y_0, y_1, y_2, y_3, y_4, y_5, y_6, y_7, y_8, y_9, y_10, y_11, y_12, y_13, y_14, y_15, y_16, y_17, y_18, y_19, y_20, y_21, y_22, y_23, y_24, y_29, y_30, y_31, y_32, y_39, y_40, y_48, y_49, y_50, y_60, y_64, y_69, y_78, y_99, y_100, y_142, y_161, y_600, y_610, y_894, y_999, y_1000, y_1216, y_1276, neg1, neg2, nI_add, nI_mul, nn_sub, nn_lt, nn_le, nn_eq, in_lt, ni_lt, in_le, ni_le, in_eq, ni_eq, iI_lt, iI_le, iI_eq, nn_clamp, inb_n, t_lt, f_lt, t_le, f_le, t_eq, f_eq, ti_lt, fi_lt, ti_le, fi_le, ti_eq, fi_eq, ↓reduceIte, ite_true, ite_false, eq_self, decide_true, decide_false, Bool.true_and, Bool.and_true, Bool.false_and, Bool.and_false, Bool.true_or, Bool.or_true, Bool.false_or, Bool.or_false, bI_t, bI_f, bI_nand, n_mod, an11, an01, negn1, negn2, false_and, and_false, true_and, and_true, not_true_eq_false, not_false_eq_true, bI_n0, bI_n1, Bool.true_eq_false, Bool.false_eq_true, cI_s, cL_s, cV_s, cR_n, pm_bR_self, bI_ite, bL_ite, bV_ite, bR_ite]
  · by_cases q2 : q < 12
    · rw [decide_eq_true (by omega)]; simp (disch := omega) only [y_0, y_1, y_2, y_3, y_4, y_5, y_6, y_7, y_8, y_9, y_10, y_11, y_12, y_13, y_14, y_15, y_16, y_17, y_18, y_19, y_20, y_21, y_22, y_23, y_24, y_29, y_30, y_31, y_32, y_39, y_40, y_48, y_49, y_50, y_60, y_64, y_69, y_78, y_99, y_100, y_142, y_161, y_600, y_610, y_894, y_999, y_1000, y_1216, y_1276, neg1, neg2, nI_add, nI_mul, nn_sub, nn_lt, nn_le, nn_eq, in_lt, ni_lt, in_le, ni_le, in_eq, ni_eq, iI_lt, iI_le, iI_eq, nn_clamp, inb_n, t_lt, f_lt, t_le, f_le, t_eq, f_eq, ti_lt, fi_lt, ti_le, fi_le, ti_eq, fi_eq, ↓reduceIte, ite_true, ite_false, eq_self, decide_true, decide_false, Bool.true_and, Bool.and_true, Bool.false_and, Bool.and_false, Bool.true_or, Bool.or_true, Bool.false_or, Bool.or_false, bI_t, bI_f, bI_nand, n_mod, an11, an01, negn1, negn2, false_and, and_false, true_and, and_true, not_true_eq_false, not_false_eq_true, bI_n0, bI_n1, Bool.true_eq_false, Bool.false_eq_true, cI_s, cL_s, cV_s, cR_n, pm_bR_self, bI_ite, bL_ite, bV_ite, bR_ite]
    · rw [decide_eq_false (by omega)]; simp (disch := omega) only [y_0, y_1, y_2, y_3, y_4, y_5, y_6, y_7, y_8, y_9, y_10, y_11, y_12, y_13, y_14, y_15, y_16, y_17, y_18, y_19, y_20, y_21, y_22, y_23, y_24, y_29, y_30, y_31, y_32, y_39, y_40, y_48, y_49, y_50, y_60, y_64, y_69, y_78, y_99, y_100, y_142, y_161, y_600, y_610, y_894, y_999, y_1000, y_1216, y_1276, neg1, neg2, nI_add, nI_mul, nn_sub, nn_lt, nn_le, nn_eq, in_lt, ni_lt, in_le, ni_le, in_eq, ni_eq, iI_lt, iI_le, iI_eq, nn_clamp, inb_n, t_lt, f_lt, t_le, f_le, t_eq, f_eq, ti_lt, fi_lt, ti_le, fi_le, ti_eq, fi_eq, ↓reduceIte, ite_true, ite_false, eq_self, decide_true, decide_false, Bool.true_and, Bool.and_true, Bool.false_and, Bool.and_false, Bool.true_or, Bool.or_true, Bool.false_or, Bool.or_false, bI_t, bI_f, bI_nand, n_mod, an11, an01, negn1, negn2, false_and, and_false, true_and, and_true, not_true_eq_false, not_false_eq_true, bI_n0, bI_n1, Bool.true_eq_false, Bool.false_eq_true, cI_s, cL_s, cV_s, cR_n, pm_bR_self, bI_ite, bL_ite, bV_ite, bR_ite]
theorem deed_C (h : PH) {q : Nat} (hq : q < 21) : pm_ev (77, 0, [vi (nI q)], [], h) = some (some (vi (bI (decide (12 ≤ q ∧ q < 16)))), h) := by
  rw [E_X4_isDeed]
  by_cases q1 : q < 12
  · rw [decide_eq_false (by omega)]; simp (disch := omega) only [y_0, y_1, y_2, y_3, y_4, y_5, y_6, y_7, y_8, y_9, y_10, y_11, y_12, y_13, y_14, y_15, y_16, y_17, y_18, y_19, y_20, y_21, y_22, y_23, y_24, y_29, y_30, y_31, y_32, y_39, y_40, y_48, y_49, y_50, y_60, y_64, y_69, y_78, y_99, y_100, y_142, y_161, y_600, y_610, y_894, y_999, y_1000, y_1216, y_1276, neg1, neg2, nI_add, nI_mul, nn_sub, nn_lt, nn_le, nn_eq, in_lt, ni_lt, in_le, ni_le, in_eq, ni_eq, iI_lt, iI_le, iI_eq, nn_clamp, inb_n, t_lt, f_lt, t_le, f_le, t_eq, f_eq, ti_lt, fi_lt, ti_le, fi_le, ti_eq, fi_eq, ↓reduceIte, ite_true, ite_false, eq_self, decide_true, decide_false, Bool.true_and, Bool.and_true, Bool.false_and, Bool.and_false, Bool.true_or, Bool.or_true, Bool.false_or, Bool.or_false, bI_t, bI_f, bI_nand, n_mod, an11, an01, negn1, negn2, false_and, and_false, true_and, and_true, not_true_eq_false, not_false_eq_true, bI_n0, bI_n1, Bool.true_eq_false, Bool.false_eq_true, cI_s, cL_s, cV_s, cR_n, pm_bR_self, bI_ite, bL_ite, bV_ite, bR_ite]
  · by_cases q2 : q < 16
    · rw [decide_eq_true (by omega)]; simp (disch := omega) only [y_0, y_1, y_2, y_3, y_4, y_5, y_6, y_7, y_8, y_9, y_10, y_11, y_12, y_13, y_14, y_15, y_16, y_17, y_18, y_19, y_20, y_21, y_22, y_23, y_24, y_29, y_30, y_31, y_32, y_39, y_40, y_48, y_49, y_50, y_60, y_64, y_69, y_78, y_99, y_100, y_142, y_161, y_600, y_610, y_894, y_999, y_1000, y_1216, y_1276, neg1, neg2, nI_add, nI_mul, nn_sub, nn_lt, nn_le, nn_eq, in_lt, ni_lt, in_le, ni_le, in_eq, ni_eq, iI_lt, iI_le, iI_eq, nn_clamp, inb_n, t_lt, f_lt, t_le, f_le, t_eq, f_eq, ti_lt, fi_lt, ti_le, fi_le, ti_eq, fi_eq, ↓reduceIte, ite_true, ite_false, eq_self, decide_true, decide_false, Bool.true_and, Bool.and_true, Bool.false_and, Bool.and_false, Bool.true_or, Bool.or_true, Bool.false_or, Bool.or_false, bI_t, bI_f, bI_nand, n_mod, an11, an01, negn1, negn2, false_and, and_false, true_and, and_true, not_true_eq_false, not_false_eq_true, bI_n0, bI_n1, Bool.true_eq_false, Bool.false_eq_true, cI_s, cL_s, cV_s, cR_n, pm_bR_self, bI_ite, bL_ite, bV_ite, bR_ite]
    · rw [decide_eq_false (by omega)]; simp (disch := omega) only [y_0, y_1, y_2, y_3, y_4, y_5, y_6, y_7, y_8, y_9, y_10, y_11, y_12, y_13, y_14, y_15, y_16, y_17, y_18, y_19, y_20, y_21, y_22, y_23, y_24, y_29, y_30, y_31, y_32, y_39, y_40, y_48, y_49, y_50, y_60, y_64, y_69, y_78, y_99, y_100, y_142, y_161, y_600, y_610, y_894, y_999, y_1000, y_1216, y_1276, neg1, neg2, nI_add, nI_mul, nn_sub, nn_lt, nn_le, nn_eq, in_lt, ni_lt, in_le, ni_le, in_eq, ni_eq, iI_lt, iI_le, iI_eq, nn_clamp, inb_n, t_lt, f_lt, t_le, f_le, t_eq, f_eq, ti_lt, fi_lt, ti_le, fi_le, ti_eq, fi_eq, ↓reduceIte, ite_true, ite_false, eq_self, decide_true, decide_false, Bool.true_and, Bool.and_true, Bool.false_and, Bool.and_false, Bool.true_or, Bool.or_true, Bool.false_or, Bool.or_false, bI_t, bI_f, bI_nand, n_mod, an11, an01, negn1, negn2, false_and, and_false, true_and, and_true, not_true_eq_false, not_false_eq_true, bI_n0, bI_n1, Bool.true_eq_false, Bool.false_eq_true, cI_s, cL_s, cV_s, cR_n, pm_bR_self, bI_ite, bL_ite, bV_ite, bR_ite]
/-- too many, or no ship: noted or not -/
noncomputable def tmR (h : PH) (k : Nat) : Option PR := if k = 0 then some (none, h) else pm_bV (pm_ev (66, 0, [vr 4 0, vi (nI k), vi (h.1 4 0 7)], [], h)) fun h' => some (none, h')
theorem tm_139 {h : PH} {q : Nat} (hq : q < 21) (b : Bool) (c8 : 6 ≤ q ∧ q < 12 → ∃ n, n ≤ 4 ∧ h.1 0 8 8 = nI n) : pm_ev (78, 139, [vr 4 0, vi (nI q), none, none], [vi (bI b)], h) = tmR h (if b then 3 else if 6 ≤ q ∧ q < 12 ∧ h.1 0 8 8 = nI 0 then 4 else 0) := by
  have K := kind_C h hq
  rw [E_X4_noteTooMany_139]
  cases b with
  | true =>
    rw [if_neg (by decide), if_pos rfl]
    show _ = pm_bV _ _
    congr 1
    funext h4
    rw [E_X4_noteTooMany_182]
  | false =>
    rw [if_pos (by rfl), K, cI_s, if_neg (show ¬ (false = true) by decide)]
    by_cases qk : 6 ≤ q ∧ q < 12
    · obtain ⟨n, n4, e8⟩ := c8 qk
      rw [decide_eq_true qk, if_neg (by decide)]
      by_cases q0 : h.1 0 8 8 = nI 0
      · rw [if_pos (show h.1 0 8 8 = 0 from q0), if_pos ⟨qk.1, qk.2, q0⟩]
        show _ = pm_bV _ _
        congr 1
        funext h4
        rw [E_X4_noteTooMany_182]
      · rw [if_neg (show ¬ h.1 0 8 8 = 0 from q0), if_neg (fun z => q0 z.2.2), E_X4_noteTooMany_182]
        rfl
    · rw [decide_eq_false qk, if_pos (by rfl), if_neg (fun z => qk ⟨z.1, z.2.1⟩), E_X4_noteTooMany_182]
      rfl
theorem tooMany_0 {h : PH} {D : DD} {q : Nat} (hq : q < 12) (hD : DcC h D) (hV : rVc D) : pm_ev (78, 0, [vr 4 0, vi (nI q), none, none], [], h) = tmR h (aTm q D.1) := by
  obtain ⟨⟨⟨_, _, _, _, c5, c8, _⟩, _, cs⟩, _⟩ := hD
  obtain ⟨⟨_, _, _, _, _, v5, v6, _⟩, _, vs, _⟩ := hV
  obtain ⟨c, D2⟩ := D
  dsimp only at c5 c8 cs v5 v6 vs ⊢
  have R := fun b => tm_139 (h := h) (show q < 21 by omega) b (fun _ => ⟨(c (6)).val, v6, c8⟩)
  have R1 := R true
  have R0 := R false
  change pm_ev (78, 139, [vr 4 0, vi (nI q), none, none], [vi (nI 1)], h) = tmR h 3 at R1
  have K := kind_C h (show q < 21 by omega)
  have DE := deed_C h (show q < 21 by omega)
  rw [decide_eq_false (show ¬ (12 ≤ q ∧ q < 16) by omega)] at DE
  unfold aTm
  by_cases q3 : q = 3
  · subst q3
    rw [if_pos rfl]
    rw [if_neg (show ¬ (false = true) by decide), if_neg (fun z => by omega)] at R0
    change pm_ev (78, 139, [vr 4 0, vi (nI 3), none, none], [vi (nI 0)], h) = tmR h 0 at R0
    rw [decide_eq_false (by decide)] at K
    by_cases z : (c (5)).val = 4
    · rw [if_pos z, ← R1, E_X4_noteTooMany]
      simp (disch := omega) only [y_0, y_1, y_2, y_3, y_4, y_5, y_6, y_7, y_8, y_9, y_10, y_11, y_12, y_13, y_14, y_15, y_16, y_17, y_18, y_19, y_20, y_21, y_22, y_23, y_24, y_29, y_30, y_31, y_32, y_39, y_40, y_48, y_49, y_50, y_60, y_64, y_69, y_78, y_99, y_100, y_142, y_161, y_600, y_610, y_894, y_999, y_1000, y_1216, y_1276, neg1, neg2, nI_add, nI_mul, nn_sub, nn_lt, nn_le, nn_eq, in_lt, ni_lt, in_le, ni_le, in_eq, ni_eq, iI_lt, iI_le, iI_eq, nn_clamp, inb_n, t_lt, f_lt, t_le, f_le, t_eq, f_eq, ti_lt, fi_lt, ti_le, fi_le, ti_eq, fi_eq, ↓reduceIte, ite_true, ite_false, eq_self, decide_true, decide_false, Bool.true_and, Bool.and_true, Bool.false_and, Bool.and_false, Bool.true_or, Bool.or_true, Bool.false_or, Bool.or_false, bI_t, bI_f, bI_nand, n_mod, an11, an01, negn1, negn2, false_and, and_false, true_and, and_true, not_true_eq_false, not_false_eq_true, bI_n0, bI_n1, Bool.true_eq_false, Bool.false_eq_true, cI_s, cL_s, cV_s, cR_n, pm_bR_self, bI_ite, bL_ite, bV_ite, bR_ite, c5, E_X4_noteTooMany_134]
    · rw [if_neg z, ← R0, E_X4_noteTooMany]
      simp (disch := omega) only [y_0, y_1, y_2, y_3, y_4, y_5, y_6, y_7, y_8, y_9, y_10, y_11, y_12, y_13, y_14, y_15, y_16, y_17, y_18, y_19, y_20, y_21, y_22, y_23, y_24, y_29, y_30, y_31, y_32, y_39, y_40, y_48, y_49, y_50, y_60, y_64, y_69, y_78, y_99, y_100, y_142, y_161, y_600, y_610, y_894, y_999, y_1000, y_1216, y_1276, neg1, neg2, nI_add, nI_mul, nn_sub, nn_lt, nn_le, nn_eq, in_lt, ni_lt, in_le, ni_le, in_eq, ni_eq, iI_lt, iI_le, iI_eq, nn_clamp, inb_n, t_lt, f_lt, t_le, f_le, t_eq, f_eq, ti_lt, fi_lt, ti_le, fi_le, ti_eq, fi_eq, ↓reduceIte, ite_true, ite_false, eq_self, decide_true, decide_false, Bool.true_and, Bool.and_true, Bool.false_and, Bool.and_false, Bool.true_or, Bool.or_true, Bool.false_or, Bool.or_false, bI_t, bI_f, bI_nand, n_mod, an11, an01, negn1, negn2, false_and, and_false, true_and, and_true, not_true_eq_false, not_false_eq_true, bI_n0, bI_n1, Bool.true_eq_false, Bool.false_eq_true, cI_s, cL_s, cV_s, cR_n, pm_bR_self, bI_ite, bL_ite, bV_ite, bR_ite, c5, c8, nI_sub, E_X4_noteTooMany_26, E_X4_noteTooMany_42, K, E_X4_noteTooMany_73, DE, E_X4_noteTooMany_92, E_X4_noteTooMany_110, E_X4_noteTooMany_138]
  rw [if_neg q3]
  by_cases q4 : q = 4
  · subst q4
    rw [if_pos rfl]
    rw [if_neg (show ¬ (false = true) by decide), if_neg (fun z => by omega)] at R0
    change pm_ev (78, 139, [vr 4 0, vi (nI 4), none, none], [vi (nI 0)], h) = tmR h 0 at R0
    rw [decide_eq_false (by decide)] at K
    by_cases z : (c (6)).val = 4
    · rw [if_pos z, ← R1, E_X4_noteTooMany]
      simp (disch := omega) only [y_0, y_1, y_2, y_3, y_4, y_5, y_6, y_7, y_8, y_9, y_10, y_11, y_12, y_13, y_14, y_15, y_16, y_17, y_18, y_19, y_20, y_21, y_22, y_23, y_24, y_29, y_30, y_31, y_32, y_39, y_40, y_48, y_49, y_50, y_60, y_64, y_69, y_78, y_99, y_100, y_142, y_161, y_600, y_610, y_894, y_999, y_1000, y_1216, y_1276, neg1, neg2, nI_add, nI_mul, nn_sub, nn_lt, nn_le, nn_eq, in_lt, ni_lt, in_le, ni_le, in_eq, ni_eq, iI_lt, iI_le, iI_eq, nn_clamp, inb_n, t_lt, f_lt, t_le, f_le, t_eq, f_eq, ti_lt, fi_lt, ti_le, fi_le, ti_eq, fi_eq, ↓reduceIte, ite_true, ite_false, eq_self, decide_true, decide_false, Bool.true_and, Bool.and_true, Bool.false_and, Bool.and_false, Bool.true_or, Bool.or_true, Bool.false_or, Bool.or_false, bI_t, bI_f, bI_nand, n_mod, an11, an01, negn1, negn2, false_and, and_false, true_and, and_true, not_true_eq_false, not_false_eq_true, bI_n0, bI_n1, Bool.true_eq_false, Bool.false_eq_true, cI_s, cL_s, cV_s, cR_n, pm_bR_self, bI_ite, bL_ite, bV_ite, bR_ite, c8, nI_sub, E_X4_noteTooMany_26, E_X4_noteTooMany_134]
    · rw [if_neg z, ← R0, E_X4_noteTooMany]
      simp (disch := omega) only [y_0, y_1, y_2, y_3, y_4, y_5, y_6, y_7, y_8, y_9, y_10, y_11, y_12, y_13, y_14, y_15, y_16, y_17, y_18, y_19, y_20, y_21, y_22, y_23, y_24, y_29, y_30, y_31, y_32, y_39, y_40, y_48, y_49, y_50, y_60, y_64, y_69, y_78, y_99, y_100, y_142, y_161, y_600, y_610, y_894, y_999, y_1000, y_1216, y_1276, neg1, neg2, nI_add, nI_mul, nn_sub, nn_lt, nn_le, nn_eq, in_lt, ni_lt, in_le, ni_le, in_eq, ni_eq, iI_lt, iI_le, iI_eq, nn_clamp, inb_n, t_lt, f_lt, t_le, f_le, t_eq, f_eq, ti_lt, fi_lt, ti_le, fi_le, ti_eq, fi_eq, ↓reduceIte, ite_true, ite_false, eq_self, decide_true, decide_false, Bool.true_and, Bool.and_true, Bool.false_and, Bool.and_false, Bool.true_or, Bool.or_true, Bool.false_or, Bool.or_false, bI_t, bI_f, bI_nand, n_mod, an11, an01, negn1, negn2, false_and, and_false, true_and, and_true, not_true_eq_false, not_false_eq_true, bI_n0, bI_n1, Bool.true_eq_false, Bool.false_eq_true, cI_s, cL_s, cV_s, cR_n, pm_bR_self, bI_ite, bL_ite, bV_ite, bR_ite, c5, c8, nI_sub, E_X4_noteTooMany_26, E_X4_noteTooMany_42, K, E_X4_noteTooMany_73, DE, E_X4_noteTooMany_92, E_X4_noteTooMany_110, E_X4_noteTooMany_138]
  rw [if_neg q4]
  by_cases qk : 6 ≤ q ∧ q < 12
  · rw [if_pos qk]
    rw [decide_eq_true qk] at K
    by_cases z : (c (6)).val = 0
    · rw [if_pos z]
      have e0 : h.1 0 8 8 = nI 0 := by rw [c8, z]
      rw [if_neg (show ¬ (false = true) by decide), if_pos ⟨qk.1, qk.2, e0⟩] at R0
      change pm_ev (78, 139, [vr 4 0, vi (nI q), none, none], [vi (nI 0)], h) = tmR h 4 at R0
      have HS : pm_ev (5, 0, [vr 0 8, vi (iI (((0 : Nat) : Int) - ((1 : Nat) : Int)))], [], h) = some (some (vi (nI 0)), h) := by
        rw [E_X0_hasShip]
        simp (disch := omega) only [y_0, y_1, y_2, y_3, y_4, y_5, y_6, y_7, y_8, y_9, y_10, y_11, y_12, y_13, y_14, y_15, y_16, y_17, y_18, y_19, y_20, y_21, y_22, y_23, y_24, y_29, y_30, y_31, y_32, y_39, y_40, y_48, y_49, y_50, y_60, y_64, y_69, y_78, y_99, y_100, y_142, y_161, y_600, y_610, y_894, y_999, y_1000, y_1216, y_1276, neg1, neg2, nI_add, nI_mul, nn_sub, nn_lt, nn_le, nn_eq, in_lt, ni_lt, in_le, ni_le, in_eq, ni_eq, iI_lt, iI_le, iI_eq, nn_clamp, inb_n, t_lt, f_lt, t_le, f_le, t_eq, f_eq, ti_lt, fi_lt, ti_le, fi_le, ti_eq, fi_eq, ↓reduceIte, ite_true, ite_false, eq_self, decide_true, decide_false, Bool.true_and, Bool.and_true, Bool.false_and, Bool.and_false, Bool.true_or, Bool.or_true, Bool.false_or, Bool.or_false, bI_t, bI_f, bI_nand, n_mod, an11, an01, negn1, negn2, false_and, and_false, true_and, and_true, not_true_eq_false, not_false_eq_true, bI_n0, bI_n1, Bool.true_eq_false, Bool.false_eq_true, cI_s, cL_s, cV_s, cR_n, pm_bR_self, bI_ite, bL_ite, bV_ite, bR_ite]
      rw [← R0, E_X4_noteTooMany, e0]
      simp (disch := omega) only [y_0, y_1, y_2, y_3, y_4, y_5, y_6, y_7, y_8, y_9, y_10, y_11, y_12, y_13, y_14, y_15, y_16, y_17, y_18, y_19, y_20, y_21, y_22, y_23, y_24, y_29, y_30, y_31, y_32, y_39, y_40, y_48, y_49, y_50, y_60, y_64, y_69, y_78, y_99, y_100, y_142, y_161, y_600, y_610, y_894, y_999, y_1000, y_1216, y_1276, neg1, neg2, nI_add, nI_mul, nn_sub, nn_lt, nn_le, nn_eq, in_lt, ni_lt, in_le, ni_le, in_eq, ni_eq, iI_lt, iI_le, iI_eq, nn_clamp, inb_n, t_lt, f_lt, t_le, f_le, t_eq, f_eq, ti_lt, fi_lt, ti_le, fi_le, ti_eq, fi_eq, ↓reduceIte, ite_true, ite_false, eq_self, decide_true, decide_false, Bool.true_and, Bool.and_true, Bool.false_and, Bool.and_false, Bool.true_or, Bool.or_true, Bool.false_or, Bool.or_false, bI_t, bI_f, bI_nand, n_mod, an11, an01, negn1, negn2, false_and, and_false, true_and, and_true, not_true_eq_false, not_false_eq_true, bI_n0, bI_n1, Bool.true_eq_false, Bool.false_eq_true, cI_s, cL_s, cV_s, cR_n, pm_bR_self, bI_ite, bL_ite, bV_ite, bR_ite, nI_sub, E_X4_noteTooMany_26, E_X4_noteTooMany_42, K, HS, E_X4_noteTooMany_73, DE, E_X4_noteTooMany_92, E_X4_noteTooMany_110, E_X4_noteTooMany_138, e0]
    · rw [if_neg z]
      have s4 := (cs ((c (6)).val-1) (by omega)).1.2.2.2
      have v80 := (vs ((c (6)).val-1) (by omega)).2.2.2.2.1
      have n0 : ¬ h.1 0 8 8 = nI 0 := by rw [c8]; exact fun w => z ((nn_eq (by omega) (by decide)).mp w)
      rw [if_neg (show ¬ (false = true) by decide), if_neg (fun w => n0 w.2.2)] at R0
      change pm_ev (78, 139, [vr 4 0, vi (nI q), none, none], [vi (nI 0)], h) = tmR h 0 at R0
      have e1 : h.1 0 8 8 - 1 = nI ((c (6)).val - 1) := by rw [c8, show (1 : Int32) = nI 1 from rfl, nn_sub (by omega)]
      have HS : pm_ev (5, 0, [vr 0 8, vi (nI ((c (6)).val - 1))], [], h) = some (some (vi (nI 1)), h) := by
        rw [E_X0_hasShip]
        simp (disch := omega) only [y_0, y_1, y_2, y_3, y_4, y_5, y_6, y_7, y_8, y_9, y_10, y_11, y_12, y_13, y_14, y_15, y_16, y_17, y_18, y_19, y_20, y_21, y_22, y_23, y_24, y_29, y_30, y_31, y_32, y_39, y_40, y_48, y_49, y_50, y_60, y_64, y_69, y_78, y_99, y_100, y_142, y_161, y_600, y_610, y_894, y_999, y_1000, y_1216, y_1276, neg1, neg2, nI_add, nI_mul, nn_sub, nn_lt, nn_le, nn_eq, in_lt, ni_lt, in_le, ni_le, in_eq, ni_eq, iI_lt, iI_le, iI_eq, nn_clamp, inb_n, t_lt, f_lt, t_le, f_le, t_eq, f_eq, ti_lt, fi_lt, ti_le, fi_le, ti_eq, fi_eq, ↓reduceIte, ite_true, ite_false, eq_self, decide_true, decide_false, Bool.true_and, Bool.and_true, Bool.false_and, Bool.and_false, Bool.true_or, Bool.or_true, Bool.false_or, Bool.or_false, bI_t, bI_f, bI_nand, n_mod, an11, an01, negn1, negn2, false_and, and_false, true_and, and_true, not_true_eq_false, not_false_eq_true, bI_n0, bI_n1, Bool.true_eq_false, Bool.false_eq_true, cI_s, cL_s, cV_s, cR_n, pm_bR_self, bI_ite, bL_ite, bV_ite, bR_ite, c8]
      have go : pm_ev (78, 0, [vr 4 0, vi (nI q), none, none], [], h) = pm_ev (78, 42, [vr 4 0, vi (nI q), vi (nI ((c (6)).val - 1)), none], [], h) := by
        rw [E_X4_noteTooMany, e1, show (3 : Int32) = nI 3 from rfl, if_neg (fun w => by have := (nn_eq (by omega) (by decide)).mp w; omega), E_X4_noteTooMany_26, show (4 : Int32) = nI 4 from rfl, if_neg (fun w => by have := (nn_eq (by omega) (by decide)).mp w; omega)]
      rw [go, E_X4_noteTooMany_42, K, cI_s, if_neg (by decide), HS, cI_s, if_neg (by decide)]
      by_cases w : (c (80+((c (6)).val-1))).val = 4
      · rw [if_pos w, ← R1]
        simp (disch := omega) only [y_0, y_1, y_2, y_3, y_4, y_5, y_6, y_7, y_8, y_9, y_10, y_11, y_12, y_13, y_14, y_15, y_16, y_17, y_18, y_19, y_20, y_21, y_22, y_23, y_24, y_29, y_30, y_31, y_32, y_39, y_40, y_48, y_49, y_50, y_60, y_64, y_69, y_78, y_99, y_100, y_142, y_161, y_600, y_610, y_894, y_999, y_1000, y_1216, y_1276, neg1, neg2, nI_add, nI_mul, nn_sub, nn_lt, nn_le, nn_eq, in_lt, ni_lt, in_le, ni_le, in_eq, ni_eq, iI_lt, iI_le, iI_eq, nn_clamp, inb_n, t_lt, f_lt, t_le, f_le, t_eq, f_eq, ti_lt, fi_lt, ti_le, fi_le, ti_eq, fi_eq, ↓reduceIte, ite_true, ite_false, eq_self, decide_true, decide_false, Bool.true_and, Bool.and_true, Bool.false_and, Bool.and_false, Bool.true_or, Bool.or_true, Bool.false_or, Bool.or_false, bI_t, bI_f, bI_nand, n_mod, an11, an01, negn1, negn2, false_and, and_false, true_and, and_true, not_true_eq_false, not_false_eq_true, bI_n0, bI_n1, Bool.true_eq_false, Bool.false_eq_true, cI_s, cL_s, cV_s, cR_n, pm_bR_self, bI_ite, bL_ite, bV_ite, bR_ite, s4, E_X4_noteTooMany_134]
      · rw [if_neg w, ← R0]
        simp (disch := omega) only [y_0, y_1, y_2, y_3, y_4, y_5, y_6, y_7, y_8, y_9, y_10, y_11, y_12, y_13, y_14, y_15, y_16, y_17, y_18, y_19, y_20, y_21, y_22, y_23, y_24, y_29, y_30, y_31, y_32, y_39, y_40, y_48, y_49, y_50, y_60, y_64, y_69, y_78, y_99, y_100, y_142, y_161, y_600, y_610, y_894, y_999, y_1000, y_1216, y_1276, neg1, neg2, nI_add, nI_mul, nn_sub, nn_lt, nn_le, nn_eq, in_lt, ni_lt, in_le, ni_le, in_eq, ni_eq, iI_lt, iI_le, iI_eq, nn_clamp, inb_n, t_lt, f_lt, t_le, f_le, t_eq, f_eq, ti_lt, fi_lt, ti_le, fi_le, ti_eq, fi_eq, ↓reduceIte, ite_true, ite_false, eq_self, decide_true, decide_false, Bool.true_and, Bool.and_true, Bool.false_and, Bool.and_false, Bool.true_or, Bool.or_true, Bool.false_or, Bool.or_false, bI_t, bI_f, bI_nand, n_mod, an11, an01, negn1, negn2, false_and, and_false, true_and, and_true, not_true_eq_false, not_false_eq_true, bI_n0, bI_n1, Bool.true_eq_false, Bool.false_eq_true, cI_s, cL_s, cV_s, cR_n, pm_bR_self, bI_ite, bL_ite, bV_ite, bR_ite, s4, E_X4_noteTooMany_73, DE, E_X4_noteTooMany_92, E_X4_noteTooMany_110, E_X4_noteTooMany_138]
  · rw [if_neg qk, if_neg (by omega), if_neg (by omega), if_neg (by omega)]
    rw [if_neg (show ¬ (false = true) by decide), if_neg (fun w => qk ⟨w.1, w.2.1⟩)] at R0
    change pm_ev (78, 139, [vr 4 0, vi (nI q), none, none], [vi (nI 0)], h) = tmR h 0 at R0
    rw [decide_eq_false qk] at K
    rw [← R0, E_X4_noteTooMany]
    generalize h.1 0 8 8 - 1 = la
    simp (disch := omega) only [y_0, y_1, y_2, y_3, y_4, y_5, y_6, y_7, y_8, y_9, y_10, y_11, y_12, y_13, y_14, y_15, y_16, y_17, y_18, y_19, y_20, y_21, y_22, y_23, y_24, y_29, y_30, y_31, y_32, y_39, y_40, y_48, y_49, y_50, y_60, y_64, y_69, y_78, y_99, y_100, y_142, y_161, y_600, y_610, y_894, y_999, y_1000, y_1216, y_1276, neg1, neg2, nI_add, nI_mul, nn_sub, nn_lt, nn_le, nn_eq, in_lt, ni_lt, in_le, ni_le, in_eq, ni_eq, iI_lt, iI_le, iI_eq, nn_clamp, inb_n, t_lt, f_lt, t_le, f_le, t_eq, f_eq, ti_lt, fi_lt, ti_le, fi_le, ti_eq, fi_eq, ↓reduceIte, ite_true, ite_false, eq_self, decide_true, decide_false, Bool.true_and, Bool.and_true, Bool.false_and, Bool.and_false, Bool.true_or, Bool.or_true, Bool.false_or, Bool.or_false, bI_t, bI_f, bI_nand, n_mod, an11, an01, negn1, negn2, false_and, and_false, true_and, and_true, not_true_eq_false, not_false_eq_true, bI_n0, bI_n1, Bool.true_eq_false, Bool.false_eq_true, cI_s, cL_s, cV_s, cR_n, pm_bR_self, bI_ite, bL_ite, bV_ite, bR_ite, E_X4_noteTooMany_26, E_X4_noteTooMany_42, K, E_X4_noteTooMany_73, DE, E_X4_noteTooMany_92, E_X4_noteTooMany_110, E_X4_noteTooMany_138]
theorem tooMany_12 {h : PH} {D : DD} {q s : Nat} (hs : (s = 1 ∧ 12 ≤ q ∧ q < 16) ∨ (s = 2 ∧ 16 ≤ q ∧ q < 21)) (hD : DCs s h D) (hV : rVs s D) : pm_ev (78, 0, [vr 4 0, vi (nI q), none, none], [], h) = tmR h (aTm q D.1) := by
  have hq : 12 ≤ q ∧ q < 21 := by omega
  have R := fun b => tm_139 (h := h) (show q < 21 by omega) b (fun z => by omega)
  have R1 := R true
  have R0 := R false
  change pm_ev (78, 139, [vr 4 0, vi (nI q), none, none], [vi (nI 1)], h) = tmR h 3 at R1
  rw [if_neg (show ¬ (false = true) by decide), if_neg (fun z => by omega)] at R0
  change pm_ev (78, 139, [vr 4 0, vi (nI q), none, none], [vi (nI 0)], h) = tmR h 0 at R0
  have K := kind_C h (show q < 21 by omega)
  have DE := deed_C h (show q < 21 by omega)
  rw [decide_eq_false (show ¬ (6 ≤ q ∧ q < 12) by omega)] at K
  obtain ⟨c, D2⟩ := D
  have go : pm_ev (78, 0, [vr 4 0, vi (nI q), none, none], [], h) = pm_ev (78, 73, [vr 4 0, vi (nI q), none, none], [], h) := by
    rw [E_X4_noteTooMany]
    generalize h.1 0 8 8 - 1 = la
    simp (disch := omega) only [y_0, y_1, y_2, y_3, y_4, y_5, y_6, y_7, y_8, y_9, y_10, y_11, y_12, y_13, y_14, y_15, y_16, y_17, y_18, y_19, y_20, y_21, y_22, y_23, y_24, y_29, y_30, y_31, y_32, y_39, y_40, y_48, y_49, y_50, y_60, y_64, y_69, y_78, y_99, y_100, y_142, y_161, y_600, y_610, y_894, y_999, y_1000, y_1216, y_1276, neg1, neg2, nI_add, nI_mul, nn_sub, nn_lt, nn_le, nn_eq, in_lt, ni_lt, in_le, ni_le, in_eq, ni_eq, iI_lt, iI_le, iI_eq, nn_clamp, inb_n, t_lt, f_lt, t_le, f_le, t_eq, f_eq, ti_lt, fi_lt, ti_le, fi_le, ti_eq, fi_eq, ↓reduceIte, ite_true, ite_false, eq_self, decide_true, decide_false, Bool.true_and, Bool.and_true, Bool.false_and, Bool.and_false, Bool.true_or, Bool.or_true, Bool.false_or, Bool.or_false, bI_t, bI_f, bI_nand, n_mod, an11, an01, negn1, negn2, false_and, and_false, true_and, and_true, not_true_eq_false, not_false_eq_true, bI_n0, bI_n1, Bool.true_eq_false, Bool.false_eq_true, cI_s, cL_s, cV_s, cR_n, pm_bR_self, bI_ite, bL_ite, bV_ite, bR_ite, E_X4_noteTooMany_26, E_X4_noteTooMany_42, K]
  rw [go, E_X4_noteTooMany_73, DE, cI_s]
  have am : aTm q c = if 12 ≤ q ∧ q < 16 then (if (c (0)).val = 40 then 3 else 0) else if q = 16 then (if (c (0)).val = 6 then 3 else 0) else if q = 19 ∨ q = 20 then (if (c (3)).val = 10 then 3 else 0) else 0 := by
    unfold aTm
    rw [if_neg (show ¬ q = 3 by omega), if_neg (show ¬ q = 4 by omega), if_neg (show ¬ (6 ≤ q ∧ q < 12) by omega)]
  show _ = tmR h (aTm q c)
  rw [am]
  rcases hs with ⟨z, hq2⟩ | ⟨z, hq2⟩ <;> subst z
  · have hD : NightC h 8 c := hD
    have hV : nV c := hV
    have n0 := hD.1
    have v0 := hV.1
    rw [decide_eq_true hq2, if_neg (show ¬ bI true = (0 : Int32) by decide), if_pos hq2]
    by_cases z : (c (0)).val = 40
    · rw [if_pos z, ← R1]
      simp (disch := omega) only [y_0, y_1, y_2, y_3, y_4, y_5, y_6, y_7, y_8, y_9, y_10, y_11, y_12, y_13, y_14, y_15, y_16, y_17, y_18, y_19, y_20, y_21, y_22, y_23, y_24, y_29, y_30, y_31, y_32, y_39, y_40, y_48, y_49, y_50, y_60, y_64, y_69, y_78, y_99, y_100, y_142, y_161, y_600, y_610, y_894, y_999, y_1000, y_1216, y_1276, neg1, neg2, nI_add, nI_mul, nn_sub, nn_lt, nn_le, nn_eq, in_lt, ni_lt, in_le, ni_le, in_eq, ni_eq, iI_lt, iI_le, iI_eq, nn_clamp, inb_n, t_lt, f_lt, t_le, f_le, t_eq, f_eq, ti_lt, fi_lt, ti_le, fi_le, ti_eq, fi_eq, ↓reduceIte, ite_true, ite_false, eq_self, decide_true, decide_false, Bool.true_and, Bool.and_true, Bool.false_and, Bool.and_false, Bool.true_or, Bool.or_true, Bool.false_or, Bool.or_false, bI_t, bI_f, bI_nand, n_mod, an11, an01, negn1, negn2, false_and, and_false, true_and, and_true, not_true_eq_false, not_false_eq_true, bI_n0, bI_n1, Bool.true_eq_false, Bool.false_eq_true, cI_s, cL_s, cV_s, cR_n, pm_bR_self, bI_ite, bL_ite, bV_ite, bR_ite, n0, E_X4_noteTooMany_134]
    · rw [if_neg z, ← R0]
      simp (disch := omega) only [y_0, y_1, y_2, y_3, y_4, y_5, y_6, y_7, y_8, y_9, y_10, y_11, y_12, y_13, y_14, y_15, y_16, y_17, y_18, y_19, y_20, y_21, y_22, y_23, y_24, y_29, y_30, y_31, y_32, y_39, y_40, y_48, y_49, y_50, y_60, y_64, y_69, y_78, y_99, y_100, y_142, y_161, y_600, y_610, y_894, y_999, y_1000, y_1216, y_1276, neg1, neg2, nI_add, nI_mul, nn_sub, nn_lt, nn_le, nn_eq, in_lt, ni_lt, in_le, ni_le, in_eq, ni_eq, iI_lt, iI_le, iI_eq, nn_clamp, inb_n, t_lt, f_lt, t_le, f_le, t_eq, f_eq, ti_lt, fi_lt, ti_le, fi_le, ti_eq, fi_eq, ↓reduceIte, ite_true, ite_false, eq_self, decide_true, decide_false, Bool.true_and, Bool.and_true, Bool.false_and, Bool.and_false, Bool.true_or, Bool.or_true, Bool.false_or, Bool.or_false, bI_t, bI_f, bI_nand, n_mod, an11, an01, negn1, negn2, false_and, and_false, true_and, and_true, not_true_eq_false, not_false_eq_true, bI_n0, bI_n1, Bool.true_eq_false, Bool.false_eq_true, cI_s, cL_s, cV_s, cR_n, pm_bR_self, bI_ite, bL_ite, bV_ite, bR_ite, n0, E_X4_noteTooMany_92, E_X4_noteTooMany_110, E_X4_noteTooMany_138]
  · have hD : LogC h 8 c := hD
    have hV : lV c := hV
    obtain ⟨⟨l0, _, _, l3⟩, _⟩ := hD
    obtain ⟨⟨v0, _, _, _, v3⟩, _⟩ := hV
    rw [decide_eq_false (show ¬ (12 ≤ q ∧ q < 16) by omega), if_pos (show bI false = (0 : Int32) from rfl), if_neg (show ¬ (12 ≤ q ∧ q < 16) by omega)]
    by_cases q16 : q = 16
    · subst q16
      rw [if_pos rfl]
      by_cases z : (c (0)).val = 6
      · rw [if_pos z, ← R1, E_X4_noteTooMany_92]
        simp (disch := omega) only [y_0, y_1, y_2, y_3, y_4, y_5, y_6, y_7, y_8, y_9, y_10, y_11, y_12, y_13, y_14, y_15, y_16, y_17, y_18, y_19, y_20, y_21, y_22, y_23, y_24, y_29, y_30, y_31, y_32, y_39, y_40, y_48, y_49, y_50, y_60, y_64, y_69, y_78, y_99, y_100, y_142, y_161, y_600, y_610, y_894, y_999, y_1000, y_1216, y_1276, neg1, neg2, nI_add, nI_mul, nn_sub, nn_lt, nn_le, nn_eq, in_lt, ni_lt, in_le, ni_le, in_eq, ni_eq, iI_lt, iI_le, iI_eq, nn_clamp, inb_n, t_lt, f_lt, t_le, f_le, t_eq, f_eq, ti_lt, fi_lt, ti_le, fi_le, ti_eq, fi_eq, ↓reduceIte, ite_true, ite_false, eq_self, decide_true, decide_false, Bool.true_and, Bool.and_true, Bool.false_and, Bool.and_false, Bool.true_or, Bool.or_true, Bool.false_or, Bool.or_false, bI_t, bI_f, bI_nand, n_mod, an11, an01, negn1, negn2, false_and, and_false, true_and, and_true, not_true_eq_false, not_false_eq_true, bI_n0, bI_n1, Bool.true_eq_false, Bool.false_eq_true, cI_s, cL_s, cV_s, cR_n, pm_bR_self, bI_ite, bL_ite, bV_ite, bR_ite, l0, E_X4_noteTooMany_134]
      · rw [if_neg z, ← R0, E_X4_noteTooMany_92]
        simp (disch := omega) only [y_0, y_1, y_2, y_3, y_4, y_5, y_6, y_7, y_8, y_9, y_10, y_11, y_12, y_13, y_14, y_15, y_16, y_17, y_18, y_19, y_20, y_21, y_22, y_23, y_24, y_29, y_30, y_31, y_32, y_39, y_40, y_48, y_49, y_50, y_60, y_64, y_69, y_78, y_99, y_100, y_142, y_161, y_600, y_610, y_894, y_999, y_1000, y_1216, y_1276, neg1, neg2, nI_add, nI_mul, nn_sub, nn_lt, nn_le, nn_eq, in_lt, ni_lt, in_le, ni_le, in_eq, ni_eq, iI_lt, iI_le, iI_eq, nn_clamp, inb_n, t_lt, f_lt, t_le, f_le, t_eq, f_eq, ti_lt, fi_lt, ti_le, fi_le, ti_eq, fi_eq, ↓reduceIte, ite_true, ite_false, eq_self, decide_true, decide_false, Bool.true_and, Bool.and_true, Bool.false_and, Bool.and_false, Bool.true_or, Bool.or_true, Bool.false_or, Bool.or_false, bI_t, bI_f, bI_nand, n_mod, an11, an01, negn1, negn2, false_and, and_false, true_and, and_true, not_true_eq_false, not_false_eq_true, bI_n0, bI_n1, Bool.true_eq_false, Bool.false_eq_true, cI_s, cL_s, cV_s, cR_n, pm_bR_self, bI_ite, bL_ite, bV_ite, bR_ite, l0, E_X4_noteTooMany_110, E_X4_noteTooMany_138]
    · rw [if_neg q16]
      by_cases q19 : q = 19 ∨ q = 20
      · rw [if_pos q19]
        have e : pm_ev (78, 92, [vr 4 0, vi (nI q), none, none], [], h) = pm_ev (78, 122, [vr 4 0, vi (nI q), none, none], [], h) := by
          rw [E_X4_noteTooMany_92]
          rcases q19 with z | z <;> subst z <;> simp (disch := omega) only [y_0, y_1, y_2, y_3, y_4, y_5, y_6, y_7, y_8, y_9, y_10, y_11, y_12, y_13, y_14, y_15, y_16, y_17, y_18, y_19, y_20, y_21, y_22, y_23, y_24, y_29, y_30, y_31, y_32, y_39, y_40, y_48, y_49, y_50, y_60, y_64, y_69, y_78, y_99, y_100, y_142, y_161, y_600, y_610, y_894, y_999, y_1000, y_1216, y_1276, neg1, neg2, nI_add, nI_mul, nn_sub, nn_lt, nn_le, nn_eq, in_lt, ni_lt, in_le, ni_le, in_eq, ni_eq, iI_lt, iI_le, iI_eq, nn_clamp, inb_n, t_lt, f_lt, t_le, f_le, t_eq, f_eq, ti_lt, fi_lt, ti_le, fi_le, ti_eq, fi_eq, ↓reduceIte, ite_true, ite_false, eq_self, decide_true, decide_false, Bool.true_and, Bool.and_true, Bool.false_and, Bool.and_false, Bool.true_or, Bool.or_true, Bool.false_or, Bool.or_false, bI_t, bI_f, bI_nand, n_mod, an11, an01, negn1, negn2, false_and, and_false, true_and, and_true, not_true_eq_false, not_false_eq_true, bI_n0, bI_n1, Bool.true_eq_false, Bool.false_eq_true, cI_s, cL_s, cV_s, cR_n, pm_bR_self, bI_ite, bL_ite, bV_ite, bR_ite, E_X4_noteTooMany_110]
        rw [e, E_X4_noteTooMany_122]
        by_cases z : (c (3)).val = 10
        · rw [if_pos z, ← R1]
          simp (disch := omega) only [y_0, y_1, y_2, y_3, y_4, y_5, y_6, y_7, y_8, y_9, y_10, y_11, y_12, y_13, y_14, y_15, y_16, y_17, y_18, y_19, y_20, y_21, y_22, y_23, y_24, y_29, y_30, y_31, y_32, y_39, y_40, y_48, y_49, y_50, y_60, y_64, y_69, y_78, y_99, y_100, y_142, y_161, y_600, y_610, y_894, y_999, y_1000, y_1216, y_1276, neg1, neg2, nI_add, nI_mul, nn_sub, nn_lt, nn_le, nn_eq, in_lt, ni_lt, in_le, ni_le, in_eq, ni_eq, iI_lt, iI_le, iI_eq, nn_clamp, inb_n, t_lt, f_lt, t_le, f_le, t_eq, f_eq, ti_lt, fi_lt, ti_le, fi_le, ti_eq, fi_eq, ↓reduceIte, ite_true, ite_false, eq_self, decide_true, decide_false, Bool.true_and, Bool.and_true, Bool.false_and, Bool.and_false, Bool.true_or, Bool.or_true, Bool.false_or, Bool.or_false, bI_t, bI_f, bI_nand, n_mod, an11, an01, negn1, negn2, false_and, and_false, true_and, and_true, not_true_eq_false, not_false_eq_true, bI_n0, bI_n1, Bool.true_eq_false, Bool.false_eq_true, cI_s, cL_s, cV_s, cR_n, pm_bR_self, bI_ite, bL_ite, bV_ite, bR_ite, l3, E_X4_noteTooMany_134]
        · rw [if_neg z, ← R0]
          simp (disch := omega) only [y_0, y_1, y_2, y_3, y_4, y_5, y_6, y_7, y_8, y_9, y_10, y_11, y_12, y_13, y_14, y_15, y_16, y_17, y_18, y_19, y_20, y_21, y_22, y_23, y_24, y_29, y_30, y_31, y_32, y_39, y_40, y_48, y_49, y_50, y_60, y_64, y_69, y_78, y_99, y_100, y_142, y_161, y_600, y_610, y_894, y_999, y_1000, y_1216, y_1276, neg1, neg2, nI_add, nI_mul, nn_sub, nn_lt, nn_le, nn_eq, in_lt, ni_lt, in_le, ni_le, in_eq, ni_eq, iI_lt, iI_le, iI_eq, nn_clamp, inb_n, t_lt, f_lt, t_le, f_le, t_eq, f_eq, ti_lt, fi_lt, ti_le, fi_le, ti_eq, fi_eq, ↓reduceIte, ite_true, ite_false, eq_self, decide_true, decide_false, Bool.true_and, Bool.and_true, Bool.false_and, Bool.and_false, Bool.true_or, Bool.or_true, Bool.false_or, Bool.or_false, bI_t, bI_f, bI_nand, n_mod, an11, an01, negn1, negn2, false_and, and_false, true_and, and_true, not_true_eq_false, not_false_eq_true, bI_n0, bI_n1, Bool.true_eq_false, Bool.false_eq_true, cI_s, cL_s, cV_s, cR_n, pm_bR_self, bI_ite, bL_ite, bV_ite, bR_ite, l3, E_X4_noteTooMany_138]
      · rw [if_neg q19, ← R0, E_X4_noteTooMany_92]
        simp (disch := omega) only [y_0, y_1, y_2, y_3, y_4, y_5, y_6, y_7, y_8, y_9, y_10, y_11, y_12, y_13, y_14, y_15, y_16, y_17, y_18, y_19, y_20, y_21, y_22, y_23, y_24, y_29, y_30, y_31, y_32, y_39, y_40, y_48, y_49, y_50, y_60, y_64, y_69, y_78, y_99, y_100, y_142, y_161, y_600, y_610, y_894, y_999, y_1000, y_1216, y_1276, neg1, neg2, nI_add, nI_mul, nn_sub, nn_lt, nn_le, nn_eq, in_lt, ni_lt, in_le, ni_le, in_eq, ni_eq, iI_lt, iI_le, iI_eq, nn_clamp, inb_n, t_lt, f_lt, t_le, f_le, t_eq, f_eq, ti_lt, fi_lt, ti_le, fi_le, ti_eq, fi_eq, ↓reduceIte, ite_true, ite_false, eq_self, decide_true, decide_false, Bool.true_and, Bool.and_true, Bool.false_and, Bool.and_false, Bool.true_or, Bool.or_true, Bool.false_or, Bool.or_false, bI_t, bI_f, bI_nand, n_mod, an11, an01, negn1, negn2, false_and, and_false, true_and, and_true, not_true_eq_false, not_false_eq_true, bI_n0, bI_n1, Bool.true_eq_false, Bool.false_eq_true, cI_s, cL_s, cV_s, cR_n, pm_bR_self, bI_ite, bL_ite, bV_ite, bR_ite, E_X4_noteTooMany_110, E_X4_noteTooMany_138]
