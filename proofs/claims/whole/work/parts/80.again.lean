theorem y_1276' : (1276 : Int32) = nI 1276 := by decide
theorem image_20 {g : PH} {k : Nat} (hk : k < 3) : ∀ r i, i + r = 1276 → pm_ev (265, 20, [vr 8 0, vi (nI k), vi (nI i)], [], pm_cp g 33 0 0 33 0 (1276 * (k + 1)) i) = some (some (vi (nI 1)), pm_cp g 33 0 0 33 0 (1276 * (k + 1)) 1276) := by
  intro r
  induction r with
  | zero =>
    intro i hi
    have hi : i = 1276 := by omega
    subst hi
    rw [E_X9_image_20, if_neg (by decide)]
    rfl
  | succ r ih =>
    intro i hi
    have rd : (pm_cp g 33 0 0 33 0 (1276 * (k + 1)) i).1 33 0 i = g.1 33 0 (0 + i) := by rw [cp_at, if_neg (by omega), Nat.zero_add]
    have cs := cp_succ g 33 0 0 33 0 (1276 * (k + 1)) i
    rw [← ih (i + 1) (by omega), ← cs, E_X9_image_20]
    simp (disch := omega) only [y_0, y_1, y_2, y_3, y_4, y_5, y_6, y_7, y_8, y_9, y_10, y_11, y_12, y_13, y_14, y_15, y_16, y_17, y_18, y_19, y_20, y_21, y_22, y_23, y_24, y_29, y_30, y_31, y_32, y_39, y_40, y_48, y_49, y_50, y_60, y_64, y_69, y_78, y_99, y_100, y_142, y_161, y_600, y_610, y_894, y_999, y_1000, y_1216, y_1276, neg1, neg2, nI_add, nI_mul, nn_sub, nn_lt, nn_le, nn_eq, in_lt, ni_lt, in_le, ni_le, in_eq, ni_eq, iI_lt, iI_le, iI_eq, nn_clamp, inb_n, t_lt, f_lt, t_le, f_le, t_eq, f_eq, ti_lt, fi_lt, ti_le, fi_le, ti_eq, fi_eq, ↓reduceIte, ite_true, ite_false, eq_self, decide_true, decide_false, Bool.true_and, Bool.and_true, Bool.false_and, Bool.and_false, Bool.true_or, Bool.or_true, Bool.false_or, Bool.or_false, bI_t, bI_f, bI_nand, n_mod, an11, an01, negn1, negn2, false_and, and_false, true_and, and_true, not_true_eq_false, not_false_eq_true, bI_n0, bI_n1, Bool.true_eq_false, Bool.false_eq_true, cI_s, cL_s, cV_s, cR_n, pm_bR_self, bI_ite, bL_ite, bV_ite, bR_ite, y_1276', rd, E_X9_image_46, E_X9_image_47]
theorem again_22 {g : PH} {k : Nat} (hk : k < 3) : ∀ r i, i + r = 1276 → pm_ev (266, 22, [vr 8 0, vi (nI k), vi (nI i)], [], pm_cp g 33 0 (1276 * (k + 1)) 33 0 0 i) = some (some (vi (nI 1)), pm_cp g 33 0 (1276 * (k + 1)) 33 0 0 1276) := by
  intro r
  induction r with
  | zero =>
    intro i hi
    have hi : i = 1276 := by omega
    subst hi
    rw [E_X9_again_22, if_neg (by decide)]
    rfl
  | succ r ih =>
    intro i hi
    have rd : (pm_cp g 33 0 (1276 * (k + 1)) 33 0 0 i).1 33 0 (1276 * (k + 1) + i) = g.1 33 0 (1276 * (k + 1) + i) := by rw [cp_at, if_neg (by omega)]
    have cs := cp_succ g 33 0 (1276 * (k + 1)) 33 0 0 i
    rw [Nat.zero_add] at cs
    rw [← ih (i + 1) (by omega), ← cs, E_X9_again_22]
    simp (disch := omega) only [y_0, y_1, y_2, y_3, y_4, y_5, y_6, y_7, y_8, y_9, y_10, y_11, y_12, y_13, y_14, y_15, y_16, y_17, y_18, y_19, y_20, y_21, y_22, y_23, y_24, y_29, y_30, y_31, y_32, y_39, y_40, y_48, y_49, y_50, y_60, y_64, y_69, y_78, y_99, y_100, y_142, y_161, y_600, y_610, y_894, y_999, y_1000, y_1216, y_1276, neg1, neg2, nI_add, nI_mul, nn_sub, nn_lt, nn_le, nn_eq, in_lt, ni_lt, in_le, ni_le, in_eq, ni_eq, iI_lt, iI_le, iI_eq, nn_clamp, inb_n, t_lt, f_lt, t_le, f_le, t_eq, f_eq, ti_lt, fi_lt, ti_le, fi_le, ti_eq, fi_eq, ↓reduceIte, ite_true, ite_false, eq_self, decide_true, decide_false, Bool.true_and, Bool.and_true, Bool.false_and, Bool.and_false, Bool.true_or, Bool.or_true, Bool.false_or, Bool.or_false, bI_t, bI_f, bI_nand, n_mod, an11, an01, negn1, negn2, false_and, and_false, true_and, and_true, not_true_eq_false, not_false_eq_true, bI_n0, bI_n1, Bool.true_eq_false, Bool.false_eq_true, cI_s, cL_s, cV_s, cR_n, pm_bR_self, bI_ite, bL_ite, bV_ite, bR_ite, y_1276', rd, E_X9_again_48, E_X9_again_49]
theorem toT_dis {o t a i : Nat} (hne : o ≠ t) (h : toT o a i = true) : toT t a i = false := by
  cases q : toT t a i
  · rfl
  · exfalso
    unfold toT at h q
    simp only [Bool.or_eq_true, Bool.and_eq_true, beq_iff_eq] at q h
    have b1 : ∀ x y, Nat.ble x y = true → x ≤ y := fun x y z => Nat.le_of_ble_eq_true z
    rcases h with ⟨h1, h2⟩ | ⟨h1, h2⟩
    · rcases q with ⟨q1, q2⟩ | ⟨q1, q2⟩
      · omega
      · rcases q2 with ((q2 | q2) | q2) | q2
        · omega
        · omega
        · omega
        · have := b1 _ _ q2.1; have := b1 _ _ q2.2; omega
    · rcases q with ⟨q1, q2⟩ | ⟨q1, q2⟩
      · rcases h2 with ((h2 | h2) | h2) | h2
        · omega
        · omega
        · omega
        · have := b1 _ _ h2.1; have := b1 _ _ h2.2; omega
      · omega
theorem toT_44 {o t i : Nat} (ht : 28 ≤ t) : toT o t i = false := by
  cases q : toT o t i
  · rfl
  · exfalso
    unfold toT at q
    simp only [Bool.or_eq_true, Bool.and_eq_true, beq_iff_eq] at q
    rcases q with ⟨q1, q2⟩ | ⟨q1, q2⟩
    · omega
    · rcases q2 with ((q2 | q2) | q2) | q2
      · omega
      · omega
      · omega
      · have := Nat.le_of_ble_eq_true q2.2; omega
theorem q_image {h : PH} (hI : Inv h) (a : Int32) : SameI (fun h => (136, 0, [vr 7 0, vi a], [], h)) (fun h => (265, 0, [vr 8 0, vi a, none], [], h)) h := by
  have R : rest44 h h := fun _ _ _ _ => ⟨rfl, rfl⟩
  rcases ix a (show 3 < 2147483648 by omega) with ⟨z, rfl, z1, z2⟩ | ⟨k, rfl, k1, k2⟩ | ⟨k, rfl, hk⟩
  · refine ⟨vi (nI 0), h, h, ?_, ?_, hI, R, R⟩
    · dsimp only; rw [E_X8_image]
      simp (disch := omega) only [y_0, y_1, y_2, y_3, y_4, y_5, y_6, y_7, y_8, y_9, y_10, y_11, y_12, y_13, y_14, y_15, y_16, y_17, y_18, y_19, y_20, y_21, y_22, y_23, y_24, y_29, y_30, y_31, y_32, y_39, y_40, y_48, y_49, y_50, y_60, y_64, y_69, y_78, y_99, y_100, y_142, y_161, y_600, y_610, y_894, y_999, y_1000, y_1216, y_1276, neg1, neg2, nI_add, nI_mul, nn_sub, nn_lt, nn_le, nn_eq, in_lt, ni_lt, in_le, ni_le, in_eq, ni_eq, iI_lt, iI_le, iI_eq, nn_clamp, inb_n, t_lt, f_lt, t_le, f_le, t_eq, f_eq, ti_lt, fi_lt, ti_le, fi_le, ti_eq, fi_eq, ↓reduceIte, ite_true, ite_false, eq_self, decide_true, decide_false, Bool.true_and, Bool.and_true, Bool.false_and, Bool.and_false, Bool.true_or, Bool.or_true, Bool.false_or, Bool.or_false, bI_t, bI_f, bI_nand, n_mod, an11, an01, negn1, negn2, false_and, and_false, true_and, and_true, not_true_eq_false, not_false_eq_true, bI_n0, bI_n1, Bool.true_eq_false, Bool.false_eq_true, cI_s, cL_s, cV_s, cR_n, pm_bR_self, bI_ite, bL_ite, bV_ite, bR_ite]
    · dsimp only; rw [E_X9_image]
      simp (disch := omega) only [y_0, y_1, y_2, y_3, y_4, y_5, y_6, y_7, y_8, y_9, y_10, y_11, y_12, y_13, y_14, y_15, y_16, y_17, y_18, y_19, y_20, y_21, y_22, y_23, y_24, y_29, y_30, y_31, y_32, y_39, y_40, y_48, y_49, y_50, y_60, y_64, y_69, y_78, y_99, y_100, y_142, y_161, y_600, y_610, y_894, y_999, y_1000, y_1216, y_1276, neg1, neg2, nI_add, nI_mul, nn_sub, nn_lt, nn_le, nn_eq, in_lt, ni_lt, in_le, ni_le, in_eq, ni_eq, iI_lt, iI_le, iI_eq, nn_clamp, inb_n, t_lt, f_lt, t_le, f_le, t_eq, f_eq, ti_lt, fi_lt, ti_le, fi_le, ti_eq, fi_eq, ↓reduceIte, ite_true, ite_false, eq_self, decide_true, decide_false, Bool.true_and, Bool.and_true, Bool.false_and, Bool.and_false, Bool.true_or, Bool.or_true, Bool.false_or, Bool.or_false, bI_t, bI_f, bI_nand, n_mod, an11, an01, negn1, negn2, false_and, and_false, true_and, and_true, not_true_eq_false, not_false_eq_true, bI_n0, bI_n1, Bool.true_eq_false, Bool.false_eq_true, cI_s, cL_s, cV_s, cR_n, pm_bR_self, bI_ite, bL_ite, bV_ite, bR_ite, isIn_inn]
  · refine ⟨vi (nI 0), h, h, ?_, ?_, hI, R, R⟩
    · dsimp only; rw [E_X8_image]
      simp (disch := omega) only [y_0, y_1, y_2, y_3, y_4, y_5, y_6, y_7, y_8, y_9, y_10, y_11, y_12, y_13, y_14, y_15, y_16, y_17, y_18, y_19, y_20, y_21, y_22, y_23, y_24, y_29, y_30, y_31, y_32, y_39, y_40, y_48, y_49, y_50, y_60, y_64, y_69, y_78, y_99, y_100, y_142, y_161, y_600, y_610, y_894, y_999, y_1000, y_1216, y_1276, neg1, neg2, nI_add, nI_mul, nn_sub, nn_lt, nn_le, nn_eq, in_lt, ni_lt, in_le, ni_le, in_eq, ni_eq, iI_lt, iI_le, iI_eq, nn_clamp, inb_n, t_lt, f_lt, t_le, f_le, t_eq, f_eq, ti_lt, fi_lt, ti_le, fi_le, ti_eq, fi_eq, ↓reduceIte, ite_true, ite_false, eq_self, decide_true, decide_false, Bool.true_and, Bool.and_true, Bool.false_and, Bool.and_false, Bool.true_or, Bool.or_true, Bool.false_or, Bool.or_false, bI_t, bI_f, bI_nand, n_mod, an11, an01, negn1, negn2, false_and, and_false, true_and, and_true, not_true_eq_false, not_false_eq_true, bI_n0, bI_n1, Bool.true_eq_false, Bool.false_eq_true, cI_s, cL_s, cV_s, cR_n, pm_bR_self, bI_ite, bL_ite, bV_ite, bR_ite]
    · dsimp only; rw [E_X9_image]
      simp (disch := omega) only [y_0, y_1, y_2, y_3, y_4, y_5, y_6, y_7, y_8, y_9, y_10, y_11, y_12, y_13, y_14, y_15, y_16, y_17, y_18, y_19, y_20, y_21, y_22, y_23, y_24, y_29, y_30, y_31, y_32, y_39, y_40, y_48, y_49, y_50, y_60, y_64, y_69, y_78, y_99, y_100, y_142, y_161, y_600, y_610, y_894, y_999, y_1000, y_1216, y_1276, neg1, neg2, nI_add, nI_mul, nn_sub, nn_lt, nn_le, nn_eq, in_lt, ni_lt, in_le, ni_le, in_eq, ni_eq, iI_lt, iI_le, iI_eq, nn_clamp, inb_n, t_lt, f_lt, t_le, f_le, t_eq, f_eq, ti_lt, fi_lt, ti_le, fi_le, ti_eq, fi_eq, ↓reduceIte, ite_true, ite_false, eq_self, decide_true, decide_false, Bool.true_and, Bool.and_true, Bool.false_and, Bool.and_false, Bool.true_or, Bool.or_true, Bool.false_or, Bool.or_false, bI_t, bI_f, bI_nand, n_mod, an11, an01, negn1, negn2, false_and, and_false, true_and, and_true, not_true_eq_false, not_false_eq_true, bI_n0, bI_n1, Bool.true_eq_false, Bool.false_eq_true, cI_s, cL_s, cV_s, cR_n, pm_bR_self, bI_ite, bL_ite, bV_ite, bR_ite, isIn_nnn]
  · obtain ⟨h1, e1, f1, mv⟩ := tCopy h (o := k + 1) (a := 0) (by omega)
    generalize hG : pm_sI (pm_sI h1 32 0 k (nI 1)) 34 0 k (nI 1) = g0
    have IM := image_20 (g := g0) hk 1276 0 rfl
    rw [cp_0] at IM
    have g0t : ∀ t i x, t ≠ 32 → t ≠ 34 → g0.1 t i x = h1.1 t i x := fun t i x n1 n2 => by rw [← hG, sI_tag _ _ _ _ _ _ n2, sI_tag _ _ _ _ _ _ n1]
    have g02 : g0.2 = h1.2 := by rw [← hG]; rfl
    generalize hF : pm_cp g0 33 0 0 33 0 (1276 * (k + 1)) 1276 = h2 at IM
    have h2t : ∀ t i x, t ≠ 33 → h2.1 t i x = g0.1 t i x := fun t i x n => by rw [← hF, cp_tag _ _ _ _ _ _ _ _ _ n]
    have h22 : h2.2 = g0.2 := by rw [← hF]; rfl
    have all : ∀ t i x, t ≠ 32 → t ≠ 33 → t ≠ 34 → h2.1 t i x = h1.1 t i x ∧ h2.2 t i x = h1.2 t i x := fun t i x n1 n2 n3 => ⟨(h2t t i x n2).trans (g0t t i x n1 n3), by rw [h22, g02]⟩
    have m33 : ∀ x, g0.1 33 0 x = h.1 33 0 x := fun x => (g0t 33 0 x (by decide) (by decide)).trans (f1 33 0 (toT_44 (by decide)) x).1
    have c33 : ∀ x, h2.1 33 0 x = if 1276 * (k + 1) ≤ x ∧ x < 1276 * (k + 1) + 1276 then h.1 33 0 (x - 1276 * (k + 1)) else h.1 33 0 x := fun x => by
      rw [← hF, cp_at]
      by_cases q : 1276 * (k + 1) ≤ x ∧ x < 1276 * (k + 1) + 1276
      · rw [if_pos ⟨rfl, rfl, q.1, q.2⟩, if_pos q, m33, Nat.zero_add]
      · rw [if_neg (fun w => q ⟨w.2.2.1, w.2.2.2⟩), if_neg q, m33]
    have fA : Fr (fun t i => toT (k + 1) t i || (t == 32 || t == 33 || t == 34)) h h2 := fun t i ht x => by
      simp only [Bool.or_eq_false_iff, beq_eq_false_iff_ne] at ht
      have := all t i x ht.2.1.1 ht.2.1.2 ht.2.2
      exact ⟨this.1.trans (f1 t i ht.1 x).1, this.2.trans (f1 t i ht.1 x).2⟩
    have dis : ∀ t, t ≠ k + 1 → ∀ a i, (toT (k + 1) a i || (a == 32 || a == 33 || a == 34)) = true → toT t a i = false := fun t ht a i z => by
      rw [Bool.or_eq_true] at z
      rcases z with z | z
      · exact toT_dis (fun w => ht w.symm) z
      · simp only [Bool.or_eq_true, beq_iff_eq] at z
        exact toT_44 (by omega)
    refine ⟨vi (nI 1), pm_sI h1 32 0 k (nI 1), h2, ?_, ?_, ⟨hI.1.keep fA (dis 0 (by omega)) (fun x hx => by rw [c33, if_neg (by omega)]), fun j hj => ?_⟩, fun t i x ht => ?_, fun t i x ht => ⟨(sI_tag _ _ _ _ _ _ (by omega)).trans (f1 t i (toT_44 (by omega)) x).1, (f1 t i (toT_44 (by omega)) x).2⟩⟩
    · dsimp only; rw [E_X8_image]
      simp (disch := omega) only [y_0, y_1, y_2, y_3, y_4, y_5, y_6, y_7, y_8, y_9, y_10, y_11, y_12, y_13, y_14, y_15, y_16, y_17, y_18, y_19, y_20, y_21, y_22, y_23, y_24, y_29, y_30, y_31, y_32, y_39, y_40, y_48, y_49, y_50, y_60, y_64, y_69, y_78, y_99, y_100, y_142, y_161, y_600, y_610, y_894, y_999, y_1000, y_1216, y_1276, neg1, neg2, nI_add, nI_mul, nn_sub, nn_lt, nn_le, nn_eq, in_lt, ni_lt, in_le, ni_le, in_eq, ni_eq, iI_lt, iI_le, iI_eq, nn_clamp, inb_n, t_lt, f_lt, t_le, f_le, t_eq, f_eq, ti_lt, fi_lt, ti_le, fi_le, ti_eq, fi_eq, ↓reduceIte, ite_true, ite_false, eq_self, decide_true, decide_false, Bool.true_and, Bool.and_true, Bool.false_and, Bool.and_false, Bool.true_or, Bool.or_true, Bool.false_or, Bool.or_false, bI_t, bI_f, bI_nand, n_mod, an11, an01, negn1, negn2, false_and, and_false, true_and, and_true, not_true_eq_false, not_false_eq_true, bI_n0, bI_n1, Bool.true_eq_false, Bool.false_eq_true, cI_s, cL_s, cV_s, cR_n, pm_bR_self, bI_ite, bL_ite, bV_ite, bR_ite, e1, E_X8_image_31]
    · dsimp only; rw [E_X9_image]
      simp (disch := omega) only [y_0, y_1, y_2, y_3, y_4, y_5, y_6, y_7, y_8, y_9, y_10, y_11, y_12, y_13, y_14, y_15, y_16, y_17, y_18, y_19, y_20, y_21, y_22, y_23, y_24, y_29, y_30, y_31, y_32, y_39, y_40, y_48, y_49, y_50, y_60, y_64, y_69, y_78, y_99, y_100, y_142, y_161, y_600, y_610, y_894, y_999, y_1000, y_1216, y_1276, neg1, neg2, nI_add, nI_mul, nn_sub, nn_lt, nn_le, nn_eq, in_lt, ni_lt, in_le, ni_le, in_eq, ni_eq, iI_lt, iI_le, iI_eq, nn_clamp, inb_n, t_lt, f_lt, t_le, f_le, t_eq, f_eq, ti_lt, fi_lt, ti_le, fi_le, ti_eq, fi_eq, ↓reduceIte, ite_true, ite_false, eq_self, decide_true, decide_false, Bool.true_and, Bool.and_true, Bool.false_and, Bool.and_false, Bool.true_or, Bool.or_true, Bool.false_or, Bool.or_false, bI_t, bI_f, bI_nand, n_mod, an11, an01, negn1, negn2, false_and, and_false, true_and, and_true, not_true_eq_false, not_false_eq_true, bI_n0, bI_n1, Bool.true_eq_false, Bool.false_eq_true, cI_s, cL_s, cV_s, cR_n, pm_bR_self, bI_ite, bL_ite, bV_ite, bR_ite, isIn_nnn, E_X9_image_18, hG]
      exact IM
    · by_cases q : j = k
      · subst q
        refine ⟨true, ?_, ?_, fun _ => ?_⟩
        · rw [h2t _ _ _ (by decide), ← hG, sI_tag _ _ _ _ _ _ (by decide), sI_same]; rfl
        · rw [h2t _ _ _ (by decide), ← hG, sI_same]; rfl
        · have r1 := mv h (vM h2 (j + 1)) (fun x hx => by rw [vM_33, c33, if_pos (by omega), show 1276 * (j + 1) + x - 1276 * (j + 1) = x by omega]) hI.1
          refine r1.keep (T := fun t _ => t == 32 || t == 33 || t == 34) (fun t i ht x => by
            simp only [Bool.or_eq_false_iff, beq_eq_false_iff_ne] at ht
            exact all t i x ht.1.1 ht.1.2 ht.2) (fun a i z => by
            simp only [Bool.or_eq_true, beq_iff_eq] at z
            exact toT_44 (by omega)) (fun x _ => rfl)
      · obtain ⟨b, b1, b2, b3⟩ := hI.2 j hj
        refine ⟨b, ?_, ?_, fun z => (b3 z).keep fA (dis (j + 1) (by omega)) (fun x hx => ?_)⟩
        · rw [h2t _ _ _ (by decide), ← hG, sI_tag _ _ _ _ _ _ (by decide), sI_pl _ _ _ _ _ q, (f1 32 0 (toT_44 (by decide)) j).1]; exact b1
        · rw [h2t _ _ _ (by decide), ← hG, sI_pl _ _ _ _ _ q, sI_tag _ _ _ _ _ _ (by decide), (f1 34 0 (toT_44 (by decide)) j).1]; exact b2
        · rw [vM_33, vM_33, c33, if_neg (by omega)]
    · have := all t i x (by omega) (by omega) (by omega)
      exact ⟨this.1.trans (f1 t i (toT_44 (by omega)) x).1, this.2.trans (f1 t i (toT_44 (by omega)) x).2⟩
theorem q_again {h : PH} (hI : Inv h) (a : Int32) : SameI (fun h => (137, 0, [vr 7 0, vi a], [], h)) (fun h => (266, 0, [vr 8 0, vi a, none], [], h)) h := by
  have R : rest44 h h := fun _ _ _ _ => ⟨rfl, rfl⟩
  rcases ix a (show 3 < 2147483648 by omega) with ⟨z, rfl, z1, z2⟩ | ⟨k, rfl, k1, k2⟩ | ⟨k, rfl, hk⟩
  · refine ⟨vi (nI 0), h, h, ?_, ?_, hI, R, R⟩
    · dsimp only; rw [E_X8_again]
      simp (disch := omega) only [y_0, y_1, y_2, y_3, y_4, y_5, y_6, y_7, y_8, y_9, y_10, y_11, y_12, y_13, y_14, y_15, y_16, y_17, y_18, y_19, y_20, y_21, y_22, y_23, y_24, y_29, y_30, y_31, y_32, y_39, y_40, y_48, y_49, y_50, y_60, y_64, y_69, y_78, y_99, y_100, y_142, y_161, y_600, y_610, y_894, y_999, y_1000, y_1216, y_1276, neg1, neg2, nI_add, nI_mul, nn_sub, nn_lt, nn_le, nn_eq, in_lt, ni_lt, in_le, ni_le, in_eq, ni_eq, iI_lt, iI_le, iI_eq, nn_clamp, inb_n, t_lt, f_lt, t_le, f_le, t_eq, f_eq, ti_lt, fi_lt, ti_le, fi_le, ti_eq, fi_eq, ↓reduceIte, ite_true, ite_false, eq_self, decide_true, decide_false, Bool.true_and, Bool.and_true, Bool.false_and, Bool.and_false, Bool.true_or, Bool.or_true, Bool.false_or, Bool.or_false, bI_t, bI_f, bI_nand, n_mod, an11, an01, negn1, negn2, false_and, and_false, true_and, and_true, not_true_eq_false, not_false_eq_true, bI_n0, bI_n1, Bool.true_eq_false, Bool.false_eq_true, cI_s, cL_s, cV_s, cR_n, pm_bR_self, bI_ite, bL_ite, bV_ite, bR_ite]
    · dsimp only; rw [E_X9_again]
      simp (disch := omega) only [y_0, y_1, y_2, y_3, y_4, y_5, y_6, y_7, y_8, y_9, y_10, y_11, y_12, y_13, y_14, y_15, y_16, y_17, y_18, y_19, y_20, y_21, y_22, y_23, y_24, y_29, y_30, y_31, y_32, y_39, y_40, y_48, y_49, y_50, y_60, y_64, y_69, y_78, y_99, y_100, y_142, y_161, y_600, y_610, y_894, y_999, y_1000, y_1216, y_1276, neg1, neg2, nI_add, nI_mul, nn_sub, nn_lt, nn_le, nn_eq, in_lt, ni_lt, in_le, ni_le, in_eq, ni_eq, iI_lt, iI_le, iI_eq, nn_clamp, inb_n, t_lt, f_lt, t_le, f_le, t_eq, f_eq, ti_lt, fi_lt, ti_le, fi_le, ti_eq, fi_eq, ↓reduceIte, ite_true, ite_false, eq_self, decide_true, decide_false, Bool.true_and, Bool.and_true, Bool.false_and, Bool.and_false, Bool.true_or, Bool.or_true, Bool.false_or, Bool.or_false, bI_t, bI_f, bI_nand, n_mod, an11, an01, negn1, negn2, false_and, and_false, true_and, and_true, not_true_eq_false, not_false_eq_true, bI_n0, bI_n1, Bool.true_eq_false, Bool.false_eq_true, cI_s, cL_s, cV_s, cR_n, pm_bR_self, bI_ite, bL_ite, bV_ite, bR_ite, isIn_inn]
  · refine ⟨vi (nI 0), h, h, ?_, ?_, hI, R, R⟩
    · dsimp only; rw [E_X8_again]
      simp (disch := omega) only [y_0, y_1, y_2, y_3, y_4, y_5, y_6, y_7, y_8, y_9, y_10, y_11, y_12, y_13, y_14, y_15, y_16, y_17, y_18, y_19, y_20, y_21, y_22, y_23, y_24, y_29, y_30, y_31, y_32, y_39, y_40, y_48, y_49, y_50, y_60, y_64, y_69, y_78, y_99, y_100, y_142, y_161, y_600, y_610, y_894, y_999, y_1000, y_1216, y_1276, neg1, neg2, nI_add, nI_mul, nn_sub, nn_lt, nn_le, nn_eq, in_lt, ni_lt, in_le, ni_le, in_eq, ni_eq, iI_lt, iI_le, iI_eq, nn_clamp, inb_n, t_lt, f_lt, t_le, f_le, t_eq, f_eq, ti_lt, fi_lt, ti_le, fi_le, ti_eq, fi_eq, ↓reduceIte, ite_true, ite_false, eq_self, decide_true, decide_false, Bool.true_and, Bool.and_true, Bool.false_and, Bool.and_false, Bool.true_or, Bool.or_true, Bool.false_or, Bool.or_false, bI_t, bI_f, bI_nand, n_mod, an11, an01, negn1, negn2, false_and, and_false, true_and, and_true, not_true_eq_false, not_false_eq_true, bI_n0, bI_n1, Bool.true_eq_false, Bool.false_eq_true, cI_s, cL_s, cV_s, cR_n, pm_bR_self, bI_ite, bL_ite, bV_ite, bR_ite]
    · dsimp only; rw [E_X9_again]
      simp (disch := omega) only [y_0, y_1, y_2, y_3, y_4, y_5, y_6, y_7, y_8, y_9, y_10, y_11, y_12, y_13, y_14, y_15, y_16, y_17, y_18, y_19, y_20, y_21, y_22, y_23, y_24, y_29, y_30, y_31, y_32, y_39, y_40, y_48, y_49, y_50, y_60, y_64, y_69, y_78, y_99, y_100, y_142, y_161, y_600, y_610, y_894, y_999, y_1000, y_1216, y_1276, neg1, neg2, nI_add, nI_mul, nn_sub, nn_lt, nn_le, nn_eq, in_lt, ni_lt, in_le, ni_le, in_eq, ni_eq, iI_lt, iI_le, iI_eq, nn_clamp, inb_n, t_lt, f_lt, t_le, f_le, t_eq, f_eq, ti_lt, fi_lt, ti_le, fi_le, ti_eq, fi_eq, ↓reduceIte, ite_true, ite_false, eq_self, decide_true, decide_false, Bool.true_and, Bool.and_true, Bool.false_and, Bool.and_false, Bool.true_or, Bool.or_true, Bool.false_or, Bool.or_false, bI_t, bI_f, bI_nand, n_mod, an11, an01, negn1, negn2, false_and, and_false, true_and, and_true, not_true_eq_false, not_false_eq_true, bI_n0, bI_n1, Bool.true_eq_false, Bool.false_eq_true, cI_s, cL_s, cV_s, cR_n, pm_bR_self, bI_ite, bL_ite, bV_ite, bR_ite, isIn_nnn]
  · obtain ⟨b, b1, b2, b3⟩ := hI.2 k hk
    cases b with
    | false =>
      refine ⟨vi (nI 0), h, h, ?_, ?_, hI, R, R⟩
      · dsimp only; rw [E_X8_again]
        simp (disch := omega) only [y_0, y_1, y_2, y_3, y_4, y_5, y_6, y_7, y_8, y_9, y_10, y_11, y_12, y_13, y_14, y_15, y_16, y_17, y_18, y_19, y_20, y_21, y_22, y_23, y_24, y_29, y_30, y_31, y_32, y_39, y_40, y_48, y_49, y_50, y_60, y_64, y_69, y_78, y_99, y_100, y_142, y_161, y_600, y_610, y_894, y_999, y_1000, y_1216, y_1276, neg1, neg2, nI_add, nI_mul, nn_sub, nn_lt, nn_le, nn_eq, in_lt, ni_lt, in_le, ni_le, in_eq, ni_eq, iI_lt, iI_le, iI_eq, nn_clamp, inb_n, t_lt, f_lt, t_le, f_le, t_eq, f_eq, ti_lt, fi_lt, ti_le, fi_le, ti_eq, fi_eq, ↓reduceIte, ite_true, ite_false, eq_self, decide_true, decide_false, Bool.true_and, Bool.and_true, Bool.false_and, Bool.and_false, Bool.true_or, Bool.or_true, Bool.false_or, Bool.or_false, bI_t, bI_f, bI_nand, n_mod, an11, an01, negn1, negn2, false_and, and_false, true_and, and_true, not_true_eq_false, not_false_eq_true, bI_n0, bI_n1, Bool.true_eq_false, Bool.false_eq_true, cI_s, cL_s, cV_s, cR_n, pm_bR_self, bI_ite, bL_ite, bV_ite, bR_ite, b1]
      · dsimp only; rw [E_X9_again]
        simp (disch := omega) only [y_0, y_1, y_2, y_3, y_4, y_5, y_6, y_7, y_8, y_9, y_10, y_11, y_12, y_13, y_14, y_15, y_16, y_17, y_18, y_19, y_20, y_21, y_22, y_23, y_24, y_29, y_30, y_31, y_32, y_39, y_40, y_48, y_49, y_50, y_60, y_64, y_69, y_78, y_99, y_100, y_142, y_161, y_600, y_610, y_894, y_999, y_1000, y_1216, y_1276, neg1, neg2, nI_add, nI_mul, nn_sub, nn_lt, nn_le, nn_eq, in_lt, ni_lt, in_le, ni_le, in_eq, ni_eq, iI_lt, iI_le, iI_eq, nn_clamp, inb_n, t_lt, f_lt, t_le, f_le, t_eq, f_eq, ti_lt, fi_lt, ti_le, fi_le, ti_eq, fi_eq, ↓reduceIte, ite_true, ite_false, eq_self, decide_true, decide_false, Bool.true_and, Bool.and_true, Bool.false_and, Bool.and_false, Bool.true_or, Bool.or_true, Bool.false_or, Bool.or_false, bI_t, bI_f, bI_nand, n_mod, an11, an01, negn1, negn2, false_and, and_false, true_and, and_true, not_true_eq_false, not_false_eq_true, bI_n0, bI_n1, Bool.true_eq_false, Bool.false_eq_true, cI_s, cL_s, cV_s, cR_n, pm_bR_self, bI_ite, bL_ite, bV_ite, bR_ite, isIn_nnn, b2, E_X9_again_15]
    | true =>
      obtain ⟨h1, e1, f1, mv⟩ := tCopy h (o := 0) (a := k + 1) (by omega)
      have AG := again_22 (g := h1) hk 1276 0 rfl
      rw [cp_0] at AG
      generalize hF : pm_cp h1 33 0 (1276 * (k + 1)) 33 0 0 1276 = h2 at AG
      have h2t : ∀ t i x, t ≠ 33 → h2.1 t i x = h1.1 t i x := fun t i x n => by rw [← hF, cp_tag _ _ _ _ _ _ _ _ _ n]
      have h22 : h2.2 = h1.2 := by rw [← hF]; rfl
      have all : ∀ t i x, t ≠ 33 → h2.1 t i x = h1.1 t i x ∧ h2.2 t i x = h1.2 t i x := fun t i x n => ⟨h2t t i x n, by rw [h22]⟩
      have m33 : ∀ x, h1.1 33 0 x = h.1 33 0 x := fun x => (f1 33 0 (toT_44 (by decide)) x).1
      have c33 : ∀ x, h2.1 33 0 x = if x < 1276 then h.1 33 0 (1276 * (k + 1) + x) else h.1 33 0 x := fun x => by
        rw [← hF, cp_at]
        by_cases q : x < 1276
        · rw [if_pos ⟨rfl, rfl, by omega, by omega⟩, if_pos q, m33, Nat.sub_zero]
        · rw [if_neg (fun w => q (by omega)), if_neg q, m33]
      have fA : Fr (fun t i => toT 0 t i || t == 33) h h2 := fun t i ht x => by
        simp only [Bool.or_eq_false_iff, beq_eq_false_iff_ne] at ht
        have := all t i x ht.2
        exact ⟨this.1.trans (f1 t i ht.1 x).1, this.2.trans (f1 t i ht.1 x).2⟩
      have v1 : h1.1 34 0 k = bI true := ((f1 34 0 (toT_44 (by decide)) k).1).trans b2
      refine ⟨vi (nI 1), h1, h2, ?_, ?_, ⟨?_, fun j hj => ?_⟩, fun t i x ht => ?_, fun t i x ht => f1 t i (toT_44 (by omega)) x⟩
      · dsimp only; rw [E_X8_again]
        simp (disch := omega) only [y_0, y_1, y_2, y_3, y_4, y_5, y_6, y_7, y_8, y_9, y_10, y_11, y_12, y_13, y_14, y_15, y_16, y_17, y_18, y_19, y_20, y_21, y_22, y_23, y_24, y_29, y_30, y_31, y_32, y_39, y_40, y_48, y_49, y_50, y_60, y_64, y_69, y_78, y_99, y_100, y_142, y_161, y_600, y_610, y_894, y_999, y_1000, y_1216, y_1276, neg1, neg2, nI_add, nI_mul, nn_sub, nn_lt, nn_le, nn_eq, in_lt, ni_lt, in_le, ni_le, in_eq, ni_eq, iI_lt, iI_le, iI_eq, nn_clamp, inb_n, t_lt, f_lt, t_le, f_le, t_eq, f_eq, ti_lt, fi_lt, ti_le, fi_le, ti_eq, fi_eq, ↓reduceIte, ite_true, ite_false, eq_self, decide_true, decide_false, Bool.true_and, Bool.and_true, Bool.false_and, Bool.and_false, Bool.true_or, Bool.or_true, Bool.false_or, Bool.or_false, bI_t, bI_f, bI_nand, n_mod, an11, an01, negn1, negn2, false_and, and_false, true_and, and_true, not_true_eq_false, not_false_eq_true, bI_n0, bI_n1, Bool.true_eq_false, Bool.false_eq_true, cI_s, cL_s, cV_s, cR_n, pm_bR_self, bI_ite, bL_ite, bV_ite, bR_ite, b1, e1]
      · dsimp only; rw [E_X9_again]
        simp (disch := omega) only [y_0, y_1, y_2, y_3, y_4, y_5, y_6, y_7, y_8, y_9, y_10, y_11, y_12, y_13, y_14, y_15, y_16, y_17, y_18, y_19, y_20, y_21, y_22, y_23, y_24, y_29, y_30, y_31, y_32, y_39, y_40, y_48, y_49, y_50, y_60, y_64, y_69, y_78, y_99, y_100, y_142, y_161, y_600, y_610, y_894, y_999, y_1000, y_1216, y_1276, neg1, neg2, nI_add, nI_mul, nn_sub, nn_lt, nn_le, nn_eq, in_lt, ni_lt, in_le, ni_le, in_eq, ni_eq, iI_lt, iI_le, iI_eq, nn_clamp, inb_n, t_lt, f_lt, t_le, f_le, t_eq, f_eq, ti_lt, fi_lt, ti_le, fi_le, ti_eq, fi_eq, ↓reduceIte, ite_true, ite_false, eq_self, decide_true, decide_false, Bool.true_and, Bool.and_true, Bool.false_and, Bool.and_false, Bool.true_or, Bool.or_true, Bool.false_or, Bool.or_false, bI_t, bI_f, bI_nand, n_mod, an11, an01, negn1, negn2, false_and, and_false, true_and, and_true, not_true_eq_false, not_false_eq_true, bI_n0, bI_n1, Bool.true_eq_false, Bool.false_eq_true, cI_s, cL_s, cV_s, cR_n, pm_bR_self, bI_ite, bL_ite, bV_ite, bR_ite, isIn_nnn, v1, E_X9_again_15]
        exact AG
      · have r1 := mv (vM h (k + 1)) h2 (fun x hx => by rw [vM_33, c33, if_pos hx]) (b3 rfl)
        exact r1.keep (T := fun t _ => t == 33) (fun t i ht x => all t i x (by rw [beq_eq_false_iff_ne] at ht; exact ht)) (fun a i z => by
          rw [beq_iff_eq] at z
          exact toT_44 (by omega)) (fun x _ => rfl)
      · obtain ⟨c, c1, c2, c3⟩ := hI.2 j hj
        refine ⟨c, ?_, ?_, fun z => (c3 z).keep fA (fun a i w => ?_) (fun x hx => ?_)⟩
        · rw [h2t _ _ _ (by decide), (f1 32 0 (toT_44 (by decide)) j).1]; exact c1
        · rw [h2t _ _ _ (by decide), (f1 34 0 (toT_44 (by decide)) j).1]; exact c2
        · rw [Bool.or_eq_true] at w
          rcases w with w | w
          · exact toT_dis (by omega) w
          · rw [beq_iff_eq] at w
            exact toT_44 (by omega)
        · rw [vM_33, vM_33, c33, if_neg (by omega)]
      · have := all t i x (by omega)
        exact ⟨this.1.trans (f1 t i (toT_44 (by omega)) x).1, this.2.trans (f1 t i (toT_44 (by omega)) x).2⟩
