/-! ===== tokens: the reference ===== -/
def TapM (g : PH) (n : Nat) (T : Nat → Nat) : Prop := g.1 8 0 2 = nI n ∧ ∀ k, k < n → T k < 256 ∧ g.1 33 0 (10 + k) = nI (T k)
def fr3 (g g' : PH) : Prop := (∀ t i x, ¬ (t = 8 ∧ i = 0 ∧ 3 ≤ x ∧ x ≤ 7) → g'.1 t i x = g.1 t i x) ∧ g'.2 = g.2
theorem fr3.rf (g : PH) : fr3 g g := ⟨fun _ _ _ _ => rfl, rfl⟩
theorem fr3.tr {a b c : PH} (h1 : fr3 a b) (h2 : fr3 b c) : fr3 a c := ⟨fun t i x h => (h2.1 t i x h).trans (h1.1 t i x h), h2.2.trans h1.2⟩
theorem fr3.sI (g : PH) {x : Nat} (hx : 3 ≤ x ∧ x ≤ 7) (v : Int32) : fr3 g (pm_sI g 8 0 x v) := ⟨fun t i y h => by rw [pm_sI_at, if_neg (fun q => h ⟨q.1, q.2.1, by omega⟩)], rfl⟩
theorem TapM.fr {g g' : PH} {n : Nat} {T : Nat → Nat} (hf : fr3 g g') (hT : TapM g n T) : TapM g' n T := ⟨(hf.1 8 0 2 (by omega)).trans hT.1, fun k hk => ⟨(hT.2 k hk).1, (hf.1 33 0 _ (by omega)).trans (hT.2 k hk).2⟩⟩
def bv (T : Nat → Nat) (n p : Nat) : Int32 := if p < n then nI (T p) else iI (-1)
theorem byteAt_M {g : PH} {n p : Nat} {T : Nat → Nat} (hT : TapM g n T) (hn : n ≤ 600) (hp : p ≤ n) : pm_ev (156, 0, [vr 8 0, vi (nI p)], [], g) = some (some (vi (bv T n p)), g) := by
  obtain ⟨t0, tk⟩ := hT
  rw [E_X9_byteAt]
  unfold bv
  by_cases q : p < n
  · obtain ⟨b1, b2⟩ := tk p q
    rw [if_pos q]
    simp (disch := omega) only [y_0, y_1, y_2, y_3, y_4, y_5, y_6, y_7, y_8, y_9, y_10, y_11, y_12, y_13, y_14, y_15, y_16, y_17, y_18, y_19, y_20, y_21, y_22, y_23, y_24, y_29, y_30, y_31, y_32, y_39, y_40, y_48, y_49, y_50, y_60, y_64, y_69, y_78, y_99, y_100, y_142, y_161, y_600, y_610, y_894, y_999, y_1000, y_1216, y_1276, neg1, neg2, nI_add, nI_mul, nn_sub, nn_lt, nn_le, nn_eq, in_lt, ni_lt, in_le, ni_le, in_eq, ni_eq, iI_lt, iI_le, iI_eq, nn_clamp, inb_n, t_lt, f_lt, t_le, f_le, t_eq, f_eq, ti_lt, fi_lt, ti_le, fi_le, ti_eq, fi_eq, ↓reduceIte, ite_true, ite_false, eq_self, decide_true, decide_false, Bool.true_and, Bool.and_true, Bool.false_and, Bool.and_false, Bool.true_or, Bool.or_true, Bool.false_or, Bool.or_false, bI_t, bI_f, bI_nand, n_mod, an11, an01, negn1, negn2, false_and, and_false, true_and, and_true, not_true_eq_false, not_false_eq_true, bI_n0, bI_n1, Bool.true_eq_false, Bool.false_eq_true, cI_s, cL_s, cV_s, cR_n, pm_bR_self, bI_ite, bL_ite, bV_ite, bR_ite, t0, b2, E_X9_byteAt_17]
  · rw [if_neg q]
    simp (disch := omega) only [y_0, y_1, y_2, y_3, y_4, y_5, y_6, y_7, y_8, y_9, y_10, y_11, y_12, y_13, y_14, y_15, y_16, y_17, y_18, y_19, y_20, y_21, y_22, y_23, y_24, y_29, y_30, y_31, y_32, y_39, y_40, y_48, y_49, y_50, y_60, y_64, y_69, y_78, y_99, y_100, y_142, y_161, y_600, y_610, y_894, y_999, y_1000, y_1216, y_1276, neg1, neg2, nI_add, nI_mul, nn_sub, nn_lt, nn_le, nn_eq, in_lt, ni_lt, in_le, ni_le, in_eq, ni_eq, iI_lt, iI_le, iI_eq, nn_clamp, inb_n, t_lt, f_lt, t_le, f_le, t_eq, f_eq, ti_lt, fi_lt, ti_le, fi_le, ti_eq, fi_eq, ↓reduceIte, ite_true, ite_false, eq_self, decide_true, decide_false, Bool.true_and, Bool.and_true, Bool.false_and, Bool.and_false, Bool.true_or, Bool.or_true, Bool.false_or, Bool.or_false, bI_t, bI_f, bI_nand, n_mod, an11, an01, negn1, negn2, false_and, and_false, true_and, and_true, not_true_eq_false, not_false_eq_true, bI_n0, bI_n1, Bool.true_eq_false, Bool.false_eq_true, cI_s, cL_s, cV_s, cR_n, pm_bR_self, bI_ite, bL_ite, bV_ite, bR_ite, t0]
theorem isLet_M (g : PH) {n p : Nat} {T : Nat → Nat} (hb : p < n → T p < 256) : pm_ev (157, 0, [vi (bv T n p)], [], g) = some (some (vi (bI (decide (p < n) && isL (T p)))), g) := by
  rw [E_X9_isLetter]
  unfold bv
  by_cases q : p < n
  · have := hb q
    rw [if_pos q, decide_eq_true q, Bool.true_and]
    unfold isL
    by_cases q1 : T p < 97
    · rw [decide_eq_false (by omega)]
      simp (disch := omega) only [y_0, y_1, y_2, y_3, y_4, y_5, y_6, y_7, y_8, y_9, y_10, y_11, y_12, y_13, y_14, y_15, y_16, y_17, y_18, y_19, y_20, y_21, y_22, y_23, y_24, y_29, y_30, y_31, y_32, y_39, y_40, y_48, y_49, y_50, y_60, y_64, y_69, y_78, y_99, y_100, y_142, y_161, y_600, y_610, y_894, y_999, y_1000, y_1216, y_1276, neg1, neg2, nI_add, nI_mul, nn_sub, nn_lt, nn_le, nn_eq, in_lt, ni_lt, in_le, ni_le, in_eq, ni_eq, iI_lt, iI_le, iI_eq, nn_clamp, inb_n, t_lt, f_lt, t_le, f_le, t_eq, f_eq, ti_lt, fi_lt, ti_le, fi_le, ti_eq, fi_eq, ↓reduceIte, ite_true, ite_false, eq_self, decide_true, decide_false, Bool.true_and, Bool.and_true, Bool.false_and, Bool.and_false, Bool.true_or, Bool.or_true, Bool.false_or, Bool.or_false, bI_t, bI_f, bI_nand, n_mod, an11, an01, negn1, negn2, false_and, and_false, true_and, and_true, not_true_eq_false, not_false_eq_true, bI_n0, bI_n1, Bool.true_eq_false, Bool.false_eq_true, cI_s, cL_s, cV_s, cR_n, pm_bR_self, bI_ite, bL_ite, bV_ite, bR_ite, y_97]
    · by_cases q2 : 122 < T p
      · rw [decide_eq_false (by omega)]
        simp (disch := omega) only [y_0, y_1, y_2, y_3, y_4, y_5, y_6, y_7, y_8, y_9, y_10, y_11, y_12, y_13, y_14, y_15, y_16, y_17, y_18, y_19, y_20, y_21, y_22, y_23, y_24, y_29, y_30, y_31, y_32, y_39, y_40, y_48, y_49, y_50, y_60, y_64, y_69, y_78, y_99, y_100, y_142, y_161, y_600, y_610, y_894, y_999, y_1000, y_1216, y_1276, neg1, neg2, nI_add, nI_mul, nn_sub, nn_lt, nn_le, nn_eq, in_lt, ni_lt, in_le, ni_le, in_eq, ni_eq, iI_lt, iI_le, iI_eq, nn_clamp, inb_n, t_lt, f_lt, t_le, f_le, t_eq, f_eq, ti_lt, fi_lt, ti_le, fi_le, ti_eq, fi_eq, ↓reduceIte, ite_true, ite_false, eq_self, decide_true, decide_false, Bool.true_and, Bool.and_true, Bool.false_and, Bool.and_false, Bool.true_or, Bool.or_true, Bool.false_or, Bool.or_false, bI_t, bI_f, bI_nand, n_mod, an11, an01, negn1, negn2, false_and, and_false, true_and, and_true, not_true_eq_false, not_false_eq_true, bI_n0, bI_n1, Bool.true_eq_false, Bool.false_eq_true, cI_s, cL_s, cV_s, cR_n, pm_bR_self, bI_ite, bL_ite, bV_ite, bR_ite, y_97, y_122]
      · rw [decide_eq_true (by omega)]
        simp (disch := omega) only [y_0, y_1, y_2, y_3, y_4, y_5, y_6, y_7, y_8, y_9, y_10, y_11, y_12, y_13, y_14, y_15, y_16, y_17, y_18, y_19, y_20, y_21, y_22, y_23, y_24, y_29, y_30, y_31, y_32, y_39, y_40, y_48, y_49, y_50, y_60, y_64, y_69, y_78, y_99, y_100, y_142, y_161, y_600, y_610, y_894, y_999, y_1000, y_1216, y_1276, neg1, neg2, nI_add, nI_mul, nn_sub, nn_lt, nn_le, nn_eq, in_lt, ni_lt, in_le, ni_le, in_eq, ni_eq, iI_lt, iI_le, iI_eq, nn_clamp, inb_n, t_lt, f_lt, t_le, f_le, t_eq, f_eq, ti_lt, fi_lt, ti_le, fi_le, ti_eq, fi_eq, ↓reduceIte, ite_true, ite_false, eq_self, decide_true, decide_false, Bool.true_and, Bool.and_true, Bool.false_and, Bool.and_false, Bool.true_or, Bool.or_true, Bool.false_or, Bool.or_false, bI_t, bI_f, bI_nand, n_mod, an11, an01, negn1, negn2, false_and, and_false, true_and, and_true, not_true_eq_false, not_false_eq_true, bI_n0, bI_n1, Bool.true_eq_false, Bool.false_eq_true, cI_s, cL_s, cV_s, cR_n, pm_bR_self, bI_ite, bL_ite, bV_ite, bR_ite, y_97, y_122]
  · rw [if_neg q, decide_eq_false q, Bool.false_and]
    simp (disch := omega) only [y_0, y_1, y_2, y_3, y_4, y_5, y_6, y_7, y_8, y_9, y_10, y_11, y_12, y_13, y_14, y_15, y_16, y_17, y_18, y_19, y_20, y_21, y_22, y_23, y_24, y_29, y_30, y_31, y_32, y_39, y_40, y_48, y_49, y_50, y_60, y_64, y_69, y_78, y_99, y_100, y_142, y_161, y_600, y_610, y_894, y_999, y_1000, y_1216, y_1276, neg1, neg2, nI_add, nI_mul, nn_sub, nn_lt, nn_le, nn_eq, in_lt, ni_lt, in_le, ni_le, in_eq, ni_eq, iI_lt, iI_le, iI_eq, nn_clamp, inb_n, t_lt, f_lt, t_le, f_le, t_eq, f_eq, ti_lt, fi_lt, ti_le, fi_le, ti_eq, fi_eq, ↓reduceIte, ite_true, ite_false, eq_self, decide_true, decide_false, Bool.true_and, Bool.and_true, Bool.false_and, Bool.and_false, Bool.true_or, Bool.or_true, Bool.false_or, Bool.or_false, bI_t, bI_f, bI_nand, n_mod, an11, an01, negn1, negn2, false_and, and_false, true_and, and_true, not_true_eq_false, not_false_eq_true, bI_n0, bI_n1, Bool.true_eq_false, Bool.false_eq_true, cI_s, cL_s, cV_s, cR_n, pm_bR_self, bI_ite, bL_ite, bV_ite, bR_ite, y_97]
theorem isDig_M (g : PH) {n p : Nat} {T : Nat → Nat} (hb : p < n → T p < 256) : pm_ev (158, 0, [vi (bv T n p)], [], g) = some (some (vi (bI (decide (p < n) && isD (T p)))), g) := by
  rw [E_X9_isDigit]
  unfold bv
  by_cases q : p < n
  · have := hb q
    rw [if_pos q, decide_eq_true q, Bool.true_and]
    unfold isD
    by_cases q1 : T p < 48
    · rw [decide_eq_false (by omega)]
      simp (disch := omega) only [y_0, y_1, y_2, y_3, y_4, y_5, y_6, y_7, y_8, y_9, y_10, y_11, y_12, y_13, y_14, y_15, y_16, y_17, y_18, y_19, y_20, y_21, y_22, y_23, y_24, y_29, y_30, y_31, y_32, y_39, y_40, y_48, y_49, y_50, y_60, y_64, y_69, y_78, y_99, y_100, y_142, y_161, y_600, y_610, y_894, y_999, y_1000, y_1216, y_1276, neg1, neg2, nI_add, nI_mul, nn_sub, nn_lt, nn_le, nn_eq, in_lt, ni_lt, in_le, ni_le, in_eq, ni_eq, iI_lt, iI_le, iI_eq, nn_clamp, inb_n, t_lt, f_lt, t_le, f_le, t_eq, f_eq, ti_lt, fi_lt, ti_le, fi_le, ti_eq, fi_eq, ↓reduceIte, ite_true, ite_false, eq_self, decide_true, decide_false, Bool.true_and, Bool.and_true, Bool.false_and, Bool.and_false, Bool.true_or, Bool.or_true, Bool.false_or, Bool.or_false, bI_t, bI_f, bI_nand, n_mod, an11, an01, negn1, negn2, false_and, and_false, true_and, and_true, not_true_eq_false, not_false_eq_true, bI_n0, bI_n1, Bool.true_eq_false, Bool.false_eq_true, cI_s, cL_s, cV_s, cR_n, pm_bR_self, bI_ite, bL_ite, bV_ite, bR_ite]
    · by_cases q2 : 57 < T p
      · rw [decide_eq_false (by omega)]
        simp (disch := omega) only [y_0, y_1, y_2, y_3, y_4, y_5, y_6, y_7, y_8, y_9, y_10, y_11, y_12, y_13, y_14, y_15, y_16, y_17, y_18, y_19, y_20, y_21, y_22, y_23, y_24, y_29, y_30, y_31, y_32, y_39, y_40, y_48, y_49, y_50, y_60, y_64, y_69, y_78, y_99, y_100, y_142, y_161, y_600, y_610, y_894, y_999, y_1000, y_1216, y_1276, neg1, neg2, nI_add, nI_mul, nn_sub, nn_lt, nn_le, nn_eq, in_lt, ni_lt, in_le, ni_le, in_eq, ni_eq, iI_lt, iI_le, iI_eq, nn_clamp, inb_n, t_lt, f_lt, t_le, f_le, t_eq, f_eq, ti_lt, fi_lt, ti_le, fi_le, ti_eq, fi_eq, ↓reduceIte, ite_true, ite_false, eq_self, decide_true, decide_false, Bool.true_and, Bool.and_true, Bool.false_and, Bool.and_false, Bool.true_or, Bool.or_true, Bool.false_or, Bool.or_false, bI_t, bI_f, bI_nand, n_mod, an11, an01, negn1, negn2, false_and, and_false, true_and, and_true, not_true_eq_false, not_false_eq_true, bI_n0, bI_n1, Bool.true_eq_false, Bool.false_eq_true, cI_s, cL_s, cV_s, cR_n, pm_bR_self, bI_ite, bL_ite, bV_ite, bR_ite, y_57]
      · rw [decide_eq_true (by omega)]
        simp (disch := omega) only [y_0, y_1, y_2, y_3, y_4, y_5, y_6, y_7, y_8, y_9, y_10, y_11, y_12, y_13, y_14, y_15, y_16, y_17, y_18, y_19, y_20, y_21, y_22, y_23, y_24, y_29, y_30, y_31, y_32, y_39, y_40, y_48, y_49, y_50, y_60, y_64, y_69, y_78, y_99, y_100, y_142, y_161, y_600, y_610, y_894, y_999, y_1000, y_1216, y_1276, neg1, neg2, nI_add, nI_mul, nn_sub, nn_lt, nn_le, nn_eq, in_lt, ni_lt, in_le, ni_le, in_eq, ni_eq, iI_lt, iI_le, iI_eq, nn_clamp, inb_n, t_lt, f_lt, t_le, f_le, t_eq, f_eq, ti_lt, fi_lt, ti_le, fi_le, ti_eq, fi_eq, ↓reduceIte, ite_true, ite_false, eq_self, decide_true, decide_false, Bool.true_and, Bool.and_true, Bool.false_and, Bool.and_false, Bool.true_or, Bool.or_true, Bool.false_or, Bool.or_false, bI_t, bI_f, bI_nand, n_mod, an11, an01, negn1, negn2, false_and, and_false, true_and, and_true, not_true_eq_false, not_false_eq_true, bI_n0, bI_n1, Bool.true_eq_false, Bool.false_eq_true, cI_s, cL_s, cV_s, cR_n, pm_bR_self, bI_ite, bL_ite, bV_ite, bR_ite, y_57]
  · rw [if_neg q, decide_eq_false q, Bool.false_and]
    simp (disch := omega) only [y_0, y_1, y_2, y_3, y_4, y_5, y_6, y_7, y_8, y_9, y_10, y_11, y_12, y_13, y_14, y_15, y_16, y_17, y_18, y_19, y_20, y_21, y_22, y_23, y_24, y_29, y_30, y_31, y_32, y_39, y_40, y_48, y_49, y_50, y_60, y_64, y_69, y_78, y_99, y_100, y_142, y_161, y_600, y_610, y_894, y_999, y_1000, y_1216, y_1276, neg1, neg2, nI_add, nI_mul, nn_sub, nn_lt, nn_le, nn_eq, in_lt, ni_lt, in_le, ni_le, in_eq, ni_eq, iI_lt, iI_le, iI_eq, nn_clamp, inb_n, t_lt, f_lt, t_le, f_le, t_eq, f_eq, ti_lt, fi_lt, ti_le, fi_le, ti_eq, fi_eq, ↓reduceIte, ite_true, ite_false, eq_self, decide_true, decide_false, Bool.true_and, Bool.and_true, Bool.false_and, Bool.and_false, Bool.true_or, Bool.or_true, Bool.false_or, Bool.or_false, bI_t, bI_f, bI_nand, n_mod, an11, an01, negn1, negn2, false_and, and_false, true_and, and_true, not_true_eq_false, not_false_eq_true, bI_n0, bI_n1, Bool.true_eq_false, Bool.false_eq_true, cI_s, cL_s, cV_s, cR_n, pm_bR_self, bI_ite, bL_ite, bV_ite, bR_ite]
def nuF (T : Nat → Nat) (w : Nat) : Nat → Nat
  | 0 => 0
  | m + 1 => 10 * nuF T w m + (T (w + m) - 48)
/-- the token that the reference looks at -/
def LkM (g : PH) (T : Nat → Nat) (n w : Nat) : Prop := g.1 8 0 4 = nI w ∧ g.1 8 0 3 = nI (tE T n w) ∧ (tK T n w = 0 → g.1 8 0 5 = nI 0) ∧ (tK T n w = 1 → g.1 8 0 7 = nI (wcM T w (tE T n w)) ∧ g.1 8 0 5 = nI (if wcM T w (tE T n w) = 99 then 4 else 3)) ∧ (tK T n w = 2 → g.1 8 0 6 = nI (nuF T w (tE T n w - w)) ∧ g.1 8 0 5 = nI 1) ∧ (tK T n w = 3 → g.1 8 0 5 = nI 2) ∧ (tK T n w = 4 → g.1 8 0 5 = nI 4)
theorem dig_198 {n : Nat} {T : Nat → Nat} (hn : n ≤ 600) {w : Nat} : ∀ r e g, n - e = r → w ≤ e → e ≤ n → TapM g n T → g.1 8 0 4 = nI w → g.1 8 0 3 = nI e → g.1 8 0 6 = nI (nuF T w (min (e - w) 2)) → (∀ i, w ≤ i → i < e → isD (T i) = true) → ∃ g', pm_ev (162, 198, [vr 8 0, none, none, none], [], g) = some (none, g') ∧ fr3 g g' ∧ g'.1 8 0 4 = nI w ∧ g'.1 8 0 3 = nI (run (fun i => isD (T i)) n e) ∧ (run (fun i => isD (T i)) n e - w ≤ 2 → g'.1 8 0 6 = nI (nuF T w (run (fun i => isD (T i)) n e - w)) ∧ g'.1 8 0 5 = nI 1) ∧ (¬ run (fun i => isD (T i)) n e - w ≤ 2 → g'.1 8 0 5 = nI 4) := by
  have stop : ∀ e g, w ≤ e → e ≤ n → TapM g n T → g.1 8 0 4 = nI w → g.1 8 0 3 = nI e → g.1 8 0 6 = nI (nuF T w (min (e - w) 2)) → (decide (e < n) && isD (T e)) = false → ∃ g', pm_ev (162, 198, [vr 8 0, none, none, none], [], g) = some (none, g') ∧ fr3 g g' ∧ g'.1 8 0 4 = nI w ∧ g'.1 8 0 3 = nI e ∧ (e - w ≤ 2 → g'.1 8 0 6 = nI (nuF T w (e - w)) ∧ g'.1 8 0 5 = nI 1) ∧ (¬ e - w ≤ 2 → g'.1 8 0 5 = nI 4) := fun e g hw he hT h4 h3 h6 hb => by
    have BA := byteAt_M hT hn he
    have ID := isDig_M g (n := n) (p := e) (T := T) (fun q => (hT.2 e q).1)
    rw [hb] at ID
    rw [E_X9_advance_198, h3, BA, cI_s, E_X9_advance_206, ID, cI_s, E_X9_advance_209, if_pos (by rfl), h3, h4]
    by_cases q : e - w ≤ 2
    · refine ⟨pm_sI g 8 0 5 (nI 1), ?_, fr3.sI g (by omega) _, ?_, ?_, fun _ => ⟨?_, sI_same _ _ _ _ _⟩, fun z => absurd q z⟩
      · simp (disch := omega) only [y_0, y_1, y_2, y_3, y_4, y_5, y_6, y_7, y_8, y_9, y_10, y_11, y_12, y_13, y_14, y_15, y_16, y_17, y_18, y_19, y_20, y_21, y_22, y_23, y_24, y_29, y_30, y_31, y_32, y_39, y_40, y_48, y_49, y_50, y_60, y_64, y_69, y_78, y_99, y_100, y_142, y_161, y_600, y_610, y_894, y_999, y_1000, y_1216, y_1276, neg1, neg2, nI_add, nI_mul, nn_sub, nn_lt, nn_le, nn_eq, in_lt, ni_lt, in_le, ni_le, in_eq, ni_eq, iI_lt, iI_le, iI_eq, nn_clamp, inb_n, t_lt, f_lt, t_le, f_le, t_eq, f_eq, ti_lt, fi_lt, ti_le, fi_le, ti_eq, fi_eq, ↓reduceIte, ite_true, ite_false, eq_self, decide_true, decide_false, Bool.true_and, Bool.and_true, Bool.false_and, Bool.and_false, Bool.true_or, Bool.or_true, Bool.false_or, Bool.or_false, bI_t, bI_f, bI_nand, n_mod, an11, an01, negn1, negn2, false_and, and_false, true_and, and_true, not_true_eq_false, not_false_eq_true, bI_n0, bI_n1, Bool.true_eq_false, Bool.false_eq_true, cI_s, cL_s, cV_s, cR_n, pm_bR_self, bI_ite, bL_ite, bV_ite, bR_ite]
      · rw [sI_pl _ _ _ _ _ (by decide)]; exact h4
      · rw [sI_pl _ _ _ _ _ (by decide)]; exact h3
      · rw [sI_pl _ _ _ _ _ (by decide), h6, Nat.min_eq_left q]
    · refine ⟨pm_sI g 8 0 5 (nI 4), ?_, fr3.sI g (by omega) _, ?_, ?_, fun z => absurd z q, fun _ => sI_same _ _ _ _ _⟩
      · simp (disch := omega) only [y_0, y_1, y_2, y_3, y_4, y_5, y_6, y_7, y_8, y_9, y_10, y_11, y_12, y_13, y_14, y_15, y_16, y_17, y_18, y_19, y_20, y_21, y_22, y_23, y_24, y_29, y_30, y_31, y_32, y_39, y_40, y_48, y_49, y_50, y_60, y_64, y_69, y_78, y_99, y_100, y_142, y_161, y_600, y_610, y_894, y_999, y_1000, y_1216, y_1276, neg1, neg2, nI_add, nI_mul, nn_sub, nn_lt, nn_le, nn_eq, in_lt, ni_lt, in_le, ni_le, in_eq, ni_eq, iI_lt, iI_le, iI_eq, nn_clamp, inb_n, t_lt, f_lt, t_le, f_le, t_eq, f_eq, ti_lt, fi_lt, ti_le, fi_le, ti_eq, fi_eq, ↓reduceIte, ite_true, ite_false, eq_self, decide_true, decide_false, Bool.true_and, Bool.and_true, Bool.false_and, Bool.and_false, Bool.true_or, Bool.or_true, Bool.false_or, Bool.or_false, bI_t, bI_f, bI_nand, n_mod, an11, an01, negn1, negn2, false_and, and_false, true_and, and_true, not_true_eq_false, not_false_eq_true, bI_n0, bI_n1, Bool.true_eq_false, Bool.false_eq_true, cI_s, cL_s, cV_s, cR_n, pm_bR_self, bI_ite, bL_ite, bV_ite, bR_ite]
      · rw [sI_pl _ _ _ _ _ (by decide)]; exact h4
      · rw [sI_pl _ _ _ _ _ (by decide)]; exact h3
  intro r
  induction r with
  | zero =>
    intro e g hr hw he hT h4 h3 h6 hin
    rw [run_e (by omega)]
    exact stop e g hw he hT h4 h3 h6 (by rw [decide_eq_false (by omega), Bool.false_and])
  | succ r ih =>
    intro e g hr hw he hT h4 h3 h6 hin
    have hen : e < n := by omega
    cases q : isD (T e)
    · rw [run_e (fun z => by rw [q] at z; cases z.2)]
      exact stop e g hw he hT h4 h3 h6 (by rw [q, Bool.and_false])
    · rw [run_s hen (by exact q)]
      have BA := byteAt_M hT hn he
      have ID := isDig_M g (n := n) (p := e) (T := T) (fun q => (hT.2 e q).1)
      rw [q, decide_eq_true hen] at ID
      have bve : bv T n e = nI (T e) := if_pos hen
      have hdig := of_decide_eq_true q
      -- what the number is then
      have nx : ∃ g1, pm_ev (162, 198, [vr 8 0, none, none, none], [], g) = pm_ev (162, 198, [vr 8 0, none, none, none], [], g1) ∧ fr3 g g1 ∧ g1.1 8 0 4 = nI w ∧ g1.1 8 0 3 = nI (e + 1) ∧ g1.1 8 0 6 = nI (nuF T w (min (e + 1 - w) 2)) := by
        by_cases q2 : e - w < 2
        · refine ⟨pm_sI (pm_sI g 8 0 6 (nI (10 * nuF T w (e - w) + (T e - 48)))) 8 0 3 (nI (e + 1)), ?_, (fr3.sI _ (by omega) _).tr (fr3.sI _ (by omega) _), ?_, sI_same _ _ _ _ _, ?_⟩
          · have nb : nuF T w (e - w) < 1000 := by
              have : e - w = 0 ∨ e - w = 1 := by omega
              rcases this with z | z
              · rw [z]; show 0 < 1000; decide
              · rw [z]
                show 10 * 0 + (T (w + 0) - 48) < 1000
                have := (hT.2 (w + 0) (by omega)).1
                omega
            rw [Nat.min_eq_left (by omega)] at h6
            rw [E_X9_advance_198, h3, BA, cI_s, E_X9_advance_206, ID, cI_s, E_X9_advance_209, if_neg (by decide), h3, h4]
            rw [if_pos (show nI e - nI w < 2 by rw [nn_sub hw, show (2 : Int32) = nI 2 from rfl, nn_lt (by omega) (by decide)]; exact q2), E_X9_advance_225, h3, BA, cI_s, bve, h6, E_X9_advance_241, E_X9_advance_248, sI_pl _ _ _ _ _ (by decide), h3]
            rw [show (10 : Int32) = nI 10 from rfl, show (48 : Int32) = nI 48 from rfl, show (1 : Int32) = nI 1 from rfl, nI_mul, nI_add, nI_add, nn_sub (by omega), show 10 * nuF T w (e - w) + T e - 48 = 10 * nuF T w (e - w) + (T e - 48) by omega]
          · rw [sI_pl _ _ _ _ _ (by decide), sI_pl _ _ _ _ _ (by decide)]; exact h4
          · rw [sI_pl _ _ _ _ _ (by decide), sI_same, Nat.min_eq_left (by omega), show e + 1 - w = (e - w) + 1 by omega]
            show _ = nI (10 * nuF T w (e - w) + (T (w + (e - w)) - 48))
            rw [show w + (e - w) = e by omega]
        · refine ⟨pm_sI g 8 0 3 (nI (e + 1)), ?_, fr3.sI _ (by omega) _, ?_, sI_same _ _ _ _ _, ?_⟩
          · rw [E_X9_advance_198, h3, BA, cI_s, E_X9_advance_206, ID, cI_s, E_X9_advance_209, if_neg (by decide), h3, h4]
            rw [if_neg (show ¬ nI e - nI w < 2 by rw [nn_sub hw, show (2 : Int32) = nI 2 from rfl, nn_lt (by omega) (by decide)]; exact q2), E_X9_advance_248, h3, show (1 : Int32) = nI 1 from rfl, nI_add]
          · rw [sI_pl _ _ _ _ _ (by decide)]; exact h4
          · rw [sI_pl _ _ _ _ _ (by decide), h6, Nat.min_eq_right (by omega), Nat.min_eq_right (by omega)]
      obtain ⟨g1, e1, f1, x4, x3, x6⟩ := nx
      obtain ⟨g', e2, f2, y1, y2, y3, y4⟩ := ih (e + 1) g1 (by omega) (by omega) (by omega) (hT.fr f1) x4 x3 x6 (fun i h1 h2 => by
        by_cases z : i = e
        · rw [z]; exact q
        · exact hin i h1 (by omega))
      exact ⟨g', e1.trans e2, f1.tr f2, y1, y2, y3, y4⟩
theorem ite_le {c : Prop} [Decidable c] {a b n : Nat} (ha : a ≤ n) (hb : b ≤ n) : (if c then a else b) ≤ n := by split <;> assumption
theorem wcv_le (v : Nat) : wcv v ≤ 99 := (ite_le (by decide) (ite_le (by decide) (ite_le (by decide) (ite_le (by decide) (ite_le (by decide) (ite_le (by decide) (ite_le (by decide) (ite_le (by decide) (ite_le (by decide) (ite_le (by decide) (ite_le (by decide) (ite_le (by decide) (ite_le (by decide) (ite_le (by decide) (ite_le (by decide) (ite_le (by decide) (ite_le (by decide) (ite_le (by decide) (ite_le (by decide) (ite_le (by decide) (by decide)))))))))))))))))))))
theorem let_77 {n : Nat} {T : Nat → Nat} (hn : n ≤ 600) {w : Nat} : ∀ r e g, n - e = r → w ≤ e → e ≤ n → TapM g n T → g.1 8 0 4 = nI w → g.1 8 0 3 = nI e → (∀ i, w ≤ i → i < e → isL (T i) = true) → ∃ g', pm_ev (162, 77, [vr 8 0, none, vl (lN (hq (fun k => T (w + k) - 96) (min (e - w) 8))), none], [], g) = some (none, g') ∧ fr3 g g' ∧ g'.1 8 0 4 = nI w ∧ g'.1 8 0 3 = nI (run (fun i => isL (T i)) n e) ∧ g'.1 8 0 7 = nI (wcM T w (run (fun i => isL (T i)) n e)) ∧ g'.1 8 0 5 = nI (if wcM T w (run (fun i => isL (T i)) n e) = 99 then 4 else 3) := by
  have hb : ∀ (e m : Nat), m ≤ 8 → w + m ≤ e → (∀ i, w ≤ i → i < e → isL (T i) = true) → hq (fun k => T (w + k) - 96) m < 2 ^ 40 := fun e m hm hw hin => by
    have h1 := hq_lt (d := fun k => T (w + k) - 96) m (fun i hi => by
      have := hin (w + i) (by omega) (by omega)
      unfold isL at this
      have := of_decide_eq_true this
      show T (w + i) - 96 ≤ 26
      omega)
    have h2 : 32 ^ m ≤ 32 ^ 8 := Nat.pow_le_pow_right (by decide) hm
    have h3 : (32 : Nat) ^ 8 = 2 ^ 40 := by decide
    omega
  have stop : ∀ e g, w ≤ e → e ≤ n → TapM g n T → g.1 8 0 4 = nI w → g.1 8 0 3 = nI e → (∀ i, w ≤ i → i < e → isL (T i) = true) → (decide (e < n) && isL (T e)) = false → ∃ g', pm_ev (162, 77, [vr 8 0, none, vl (lN (hq (fun k => T (w + k) - 96) (min (e - w) 8))), none], [], g) = some (none, g') ∧ fr3 g g' ∧ g'.1 8 0 4 = nI w ∧ g'.1 8 0 3 = nI e ∧ g'.1 8 0 7 = nI (wcM T w e) ∧ g'.1 8 0 5 = nI (if wcM T w e = 99 then 4 else 3) := fun e g hw he hT h4 h3 hin hbf => by
    have BA := byteAt_M hT hn he
    have IL := isLet_M g (n := n) (p := e) (T := T) (fun q => (hT.2 e q).1)
    rw [hbf] at IL
    have wl : wcM T w e ≤ 99 := by
      unfold wcM
      split
      · exact wcv_le _
      · omega
    have fin : pm_ev (162, 77, [vr 8 0, none, vl (lN (hq (fun k => T (w + k) - 96) (min (e - w) 8))), none], [], g) = pm_ev (162, 165, [vr 8 0, none, none, none], [], pm_sI g 8 0 7 (nI (wcM T w e))) := by
      rw [E_X9_advance_77, h3, BA, cI_s, E_X9_advance_85, IL, cI_s, E_X9_advance_88, if_pos (by rfl), h3, h4, nn_sub hw, show (8 : Int32) = nI 8 from rfl]
      unfold wcM
      by_cases q : e - w ≤ 8
      · rw [if_neg (fun z => by have := (nn_lt (by decide) (by omega)).mp z; omega), if_pos q, Nat.min_eq_left q, wordOf_M g (by have := hb e (e - w) q (by omega) hin; omega), cI_s, E_X9_advance_162]
      · rw [if_pos ((nn_lt (by decide) (by omega)).mpr (by omega)), if_neg q, E_X9_advance_162]
        rfl
    rw [fin, E_X9_advance_165, sI_same]
    by_cases q : wcM T w e = 99
    · refine ⟨pm_sI (pm_sI g 8 0 7 (nI (wcM T w e))) 8 0 5 (nI 4), ?_, (fr3.sI _ (by omega) _).tr (fr3.sI _ (by omega) _), ?_, ?_, ?_, ?_⟩
      · rw [q, if_pos (by rfl)]; rfl
      · simp (disch := omega) only [sI_pl]; exact h4
      · simp (disch := omega) only [sI_pl]; exact h3
      · simp (disch := omega) only [sI_pl, sI_same]
      · rw [sI_same, if_pos q]
    · refine ⟨pm_sI (pm_sI g 8 0 7 (nI (wcM T w e))) 8 0 5 (nI 3), ?_, (fr3.sI _ (by omega) _).tr (fr3.sI _ (by omega) _), ?_, ?_, ?_, ?_⟩
      · rw [show (99 : Int32) = nI 99 from rfl, if_neg (fun z => q ((nn_eq (by omega) (by decide)).mp z))]; rfl
      · simp (disch := omega) only [sI_pl]; exact h4
      · simp (disch := omega) only [sI_pl]; exact h3
      · simp (disch := omega) only [sI_pl, sI_same]
      · rw [sI_same, if_neg q]
  intro r
  induction r with
  | zero =>
    intro e g hr hw he hT h4 h3 hin
    rw [run_e (by omega)]
    exact stop e g hw he hT h4 h3 hin (by rw [decide_eq_false (by omega), Bool.false_and])
  | succ r ih =>
    intro e g hr hw he hT h4 h3 hin
    have hen : e < n := by omega
    cases q : isL (T e)
    · rw [run_e (fun z => by rw [q] at z; cases z.2)]
      exact stop e g hw he hT h4 h3 hin (by rw [q, Bool.and_false])
    · rw [run_s hen (by exact q)]
      have BA := byteAt_M hT hn he
      have IL := isLet_M g (n := n) (p := e) (T := T) (fun q => (hT.2 e q).1)
      rw [q, decide_eq_true hen] at IL
      have bve : bv T n e = nI (T e) := if_pos hen
      have hdig := of_decide_eq_true q
      have f1 : fr3 g (pm_sI g 8 0 3 (nI (e + 1))) := fr3.sI _ (by omega) _
      have nx : pm_ev (162, 77, [vr 8 0, none, vl (lN (hq (fun k => T (w + k) - 96) (min (e - w) 8))), none], [], g) = pm_ev (162, 77, [vr 8 0, none, vl (lN (hq (fun k => T (w + k) - 96) (min (e + 1 - w) 8))), none], [], pm_sI g 8 0 3 (nI (e + 1))) := by
        rw [E_X9_advance_77, h3, BA, cI_s, E_X9_advance_85, IL, cI_s, E_X9_advance_88, if_neg (by decide), h3, h4, nn_sub hw, show (8 : Int32) = nI 8 from rfl]
        by_cases q2 : e - w < 8
        · have v32 : (32 : Int64) = lN 32 := rfl
          have v96 : (96 : Int64) = lN 96 := rfl
          rw [if_pos ((nn_lt (by omega) (by decide)).mpr q2), E_X9_advance_105, h3, BA, cI_s, bve, E_X9_advance_118, E_X9_advance_125, h3, n_l (by omega), v32, v96, lN_mul, lN_add, lN_sub (by omega), Nat.min_eq_left (show e - w ≤ 8 by omega), Nat.min_eq_left (show e + 1 - w ≤ 8 by omega), show e + 1 - w = (e - w) + 1 by omega, show (1 : Int32) = nI 1 from rfl, nI_add]
          have : 32 * hq (fun k => T (w + k) - 96) (e - w) + T e - 96 = hq (fun k => T (w + k) - 96) (e - w + 1) := by
            show _ = 32 * hq (fun k => T (w + k) - 96) (e - w) + (T (w + (e - w)) - 96)
            rw [show w + (e - w) = e by omega]
            omega
          rw [this]
        · rw [if_neg (fun z => q2 ((nn_lt (by omega) (by decide)).mp z)), E_X9_advance_125, h3, Nat.min_eq_right (show 8 ≤ e - w by omega), Nat.min_eq_right (show 8 ≤ e + 1 - w by omega), show (1 : Int32) = nI 1 from rfl, nI_add]
      obtain ⟨g', e2, f2, y⟩ := ih (e + 1) (pm_sI g 8 0 3 (nI (e + 1))) (by omega) (by omega) (by omega) (hT.fr f1) (by rw [sI_pl _ _ _ _ _ (by decide)]; exact h4) (sI_same _ _ _ _ _) (fun i h1 h2 => by
        by_cases z : i = e
        · rw [z]; exact q
        · exact hin i h1 (by omega))
      exact ⟨g', nx.trans e2, f1.tr f2, y⟩
theorem adv_47 {n : Nat} {T : Nat → Nat} (hn : n ≤ 600) {w : Nat} {g : PH} (hw : w ≤ n) (hT : TapM g n T) (h4 : g.1 8 0 4 = nI w) (h3 : g.1 8 0 3 = nI w) : ∃ g', pm_ev (162, 47, [vr 8 0, none, none, none], [], g) = some (none, g') ∧ fr3 g g' ∧ LkM g' T n w := by
  have BA := byteAt_M hT hn hw
  have IL := isLet_M g (n := n) (p := w) (T := T) (fun q => (hT.2 w q).1)
  have ID := isDig_M g (n := n) (p := w) (T := T) (fun q => (hT.2 w q).1)
  rw [E_X9_advance_47, h3, BA, cI_s, E_X9_advance_55]
  by_cases q0 : w < n
  · obtain ⟨b1, b2⟩ := hT.2 w q0
    have bve : bv T n w = nI (T w) := if_pos q0
    rw [if_neg (show ¬ bv T n w < 0 by rw [bve, show (0 : Int32) = nI 0 from rfl, nn_lt (by omega) (by decide)]; omega), IL, cI_s, E_X9_advance_72]
    cases q1 : isL (T w)
    · rw [decide_eq_true q0, if_pos (by rfl), ID, cI_s, E_X9_advance_190]
      cases q2 : isD (T w)
      · have k0 : tK T n w = if T w = 59 then 3 else 4 := by unfold tK; rw [if_pos q0, q1, if_neg (by decide), q2, if_neg (by decide)]
        have e0 : tE T n w = w + 1 := by unfold tE; rw [if_pos q0, q1, if_neg (by decide), q2, if_neg (by decide)]
        rw [decide_eq_true q0, if_pos (by rfl), E_X9_advance_296, bve, h3, show (1 : Int32) = nI 1 from rfl, nI_add, show (59 : Int32) = nI 59 from rfl]
        by_cases q3 : T w = 59
        · rw [if_pos q3] at k0
          refine ⟨pm_sI (pm_sI g 8 0 3 (nI (w + 1))) 8 0 5 (nI 2), ?_, (fr3.sI _ (by omega) _).tr (fr3.sI _ (by omega) _), ?_, ?_, fun z => by omega, fun z => by omega, fun z => by omega, fun _ => sI_same _ _ _ _ _, fun z => by omega⟩
          · rw [q3, if_pos rfl]; rfl
          · simp (disch := omega) only [sI_pl]; exact h4
          · rw [e0, sI_pl _ _ _ _ _ (by decide), sI_same]
        · rw [if_neg q3] at k0
          refine ⟨pm_sI (pm_sI g 8 0 3 (nI (w + 1))) 8 0 5 (nI 4), ?_, (fr3.sI _ (by omega) _).tr (fr3.sI _ (by omega) _), ?_, ?_, fun z => by omega, fun z => by omega, fun z => by omega, fun z => by omega, fun _ => sI_same _ _ _ _ _⟩
          · rw [if_neg (fun z => q3 ((nn_eq (by omega) (by decide)).mp z))]; rfl
          · simp (disch := omega) only [sI_pl]; exact h4
          · rw [e0, sI_pl _ _ _ _ _ (by decide), sI_same]
      · have k0 : tK T n w = if run (fun i => isD (T i)) n w - w ≤ 2 then 2 else 4 := by unfold tK; rw [if_pos q0, q1, if_neg (by decide), q2, if_pos rfl]
        have e0 : tE T n w = run (fun i => isD (T i)) n w := by unfold tE; rw [if_pos q0, q1, if_neg (by decide), q2, if_pos rfl]
        have f1 : fr3 g (pm_sI g 8 0 6 (nI 0)) := fr3.sI _ (by omega) _
        obtain ⟨g', e, f, y1, y2, y3, y4⟩ := dig_198 hn _ w (pm_sI g 8 0 6 (nI 0)) rfl (Nat.le_refl _) hw (hT.fr f1) (by rw [sI_pl _ _ _ _ _ (by decide)]; exact h4) (by rw [sI_pl _ _ _ _ _ (by decide)]; exact h3) (by rw [sI_same, Nat.sub_self]; rfl) (fun i h1 h2 => by omega)
        refine ⟨g', ?_, f1.tr f, y1, by rw [e0]; exact y2, fun z => ?_, fun z => ?_, fun z => ?_, fun z => ?_, fun z => ?_⟩
        · rw [decide_eq_true q0, if_neg (by decide)]; exact e
        · rw [k0] at z; split at z <;> omega
        · rw [k0] at z; split at z <;> omega
        · rw [k0] at z
          by_cases q3 : run (fun i => isD (T i)) n w - w ≤ 2
          · rw [e0]; exact y3 q3
          · rw [if_neg q3] at z; omega
        · rw [k0] at z; split at z <;> omega
        · rw [k0] at z
          by_cases q3 : run (fun i => isD (T i)) n w - w ≤ 2
          · rw [if_pos q3] at z; omega
          · exact y4 q3
    · have k0 : tK T n w = 1 := by unfold tK; rw [if_pos q0, q1, if_pos rfl]
      have e0 : tE T n w = run (fun i => isL (T i)) n w := by unfold tE; rw [if_pos q0, q1, if_pos rfl]
      obtain ⟨g', e, f, y1, y2, y3, y4⟩ := let_77 hn _ w g rfl (Nat.le_refl _) hw hT h4 h3 (fun i h1 h2 => by omega)
      rw [Nat.sub_self] at e
      refine ⟨g', ?_, f, y1, by rw [e0]; exact y2, fun z => by omega, fun _ => by rw [e0]; exact ⟨y3, y4⟩, fun z => by omega, fun z => by omega, fun z => by omega⟩
      rw [decide_eq_true q0, if_neg (by decide)]
      exact e
  · have k0 : tK T n w = 0 := by unfold tK; rw [if_neg q0]
    have e0 : tE T n w = w := by unfold tE; rw [if_neg q0]
    have bve : bv T n w = iI (-1) := if_neg q0
    rw [if_pos (show bv T n w < 0 by rw [bve]; decide)]
    refine ⟨pm_sI g 8 0 5 (nI 0), rfl, fr3.sI _ (by omega) _, ?_, ?_, fun _ => sI_same _ _ _ _ _, fun z => by omega, fun z => by omega, fun z => by omega, fun z => by omega⟩
    · rw [sI_pl _ _ _ _ _ (by decide)]; exact h4
    · rw [e0, sI_pl _ _ _ _ _ (by decide)]; exact h3
theorem advance_M {n : Nat} {T : Nat → Nat} (hn : n ≤ 600) : ∀ r p g, n - p = r → p ≤ n → TapM g n T → g.1 8 0 3 = nI p → ∃ g', pm_ev (162, 0, [vr 8 0, none, none, none], [], g) = some (none, g') ∧ fr3 g g' ∧ LkM g' T n (tS T n p) := by
  have stop : ∀ p g, p ≤ n → TapM g n T → g.1 8 0 3 = nI p → ¬ (p < n ∧ isB (T p) = true) → ∃ g', pm_ev (162, 0, [vr 8 0, none, none, none], [], g) = some (none, g') ∧ fr3 g g' ∧ LkM g' T n p := fun p g hp hT h3 hb => by
    have BA := byteAt_M hT hn hp
    have nb : bv T n p ≠ 10 ∧ bv T n p ≠ 32 := by
      unfold bv
      by_cases q : p < n
      · have b1 := (hT.2 p q).1
        rw [if_pos q]
        constructor
        · intro z
          exact hb ⟨q, by unfold isB; rw [decide_eq_true (Or.inl ((nn_eq (by omega) (by decide)).mp (z.trans (show (10 : Int32) = nI 10 from rfl))))]⟩
        · intro z
          exact hb ⟨q, by unfold isB; rw [decide_eq_true (Or.inr ((nn_eq (by omega) (by decide)).mp (z.trans (show (32 : Int32) = nI 32 from rfl))))]⟩
      · rw [if_neg q]; decide
    have f1 : fr3 g (pm_sI g 8 0 4 (nI p)) := fr3.sI _ (by omega) _
    obtain ⟨g', e, f, l⟩ := adv_47 hn hp (hT.fr f1) (sI_same _ _ _ _ _) (by rw [sI_pl _ _ _ _ _ (by decide)]; exact h3)
    refine ⟨g', ?_, f1.tr f, l⟩
    rw [E_X9_advance, h3, BA, cI_s, E_X9_advance_8, if_neg nb.1, h3, BA, cI_s, E_X9_advance_21, if_neg nb.2, h3]
    exact e
  intro r
  induction r with
  | zero =>
    intro p g hr hp hT h3
    have e : tS T n p = p := run_e (by omega)
    rw [e]
    exact stop p g hp hT h3 (by omega)
  | succ r ih =>
    intro p g hr hp hT h3
    by_cases q : p < n ∧ isB (T p) = true
    · have e : tS T n p = tS T n (p + 1) := run_s q.1 q.2
      have BA := byteAt_M hT hn hp
      have bve : bv T n p = nI (T p) := if_pos q.1
      have f1 : fr3 g (pm_sI g 8 0 3 (nI (p + 1))) := fr3.sI _ (by omega) _
      obtain ⟨g', e2, f, l⟩ := ih (p + 1) (pm_sI g 8 0 3 (nI (p + 1))) (by omega) (by omega) (hT.fr f1) (sI_same _ _ _ _ _)
      refine ⟨g', ?_, f1.tr f, by rw [e]; exact l⟩
      have qq := q.2
      unfold isB at qq
      have qq := of_decide_eq_true qq
      rw [E_X9_advance, h3, BA, cI_s, E_X9_advance_8, bve]
      by_cases q1 : T p = 10
      · rw [q1, if_pos (by rfl), h3, show (1 : Int32) = nI 1 from rfl, nI_add]
        exact e2
      · have q2 : T p = 32 := by omega
        rw [show (10 : Int32) = nI 10 from rfl, if_neg (fun z => q1 ((nn_eq (by omega) (by decide)).mp z)), h3, BA, cI_s, E_X9_advance_21, bve, q2, if_pos (by rfl), h3, show (1 : Int32) = nI 1 from rfl, nI_add]
        exact e2
    · have e : tS T n p = p := run_e q
      rw [e]
      exact stop p g hp hT h3 q
