/-! ===== ROWS ===== -/
def inB (c : AC) (x y : Nat) : Bool := decide (x < (c (0)).val) && decide (y < (c (1)).val)
def boardS (c : AC) (i : Nat) : Bool := inB c (i % 8) (i / 8)
theorem board_14 {h : PH} {j : Nat} {c : AC} (hv : cV c) (hC : CoastC h j c) : ∀ r k, k + r = (c (1)).val → pm_ev (10, 14, [vr 0 j, vl (lS (fun i => decide (i < (c (0)).val))), none, vl (lS (fun i => decide (i % 8 < (c (0)).val) && decide (i / 8 < k))), none, vi (nI k)], [], h) = some (some (vl (lS (boardS c))), h) := by
  have hV1 := hv.1
  have c1 := hC.1.2.1
  intro r
  induction r with
  | zero =>
    intro k hk
    have hk : k = (c (1)).val := by omega
    subst hk
    rw [E_X0_board_14]
    simp (disch := omega) only [y_0, y_1, y_2, y_3, y_4, y_5, y_6, y_7, y_8, y_9, y_10, y_11, y_12, y_13, y_14, y_15, y_16, y_17, y_18, y_19, y_20, y_21, y_22, y_23, y_24, y_29, y_30, y_31, y_32, y_39, y_40, y_48, y_49, y_50, y_60, y_64, y_69, y_78, y_99, y_100, y_142, y_161, y_600, y_610, y_894, y_999, y_1000, y_1216, y_1276, neg1, neg2, nI_add, nI_mul, nn_sub, nn_lt, nn_le, nn_eq, in_lt, ni_lt, in_le, ni_le, in_eq, ni_eq, iI_lt, iI_le, iI_eq, nn_clamp, inb_n, t_lt, f_lt, t_le, f_le, t_eq, f_eq, ti_lt, fi_lt, ti_le, fi_le, ti_eq, fi_eq, ↓reduceIte, ite_true, ite_false, eq_self, decide_true, decide_false, Bool.true_and, Bool.and_true, Bool.false_and, Bool.and_false, Bool.true_or, Bool.or_true, Bool.false_or, Bool.or_false, bI_t, bI_f, bI_nand, n_mod, an11, an01, negn1, negn2, false_and, and_false, true_and, and_true, not_true_eq_false, not_false_eq_true, bI_n0, bI_n1, Bool.true_eq_false, Bool.false_eq_true, cI_s, cL_s, cV_s, cR_n, pm_bR_self, bI_ite, bL_ite, bV_ite, bR_ite, c1]
    rfl
  | succ r ih =>
    intro k hk
    have e := ih (k + 1) (by omega)
    have e2 : lS (fun i => decide (i % 8 < (c (0)).val) && decide (i / 8 < k + 1)) = lS (fun i => decide (i % 8 < (c (0)).val) && decide (i / 8 < k)) ||| lS (fun i => decide (8 * k ≤ i) && decide (i - 8 * k < (c (0)).val)) := by
      rw [lS_or]
      refine lS_cong (fun i hi => ?_)
      by_cases a1 : i / 8 < k
      · have a2 : ¬ 8 * k ≤ i := by omega
        simp [a1, a2, show i / 8 < k + 1 by omega]
      · by_cases a3 : i / 8 = k
        · have : i % 8 = i - 8 * k := by omega
          rw [this]
          simp [a1, show 8 * k ≤ i by omega, show i / 8 < k + 1 by omega]
        · have a2 : ¬ (i - 8 * k < (c (0)).val) := by omega
          simp [a1, a2, show ¬ i / 8 < k + 1 by omega]
    rw [e2] at e
    rw [E_X0_board_14]
    simp (disch := omega) only [y_0, y_1, y_2, y_3, y_4, y_5, y_6, y_7, y_8, y_9, y_10, y_11, y_12, y_13, y_14, y_15, y_16, y_17, y_18, y_19, y_20, y_21, y_22, y_23, y_24, y_29, y_30, y_31, y_32, y_39, y_40, y_48, y_49, y_50, y_60, y_64, y_69, y_78, y_99, y_100, y_142, y_161, y_600, y_610, y_894, y_999, y_1000, y_1216, y_1276, neg1, neg2, nI_add, nI_mul, nn_sub, nn_lt, nn_le, nn_eq, in_lt, ni_lt, in_le, ni_le, in_eq, ni_eq, iI_lt, iI_le, iI_eq, nn_clamp, inb_n, t_lt, f_lt, t_le, f_le, t_eq, f_eq, ti_lt, fi_lt, ti_le, fi_le, ti_eq, fi_eq, ↓reduceIte, ite_true, ite_false, eq_self, decide_true, decide_false, Bool.true_and, Bool.and_true, Bool.false_and, Bool.and_false, Bool.true_or, Bool.or_true, Bool.false_or, Bool.or_false, bI_t, bI_f, bI_nand, n_mod, an11, an01, negn1, negn2, false_and, and_false, true_and, and_true, not_true_eq_false, not_false_eq_true, bI_n0, bI_n1, Bool.true_eq_false, Bool.false_eq_true, cI_s, cL_s, cV_s, cR_n, pm_bR_self, bI_ite, bL_ite, bV_ite, bR_ite, c1, lS_shl]
    exact e
theorem board_C {h : PH} {j : Nat} {c : AC} (hv : cV c) (hC : CoastC h j c) : pm_ev (10, 0, [vr 0 j, none, none, none, none, none], [], h) = some (some (vl (lS (boardS c))), h) := by
  have hV1 := hv.1
  have c0 := hC.1.1
  have e := board_14 hv hC _ 0 (Nat.zero_add _)
  have e0 : lS (fun i => decide (i % 8 < (c (0)).val) && decide (i / 8 < 0)) = 0 := by
    rw [lS_0]; exact lS_cong (fun i _ => by simp)
  rw [e0] at e
  rw [E_X0_board]
  simp (disch := omega) only [y_0, y_1, y_2, y_3, y_4, y_5, y_6, y_7, y_8, y_9, y_10, y_11, y_12, y_13, y_14, y_15, y_16, y_17, y_18, y_19, y_20, y_21, y_22, y_23, y_24, y_29, y_30, y_31, y_32, y_39, y_40, y_48, y_49, y_50, y_60, y_64, y_69, y_78, y_99, y_100, y_142, y_161, y_600, y_610, y_894, y_999, y_1000, y_1216, y_1276, neg1, neg2, nI_add, nI_mul, nn_sub, nn_lt, nn_le, nn_eq, in_lt, ni_lt, in_le, ni_le, in_eq, ni_eq, iI_lt, iI_le, iI_eq, nn_clamp, inb_n, t_lt, f_lt, t_le, f_le, t_eq, f_eq, ti_lt, fi_lt, ti_le, fi_le, ti_eq, fi_eq, ↓reduceIte, ite_true, ite_false, eq_self, decide_true, decide_false, Bool.true_and, Bool.and_true, Bool.false_and, Bool.and_false, Bool.true_or, Bool.or_true, Bool.false_or, Bool.or_false, bI_t, bI_f, bI_nand, n_mod, an11, an01, negn1, negn2, false_and, and_false, true_and, and_true, not_true_eq_false, not_false_eq_true, bI_n0, bI_n1, Bool.true_eq_false, Bool.false_eq_true, cI_s, cL_s, cV_s, cR_n, pm_bR_self, bI_ite, bL_ite, bV_ite, bR_ite, c0, lS_one, lS_row]
  exact e
/-- cells of a row without a rock -/
def aOpen (c : AC) (y : Nat) : Nat := fb_ct (fun x => !decide ((c (200+(8*y+x))).val = 1)) (c (0)).val
theorem aOpen_le (c : AC) (y : Nat) : aOpen c y ≤ (c (0)).val := fb_ct_le _ _
theorem lS_255 : (255 : Int64) = lS (fun i => decide (i < 8)) := lN_lS (n := 255) (by decide) (by decide +kernel)
theorem prize_C {h : PH} {j : Nat} {c : AC} (hv : cV c) (hC : CoastC h j c) {y : Nat} (hy : y < (c (1)).val) : pm_ev (84, 0, [vr 0 j, vi (nI y), none, none], [], h) = some (some (vi (nI (aOpen c y))), h) := by
  have hV1 := hv.1
  have cr := hC.1.2.2.2.2.2.2
  have B := bc_long (fun i => (decide (i + 8 * y < 64) && (boardS c (i + 8 * y) && !decide ((c (200+(i + 8 * y))).val = 1))) && decide (i < 8)) h
  have e : fb_ct (fun i => (decide (i + 8 * y < 64) && (boardS c (i + 8 * y) && !decide ((c (200+(i + 8 * y))).val = 1))) && decide (i < 8)) 64 = aOpen c y := by
    unfold aOpen
    rw [← ct_64 (fun x => !decide ((c (200+(8*y+x))).val = 1)) (show (c (0)).val ≤ 64 by omega)]
    refine fb_ct_cong (fun i _ => ?_)
    unfold boardS inB
    by_cases q : i < (c (0)).val
    · rw [show (i + 8 * y) % 8 = i by omega, show (i + 8 * y) / 8 = y by omega, show i + 8 * y = 8 * y + i by omega]
      simp [q, hy, show 8 * y + i < 64 by omega, show i < 8 by omega]
    · by_cases q8 : i < 8
      · rw [show (i + 8 * y) % 8 = i by omega]
        simp [q]
      · simp [q, q8]
  rw [e] at B
  rw [E_X5_prize]
  simp (disch := omega) only [y_0, y_1, y_2, y_3, y_4, y_5, y_6, y_7, y_8, y_9, y_10, y_11, y_12, y_13, y_14, y_15, y_16, y_17, y_18, y_19, y_20, y_21, y_22, y_23, y_24, y_29, y_30, y_31, y_32, y_39, y_40, y_48, y_49, y_50, y_60, y_64, y_69, y_78, y_99, y_100, y_142, y_161, y_600, y_610, y_894, y_999, y_1000, y_1216, y_1276, neg1, neg2, nI_add, nI_mul, nn_sub, nn_lt, nn_le, nn_eq, in_lt, ni_lt, in_le, ni_le, in_eq, ni_eq, iI_lt, iI_le, iI_eq, nn_clamp, inb_n, t_lt, f_lt, t_le, f_le, t_eq, f_eq, ti_lt, fi_lt, ti_le, fi_le, ti_eq, fi_eq, ↓reduceIte, ite_true, ite_false, eq_self, decide_true, decide_false, Bool.true_and, Bool.and_true, Bool.false_and, Bool.and_false, Bool.true_or, Bool.or_true, Bool.false_or, Bool.or_false, bI_t, bI_f, bI_nand, n_mod, an11, an01, negn1, negn2, false_and, and_false, true_and, and_true, not_true_eq_false, not_false_eq_true, bI_n0, bI_n1, Bool.true_eq_false, Bool.false_eq_true, cI_s, cL_s, cV_s, cR_n, pm_bR_self, bI_ite, bL_ite, bV_ite, bR_ite, board_C hv hC, cr, lS_not, lS_and, lS_shr, lS_255, B]
theorem abs_n {a b : Nat} (ha : a < 1000) (hb : b < 1000) : (if nI 0 ≤ iI ((a : Int) - b) then iI ((a : Int) - b) else nI 0 - iI ((a : Int) - b)) = nI (max a b - min a b) := by
  by_cases q : b ≤ a
  · rw [if_pos (by rw [ni_le (by decide) (by omega) (by omega)]; omega), iI_toNat (by omega)]
    congr 1; omega
  · rw [if_neg (by rw [ni_le (by decide) (by omega) (by omega)]; omega), iI_nsub, iI_toNat (by omega)]
    congr 1; omega
theorem wins_C {h : PH} {j : Nat} {c : AC} (hv : cV c) (hC : CoastC h j c) {r a g : Nat} (hr : r < 8) (ha : a < (c (1)).val) (hg : g < (c (1)).val) : pm_ev (85, 0, [vr 0 j, vi (nI r), vi (nI a), vi (nI g)], [], h) = some (some (vi (nI (if r < max a g - min a g then aOpen c a else 0))), h) := by
  have hV1 := hv.1
  rw [E_X5_pirateWins, nI_sub, show ((0 : Int32) = nI 0) from rfl, abs_n (by omega) (by omega)]
  by_cases q : r < max a g - min a g
  · simp (disch := omega) only [y_0, y_1, y_2, y_3, y_4, y_5, y_6, y_7, y_8, y_9, y_10, y_11, y_12, y_13, y_14, y_15, y_16, y_17, y_18, y_19, y_20, y_21, y_22, y_23, y_24, y_29, y_30, y_31, y_32, y_39, y_40, y_48, y_49, y_50, y_60, y_64, y_69, y_78, y_99, y_100, y_142, y_161, y_600, y_610, y_894, y_999, y_1000, y_1216, y_1276, neg1, neg2, nI_add, nI_mul, nn_sub, nn_lt, nn_le, nn_eq, in_lt, ni_lt, in_le, ni_le, in_eq, ni_eq, iI_lt, iI_le, iI_eq, nn_clamp, inb_n, t_lt, f_lt, t_le, f_le, t_eq, f_eq, ti_lt, fi_lt, ti_le, fi_le, ti_eq, fi_eq, ↓reduceIte, ite_true, ite_false, eq_self, decide_true, decide_false, Bool.true_and, Bool.and_true, Bool.false_and, Bool.and_false, Bool.true_or, Bool.or_true, Bool.false_or, Bool.or_false, bI_t, bI_f, bI_nand, n_mod, an11, an01, negn1, negn2, false_and, and_false, true_and, and_true, not_true_eq_false, not_false_eq_true, bI_n0, bI_n1, Bool.true_eq_false, Bool.false_eq_true, cI_s, cL_s, cV_s, cR_n, pm_bR_self, bI_ite, bL_ite, bV_ite, bR_ite, prize_C hv hC ha]
  · simp (disch := omega) only [y_0, y_1, y_2, y_3, y_4, y_5, y_6, y_7, y_8, y_9, y_10, y_11, y_12, y_13, y_14, y_15, y_16, y_17, y_18, y_19, y_20, y_21, y_22, y_23, y_24, y_29, y_30, y_31, y_32, y_39, y_40, y_48, y_49, y_50, y_60, y_64, y_69, y_78, y_99, y_100, y_142, y_161, y_600, y_610, y_894, y_999, y_1000, y_1216, y_1276, neg1, neg2, nI_add, nI_mul, nn_sub, nn_lt, nn_le, nn_eq, in_lt, ni_lt, in_le, ni_le, in_eq, ni_eq, iI_lt, iI_le, iI_eq, nn_clamp, inb_n, t_lt, f_lt, t_le, f_le, t_eq, f_eq, ti_lt, fi_lt, ti_le, fi_le, ti_eq, fi_eq, ↓reduceIte, ite_true, ite_false, eq_self, decide_true, decide_false, Bool.true_and, Bool.and_true, Bool.false_and, Bool.and_false, Bool.true_or, Bool.or_true, Bool.false_or, Bool.or_false, bI_t, bI_f, bI_nand, n_mod, an11, an01, negn1, negn2, false_and, and_false, true_and, and_true, not_true_eq_false, not_false_eq_true, bI_n0, bI_n1, Bool.true_eq_false, Bool.false_eq_true, cI_s, cL_s, cV_s, cR_n, pm_bR_self, bI_ite, bL_ite, bV_ite, bR_ite, ]
theorem guards_C {h : PH} {j : Nat} {c : AC} (hv : cV c) (hC : CoastC h j c) {r a g : Nat} (hr : r < 8) (ha : a < (c (1)).val) (hg : g < (c (1)).val) : pm_ev (86, 0, [vr 0 j, vi (nI r), vi (nI a), vi (nI g)], [], h) = some (some (vi (nI (if r < max a g - min a g then 0 else aOpen c a))), h) := by
  have hV1 := hv.1
  rw [E_X5_guardWins, nI_sub, show ((0 : Int32) = nI 0) from rfl, abs_n (by omega) (by omega)]
  by_cases q : r < max a g - min a g
  · simp (disch := omega) only [y_0, y_1, y_2, y_3, y_4, y_5, y_6, y_7, y_8, y_9, y_10, y_11, y_12, y_13, y_14, y_15, y_16, y_17, y_18, y_19, y_20, y_21, y_22, y_23, y_24, y_29, y_30, y_31, y_32, y_39, y_40, y_48, y_49, y_50, y_60, y_64, y_69, y_78, y_99, y_100, y_142, y_161, y_600, y_610, y_894, y_999, y_1000, y_1216, y_1276, neg1, neg2, nI_add, nI_mul, nn_sub, nn_lt, nn_le, nn_eq, in_lt, ni_lt, in_le, ni_le, in_eq, ni_eq, iI_lt, iI_le, iI_eq, nn_clamp, inb_n, t_lt, f_lt, t_le, f_le, t_eq, f_eq, ti_lt, fi_lt, ti_le, fi_le, ti_eq, fi_eq, ↓reduceIte, ite_true, ite_false, eq_self, decide_true, decide_false, Bool.true_and, Bool.and_true, Bool.false_and, Bool.and_false, Bool.true_or, Bool.or_true, Bool.false_or, Bool.or_false, bI_t, bI_f, bI_nand, n_mod, an11, an01, negn1, negn2, false_and, and_false, true_and, and_true, not_true_eq_false, not_false_eq_true, bI_n0, bI_n1, Bool.true_eq_false, Bool.false_eq_true, cI_s, cL_s, cV_s, cR_n, pm_bR_self, bI_ite, bL_ite, bV_ite, bR_ite, ]
  · simp (disch := omega) only [y_0, y_1, y_2, y_3, y_4, y_5, y_6, y_7, y_8, y_9, y_10, y_11, y_12, y_13, y_14, y_15, y_16, y_17, y_18, y_19, y_20, y_21, y_22, y_23, y_24, y_29, y_30, y_31, y_32, y_39, y_40, y_48, y_49, y_50, y_60, y_64, y_69, y_78, y_99, y_100, y_142, y_161, y_600, y_610, y_894, y_999, y_1000, y_1216, y_1276, neg1, neg2, nI_add, nI_mul, nn_sub, nn_lt, nn_le, nn_eq, in_lt, ni_lt, in_le, ni_le, in_eq, ni_eq, iI_lt, iI_le, iI_eq, nn_clamp, inb_n, t_lt, f_lt, t_le, f_le, t_eq, f_eq, ti_lt, fi_lt, ti_le, fi_le, ti_eq, fi_eq, ↓reduceIte, ite_true, ite_false, eq_self, decide_true, decide_false, Bool.true_and, Bool.and_true, Bool.false_and, Bool.and_false, Bool.true_or, Bool.or_true, Bool.false_or, Bool.or_false, bI_t, bI_f, bI_nand, n_mod, an11, an01, negn1, negn2, false_and, and_false, true_and, and_true, not_true_eq_false, not_false_eq_true, bI_n0, bI_n1, Bool.true_eq_false, Bool.false_eq_true, cI_s, cL_s, cV_s, cR_n, pm_bR_self, bI_ite, bL_ite, bV_ite, bR_ite, prize_C hv hC ha]
def aPW (c : AC) (r a g : Nat) : Nat := if r < max a g - min a g then aOpen c a else 0
def aGW (c : AC) (r a g : Nat) : Nat := if r < max a g - min a g then 0 else aOpen c a
theorem aPW_le {c : AC} (hv : cV c) (r a g : Nat) : aPW c r a g ≤ 8 := by
  have h1 := aOpen_le c a
  have hV1 := hv.1
  unfold aPW; split <;> omega
theorem aGW_le {c : AC} (hv : cV c) (r a g : Nat) : aGW c r a g ≤ 8 := by
  have h1 := aOpen_le c a
  have hV1 := hv.1
  unfold aGW; split <;> omega
/-- a row by which one of the two would do better -/
def aBet (c : AC) (r a g k : Nat) : Bool := decide (aPW c r a g < aPW c r k g) || decide (aGW c r a g < aGW c r a k)
def aRest (c : AC) (r a g : Nat) : Bool := !anyB (aBet c r a g) (c (1)).val
theorem isRest_C21 {h : PH} {j : Nat} {c : AC} (hv : cV c) (hC : CoastC h j c) {r a g : Nat} (hr : r < 8) (ha : a < (c (1)).val) (hg : g < (c (1)).val) : ∀ n k, k + n = (c (1)).val → (∀ q, q < k → aBet c r a g q = false) → pm_ev (87, 21, [vr 0 j, vi (nI r), vi (nI a), vi (nI g), vi (nI (aPW c r a g)), vi (nI (aGW c r a g)), vi (nI k)], [], h) = some (some (vi (bI (aRest c r a g))), h) := by
  have hV1 := hv.1
  have c1 := hC.1.2.1
  intro n
  induction n with
  | zero =>
    intro k hk hf
    have hk : k = (c (1)).val := by omega
    subst hk
    rw [E_X5_isRest_21]
    unfold aRest
    rw [anyB_f.mpr hf]
    simp (disch := omega) only [y_0, y_1, y_2, y_3, y_4, y_5, y_6, y_7, y_8, y_9, y_10, y_11, y_12, y_13, y_14, y_15, y_16, y_17, y_18, y_19, y_20, y_21, y_22, y_23, y_24, y_29, y_30, y_31, y_32, y_39, y_40, y_48, y_49, y_50, y_60, y_64, y_69, y_78, y_99, y_100, y_142, y_161, y_600, y_610, y_894, y_999, y_1000, y_1216, y_1276, neg1, neg2, nI_add, nI_mul, nn_sub, nn_lt, nn_le, nn_eq, in_lt, ni_lt, in_le, ni_le, in_eq, ni_eq, iI_lt, iI_le, iI_eq, nn_clamp, inb_n, t_lt, f_lt, t_le, f_le, t_eq, f_eq, ti_lt, fi_lt, ti_le, fi_le, ti_eq, fi_eq, ↓reduceIte, ite_true, ite_false, eq_self, decide_true, decide_false, Bool.true_and, Bool.and_true, Bool.false_and, Bool.and_false, Bool.true_or, Bool.or_true, Bool.false_or, Bool.or_false, bI_t, bI_f, bI_nand, n_mod, an11, an01, negn1, negn2, false_and, and_false, true_and, and_true, not_true_eq_false, not_false_eq_true, bI_n0, bI_n1, Bool.true_eq_false, Bool.false_eq_true, cI_s, cL_s, cV_s, cR_n, pm_bR_self, bI_ite, bL_ite, bV_ite, bR_ite, c1, Bool.not_false]
  | succ n ih =>
    intro k hk hf
    have hk2 : k < (c (1)).val := by omega
    have W := wins_C hv hC hr hk2 hg
    have G := guards_C hv hC hr ha hk2
    change pm_ev _ = some (some (vi (nI (aPW c r k g))), h) at W
    change pm_ev _ = some (some (vi (nI (aGW c r a k))), h) at G
    have b1 := aPW_le hv r a g
    have b2 := aPW_le hv r k g
    have b3 := aGW_le hv r a g
    have b4 := aGW_le hv r a k
    rw [E_X5_isRest_21]
    by_cases q1 : aPW c r a g < aPW c r k g
    · have e : aRest c r a g = false := by unfold aRest; rw [anyB_hit hk2 (by unfold aBet; rw [decide_eq_true q1, Bool.true_or])]; rfl
      rw [e]
      simp (disch := omega) only [y_0, y_1, y_2, y_3, y_4, y_5, y_6, y_7, y_8, y_9, y_10, y_11, y_12, y_13, y_14, y_15, y_16, y_17, y_18, y_19, y_20, y_21, y_22, y_23, y_24, y_29, y_30, y_31, y_32, y_39, y_40, y_48, y_49, y_50, y_60, y_64, y_69, y_78, y_99, y_100, y_142, y_161, y_600, y_610, y_894, y_999, y_1000, y_1216, y_1276, neg1, neg2, nI_add, nI_mul, nn_sub, nn_lt, nn_le, nn_eq, in_lt, ni_lt, in_le, ni_le, in_eq, ni_eq, iI_lt, iI_le, iI_eq, nn_clamp, inb_n, t_lt, f_lt, t_le, f_le, t_eq, f_eq, ti_lt, fi_lt, ti_le, fi_le, ti_eq, fi_eq, ↓reduceIte, ite_true, ite_false, eq_self, decide_true, decide_false, Bool.true_and, Bool.and_true, Bool.false_and, Bool.and_false, Bool.true_or, Bool.or_true, Bool.false_or, Bool.or_false, bI_t, bI_f, bI_nand, n_mod, an11, an01, negn1, negn2, false_and, and_false, true_and, and_true, not_true_eq_false, not_false_eq_true, bI_n0, bI_n1, Bool.true_eq_false, Bool.false_eq_true, cI_s, cL_s, cV_s, cR_n, pm_bR_self, bI_ite, bL_ite, bV_ite, bR_ite, c1, W]
    · by_cases q2 : aGW c r a g < aGW c r a k
      · have e : aRest c r a g = false := by unfold aRest; rw [anyB_hit hk2 (by unfold aBet; rw [decide_eq_true q2, Bool.or_true])]; rfl
        rw [e]
        simp (disch := omega) only [y_0, y_1, y_2, y_3, y_4, y_5, y_6, y_7, y_8, y_9, y_10, y_11, y_12, y_13, y_14, y_15, y_16, y_17, y_18, y_19, y_20, y_21, y_22, y_23, y_24, y_29, y_30, y_31, y_32, y_39, y_40, y_48, y_49, y_50, y_60, y_64, y_69, y_78, y_99, y_100, y_142, y_161, y_600, y_610, y_894, y_999, y_1000, y_1216, y_1276, neg1, neg2, nI_add, nI_mul, nn_sub, nn_lt, nn_le, nn_eq, in_lt, ni_lt, in_le, ni_le, in_eq, ni_eq, iI_lt, iI_le, iI_eq, nn_clamp, inb_n, t_lt, f_lt, t_le, f_le, t_eq, f_eq, ti_lt, fi_lt, ti_le, fi_le, ti_eq, fi_eq, ↓reduceIte, ite_true, ite_false, eq_self, decide_true, decide_false, Bool.true_and, Bool.and_true, Bool.false_and, Bool.and_false, Bool.true_or, Bool.or_true, Bool.false_or, Bool.or_false, bI_t, bI_f, bI_nand, n_mod, an11, an01, negn1, negn2, false_and, and_false, true_and, and_true, not_true_eq_false, not_false_eq_true, bI_n0, bI_n1, Bool.true_eq_false, Bool.false_eq_true, cI_s, cL_s, cV_s, cR_n, pm_bR_self, bI_ite, bL_ite, bV_ite, bR_ite, c1, W, G]
      · have e := ih (k + 1) (by omega) (fun q hq => by
          by_cases e : q = k
          · subst e; unfold aBet; rw [decide_eq_false q1, decide_eq_false q2]; rfl
          · exact hf q (by omega))
        simp (disch := omega) only [y_0, y_1, y_2, y_3, y_4, y_5, y_6, y_7, y_8, y_9, y_10, y_11, y_12, y_13, y_14, y_15, y_16, y_17, y_18, y_19, y_20, y_21, y_22, y_23, y_24, y_29, y_30, y_31, y_32, y_39, y_40, y_48, y_49, y_50, y_60, y_64, y_69, y_78, y_99, y_100, y_142, y_161, y_600, y_610, y_894, y_999, y_1000, y_1216, y_1276, neg1, neg2, nI_add, nI_mul, nn_sub, nn_lt, nn_le, nn_eq, in_lt, ni_lt, in_le, ni_le, in_eq, ni_eq, iI_lt, iI_le, iI_eq, nn_clamp, inb_n, t_lt, f_lt, t_le, f_le, t_eq, f_eq, ti_lt, fi_lt, ti_le, fi_le, ti_eq, fi_eq, ↓reduceIte, ite_true, ite_false, eq_self, decide_true, decide_false, Bool.true_and, Bool.and_true, Bool.false_and, Bool.and_false, Bool.true_or, Bool.or_true, Bool.false_or, Bool.or_false, bI_t, bI_f, bI_nand, n_mod, an11, an01, negn1, negn2, false_and, and_false, true_and, and_true, not_true_eq_false, not_false_eq_true, bI_n0, bI_n1, Bool.true_eq_false, Bool.false_eq_true, cI_s, cL_s, cV_s, cR_n, pm_bR_self, bI_ite, bL_ite, bV_ite, bR_ite, c1, W, G]
        exact e
theorem isRest_C {h : PH} {j : Nat} {c : AC} (hv : cV c) (hC : CoastC h j c) {r a g : Nat} (hr : r < 8) (ha : a < (c (1)).val) (hg : g < (c (1)).val) : pm_ev (87, 0, [vr 0 j, vi (nI r), vi (nI a), vi (nI g), none, none, none], [], h) = some (some (vi (bI (aRest c r a g))), h) := by
  have W := wins_C hv hC hr ha hg
  have G := guards_C hv hC hr ha hg
  rw [E_X5_isRest, W, bI_s, G, bI_s]
  exact isRest_C21 hv hC hr ha hg _ 0 (Nat.zero_add _) (fun q hq => absurd hq (by omega))
/-- couples of rows that rest -/
def aCoup (c : AC) (r k : Nat) : Bool := (decide (k / 8 < (c (1)).val) && decide (k % 8 < (c (1)).val)) && aRest c r (k / 8) (k % 8)
theorem rests_C {h : PH} {j : Nat} {c : AC} (hv : cV c) (hC : CoastC h j c) {r : Nat} (hr : r < 8) : ∀ n k, k + n = 8 * (c (1)).val → pm_ev (88, 4, [vr 0 j, vi (nI r), vi (nI (fb_ct (aCoup c r) k)), vi (nI k)], [], h) = some (some (vi (nI (fb_ct (aCoup c r) (8 * (c (1)).val)))), h) := by
  have hV1 := hv.1
  have c1 := hC.1.2.1
  intro n
  induction n with
  | zero =>
    intro k hk
    have hk : k = 8 * (c (1)).val := by omega
    rw [E_X5_rests_4, hk]
    simp (disch := omega) only [y_0, y_1, y_2, y_3, y_4, y_5, y_6, y_7, y_8, y_9, y_10, y_11, y_12, y_13, y_14, y_15, y_16, y_17, y_18, y_19, y_20, y_21, y_22, y_23, y_24, y_29, y_30, y_31, y_32, y_39, y_40, y_48, y_49, y_50, y_60, y_64, y_69, y_78, y_99, y_100, y_142, y_161, y_600, y_610, y_894, y_999, y_1000, y_1216, y_1276, neg1, neg2, nI_add, nI_mul, nn_sub, nn_lt, nn_le, nn_eq, in_lt, ni_lt, in_le, ni_le, in_eq, ni_eq, iI_lt, iI_le, iI_eq, nn_clamp, inb_n, t_lt, f_lt, t_le, f_le, t_eq, f_eq, ti_lt, fi_lt, ti_le, fi_le, ti_eq, fi_eq, ↓reduceIte, ite_true, ite_false, eq_self, decide_true, decide_false, Bool.true_and, Bool.and_true, Bool.false_and, Bool.and_false, Bool.true_or, Bool.or_true, Bool.false_or, Bool.or_false, bI_t, bI_f, bI_nand, n_mod, an11, an01, negn1, negn2, false_and, and_false, true_and, and_true, not_true_eq_false, not_false_eq_true, bI_n0, bI_n1, Bool.true_eq_false, Bool.false_eq_true, cI_s, cL_s, cV_s, cR_n, pm_bR_self, bI_ite, bL_ite, bV_ite, bR_ite, c1]
  | succ n ih =>
    intro k hk
    have e := ih (k + 1) (by omega)
    rw [fb_ct_succ] at e
    have q0 : k / 8 < (c (1)).val := by omega
    have hcu : aCoup c r k = (decide (k % 8 < (c (1)).val) && aRest c r (k / 8) (k % 8)) := by unfold aCoup; rw [decide_eq_true q0, Bool.true_and]
    rw [hcu] at e
    rw [E_X5_rests_4]
    by_cases q1 : k % 8 < (c (1)).val
    · have R := isRest_C hv hC hr q0 q1
      rw [decide_eq_true q1, Bool.true_and] at e
      cases q2 : aRest c r (k / 8) (k % 8)
      · rw [q2] at R e
        simp (disch := omega) only [y_0, y_1, y_2, y_3, y_4, y_5, y_6, y_7, y_8, y_9, y_10, y_11, y_12, y_13, y_14, y_15, y_16, y_17, y_18, y_19, y_20, y_21, y_22, y_23, y_24, y_29, y_30, y_31, y_32, y_39, y_40, y_48, y_49, y_50, y_60, y_64, y_69, y_78, y_99, y_100, y_142, y_161, y_600, y_610, y_894, y_999, y_1000, y_1216, y_1276, neg1, neg2, nI_add, nI_mul, nn_sub, nn_lt, nn_le, nn_eq, in_lt, ni_lt, in_le, ni_le, in_eq, ni_eq, iI_lt, iI_le, iI_eq, nn_clamp, inb_n, t_lt, f_lt, t_le, f_le, t_eq, f_eq, ti_lt, fi_lt, ti_le, fi_le, ti_eq, fi_eq, ↓reduceIte, ite_true, ite_false, eq_self, decide_true, decide_false, Bool.true_and, Bool.and_true, Bool.false_and, Bool.and_false, Bool.true_or, Bool.or_true, Bool.false_or, Bool.or_false, bI_t, bI_f, bI_nand, n_mod, an11, an01, negn1, negn2, false_and, and_false, true_and, and_true, not_true_eq_false, not_false_eq_true, bI_n0, bI_n1, Bool.true_eq_false, Bool.false_eq_true, cI_s, cL_s, cV_s, cR_n, pm_bR_self, bI_ite, bL_ite, bV_ite, bR_ite, c1, nn_div, R]
        exact e
      · rw [q2] at R e
        simp (disch := omega) only [y_0, y_1, y_2, y_3, y_4, y_5, y_6, y_7, y_8, y_9, y_10, y_11, y_12, y_13, y_14, y_15, y_16, y_17, y_18, y_19, y_20, y_21, y_22, y_23, y_24, y_29, y_30, y_31, y_32, y_39, y_40, y_48, y_49, y_50, y_60, y_64, y_69, y_78, y_99, y_100, y_142, y_161, y_600, y_610, y_894, y_999, y_1000, y_1216, y_1276, neg1, neg2, nI_add, nI_mul, nn_sub, nn_lt, nn_le, nn_eq, in_lt, ni_lt, in_le, ni_le, in_eq, ni_eq, iI_lt, iI_le, iI_eq, nn_clamp, inb_n, t_lt, f_lt, t_le, f_le, t_eq, f_eq, ti_lt, fi_lt, ti_le, fi_le, ti_eq, fi_eq, ↓reduceIte, ite_true, ite_false, eq_self, decide_true, decide_false, Bool.true_and, Bool.and_true, Bool.false_and, Bool.and_false, Bool.true_or, Bool.or_true, Bool.false_or, Bool.or_false, bI_t, bI_f, bI_nand, n_mod, an11, an01, negn1, negn2, false_and, and_false, true_and, and_true, not_true_eq_false, not_false_eq_true, bI_n0, bI_n1, Bool.true_eq_false, Bool.false_eq_true, cI_s, cL_s, cV_s, cR_n, pm_bR_self, bI_ite, bL_ite, bV_ite, bR_ite, c1, nn_div, R]
        exact e
    · rw [decide_eq_false q1, Bool.false_and] at e
      simp (disch := omega) only [y_0, y_1, y_2, y_3, y_4, y_5, y_6, y_7, y_8, y_9, y_10, y_11, y_12, y_13, y_14, y_15, y_16, y_17, y_18, y_19, y_20, y_21, y_22, y_23, y_24, y_29, y_30, y_31, y_32, y_39, y_40, y_48, y_49, y_50, y_60, y_64, y_69, y_78, y_99, y_100, y_142, y_161, y_600, y_610, y_894, y_999, y_1000, y_1216, y_1276, neg1, neg2, nI_add, nI_mul, nn_sub, nn_lt, nn_le, nn_eq, in_lt, ni_lt, in_le, ni_le, in_eq, ni_eq, iI_lt, iI_le, iI_eq, nn_clamp, inb_n, t_lt, f_lt, t_le, f_le, t_eq, f_eq, ti_lt, fi_lt, ti_le, fi_le, ti_eq, fi_eq, ↓reduceIte, ite_true, ite_false, eq_self, decide_true, decide_false, Bool.true_and, Bool.and_true, Bool.false_and, Bool.and_false, Bool.true_or, Bool.or_true, Bool.false_or, Bool.or_false, bI_t, bI_f, bI_nand, n_mod, an11, an01, negn1, negn2, false_and, and_false, true_and, and_true, not_true_eq_false, not_false_eq_true, bI_n0, bI_n1, Bool.true_eq_false, Bool.false_eq_true, cI_s, cL_s, cV_s, cR_n, pm_bR_self, bI_ite, bL_ite, bV_ite, bR_ite, c1, nn_div]
      exact e
theorem nthB_none {p : Nat → Bool} {k : Nat} : ∀ m q, (∀ i, q ≤ i → p i = false) → nthB p k m q = none
  | 0, _, _ => rfl
  | m + 1, q, h => by
    rw [nthB_miss (fun x => by rw [h q (Nat.le_refl _)] at x; cases x.1)]
    exact nthB_none m (q + 1) (fun i hi => h i (by omega))
theorem nthB_pad {p : Nat → Bool} {k m : Nat} : ∀ r q, (∀ i, q + r ≤ i → p i = false) → nthB p k (r + m) q = nthB p k r q
  | 0, q, h => by
    rw [Nat.zero_add]
    exact (nthB_none m q (fun i hi => h i (by omega))).trans rfl
  | r + 1, q, h => by
    rw [show r + 1 + m = (r + m) + 1 by omega]
    by_cases e : p q = true ∧ fb_ct p q = k
    · rw [nthB_hit e.1 e.2, nthB_hit e.1 e.2]
    · rw [nthB_miss e, nthB_miss e]
      exact nthB_pad r (q + 1) (fun i hi => h i (by omega))
def oN (o : Option Nat) : Int32 := match o with
  | none => iI (-1)
  | some q => nI q
theorem ct_pad {p : Nat → Bool} {n m : Nat} (h : ∀ i, n ≤ i → p i = false) (hm : n ≤ m) : fb_ct p m = fb_ct p n := by
  have e : fb_ct p (n + (m - n)) = _ := fb_ct_split p n (m - n)
  rw [show m = n + (m - n) by omega, e, fb_ct_zero.mpr (fun k _ => h (n + k) (by omega)), Nat.add_zero]
theorem restAt_C {h : PH} {j : Nat} {c : AC} (hv : cV c) (hC : CoastC h j c) {r : Nat} (hr : r < 8) {w : Nat} (hw : w < 2147483648) : ∀ n k, k + n = 8 * (c (1)).val → pm_ev (89, 5, [vr 0 j, vi (nI r), vi (nI w), vi (nI (fb_ct (aCoup c r) k)), vi (nI k)], [], h) = some (some (vi (oN (nthB (aCoup c r) w n k))), h) := by
  have hV1 := hv.1
  have c1 := hC.1.2.1
  intro n
  induction n with
  | zero =>
    intro k hk
    have hk : k = 8 * (c (1)).val := by omega
    rw [E_X5_restAt_5, hk]
    simp (disch := omega) only [y_0, y_1, y_2, y_3, y_4, y_5, y_6, y_7, y_8, y_9, y_10, y_11, y_12, y_13, y_14, y_15, y_16, y_17, y_18, y_19, y_20, y_21, y_22, y_23, y_24, y_29, y_30, y_31, y_32, y_39, y_40, y_48, y_49, y_50, y_60, y_64, y_69, y_78, y_99, y_100, y_142, y_161, y_600, y_610, y_894, y_999, y_1000, y_1216, y_1276, neg1, neg2, nI_add, nI_mul, nn_sub, nn_lt, nn_le, nn_eq, in_lt, ni_lt, in_le, ni_le, in_eq, ni_eq, iI_lt, iI_le, iI_eq, nn_clamp, inb_n, t_lt, f_lt, t_le, f_le, t_eq, f_eq, ti_lt, fi_lt, ti_le, fi_le, ti_eq, fi_eq, ↓reduceIte, ite_true, ite_false, eq_self, decide_true, decide_false, Bool.true_and, Bool.and_true, Bool.false_and, Bool.and_false, Bool.true_or, Bool.or_true, Bool.false_or, Bool.or_false, bI_t, bI_f, bI_nand, n_mod, an11, an01, negn1, negn2, false_and, and_false, true_and, and_true, not_true_eq_false, not_false_eq_true, bI_n0, bI_n1, Bool.true_eq_false, Bool.false_eq_true, cI_s, cL_s, cV_s, cR_n, pm_bR_self, bI_ite, bL_ite, bV_ite, bR_ite, c1]
    rfl
  | succ n ih =>
    intro k hk
    have e := ih (k + 1) (by omega)
    rw [fb_ct_succ] at e
    have hcl := fb_ct_le (aCoup c r) k
    have q0 : k / 8 < (c (1)).val := by omega
    have hcu : aCoup c r k = (decide (k % 8 < (c (1)).val) && aRest c r (k / 8) (k % 8)) := by unfold aCoup; rw [decide_eq_true q0, Bool.true_and]
    rw [E_X5_restAt_5]
    by_cases q1 : k % 8 < (c (1)).val
    · have R := isRest_C hv hC hr q0 q1
      rw [decide_eq_true q1, Bool.true_and] at hcu
      cases q2 : aRest c r (k / 8) (k % 8)
      · rw [q2] at R hcu
        rw [hcu] at e
        rw [nthB_miss (fun x => by rw [hcu] at x; cases x.1)]
        simp (disch := omega) only [y_0, y_1, y_2, y_3, y_4, y_5, y_6, y_7, y_8, y_9, y_10, y_11, y_12, y_13, y_14, y_15, y_16, y_17, y_18, y_19, y_20, y_21, y_22, y_23, y_24, y_29, y_30, y_31, y_32, y_39, y_40, y_48, y_49, y_50, y_60, y_64, y_69, y_78, y_99, y_100, y_142, y_161, y_600, y_610, y_894, y_999, y_1000, y_1216, y_1276, neg1, neg2, nI_add, nI_mul, nn_sub, nn_lt, nn_le, nn_eq, in_lt, ni_lt, in_le, ni_le, in_eq, ni_eq, iI_lt, iI_le, iI_eq, nn_clamp, inb_n, t_lt, f_lt, t_le, f_le, t_eq, f_eq, ti_lt, fi_lt, ti_le, fi_le, ti_eq, fi_eq, ↓reduceIte, ite_true, ite_false, eq_self, decide_true, decide_false, Bool.true_and, Bool.and_true, Bool.false_and, Bool.and_false, Bool.true_or, Bool.or_true, Bool.false_or, Bool.or_false, bI_t, bI_f, bI_nand, n_mod, an11, an01, negn1, negn2, false_and, and_false, true_and, and_true, not_true_eq_false, not_false_eq_true, bI_n0, bI_n1, Bool.true_eq_false, Bool.false_eq_true, cI_s, cL_s, cV_s, cR_n, pm_bR_self, bI_ite, bL_ite, bV_ite, bR_ite, c1, nn_div, R]
        exact e
      · rw [q2] at R hcu
        rw [hcu] at e
        by_cases q3 : fb_ct (aCoup c r) k = w
        · rw [nthB_hit hcu q3]
          simp (disch := omega) only [y_0, y_1, y_2, y_3, y_4, y_5, y_6, y_7, y_8, y_9, y_10, y_11, y_12, y_13, y_14, y_15, y_16, y_17, y_18, y_19, y_20, y_21, y_22, y_23, y_24, y_29, y_30, y_31, y_32, y_39, y_40, y_48, y_49, y_50, y_60, y_64, y_69, y_78, y_99, y_100, y_142, y_161, y_600, y_610, y_894, y_999, y_1000, y_1216, y_1276, neg1, neg2, nI_add, nI_mul, nn_sub, nn_lt, nn_le, nn_eq, in_lt, ni_lt, in_le, ni_le, in_eq, ni_eq, iI_lt, iI_le, iI_eq, nn_clamp, inb_n, t_lt, f_lt, t_le, f_le, t_eq, f_eq, ti_lt, fi_lt, ti_le, fi_le, ti_eq, fi_eq, ↓reduceIte, ite_true, ite_false, eq_self, decide_true, decide_false, Bool.true_and, Bool.and_true, Bool.false_and, Bool.and_false, Bool.true_or, Bool.or_true, Bool.false_or, Bool.or_false, bI_t, bI_f, bI_nand, n_mod, an11, an01, negn1, negn2, false_and, and_false, true_and, and_true, not_true_eq_false, not_false_eq_true, bI_n0, bI_n1, Bool.true_eq_false, Bool.false_eq_true, cI_s, cL_s, cV_s, cR_n, pm_bR_self, bI_ite, bL_ite, bV_ite, bR_ite, c1, nn_div, R]
          rfl
        · rw [nthB_miss (fun x => q3 x.2)]
          simp (disch := omega) only [y_0, y_1, y_2, y_3, y_4, y_5, y_6, y_7, y_8, y_9, y_10, y_11, y_12, y_13, y_14, y_15, y_16, y_17, y_18, y_19, y_20, y_21, y_22, y_23, y_24, y_29, y_30, y_31, y_32, y_39, y_40, y_48, y_49, y_50, y_60, y_64, y_69, y_78, y_99, y_100, y_142, y_161, y_600, y_610, y_894, y_999, y_1000, y_1216, y_1276, neg1, neg2, nI_add, nI_mul, nn_sub, nn_lt, nn_le, nn_eq, in_lt, ni_lt, in_le, ni_le, in_eq, ni_eq, iI_lt, iI_le, iI_eq, nn_clamp, inb_n, t_lt, f_lt, t_le, f_le, t_eq, f_eq, ti_lt, fi_lt, ti_le, fi_le, ti_eq, fi_eq, ↓reduceIte, ite_true, ite_false, eq_self, decide_true, decide_false, Bool.true_and, Bool.and_true, Bool.false_and, Bool.and_false, Bool.true_or, Bool.or_true, Bool.false_or, Bool.or_false, bI_t, bI_f, bI_nand, n_mod, an11, an01, negn1, negn2, false_and, and_false, true_and, and_true, not_true_eq_false, not_false_eq_true, bI_n0, bI_n1, Bool.true_eq_false, Bool.false_eq_true, cI_s, cL_s, cV_s, cR_n, pm_bR_self, bI_ite, bL_ite, bV_ite, bR_ite, c1, nn_div, R]
          exact e
    · rw [decide_eq_false q1, Bool.false_and] at hcu
      rw [hcu] at e
      rw [nthB_miss (fun x => by rw [hcu] at x; cases x.1)]
      simp (disch := omega) only [y_0, y_1, y_2, y_3, y_4, y_5, y_6, y_7, y_8, y_9, y_10, y_11, y_12, y_13, y_14, y_15, y_16, y_17, y_18, y_19, y_20, y_21, y_22, y_23, y_24, y_29, y_30, y_31, y_32, y_39, y_40, y_48, y_49, y_50, y_60, y_64, y_69, y_78, y_99, y_100, y_142, y_161, y_600, y_610, y_894, y_999, y_1000, y_1216, y_1276, neg1, neg2, nI_add, nI_mul, nn_sub, nn_lt, nn_le, nn_eq, in_lt, ni_lt, in_le, ni_le, in_eq, ni_eq, iI_lt, iI_le, iI_eq, nn_clamp, inb_n, t_lt, f_lt, t_le, f_le, t_eq, f_eq, ti_lt, fi_lt, ti_le, fi_le, ti_eq, fi_eq, ↓reduceIte, ite_true, ite_false, eq_self, decide_true, decide_false, Bool.true_and, Bool.and_true, Bool.false_and, Bool.and_false, Bool.true_or, Bool.or_true, Bool.false_or, Bool.or_false, bI_t, bI_f, bI_nand, n_mod, an11, an01, negn1, negn2, false_and, and_false, true_and, and_true, not_true_eq_false, not_false_eq_true, bI_n0, bI_n1, Bool.true_eq_false, Bool.false_eq_true, cI_s, cL_s, cV_s, cR_n, pm_bR_self, bI_ite, bL_ite, bV_ite, bR_ite, c1, nn_div]
      exact e
theorem restAt_no {h : PH} {j : Nat} {c : AC} (hv : cV c) (hC : CoastC h j c) {r : Nat} (hr : r < 8) {z : Int} (z1 : -2147483648 ≤ z) (z2 : z < 0) : ∀ n k, k + n = 8 * (c (1)).val → pm_ev (89, 5, [vr 0 j, vi (nI r), vi (iI z), vi (nI (fb_ct (aCoup c r) k)), vi (nI k)], [], h) = some (some (vi (iI (-1))), h) := by
  have hV1 := hv.1
  have c1 := hC.1.2.1
  intro n
  induction n with
  | zero =>
    intro k hk
    have hk : k = 8 * (c (1)).val := by omega
    rw [E_X5_restAt_5, hk]
    simp (disch := omega) only [y_0, y_1, y_2, y_3, y_4, y_5, y_6, y_7, y_8, y_9, y_10, y_11, y_12, y_13, y_14, y_15, y_16, y_17, y_18, y_19, y_20, y_21, y_22, y_23, y_24, y_29, y_30, y_31, y_32, y_39, y_40, y_48, y_49, y_50, y_60, y_64, y_69, y_78, y_99, y_100, y_142, y_161, y_600, y_610, y_894, y_999, y_1000, y_1216, y_1276, neg1, neg2, nI_add, nI_mul, nn_sub, nn_lt, nn_le, nn_eq, in_lt, ni_lt, in_le, ni_le, in_eq, ni_eq, iI_lt, iI_le, iI_eq, nn_clamp, inb_n, t_lt, f_lt, t_le, f_le, t_eq, f_eq, ti_lt, fi_lt, ti_le, fi_le, ti_eq, fi_eq, ↓reduceIte, ite_true, ite_false, eq_self, decide_true, decide_false, Bool.true_and, Bool.and_true, Bool.false_and, Bool.and_false, Bool.true_or, Bool.or_true, Bool.false_or, Bool.or_false, bI_t, bI_f, bI_nand, n_mod, an11, an01, negn1, negn2, false_and, and_false, true_and, and_true, not_true_eq_false, not_false_eq_true, bI_n0, bI_n1, Bool.true_eq_false, Bool.false_eq_true, cI_s, cL_s, cV_s, cR_n, pm_bR_self, bI_ite, bL_ite, bV_ite, bR_ite, c1]
  | succ n ih =>
    intro k hk
    have e := ih (k + 1) (by omega)
    rw [fb_ct_succ] at e
    have hcl := fb_ct_le (aCoup c r) k
    have q0 : k / 8 < (c (1)).val := by omega
    have hcu : aCoup c r k = (decide (k % 8 < (c (1)).val) && aRest c r (k / 8) (k % 8)) := by unfold aCoup; rw [decide_eq_true q0, Bool.true_and]
    rw [E_X5_restAt_5]
    by_cases q1 : k % 8 < (c (1)).val
    · have R := isRest_C hv hC hr q0 q1
      rw [decide_eq_true q1, Bool.true_and] at hcu
      cases q2 : aRest c r (k / 8) (k % 8)
      · rw [q2] at R hcu
        rw [hcu] at e
        simp (disch := omega) only [y_0, y_1, y_2, y_3, y_4, y_5, y_6, y_7, y_8, y_9, y_10, y_11, y_12, y_13, y_14, y_15, y_16, y_17, y_18, y_19, y_20, y_21, y_22, y_23, y_24, y_29, y_30, y_31, y_32, y_39, y_40, y_48, y_49, y_50, y_60, y_64, y_69, y_78, y_99, y_100, y_142, y_161, y_600, y_610, y_894, y_999, y_1000, y_1216, y_1276, neg1, neg2, nI_add, nI_mul, nn_sub, nn_lt, nn_le, nn_eq, in_lt, ni_lt, in_le, ni_le, in_eq, ni_eq, iI_lt, iI_le, iI_eq, nn_clamp, inb_n, t_lt, f_lt, t_le, f_le, t_eq, f_eq, ti_lt, fi_lt, ti_le, fi_le, ti_eq, fi_eq, ↓reduceIte, ite_true, ite_false, eq_self, decide_true, decide_false, Bool.true_and, Bool.and_true, Bool.false_and, Bool.and_false, Bool.true_or, Bool.or_true, Bool.false_or, Bool.or_false, bI_t, bI_f, bI_nand, n_mod, an11, an01, negn1, negn2, false_and, and_false, true_and, and_true, not_true_eq_false, not_false_eq_true, bI_n0, bI_n1, Bool.true_eq_false, Bool.false_eq_true, cI_s, cL_s, cV_s, cR_n, pm_bR_self, bI_ite, bL_ite, bV_ite, bR_ite, c1, nn_div, R]
        exact e
      · rw [q2] at R hcu
        rw [hcu] at e
        simp (disch := omega) only [y_0, y_1, y_2, y_3, y_4, y_5, y_6, y_7, y_8, y_9, y_10, y_11, y_12, y_13, y_14, y_15, y_16, y_17, y_18, y_19, y_20, y_21, y_22, y_23, y_24, y_29, y_30, y_31, y_32, y_39, y_40, y_48, y_49, y_50, y_60, y_64, y_69, y_78, y_99, y_100, y_142, y_161, y_600, y_610, y_894, y_999, y_1000, y_1216, y_1276, neg1, neg2, nI_add, nI_mul, nn_sub, nn_lt, nn_le, nn_eq, in_lt, ni_lt, in_le, ni_le, in_eq, ni_eq, iI_lt, iI_le, iI_eq, nn_clamp, inb_n, t_lt, f_lt, t_le, f_le, t_eq, f_eq, ti_lt, fi_lt, ti_le, fi_le, ti_eq, fi_eq, ↓reduceIte, ite_true, ite_false, eq_self, decide_true, decide_false, Bool.true_and, Bool.and_true, Bool.false_and, Bool.and_false, Bool.true_or, Bool.or_true, Bool.false_or, Bool.or_false, bI_t, bI_f, bI_nand, n_mod, an11, an01, negn1, negn2, false_and, and_false, true_and, and_true, not_true_eq_false, not_false_eq_true, bI_n0, bI_n1, Bool.true_eq_false, Bool.false_eq_true, cI_s, cL_s, cV_s, cR_n, pm_bR_self, bI_ite, bL_ite, bV_ite, bR_ite, c1, nn_div, R]
        exact e
    · rw [decide_eq_false q1, Bool.false_and] at hcu
      rw [hcu] at e
      simp (disch := omega) only [y_0, y_1, y_2, y_3, y_4, y_5, y_6, y_7, y_8, y_9, y_10, y_11, y_12, y_13, y_14, y_15, y_16, y_17, y_18, y_19, y_20, y_21, y_22, y_23, y_24, y_29, y_30, y_31, y_32, y_39, y_40, y_48, y_49, y_50, y_60, y_64, y_69, y_78, y_99, y_100, y_142, y_161, y_600, y_610, y_894, y_999, y_1000, y_1216, y_1276, neg1, neg2, nI_add, nI_mul, nn_sub, nn_lt, nn_le, nn_eq, in_lt, ni_lt, in_le, ni_le, in_eq, ni_eq, iI_lt, iI_le, iI_eq, nn_clamp, inb_n, t_lt, f_lt, t_le, f_le, t_eq, f_eq, ti_lt, fi_lt, ti_le, fi_le, ti_eq, fi_eq, ↓reduceIte, ite_true, ite_false, eq_self, decide_true, decide_false, Bool.true_and, Bool.and_true, Bool.false_and, Bool.and_false, Bool.true_or, Bool.or_true, Bool.false_or, Bool.or_false, bI_t, bI_f, bI_nand, n_mod, an11, an01, negn1, negn2, false_and, and_false, true_and, and_true, not_true_eq_false, not_false_eq_true, bI_n0, bI_n1, Bool.true_eq_false, Bool.false_eq_true, cI_s, cL_s, cV_s, cR_n, pm_bR_self, bI_ite, bL_ite, bV_ite, bR_ite, c1, nn_div]
      exact e
/-! safest -/
def aLeast (c : AC) (r a : Nat) : Nat := if anyB (fun g => !decide (r < max a g - min a g)) (c (1)).val then 0 else aOpen c a
theorem leastWon_C {h : PH} {j : Nat} {c : AC} (hv : cV c) (hC : CoastC h j c) {r a : Nat} (hr : r < 8) (ha : a < (c (1)).val) : ∀ n k, k + n = (c (1)).val → pm_ev (91, 6, [vr 0 j, vi (nI r), vi (nI a), vi (nI (if anyB (fun g => !decide (r < max a g - min a g)) k then 0 else if k = 0 then 8 else aOpen c a)), vi (nI k)], [], h) = some (some (vi (nI (aLeast c r a))), h) := by
  have hV1 := hv.1
  have c1 := hC.1.2.1
  have ho := aOpen_le c a
  intro n
  induction n with
  | zero =>
    intro k hk
    have hk : k = (c (1)).val := by omega
    subst hk
    rw [E_X5_leastWon_6]
    unfold aLeast
    simp (disch := omega) only [y_0, y_1, y_2, y_3, y_4, y_5, y_6, y_7, y_8, y_9, y_10, y_11, y_12, y_13, y_14, y_15, y_16, y_17, y_18, y_19, y_20, y_21, y_22, y_23, y_24, y_29, y_30, y_31, y_32, y_39, y_40, y_48, y_49, y_50, y_60, y_64, y_69, y_78, y_99, y_100, y_142, y_161, y_600, y_610, y_894, y_999, y_1000, y_1216, y_1276, neg1, neg2, nI_add, nI_mul, nn_sub, nn_lt, nn_le, nn_eq, in_lt, ni_lt, in_le, ni_le, in_eq, ni_eq, iI_lt, iI_le, iI_eq, nn_clamp, inb_n, t_lt, f_lt, t_le, f_le, t_eq, f_eq, ti_lt, fi_lt, ti_le, fi_le, ti_eq, fi_eq, ↓reduceIte, ite_true, ite_false, eq_self, decide_true, decide_false, Bool.true_and, Bool.and_true, Bool.false_and, Bool.and_false, Bool.true_or, Bool.or_true, Bool.false_or, Bool.or_false, bI_t, bI_f, bI_nand, n_mod, an11, an01, negn1, negn2, false_and, and_false, true_and, and_true, not_true_eq_false, not_false_eq_true, bI_n0, bI_n1, Bool.true_eq_false, Bool.false_eq_true, cI_s, cL_s, cV_s, cR_n, pm_bR_self, bI_ite, bL_ite, bV_ite, bR_ite, c1]
  | succ n ih =>
    intro k hk
    have e := ih (k + 1) (by omega)
    have W := wins_C hv hC hr ha (show k < (c (1)).val by omega)
    rw [anyB] at e
    rw [E_X5_leastWon_6]
    cases q1 : anyB (fun g => !decide (r < max a g - min a g)) k
    · rw [q1, Bool.false_or] at e
      by_cases q2 : r < max a k - min a k
      · rw [decide_eq_true q2] at e
        rw [if_pos q2] at W
        simp only [Bool.not_true, Bool.false_eq_true, if_false, show ¬ k + 1 = 0 by omega] at e
        by_cases k0 : k = 0
        · by_cases q8 : aOpen c a < 8
          · simp (disch := omega) only [y_0, y_1, y_2, y_3, y_4, y_5, y_6, y_7, y_8, y_9, y_10, y_11, y_12, y_13, y_14, y_15, y_16, y_17, y_18, y_19, y_20, y_21, y_22, y_23, y_24, y_29, y_30, y_31, y_32, y_39, y_40, y_48, y_49, y_50, y_60, y_64, y_69, y_78, y_99, y_100, y_142, y_161, y_600, y_610, y_894, y_999, y_1000, y_1216, y_1276, neg1, neg2, nI_add, nI_mul, nn_sub, nn_lt, nn_le, nn_eq, in_lt, ni_lt, in_le, ni_le, in_eq, ni_eq, iI_lt, iI_le, iI_eq, nn_clamp, inb_n, t_lt, f_lt, t_le, f_le, t_eq, f_eq, ti_lt, fi_lt, ti_le, fi_le, ti_eq, fi_eq, ↓reduceIte, ite_true, ite_false, eq_self, decide_true, decide_false, Bool.true_and, Bool.and_true, Bool.false_and, Bool.and_false, Bool.true_or, Bool.or_true, Bool.false_or, Bool.or_false, bI_t, bI_f, bI_nand, n_mod, an11, an01, negn1, negn2, false_and, and_false, true_and, and_true, not_true_eq_false, not_false_eq_true, bI_n0, bI_n1, Bool.true_eq_false, Bool.false_eq_true, cI_s, cL_s, cV_s, cR_n, pm_bR_self, bI_ite, bL_ite, bV_ite, bR_ite, c1, W]
            exact e
          · rw [show aOpen c a = 8 by omega] at e W
            simp (disch := omega) only [y_0, y_1, y_2, y_3, y_4, y_5, y_6, y_7, y_8, y_9, y_10, y_11, y_12, y_13, y_14, y_15, y_16, y_17, y_18, y_19, y_20, y_21, y_22, y_23, y_24, y_29, y_30, y_31, y_32, y_39, y_40, y_48, y_49, y_50, y_60, y_64, y_69, y_78, y_99, y_100, y_142, y_161, y_600, y_610, y_894, y_999, y_1000, y_1216, y_1276, neg1, neg2, nI_add, nI_mul, nn_sub, nn_lt, nn_le, nn_eq, in_lt, ni_lt, in_le, ni_le, in_eq, ni_eq, iI_lt, iI_le, iI_eq, nn_clamp, inb_n, t_lt, f_lt, t_le, f_le, t_eq, f_eq, ti_lt, fi_lt, ti_le, fi_le, ti_eq, fi_eq, ↓reduceIte, ite_true, ite_false, eq_self, decide_true, decide_false, Bool.true_and, Bool.and_true, Bool.false_and, Bool.and_false, Bool.true_or, Bool.or_true, Bool.false_or, Bool.or_false, bI_t, bI_f, bI_nand, n_mod, an11, an01, negn1, negn2, false_and, and_false, true_and, and_true, not_true_eq_false, not_false_eq_true, bI_n0, bI_n1, Bool.true_eq_false, Bool.false_eq_true, cI_s, cL_s, cV_s, cR_n, pm_bR_self, bI_ite, bL_ite, bV_ite, bR_ite, c1, W]
            exact e
        · simp (disch := omega) only [y_0, y_1, y_2, y_3, y_4, y_5, y_6, y_7, y_8, y_9, y_10, y_11, y_12, y_13, y_14, y_15, y_16, y_17, y_18, y_19, y_20, y_21, y_22, y_23, y_24, y_29, y_30, y_31, y_32, y_39, y_40, y_48, y_49, y_50, y_60, y_64, y_69, y_78, y_99, y_100, y_142, y_161, y_600, y_610, y_894, y_999, y_1000, y_1216, y_1276, neg1, neg2, nI_add, nI_mul, nn_sub, nn_lt, nn_le, nn_eq, in_lt, ni_lt, in_le, ni_le, in_eq, ni_eq, iI_lt, iI_le, iI_eq, nn_clamp, inb_n, t_lt, f_lt, t_le, f_le, t_eq, f_eq, ti_lt, fi_lt, ti_le, fi_le, ti_eq, fi_eq, ↓reduceIte, ite_true, ite_false, eq_self, decide_true, decide_false, Bool.true_and, Bool.and_true, Bool.false_and, Bool.and_false, Bool.true_or, Bool.or_true, Bool.false_or, Bool.or_false, bI_t, bI_f, bI_nand, n_mod, an11, an01, negn1, negn2, false_and, and_false, true_and, and_true, not_true_eq_false, not_false_eq_true, bI_n0, bI_n1, Bool.true_eq_false, Bool.false_eq_true, cI_s, cL_s, cV_s, cR_n, pm_bR_self, bI_ite, bL_ite, bV_ite, bR_ite, c1, W]
          exact e
      · rw [decide_eq_false q2] at e
        rw [if_neg q2] at W
        simp only [Bool.not_false, if_true] at e
        by_cases k0 : k = 0
        · simp (disch := omega) only [y_0, y_1, y_2, y_3, y_4, y_5, y_6, y_7, y_8, y_9, y_10, y_11, y_12, y_13, y_14, y_15, y_16, y_17, y_18, y_19, y_20, y_21, y_22, y_23, y_24, y_29, y_30, y_31, y_32, y_39, y_40, y_48, y_49, y_50, y_60, y_64, y_69, y_78, y_99, y_100, y_142, y_161, y_600, y_610, y_894, y_999, y_1000, y_1216, y_1276, neg1, neg2, nI_add, nI_mul, nn_sub, nn_lt, nn_le, nn_eq, in_lt, ni_lt, in_le, ni_le, in_eq, ni_eq, iI_lt, iI_le, iI_eq, nn_clamp, inb_n, t_lt, f_lt, t_le, f_le, t_eq, f_eq, ti_lt, fi_lt, ti_le, fi_le, ti_eq, fi_eq, ↓reduceIte, ite_true, ite_false, eq_self, decide_true, decide_false, Bool.true_and, Bool.and_true, Bool.false_and, Bool.and_false, Bool.true_or, Bool.or_true, Bool.false_or, Bool.or_false, bI_t, bI_f, bI_nand, n_mod, an11, an01, negn1, negn2, false_and, and_false, true_and, and_true, not_true_eq_false, not_false_eq_true, bI_n0, bI_n1, Bool.true_eq_false, Bool.false_eq_true, cI_s, cL_s, cV_s, cR_n, pm_bR_self, bI_ite, bL_ite, bV_ite, bR_ite, c1, W]
          exact e
        · by_cases q8 : 0 < aOpen c a
          · simp (disch := omega) only [y_0, y_1, y_2, y_3, y_4, y_5, y_6, y_7, y_8, y_9, y_10, y_11, y_12, y_13, y_14, y_15, y_16, y_17, y_18, y_19, y_20, y_21, y_22, y_23, y_24, y_29, y_30, y_31, y_32, y_39, y_40, y_48, y_49, y_50, y_60, y_64, y_69, y_78, y_99, y_100, y_142, y_161, y_600, y_610, y_894, y_999, y_1000, y_1216, y_1276, neg1, neg2, nI_add, nI_mul, nn_sub, nn_lt, nn_le, nn_eq, in_lt, ni_lt, in_le, ni_le, in_eq, ni_eq, iI_lt, iI_le, iI_eq, nn_clamp, inb_n, t_lt, f_lt, t_le, f_le, t_eq, f_eq, ti_lt, fi_lt, ti_le, fi_le, ti_eq, fi_eq, ↓reduceIte, ite_true, ite_false, eq_self, decide_true, decide_false, Bool.true_and, Bool.and_true, Bool.false_and, Bool.and_false, Bool.true_or, Bool.or_true, Bool.false_or, Bool.or_false, bI_t, bI_f, bI_nand, n_mod, an11, an01, negn1, negn2, false_and, and_false, true_and, and_true, not_true_eq_false, not_false_eq_true, bI_n0, bI_n1, Bool.true_eq_false, Bool.false_eq_true, cI_s, cL_s, cV_s, cR_n, pm_bR_self, bI_ite, bL_ite, bV_ite, bR_ite, c1, W]
            exact e
          · rw [show aOpen c a = 0 by omega]
            simp (disch := omega) only [y_0, y_1, y_2, y_3, y_4, y_5, y_6, y_7, y_8, y_9, y_10, y_11, y_12, y_13, y_14, y_15, y_16, y_17, y_18, y_19, y_20, y_21, y_22, y_23, y_24, y_29, y_30, y_31, y_32, y_39, y_40, y_48, y_49, y_50, y_60, y_64, y_69, y_78, y_99, y_100, y_142, y_161, y_600, y_610, y_894, y_999, y_1000, y_1216, y_1276, neg1, neg2, nI_add, nI_mul, nn_sub, nn_lt, nn_le, nn_eq, in_lt, ni_lt, in_le, ni_le, in_eq, ni_eq, iI_lt, iI_le, iI_eq, nn_clamp, inb_n, t_lt, f_lt, t_le, f_le, t_eq, f_eq, ti_lt, fi_lt, ti_le, fi_le, ti_eq, fi_eq, ↓reduceIte, ite_true, ite_false, eq_self, decide_true, decide_false, Bool.true_and, Bool.and_true, Bool.false_and, Bool.and_false, Bool.true_or, Bool.or_true, Bool.false_or, Bool.or_false, bI_t, bI_f, bI_nand, n_mod, an11, an01, negn1, negn2, false_and, and_false, true_and, and_true, not_true_eq_false, not_false_eq_true, bI_n0, bI_n1, Bool.true_eq_false, Bool.false_eq_true, cI_s, cL_s, cV_s, cR_n, pm_bR_self, bI_ite, bL_ite, bV_ite, bR_ite, c1, W]
            exact e
    · rw [q1, Bool.true_or] at e
      simp only [if_true] at e
      by_cases q2 : r < max a k - min a k
      · rw [if_pos q2] at W
        simp (disch := omega) only [y_0, y_1, y_2, y_3, y_4, y_5, y_6, y_7, y_8, y_9, y_10, y_11, y_12, y_13, y_14, y_15, y_16, y_17, y_18, y_19, y_20, y_21, y_22, y_23, y_24, y_29, y_30, y_31, y_32, y_39, y_40, y_48, y_49, y_50, y_60, y_64, y_69, y_78, y_99, y_100, y_142, y_161, y_600, y_610, y_894, y_999, y_1000, y_1216, y_1276, neg1, neg2, nI_add, nI_mul, nn_sub, nn_lt, nn_le, nn_eq, in_lt, ni_lt, in_le, ni_le, in_eq, ni_eq, iI_lt, iI_le, iI_eq, nn_clamp, inb_n, t_lt, f_lt, t_le, f_le, t_eq, f_eq, ti_lt, fi_lt, ti_le, fi_le, ti_eq, fi_eq, ↓reduceIte, ite_true, ite_false, eq_self, decide_true, decide_false, Bool.true_and, Bool.and_true, Bool.false_and, Bool.and_false, Bool.true_or, Bool.or_true, Bool.false_or, Bool.or_false, bI_t, bI_f, bI_nand, n_mod, an11, an01, negn1, negn2, false_and, and_false, true_and, and_true, not_true_eq_false, not_false_eq_true, bI_n0, bI_n1, Bool.true_eq_false, Bool.false_eq_true, cI_s, cL_s, cV_s, cR_n, pm_bR_self, bI_ite, bL_ite, bV_ite, bR_ite, c1, W]
        exact e
      · rw [if_neg q2] at W
        simp (disch := omega) only [y_0, y_1, y_2, y_3, y_4, y_5, y_6, y_7, y_8, y_9, y_10, y_11, y_12, y_13, y_14, y_15, y_16, y_17, y_18, y_19, y_20, y_21, y_22, y_23, y_24, y_29, y_30, y_31, y_32, y_39, y_40, y_48, y_49, y_50, y_60, y_64, y_69, y_78, y_99, y_100, y_142, y_161, y_600, y_610, y_894, y_999, y_1000, y_1216, y_1276, neg1, neg2, nI_add, nI_mul, nn_sub, nn_lt, nn_le, nn_eq, in_lt, ni_lt, in_le, ni_le, in_eq, ni_eq, iI_lt, iI_le, iI_eq, nn_clamp, inb_n, t_lt, f_lt, t_le, f_le, t_eq, f_eq, ti_lt, fi_lt, ti_le, fi_le, ti_eq, fi_eq, ↓reduceIte, ite_true, ite_false, eq_self, decide_true, decide_false, Bool.true_and, Bool.and_true, Bool.false_and, Bool.and_false, Bool.true_or, Bool.or_true, Bool.false_or, Bool.or_false, bI_t, bI_f, bI_nand, n_mod, an11, an01, negn1, negn2, false_and, and_false, true_and, and_true, not_true_eq_false, not_false_eq_true, bI_n0, bI_n1, Bool.true_eq_false, Bool.false_eq_true, cI_s, cL_s, cV_s, cR_n, pm_bR_self, bI_ite, bL_ite, bV_ite, bR_ite, c1, W]
        exact e
theorem leastWon_C0 {h : PH} {j : Nat} {c : AC} (hv : cV c) (hC : CoastC h j c) {r a : Nat} (hr : r < 8) (ha : a < (c (1)).val) : pm_ev (91, 0, [vr 0 j, vi (nI r), vi (nI a), none, none], [], h) = some (some (vi (nI (aLeast c r a))), h) := by
  rw [E_X5_leastWon]
  exact leastWon_C hv hC hr ha _ 0 (Nat.zero_add _)
theorem aLeast_le {c : AC} (hv : cV c) (r a : Nat) : aLeast c r a ≤ 8 := by
  have h1 := aOpen_le c a
  have hV1 := hv.1
  unfold aLeast; split <;> omega
theorem safest_C {h : PH} {j : Nat} {c : AC} (hv : cV c) (hC : CoastC h j c) {r : Nat} (hr : r < 8) : ∀ n k, k + n = (c (1)).val → 0 < k → pm_ev (90, 4, [vr 0 j, vi (nI r), vi (nI (argB (aLeast c r) k)), vi (nI k)], [], h) = some (some (vi (nI (argB (aLeast c r) (c (1)).val))), h) := by
  have hV1 := hv.1
  have c1 := hC.1.2.1
  intro n
  induction n with
  | zero =>
    intro k hk _
    have hk : k = (c (1)).val := by omega
    subst hk
    rw [E_X5_safest_4]
    simp (disch := omega) only [y_0, y_1, y_2, y_3, y_4, y_5, y_6, y_7, y_8, y_9, y_10, y_11, y_12, y_13, y_14, y_15, y_16, y_17, y_18, y_19, y_20, y_21, y_22, y_23, y_24, y_29, y_30, y_31, y_32, y_39, y_40, y_48, y_49, y_50, y_60, y_64, y_69, y_78, y_99, y_100, y_142, y_161, y_600, y_610, y_894, y_999, y_1000, y_1216, y_1276, neg1, neg2, nI_add, nI_mul, nn_sub, nn_lt, nn_le, nn_eq, in_lt, ni_lt, in_le, ni_le, in_eq, ni_eq, iI_lt, iI_le, iI_eq, nn_clamp, inb_n, t_lt, f_lt, t_le, f_le, t_eq, f_eq, ti_lt, fi_lt, ti_le, fi_le, ti_eq, fi_eq, ↓reduceIte, ite_true, ite_false, eq_self, decide_true, decide_false, Bool.true_and, Bool.and_true, Bool.false_and, Bool.and_false, Bool.true_or, Bool.or_true, Bool.false_or, Bool.or_false, bI_t, bI_f, bI_nand, n_mod, an11, an01, negn1, negn2, false_and, and_false, true_and, and_true, not_true_eq_false, not_false_eq_true, bI_n0, bI_n1, Bool.true_eq_false, Bool.false_eq_true, cI_s, cL_s, cV_s, cR_n, pm_bR_self, bI_ite, bL_ite, bV_ite, bR_ite, c1]
  | succ n ih =>
    intro k hk h0
    have e := ih (k + 1) (by omega) (by omega)
    have hl := argB_lt (aLeast c r) k h0
    have b1 := aLeast_le hv r k
    have b2 := aLeast_le hv r (argB (aLeast c r) k)
    have L1 := leastWon_C0 hv hC hr (show k < (c (1)).val by omega)
    have L2 := leastWon_C0 hv hC hr (show argB (aLeast c r) k < (c (1)).val by omega)
    rw [argB_succ (aLeast c r) k] at e
    rw [E_X5_safest_4]
    by_cases q : aLeast c r (argB (aLeast c r) k) < aLeast c r k
    · rw [if_pos q] at e
      simp (disch := omega) only [y_0, y_1, y_2, y_3, y_4, y_5, y_6, y_7, y_8, y_9, y_10, y_11, y_12, y_13, y_14, y_15, y_16, y_17, y_18, y_19, y_20, y_21, y_22, y_23, y_24, y_29, y_30, y_31, y_32, y_39, y_40, y_48, y_49, y_50, y_60, y_64, y_69, y_78, y_99, y_100, y_142, y_161, y_600, y_610, y_894, y_999, y_1000, y_1216, y_1276, neg1, neg2, nI_add, nI_mul, nn_sub, nn_lt, nn_le, nn_eq, in_lt, ni_lt, in_le, ni_le, in_eq, ni_eq, iI_lt, iI_le, iI_eq, nn_clamp, inb_n, t_lt, f_lt, t_le, f_le, t_eq, f_eq, ti_lt, fi_lt, ti_le, fi_le, ti_eq, fi_eq, ↓reduceIte, ite_true, ite_false, eq_self, decide_true, decide_false, Bool.true_and, Bool.and_true, Bool.false_and, Bool.and_false, Bool.true_or, Bool.or_true, Bool.false_or, Bool.or_false, bI_t, bI_f, bI_nand, n_mod, an11, an01, negn1, negn2, false_and, and_false, true_and, and_true, not_true_eq_false, not_false_eq_true, bI_n0, bI_n1, Bool.true_eq_false, Bool.false_eq_true, cI_s, cL_s, cV_s, cR_n, pm_bR_self, bI_ite, bL_ite, bV_ite, bR_ite, c1, L1, L2]
      exact e
    · rw [if_neg q] at e
      simp (disch := omega) only [y_0, y_1, y_2, y_3, y_4, y_5, y_6, y_7, y_8, y_9, y_10, y_11, y_12, y_13, y_14, y_15, y_16, y_17, y_18, y_19, y_20, y_21, y_22, y_23, y_24, y_29, y_30, y_31, y_32, y_39, y_40, y_48, y_49, y_50, y_60, y_64, y_69, y_78, y_99, y_100, y_142, y_161, y_600, y_610, y_894, y_999, y_1000, y_1216, y_1276, neg1, neg2, nI_add, nI_mul, nn_sub, nn_lt, nn_le, nn_eq, in_lt, ni_lt, in_le, ni_le, in_eq, ni_eq, iI_lt, iI_le, iI_eq, nn_clamp, inb_n, t_lt, f_lt, t_le, f_le, t_eq, f_eq, ti_lt, fi_lt, ti_le, fi_le, ti_eq, fi_eq, ↓reduceIte, ite_true, ite_false, eq_self, decide_true, decide_false, Bool.true_and, Bool.and_true, Bool.false_and, Bool.and_false, Bool.true_or, Bool.or_true, Bool.false_or, Bool.or_false, bI_t, bI_f, bI_nand, n_mod, an11, an01, negn1, negn2, false_and, and_false, true_and, and_true, not_true_eq_false, not_false_eq_true, bI_n0, bI_n1, Bool.true_eq_false, Bool.false_eq_true, cI_s, cL_s, cV_s, cR_n, pm_bR_self, bI_ite, bL_ite, bV_ite, bR_ite, c1, L1, L2]
      exact e
