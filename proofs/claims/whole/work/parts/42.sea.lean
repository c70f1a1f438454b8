/-! ===== boards: sets of places by column and row ===== -/
def toS (P : Nat → Nat → Bool) (i : Nat) : Bool := P (i % 8) (i / 8)
def sprP (P : Nat → Nat → Bool) (x y : Nat) : Bool := P x y || (decide (1 ≤ x) && P (x - 1) y) || (decide (x + 1 < 8) && P (x + 1) y) || (decide (1 ≤ y) && P x (y - 1)) || (decide (y + 1 < 8) && P x (y + 1))
theorem toS_cong {P Q : Nat → Nat → Bool} (h : ∀ x y, x < 8 → y < 8 → P x y = Q x y) : lS (toS P) = lS (toS Q) := lS_cong (fun i hi => h _ _ (Nat.mod_lt _ (by decide)) (by omega))
theorem spread_bits (P : Nat → Nat → Bool) (i : Nat) (hi : i < 64) : ((((toS P i || ((decide (1 ≤ i) && (toS P (i - 1) && !decide ((i - 1) % 8 = 7))) || (decide (i + 1 < 64) && (toS P (i + 1) && !decide ((i + 1) % 8 = 0))))) || (decide (8 ≤ i) && toS P (i - 8))) || (decide (i + 8 < 64) && toS P (i + 8)))) = toS (sprP P) i := by
  unfold toS sprP
  have e3 : (i + 8) % 8 = i % 8 := by omega
  have e4 : (i + 8) / 8 = i / 8 + 1 := by omega
  have e6 : decide (i + 8 < 64) = decide (i / 8 + 1 < 8) := decide_eq_decide.mpr (by omega)
  have l3 : (decide (8 ≤ i) && P ((i - 8) % 8) ((i - 8) / 8)) = (decide (1 ≤ i / 8) && P (i % 8) (i / 8 - 1)) := by
    by_cases q : 8 ≤ i
    · rw [decide_eq_true q, decide_eq_true (show 1 ≤ i / 8 by omega), show (i - 8) % 8 = i % 8 by omega, show (i - 8) / 8 = i / 8 - 1 by omega]
    · rw [decide_eq_false q, decide_eq_false (show ¬ 1 ≤ i / 8 by omega)]; rfl
  rw [e3, e4, e6, l3]
  have l1 : (decide (1 ≤ i) && (P ((i - 1) % 8) ((i - 1) / 8) && !decide ((i - 1) % 8 = 7))) = (decide (1 ≤ i % 8) && P (i % 8 - 1) (i / 8)) := by
    by_cases q : 1 ≤ i % 8
    · rw [show (i - 1) % 8 = i % 8 - 1 by omega, show (i - 1) / 8 = i / 8 by omega, decide_eq_true q, decide_eq_true (show 1 ≤ i by omega), decide_eq_false (show ¬ i % 8 - 1 = 7 by omega)]
      simp
    · rw [decide_eq_false q, Bool.false_and]
      by_cases q2 : 1 ≤ i
      · rw [decide_eq_true (show (i - 1) % 8 = 7 by omega)]; simp
      · rw [decide_eq_false q2, Bool.false_and]
  have l2 : (decide (i + 1 < 64) && (P ((i + 1) % 8) ((i + 1) / 8) && !decide ((i + 1) % 8 = 0))) = (decide (i % 8 + 1 < 8) && P (i % 8 + 1) (i / 8)) := by
    by_cases q : i % 8 + 1 < 8
    · rw [show (i + 1) % 8 = i % 8 + 1 by omega, show (i + 1) / 8 = i / 8 by omega, decide_eq_true q, decide_eq_true (show i + 1 < 64 by omega), decide_eq_false (show ¬ i % 8 + 1 = 0 by omega)]
      simp
    · rw [decide_eq_false q, Bool.false_and]
      rw [decide_eq_true (show (i + 1) % 8 = 0 by omega)]; simp
  rw [l1, l2]
  simp only [Bool.or_assoc]
theorem spread_C (h : PH) (P B : Nat → Nat → Bool) : pm_ev (92, 0, [vl (lS (toS P)), none, vl (lS (toS B)), none, none, none], [], h) = some (some (vl (lS (toS (fun x y => sprP P x y && B x y)))), h) := by
  have e : lS (toS (fun x y => sprP P x y && B x y)) = lS (fun i => ((((toS P i || ((decide (1 ≤ i) && (toS P (i - 1) && !decide ((i - 1) % 8 = 7))) || (decide (i + 1 < 64) && (toS P (i + 1) && !decide ((i + 1) % 8 = 0))))) || (decide (8 ≤ i) && toS P (i - 8))) || (decide (i + 8 < 64) && toS P (i + 8)))) && toS B i) := lS_cong (fun i hi => by rw [spread_bits P i hi]; rfl)
  rw [e, E_X6_spread]
  simp (disch := omega) only [y_1, y_8, lS_notR, lS_notL, lS_and, lS_shl, lS_shr, lS_or]
def dst (a b x y : Nat) : Nat := (max a x - min a x) + (max b y - min b y)
def ballP (c : AC) (gx gy k x y : Nat) : Bool := inB c x y && decide (dst gx gy x y ≤ k)
theorem ball_step {c : AC} (hv : cV c) {gx gy k x y : Nat} (hgx : gx < (c (0)).val) (hgy : gy < (c (1)).val) : (sprP (ballP c gx gy k) x y && inB c x y) = ballP c gx gy (k + 1) x y := by
  have hV1 := hv.1
  obtain ⟨_, w8, _, h8, _⟩ := hV1
  unfold ballP inB
  by_cases hx : x < (c (0)).val
  · by_cases hy : y < (c (1)).val
    · rw [decide_eq_true hx, decide_eq_true hy, Bool.true_and, Bool.and_true, Bool.true_and]
      unfold sprP dst
      rw [Bool.eq_iff_iff]
      simp only [Bool.or_eq_true, Bool.and_eq_true, decide_eq_true_eq]
      omega
    · rw [decide_eq_false hy]; simp
  · rw [decide_eq_false hx]; simp
theorem around_8 {h : PH} {c : AC} (hv : cV c) {gx gy R : Nat} (hgx : gx < (c (0)).val) (hgy : gy < (c (1)).val) (hR : R < 8) : ∀ n k, k + n = R → pm_ev (93, 8, [none, vi (nI R), vl (lS (boardS c)), none, vl (lS (toS (ballP c gx gy k))), none, vi (nI k)], [], h) = some (some (vl (lS (toS (ballP c gx gy R)))), h) := by
  intro n
  induction n with
  | zero =>
    intro k hk
    have hk : k = R := by omega
    subst hk
    rw [E_X6_around_8]
    simp (disch := omega) only [y_0, y_1, y_2, y_3, y_4, y_5, y_6, y_7, y_8, y_9, y_10, y_11, y_12, y_13, y_14, y_15, y_16, y_17, y_18, y_19, y_20, y_21, y_22, y_23, y_24, y_29, y_30, y_31, y_32, y_39, y_40, y_48, y_49, y_50, y_60, y_64, y_69, y_78, y_99, y_100, y_142, y_161, y_600, y_610, y_894, y_999, y_1000, y_1216, y_1276, neg1, neg2, nI_add, nI_mul, nn_sub, nn_lt, nn_le, nn_eq, in_lt, ni_lt, in_le, ni_le, in_eq, ni_eq, iI_lt, iI_le, iI_eq, nn_clamp, inb_n, t_lt, f_lt, t_le, f_le, t_eq, f_eq, ti_lt, fi_lt, ti_le, fi_le, ti_eq, fi_eq, ↓reduceIte, ite_true, ite_false, eq_self, decide_true, decide_false, Bool.true_and, Bool.and_true, Bool.false_and, Bool.and_false, Bool.true_or, Bool.or_true, Bool.false_or, Bool.or_false, bI_t, bI_f, bI_nand, n_mod, an11, an01, negn1, negn2, false_and, and_false, true_and, and_true, not_true_eq_false, not_false_eq_true, bI_n0, bI_n1, Bool.true_eq_false, Bool.false_eq_true, cI_s, cL_s, cV_s, cR_n, pm_bR_self, bI_ite, bL_ite, bV_ite, bR_ite, ]
  | succ n ih =>
    intro k hk
    have e := ih (k + 1) (by omega)
    have S := spread_C h (ballP c gx gy k) (inB c)
    rw [toS_cong (Q := ballP c gx gy (k + 1)) (fun x y _ _ => ball_step hv hgx hgy)] at S
    change pm_ev (92, 0, [vl (lS (toS (ballP c gx gy k))), none, vl (lS (boardS c)), none, none, none], [], h) = _ at S
    rw [E_X6_around_8]
    simp (disch := omega) only [y_0, y_1, y_2, y_3, y_4, y_5, y_6, y_7, y_8, y_9, y_10, y_11, y_12, y_13, y_14, y_15, y_16, y_17, y_18, y_19, y_20, y_21, y_22, y_23, y_24, y_29, y_30, y_31, y_32, y_39, y_40, y_48, y_49, y_50, y_60, y_64, y_69, y_78, y_99, y_100, y_142, y_161, y_600, y_610, y_894, y_999, y_1000, y_1216, y_1276, neg1, neg2, nI_add, nI_mul, nn_sub, nn_lt, nn_le, nn_eq, in_lt, ni_lt, in_le, ni_le, in_eq, ni_eq, iI_lt, iI_le, iI_eq, nn_clamp, inb_n, t_lt, f_lt, t_le, f_le, t_eq, f_eq, ti_lt, fi_lt, ti_le, fi_le, ti_eq, fi_eq, ↓reduceIte, ite_true, ite_false, eq_self, decide_true, decide_false, Bool.true_and, Bool.and_true, Bool.false_and, Bool.and_false, Bool.true_or, Bool.or_true, Bool.false_or, Bool.or_false, bI_t, bI_f, bI_nand, n_mod, an11, an01, negn1, negn2, false_and, and_false, true_and, and_true, not_true_eq_false, not_false_eq_true, bI_n0, bI_n1, Bool.true_eq_false, Bool.false_eq_true, cI_s, cL_s, cV_s, cR_n, pm_bR_self, bI_ite, bL_ite, bV_ite, bR_ite, S]
    exact e
theorem one_ball {c : AC} (hv : cV c) {gx gy : Nat} (hgx : gx < (c (0)).val) (hgy : gy < (c (1)).val) : lS (fun i => decide (i = 8 * gy + gx)) = lS (toS (ballP c gx gy 0)) := lS_cong (fun i hi => by
  obtain ⟨_, w8, _, h8, _⟩ := hv.1
  unfold toS ballP inB dst
  rw [← Bool.decide_and, ← Bool.decide_and]
  exact decide_eq_decide.mpr (by omega))
theorem around_C {h : PH} {c : AC} (hv : cV c) {gx gy R : Nat} (hgx : gx < (c (0)).val) (hgy : gy < (c (1)).val) (hR : R < 8) : pm_ev (93, 0, [vi (nI (8 * gy + gx)), vi (nI R), vl (lS (boardS c)), none, none, none, none], [], h) = some (some (vl (lS (toS (ballP c gx gy R)))), h) := by
  obtain ⟨_, w8, _, h8, _⟩ := hv.1
  rw [E_X6_around]
  simp (disch := omega) only [y_0, y_1, y_2, y_3, y_4, y_5, y_6, y_7, y_8, y_9, y_10, y_11, y_12, y_13, y_14, y_15, y_16, y_17, y_18, y_19, y_20, y_21, y_22, y_23, y_24, y_29, y_30, y_31, y_32, y_39, y_40, y_48, y_49, y_50, y_60, y_64, y_69, y_78, y_99, y_100, y_142, y_161, y_600, y_610, y_894, y_999, y_1000, y_1216, y_1276, neg1, neg2, nI_add, nI_mul, nn_sub, nn_lt, nn_le, nn_eq, in_lt, ni_lt, in_le, ni_le, in_eq, ni_eq, iI_lt, iI_le, iI_eq, nn_clamp, inb_n, t_lt, f_lt, t_le, f_le, t_eq, f_eq, ti_lt, fi_lt, ti_le, fi_le, ti_eq, fi_eq, ↓reduceIte, ite_true, ite_false, eq_self, decide_true, decide_false, Bool.true_and, Bool.and_true, Bool.false_and, Bool.and_false, Bool.true_or, Bool.or_true, Bool.false_or, Bool.or_false, bI_t, bI_f, bI_nand, n_mod, an11, an01, negn1, negn2, false_and, and_false, true_and, and_true, not_true_eq_false, not_false_eq_true, bI_n0, bI_n1, Bool.true_eq_false, Bool.false_eq_true, cI_s, cL_s, cV_s, cR_n, pm_bR_self, bI_ite, bL_ite, bV_ite, bR_ite, lS_one, one_ball hv hgx hgy]
  exact around_8 hv hgx hgy hR _ 0 (Nat.zero_add _)
/-- in the range of a guard -/
def aGuard (c : AC) (x y : Nat) (n : Nat) : Bool := anyB (fun g => decide (dst (c (10+g)).val (c (20+g)).val x y ≤ (c (30+g)).val)) n
def guardP (c : AC) (x y : Nat) : Bool := inB c x y && aGuard c x y (c (5)).val
theorem guarded_10 {h : PH} {j : Nat} {c : AC} (hv : cV c) (hC : CoastC h j c) : ∀ n k, k + n = (c (5)).val → pm_ev (11, 10, [vr 0 j, vl (lS (boardS c)), none, vl (lS (toS (fun x y => inB c x y && aGuard c x y k))), none, vi (nI k)], [], h) = some (some (vl (lS (toS (guardP c)))), h) := by
  have hV1 := hv.1
  have c5 := hC.1.2.2.2.2.1
  intro n
  induction n with
  | zero =>
    intro k hk
    have hk : k = (c (5)).val := by omega
    subst hk
    rw [E_X0_guarded_10]
    simp (disch := omega) only [y_0, y_1, y_2, y_3, y_4, y_5, y_6, y_7, y_8, y_9, y_10, y_11, y_12, y_13, y_14, y_15, y_16, y_17, y_18, y_19, y_20, y_21, y_22, y_23, y_24, y_29, y_30, y_31, y_32, y_39, y_40, y_48, y_49, y_50, y_60, y_64, y_69, y_78, y_99, y_100, y_142, y_161, y_600, y_610, y_894, y_999, y_1000, y_1216, y_1276, neg1, neg2, nI_add, nI_mul, nn_sub, nn_lt, nn_le, nn_eq, in_lt, ni_lt, in_le, ni_le, in_eq, ni_eq, iI_lt, iI_le, iI_eq, nn_clamp, inb_n, t_lt, f_lt, t_le, f_le, t_eq, f_eq, ti_lt, fi_lt, ti_le, fi_le, ti_eq, fi_eq, ↓reduceIte, ite_true, ite_false, eq_self, decide_true, decide_false, Bool.true_and, Bool.and_true, Bool.false_and, Bool.and_false, Bool.true_or, Bool.or_true, Bool.false_or, Bool.or_false, bI_t, bI_f, bI_nand, n_mod, an11, an01, negn1, negn2, false_and, and_false, true_and, and_true, not_true_eq_false, not_false_eq_true, bI_n0, bI_n1, Bool.true_eq_false, Bool.false_eq_true, cI_s, cL_s, cV_s, cR_n, pm_bR_self, bI_ite, bL_ite, bV_ite, bR_ite, c5]
    rfl
  | succ n ih =>
    intro k hk
    have e := ih (k + 1) (by omega)
    have hk2 : k < (c (5)).val := by omega
    obtain ⟨g1, g2⟩ := hC.2.1 k hk2
    obtain ⟨v1, v2, v3⟩ := hv.2.1 k hk2
    have A := around_C (h := h) hv v1 v2 (show (c (30+k)).val < 8 by omega)
    have e2 : lS (toS (fun x y => inB c x y && aGuard c x y (k + 1))) = lS (toS (fun x y => inB c x y && aGuard c x y k)) ||| lS (toS (ballP c (c (10+k)).val (c (20+k)).val (c (30+k)).val)) := by
      rw [lS_or]
      refine lS_cong (fun i hi => ?_)
      simp only [toS, ballP, aGuard, anyB]
      cases inB c (i % 8) (i / 8) <;> simp
    rw [e2] at e
    rw [E_X0_guarded_10]
    simp (disch := omega) only [y_0, y_1, y_2, y_3, y_4, y_5, y_6, y_7, y_8, y_9, y_10, y_11, y_12, y_13, y_14, y_15, y_16, y_17, y_18, y_19, y_20, y_21, y_22, y_23, y_24, y_29, y_30, y_31, y_32, y_39, y_40, y_48, y_49, y_50, y_60, y_64, y_69, y_78, y_99, y_100, y_142, y_161, y_600, y_610, y_894, y_999, y_1000, y_1216, y_1276, neg1, neg2, nI_add, nI_mul, nn_sub, nn_lt, nn_le, nn_eq, in_lt, ni_lt, in_le, ni_le, in_eq, ni_eq, iI_lt, iI_le, iI_eq, nn_clamp, inb_n, t_lt, f_lt, t_le, f_le, t_eq, f_eq, ti_lt, fi_lt, ti_le, fi_le, ti_eq, fi_eq, ↓reduceIte, ite_true, ite_false, eq_self, decide_true, decide_false, Bool.true_and, Bool.and_true, Bool.false_and, Bool.and_false, Bool.true_or, Bool.or_true, Bool.false_or, Bool.or_false, bI_t, bI_f, bI_nand, n_mod, an11, an01, negn1, negn2, false_and, and_false, true_and, and_true, not_true_eq_false, not_false_eq_true, bI_n0, bI_n1, Bool.true_eq_false, Bool.false_eq_true, cI_s, cL_s, cV_s, cR_n, pm_bR_self, bI_ite, bL_ite, bV_ite, bR_ite, c5, g1, g2, A]
    exact e
theorem guarded_C {h : PH} {j : Nat} {c : AC} (hv : cV c) (hC : CoastC h j c) : pm_ev (11, 0, [vr 0 j, none, none, none, none, none], [], h) = some (some (vl (lS (toS (guardP c)))), h) := by
  have e := guarded_10 hv hC _ 0 (Nat.zero_add _)
  have e0 : lS (toS (fun x y => inB c x y && aGuard c x y 0)) = 0 := by
    rw [lS_0]; exact lS_cong (fun i _ => by unfold toS aGuard anyB; simp)
  rw [e0] at e
  rw [E_X0_guarded]
  simp (disch := omega) only [y_0, y_1, y_2, y_3, y_4, y_5, y_6, y_7, y_8, y_9, y_10, y_11, y_12, y_13, y_14, y_15, y_16, y_17, y_18, y_19, y_20, y_21, y_22, y_23, y_24, y_29, y_30, y_31, y_32, y_39, y_40, y_48, y_49, y_50, y_60, y_64, y_69, y_78, y_99, y_100, y_142, y_161, y_600, y_610, y_894, y_999, y_1000, y_1216, y_1276, neg1, neg2, nI_add, nI_mul, nn_sub, nn_lt, nn_le, nn_eq, in_lt, ni_lt, in_le, ni_le, in_eq, ni_eq, iI_lt, iI_le, iI_eq, nn_clamp, inb_n, t_lt, f_lt, t_le, f_le, t_eq, f_eq, ti_lt, fi_lt, ti_le, fi_le, ti_eq, fi_eq, ↓reduceIte, ite_true, ite_false, eq_self, decide_true, decide_false, Bool.true_and, Bool.and_true, Bool.false_and, Bool.and_false, Bool.true_or, Bool.or_true, Bool.false_or, Bool.or_false, bI_t, bI_f, bI_nand, n_mod, an11, an01, negn1, negn2, false_and, and_false, true_and, and_true, not_true_eq_false, not_false_eq_true, bI_n0, bI_n1, Bool.true_eq_false, Bool.false_eq_true, cI_s, cL_s, cV_s, cR_n, pm_bR_self, bI_ite, bL_ite, bV_ite, bR_ite, board_C hv hC]
  exact e
