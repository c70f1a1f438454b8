/-! ===== voyages: what a ship can come to ===== -/
def rockP (c : AC) (x y : Nat) : Bool := decide ((c (200+(8*y+x))).val = 1)
def stepP (c : AC) (lit : Bool) (P : Nat → Nat → Bool) (x y : Nat) : Bool := (sprP P x y && inB c x y) && (if lit then !aGuard c x y (c (5)).val else !rockP c x y)
def oneP (fx fy x y : Nat) : Bool := decide (x = fx) && decide (y = fy)
def rch (c : AC) (L : Nat → Bool) (b fx fy : Nat) : Nat → Nat → Nat → Bool
  | 0 => oneP fx fy
  | t + 1 => stepP c (L ((b + t) % 24)) (rch c L b fx fy t)
def SeaC (h : PH) (c : AC) (fx fy gx gy : Nat) : Prop := h.2 5 0 0 = lS (boardS c) ∧ h.2 5 0 1 = lS (fun i => boardS c i && !toS (guardP c) i) ∧ h.2 5 0 2 = lS (fun i => boardS c i && !decide ((c (200+i)).val = 1)) ∧ h.2 5 0 3 = lS (toS (oneP fx fy)) ∧ h.2 5 0 4 = lS (toS (oneP gx gy))
theorem one_lS {gx gy : Nat} (hx : gx < 8) (hy : gy < 8) : lS (fun i => decide (i = 8 * gy + gx)) = lS (toS (oneP gx gy)) := lS_cong (fun i hi => by
  unfold toS oneP
  rw [← Bool.decide_and]
  exact decide_eq_decide.mpr (by omega))
theorem lS_empty (P : Nat → Nat → Bool) : (lS (toS P) = 0) = ∀ x y, x < 8 → y < 8 → P x y = false := by
  rw [lS_eq0]
  refine propext ⟨fun h x y hx hy => ?_, fun h i hi => h _ _ (Nat.mod_lt _ (by decide)) (by omega)⟩
  have := h (8 * y + x) (by omega)
  unfold toS at this
  rwa [show (8 * y + x) % 8 = x by omega, show (8 * y + x) / 8 = y by omega] at this
theorem lS_goal (P : Nat → Nat → Bool) {gx gy : Nat} (hx : gx < 8) (hy : gy < 8) : (lS (toS P) &&& lS (toS (oneP gx gy)) = 0) = (P gx gy = false) := by
  rw [lS_and, show (fun i => toS P i && toS (oneP gx gy) i) = toS (fun x y => P x y && oneP gx gy x y) from rfl, lS_empty]
  refine propext ⟨fun h => ?_, fun h x y _ _ => ?_⟩
  · have := h gx gy hx hy
    unfold oneP at this
    simpa using this
  · unfold oneP
    by_cases e : x = gx ∧ y = gy
    · rw [e.1, e.2, h]; rfl
    · cases P x y
      · rfl
      · simp only [Bool.true_and]
        by_cases e1 : x = gx
        · rw [decide_eq_false (fun q => e ⟨e1, q⟩ : ¬ y = gy), Bool.and_false]
        · simp [e1]
theorem step_empty {c : AC} {lit : Bool} {P : Nat → Nat → Bool} (h : ∀ x y, x < 8 → y < 8 → P x y = false) : ∀ x y, x < 8 → y < 8 → stepP c lit P x y = false := fun x y hx hy => by
  unfold stepP sprP
  rw [h x y hx hy]
  have e1 : (decide (1 ≤ x) && P (x - 1) y) = false := by rw [h (x - 1) y (by omega) hy, Bool.and_false]
  have e2 : (decide (x + 1 < 8) && P (x + 1) y) = false := by
    by_cases q : x + 1 < 8
    · rw [h (x + 1) y q hy, Bool.and_false]
    · rw [decide_eq_false q, Bool.false_and]
  have e3 : (decide (1 ≤ y) && P x (y - 1)) = false := by rw [h x (y - 1) hx (by omega), Bool.and_false]
  have e4 : (decide (y + 1 < 8) && P x (y + 1)) = false := by
    by_cases q : y + 1 < 8
    · rw [h x (y + 1) hx q, Bool.and_false]
    · rw [decide_eq_false q, Bool.false_and]
  rw [e1, e2, e3, e4]
  rfl
theorem rch_empty {c : AC} {L : Nat → Bool} {b fx fy t : Nat} (h : ∀ x y, x < 8 → y < 8 → rch c L b fx fy t x y = false) : ∀ n x y, x < 8 → y < 8 → rch c L b fx fy (t + n) x y = false
  | 0 => h
  | n + 1 => step_empty (rch_empty h n)
theorem afterHour_C {h : PH} {c : AC} {fx fy gx gy M t : Nat} (hS : SeaC h c fx fy gx gy) (P : Nat → Nat → Bool) (hM : M < 2147483648) (ht : t < 100000) : pm_ev (95, 0, [vr 5 0, vl (lS (toS P)), none, vi (nI M), vi (nI t), none], [], h) = some (some (vl (lS (toS (stepP c (M.testBit (t % 24)) P)))), h) := by
  obtain ⟨s0, s1, s2, _, _⟩ := hS
  have S := spread_C h P (inB c)
  change pm_ev (92, 0, [vl (lS (toS P)), none, vl (lS (boardS c)), none, none, none], [], h) = _ at S
  have e1 : lS (fun i => toS (fun x y => sprP P x y && inB c x y) i && (boardS c i && !toS (guardP c) i)) = lS (toS (stepP c true P)) := lS_cong (fun i hi => by
    simp only [toS, stepP, guardP, boardS, if_true]
    cases inB c (i % 8) (i / 8) <;> simp)
  have e2 : lS (fun i => toS (fun x y => sprP P x y && inB c x y) i && (boardS c i && !decide ((c (200+i)).val = 1))) = lS (toS (stepP c false P)) := lS_cong (fun i hi => by
    simp only [toS, stepP, rockP, boardS, Bool.false_eq_true, if_false]
    rw [show 8 * (i / 8) + i % 8 = i by omega]
    cases inB c (i % 8) (i / 8) <;> simp)
  rw [E_X6_afterHour]
  cases q : M.testBit (t % 24)
  · simp (disch := omega) only [y_0, y_1, y_2, y_3, y_4, y_5, y_6, y_7, y_8, y_9, y_10, y_11, y_12, y_13, y_14, y_15, y_16, y_17, y_18, y_19, y_20, y_21, y_22, y_23, y_24, y_29, y_30, y_31, y_32, y_39, y_40, y_48, y_49, y_50, y_60, y_64, y_69, y_78, y_99, y_100, y_142, y_161, y_600, y_610, y_894, y_999, y_1000, y_1216, y_1276, neg1, neg2, nI_add, nI_mul, nn_sub, nn_lt, nn_le, nn_eq, in_lt, ni_lt, in_le, ni_le, in_eq, ni_eq, iI_lt, iI_le, iI_eq, nn_clamp, inb_n, t_lt, f_lt, t_le, f_le, t_eq, f_eq, ti_lt, fi_lt, ti_le, fi_le, ti_eq, fi_eq, ↓reduceIte, ite_true, ite_false, eq_self, decide_true, decide_false, Bool.true_and, Bool.and_true, Bool.false_and, Bool.and_false, Bool.true_or, Bool.or_true, Bool.false_or, Bool.or_false, bI_t, bI_f, bI_nand, n_mod, an11, an01, negn1, negn2, false_and, and_false, true_and, and_true, not_true_eq_false, not_false_eq_true, bI_n0, bI_n1, Bool.true_eq_false, Bool.false_eq_true, cI_s, cL_s, cV_s, cR_n, pm_bR_self, bI_ite, bL_ite, bV_ite, bR_ite, nn_div, nn_and, shr_n, bit_i, q, s0, S, s2, lS_and, e2]
  · simp (disch := omega) only [y_0, y_1, y_2, y_3, y_4, y_5, y_6, y_7, y_8, y_9, y_10, y_11, y_12, y_13, y_14, y_15, y_16, y_17, y_18, y_19, y_20, y_21, y_22, y_23, y_24, y_29, y_30, y_31, y_32, y_39, y_40, y_48, y_49, y_50, y_60, y_64, y_69, y_78, y_99, y_100, y_142, y_161, y_600, y_610, y_894, y_999, y_1000, y_1216, y_1276, neg1, neg2, nI_add, nI_mul, nn_sub, nn_lt, nn_le, nn_eq, in_lt, ni_lt, in_le, ni_le, in_eq, ni_eq, iI_lt, iI_le, iI_eq, nn_clamp, inb_n, t_lt, f_lt, t_le, f_le, t_eq, f_eq, ti_lt, fi_lt, ti_le, fi_le, ti_eq, fi_eq, ↓reduceIte, ite_true, ite_false, eq_self, decide_true, decide_false, Bool.true_and, Bool.and_true, Bool.false_and, Bool.and_false, Bool.true_or, Bool.or_true, Bool.false_or, Bool.or_false, bI_t, bI_f, bI_nand, n_mod, an11, an01, negn1, negn2, false_and, and_false, true_and, and_true, not_true_eq_false, not_false_eq_true, bI_n0, bI_n1, Bool.true_eq_false, Bool.false_eq_true, cI_s, cL_s, cV_s, cR_n, pm_bR_self, bI_ite, bL_ite, bV_ite, bR_ite, nn_div, nn_and, shr_n, bit_i, q, s0, S, s1, lS_and, e1]
def fstB (p : Nat → Bool) : Nat → Nat → Option Nat
  | 0, _ => none
  | r + 1, q => if p q then some q else fstB p r (q + 1)
theorem fstB_t {p : Nat → Bool} {r q : Nat} (h : p q = true) : fstB p (r + 1) q = some q := by rw [fstB, if_pos h]
theorem fstB_f {p : Nat → Bool} {r q : Nat} (h : p q = false) : fstB p (r + 1) q = fstB p r (q + 1) := by rw [fstB, if_neg (by rw [h]; decide)]
theorem fstB_none {p : Nat → Bool} : ∀ r q, (∀ i, q ≤ i → p i = false) → fstB p r q = none
  | 0, _, _ => rfl
  | r + 1, q, h => by
    rw [fstB, h q (Nat.le_refl _), if_neg (by decide)]
    exact fstB_none r (q + 1) (fun i hi => h i (by omega))
theorem fewest_9 {h : PH} {c : AC} {fx fy gx gy M b mx : Nat} (hS : SeaC h c fx fy gx gy) (hgx : gx < 8) (hgy : gy < 8) (hM : M < 2147483648) (hb : b < 100) (hmx : mx < 100) : ∀ n k, k + n = mx + 1 → pm_ev (96, 9, [vr 5 0, vi (nI M), vi (nI b), vi (nI mx), vl (lS (toS (rch c (fun i => M.testBit i) b fx fy k))), none, vi (nI k)], [], h) = some (some (vi (oN (fstB (fun t => rch c (fun i => M.testBit i) b fx fy t gx gy) n k))), h) := by
  have s4 := hS.2.2.2.2
  intro n
  induction n with
  | zero =>
    intro k hk
    rw [E_X6_fewest_9]
    simp (disch := omega) only [y_0, y_1, y_2, y_3, y_4, y_5, y_6, y_7, y_8, y_9, y_10, y_11, y_12, y_13, y_14, y_15, y_16, y_17, y_18, y_19, y_20, y_21, y_22, y_23, y_24, y_29, y_30, y_31, y_32, y_39, y_40, y_48, y_49, y_50, y_60, y_64, y_69, y_78, y_99, y_100, y_142, y_161, y_600, y_610, y_894, y_999, y_1000, y_1216, y_1276, neg1, neg2, nI_add, nI_mul, nn_sub, nn_lt, nn_le, nn_eq, in_lt, ni_lt, in_le, ni_le, in_eq, ni_eq, iI_lt, iI_le, iI_eq, nn_clamp, inb_n, t_lt, f_lt, t_le, f_le, t_eq, f_eq, ti_lt, fi_lt, ti_le, fi_le, ti_eq, fi_eq, ↓reduceIte, ite_true, ite_false, eq_self, decide_true, decide_false, Bool.true_and, Bool.and_true, Bool.false_and, Bool.and_false, Bool.true_or, Bool.or_true, Bool.false_or, Bool.or_false, bI_t, bI_f, bI_nand, n_mod, an11, an01, negn1, negn2, false_and, and_false, true_and, and_true, not_true_eq_false, not_false_eq_true, bI_n0, bI_n1, Bool.true_eq_false, Bool.false_eq_true, cI_s, cL_s, cV_s, cR_n, pm_bR_self, bI_ite, bL_ite, bV_ite, bR_ite, ]
    rfl
  | succ n ih =>
    intro k hk
    have e := ih (k + 1) (by omega)
    rw [E_X6_fewest_9]
    by_cases q0 : lS (toS (rch c (fun i => M.testBit i) b fx fy k)) = 0
    · have q1 := q0
      rw [lS_empty] at q1
      rw [fstB_none (n + 1) k (fun i hi => by
        have := rch_empty q1 (i - k) gx gy hgx hgy
        rwa [show k + (i - k) = i by omega] at this)]
      simp (disch := omega) only [y_0, y_1, y_2, y_3, y_4, y_5, y_6, y_7, y_8, y_9, y_10, y_11, y_12, y_13, y_14, y_15, y_16, y_17, y_18, y_19, y_20, y_21, y_22, y_23, y_24, y_29, y_30, y_31, y_32, y_39, y_40, y_48, y_49, y_50, y_60, y_64, y_69, y_78, y_99, y_100, y_142, y_161, y_600, y_610, y_894, y_999, y_1000, y_1216, y_1276, neg1, neg2, nI_add, nI_mul, nn_sub, nn_lt, nn_le, nn_eq, in_lt, ni_lt, in_le, ni_le, in_eq, ni_eq, iI_lt, iI_le, iI_eq, nn_clamp, inb_n, t_lt, f_lt, t_le, f_le, t_eq, f_eq, ti_lt, fi_lt, ti_le, fi_le, ti_eq, fi_eq, ↓reduceIte, ite_true, ite_false, eq_self, decide_true, decide_false, Bool.true_and, Bool.and_true, Bool.false_and, Bool.and_false, Bool.true_or, Bool.or_true, Bool.false_or, Bool.or_false, bI_t, bI_f, bI_nand, n_mod, an11, an01, negn1, negn2, false_and, and_false, true_and, and_true, not_true_eq_false, not_false_eq_true, bI_n0, bI_n1, Bool.true_eq_false, Bool.false_eq_true, cI_s, cL_s, cV_s, cR_n, pm_bR_self, bI_ite, bL_ite, bV_ite, bR_ite, lcmp_0, q0]
      rfl
    · have A := afterHour_C hS (rch c (fun i => M.testBit i) b fx fy k) hM (show b + k < 100000 by omega)
      cases q : rch c (fun i => M.testBit i) b fx fy k gx gy
      · rw [fstB_f (p := fun t => rch c (fun i => M.testBit i) b fx fy t gx gy) q]
        simp (disch := omega) only [y_0, y_1, y_2, y_3, y_4, y_5, y_6, y_7, y_8, y_9, y_10, y_11, y_12, y_13, y_14, y_15, y_16, y_17, y_18, y_19, y_20, y_21, y_22, y_23, y_24, y_29, y_30, y_31, y_32, y_39, y_40, y_48, y_49, y_50, y_60, y_64, y_69, y_78, y_99, y_100, y_142, y_161, y_600, y_610, y_894, y_999, y_1000, y_1216, y_1276, neg1, neg2, nI_add, nI_mul, nn_sub, nn_lt, nn_le, nn_eq, in_lt, ni_lt, in_le, ni_le, in_eq, ni_eq, iI_lt, iI_le, iI_eq, nn_clamp, inb_n, t_lt, f_lt, t_le, f_le, t_eq, f_eq, ti_lt, fi_lt, ti_le, fi_le, ti_eq, fi_eq, ↓reduceIte, ite_true, ite_false, eq_self, decide_true, decide_false, Bool.true_and, Bool.and_true, Bool.false_and, Bool.and_false, Bool.true_or, Bool.or_true, Bool.false_or, Bool.or_false, bI_t, bI_f, bI_nand, n_mod, an11, an01, negn1, negn2, false_and, and_false, true_and, and_true, not_true_eq_false, not_false_eq_true, bI_n0, bI_n1, Bool.true_eq_false, Bool.false_eq_true, cI_s, cL_s, cV_s, cR_n, pm_bR_self, bI_ite, bL_ite, bV_ite, bR_ite, lcmp_0, q0, s4, lS_goal _ hgx hgy, q, A]
        exact e
      · rw [fstB_t (p := fun t => rch c (fun i => M.testBit i) b fx fy t gx gy) q]
        simp (disch := omega) only [y_0, y_1, y_2, y_3, y_4, y_5, y_6, y_7, y_8, y_9, y_10, y_11, y_12, y_13, y_14, y_15, y_16, y_17, y_18, y_19, y_20, y_21, y_22, y_23, y_24, y_29, y_30, y_31, y_32, y_39, y_40, y_48, y_49, y_50, y_60, y_64, y_69, y_78, y_99, y_100, y_142, y_161, y_600, y_610, y_894, y_999, y_1000, y_1216, y_1276, neg1, neg2, nI_add, nI_mul, nn_sub, nn_lt, nn_le, nn_eq, in_lt, ni_lt, in_le, ni_le, in_eq, ni_eq, iI_lt, iI_le, iI_eq, nn_clamp, inb_n, t_lt, f_lt, t_le, f_le, t_eq, f_eq, ti_lt, fi_lt, ti_le, fi_le, ti_eq, fi_eq, ↓reduceIte, ite_true, ite_false, eq_self, decide_true, decide_false, Bool.true_and, Bool.and_true, Bool.false_and, Bool.and_false, Bool.true_or, Bool.or_true, Bool.false_or, Bool.or_false, bI_t, bI_f, bI_nand, n_mod, an11, an01, negn1, negn2, false_and, and_false, true_and, and_true, not_true_eq_false, not_false_eq_true, bI_n0, bI_n1, Bool.true_eq_false, Bool.false_eq_true, cI_s, cL_s, cV_s, cR_n, pm_bR_self, bI_ite, bL_ite, bV_ite, bR_ite, lcmp_0, q0, s4, lS_goal _ hgx hgy, q]
        rfl
theorem fewest_C {h : PH} {c : AC} {fx fy gx gy M b mx : Nat} (hS : SeaC h c fx fy gx gy) (hgx : gx < 8) (hgy : gy < 8) (hM : M < 2147483648) (hb : b < 100) (hmx : mx < 100) : pm_ev (96, 0, [vr 5 0, vi (nI M), vi (nI b), vi (nI mx), none, none, none], [], h) = some (some (vi (oN (fstB (fun t => rch c (fun i => M.testBit i) b fx fy t gx gy) (mx + 1) 0))), h) := by
  rw [E_X6_fewest, hS.2.2.2.1]
  exact fewest_9 hS hgx hgy hM hb hmx _ 0 (Nat.zero_add _)
theorem fstB_lt {p : Nat → Bool} : ∀ r q x, fstB p r q = some x → x < q + r
  | 0, _, _, h => by cases h
  | r + 1, q, x, h => by
    rw [fstB] at h
    split at h
    · cases h; omega
    · have := fstB_lt r (q + 1) x h; omega
theorem comes_C {h : PH} {c : AC} {fx fy gx gy M b mx : Nat} (hS : SeaC h c fx fy gx gy) (hgx : gx < 8) (hgy : gy < 8) (hM : M < 2147483648) (hb : b < 100) (hmx : mx < 100) : pm_ev (97, 0, [vr 5 0, vi (nI M), vi (nI b), vi (nI mx)], [], h) = some (some (vi (bI (fstB (fun t => rch c (fun i => M.testBit i) b fx fy t gx gy) (mx + 1) 0).isSome)), h) := by
  rw [E_X6_comes, fewest_C hS hgx hgy hM hb hmx]
  cases q : fstB (fun t => rch c (fun i => M.testBit i) b fx fy t gx gy) (mx + 1) 0 with
  | none => rfl
  | some x =>
    have := fstB_lt _ _ _ q
    show pm_bI (some (some (vi (nI x)), h)) _ = _
    simp (disch := omega) only [y_0, y_1, y_2, y_3, y_4, y_5, y_6, y_7, y_8, y_9, y_10, y_11, y_12, y_13, y_14, y_15, y_16, y_17, y_18, y_19, y_20, y_21, y_22, y_23, y_24, y_29, y_30, y_31, y_32, y_39, y_40, y_48, y_49, y_50, y_60, y_64, y_69, y_78, y_99, y_100, y_142, y_161, y_600, y_610, y_894, y_999, y_1000, y_1216, y_1276, neg1, neg2, nI_add, nI_mul, nn_sub, nn_lt, nn_le, nn_eq, in_lt, ni_lt, in_le, ni_le, in_eq, ni_eq, iI_lt, iI_le, iI_eq, nn_clamp, inb_n, t_lt, f_lt, t_le, f_le, t_eq, f_eq, ti_lt, fi_lt, ti_le, fi_le, ti_eq, fi_eq, ↓reduceIte, ite_true, ite_false, eq_self, decide_true, decide_false, Bool.true_and, Bool.and_true, Bool.false_and, Bool.and_false, Bool.true_or, Bool.or_true, Bool.false_or, Bool.or_false, bI_t, bI_f, bI_nand, n_mod, an11, an01, negn1, negn2, false_and, and_false, true_and, and_true, not_true_eq_false, not_false_eq_true, bI_n0, bI_n1, Bool.true_eq_false, Bool.false_eq_true, cI_s, cL_s, cV_s, cR_n, pm_bR_self, bI_ite, bL_ite, bV_ite, bR_ite, ]
    rfl
theorem chart_C {h : PH} {j : Nat} {c : AC} (hv : cV c) (hC : CoastC h j c) {s gx gy : Nat} (hs : s < (c (6)).val) (hgx : gx < 8) (hgy : gy < 8) : ∃ h', pm_ev (94, 0, [vr 5 0, vr 0 j, vi (nI s), vi (nI (8 * gy + gx))], [], h) = some (none, h') ∧ SeaC h' c (c (40+s)).val (c (50+s)).val gx gy ∧ h'.1 = h.1 ∧ ∀ t i k, t ≠ 5 → h'.2 t i k = h.2 t i k := by
  have hV1 := hv.1
  have c8 := hC.1.2.2.2.2.2.1
  have cr := hC.1.2.2.2.2.2.2
  obtain ⟨s1, _, _, _⟩ := (hC.2.2 s hs).1
  obtain ⟨v1, v2, _⟩ := hv.2.2.1 s hs
  have hC1 : ∀ x, CoastC (pm_sL h 5 0 0 x) j c := fun x => hC.fr (fun _ _ _ _ => rfl) (sL_tag _ _ _ _ _ _ (by decide))
  have G := guarded_C hv (hC1 (lS (boardS c)))
  refine ⟨pm_sL (pm_sL (pm_sL (pm_sL (pm_sL h 5 0 0 (lS (boardS c))) 5 0 1 (lS (fun i => boardS c i && !toS (guardP c) i))) 5 0 2 (lS (fun i => boardS c i && !decide ((c (200+i)).val = 1)))) 5 0 3 (lS (toS (oneP (c (40+s)).val (c (50+s)).val)))) 5 0 4 (lS (toS (oneP gx gy))), ?_, ?_, rfl, fun t i k ht => ?_⟩
  · rw [E_X6_chart]
    simp (disch := omega) only [y_0, y_1, y_2, y_3, y_4, y_5, y_6, y_7, y_8, y_9, y_10, y_11, y_12, y_13, y_14, y_15, y_16, y_17, y_18, y_19, y_20, y_21, y_22, y_23, y_24, y_29, y_30, y_31, y_32, y_39, y_40, y_48, y_49, y_50, y_60, y_64, y_69, y_78, y_99, y_100, y_142, y_161, y_600, y_610, y_894, y_999, y_1000, y_1216, y_1276, neg1, neg2, nI_add, nI_mul, nn_sub, nn_lt, nn_le, nn_eq, in_lt, ni_lt, in_le, ni_le, in_eq, ni_eq, iI_lt, iI_le, iI_eq, nn_clamp, inb_n, t_lt, f_lt, t_le, f_le, t_eq, f_eq, ti_lt, fi_lt, ti_le, fi_le, ti_eq, fi_eq, ↓reduceIte, ite_true, ite_false, eq_self, decide_true, decide_false, Bool.true_and, Bool.and_true, Bool.false_and, Bool.and_false, Bool.true_or, Bool.or_true, Bool.false_or, Bool.or_false, bI_t, bI_f, bI_nand, n_mod, an11, an01, negn1, negn2, false_and, and_false, true_and, and_true, not_true_eq_false, not_false_eq_true, bI_n0, bI_n1, Bool.true_eq_false, Bool.false_eq_true, cI_s, cL_s, cV_s, cR_n, pm_bR_self, bI_ite, bL_ite, bV_ite, bR_ite, E_X6_chart_66, board_C hv hC, G, sI_same, sI_tag, sI_num, sI_pl, sI_2, sL_1, sL_same, sL_tag, sL_num, sL_pl, cp_in, cp_tag, cp_num, cp_2, lS_not, lS_and, cr, E_X0_hasShip, c8, s1, lS_one, one_lS (show (c (40+s)).val < 8 by omega) (show (c (50+s)).val < 8 by omega), one_lS hgx hgy]
  · refine ⟨?_, ?_, ?_, ?_, ?_⟩ <;> simp (disch := omega) only [sL_pl, sL_same]
  · simp (disch := omega) only [sL_tag]
theorem chart_fr {h h' : PH} (h1 : h'.1 = h.1) (h2 : ∀ t i k, t ≠ 5 → h'.2 t i k = h.2 t i k) : Fr scC h h' := fun t i ht k => by
  rw [h1]
  refine ⟨rfl, h2 t i k (fun e => ?_)⟩
  subst e
  simp [scC] at ht
