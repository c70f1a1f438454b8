/-! ===== the tape's tokens ===== -/
theorem y_97 : (97 : Int32) = nI 97 := by decide
theorem y_122 : (122 : Int32) = nI 122 := by decide
theorem y_48' : (48 : Int32) = nI 48 := by decide
theorem y_57 : (57 : Int32) = nI 57 := by decide
theorem y_59 : (59 : Int32) = nI 59 := by decide
def rnF (P : Nat → Bool) (n : Nat) : Nat → Nat → Nat
  | 0, p => p
  | r + 1, p => if p < n ∧ P p = true then rnF P n r (p + 1) else p
/-- where a row of such bytes ends -/
def run (P : Nat → Bool) (n p : Nat) : Nat := rnF P n (n - p) p
theorem run_s {P : Nat → Bool} {n p : Nat} (h : p < n) (hp : P p = true) : run P n p = run P n (p + 1) := by
  unfold run
  rw [show n - p = (n - (p + 1)) + 1 by omega, rnF, if_pos ⟨h, hp⟩]
theorem run_e {P : Nat → Bool} {n p : Nat} (h : ¬ (p < n ∧ P p = true)) : run P n p = p := by
  unfold run
  cases n - p with
  | zero => rfl
  | succ r => rw [rnF, if_neg h]
theorem run_le {P : Nat → Bool} {n : Nat} : ∀ r p, n - p = r → p ≤ n → p ≤ run P n p ∧ run P n p ≤ n := by
  intro r
  induction r with
  | zero =>
    intro p hr hp
    rw [run_e (by omega)]; omega
  | succ r ih =>
    intro p hr hp
    by_cases q : p < n ∧ P p = true
    · rw [run_s q.1 q.2]
      have := ih (p + 1) (by omega) (by omega)
      omega
    · rw [run_e q]; omega
theorem run_in {P : Nat → Bool} {n : Nat} : ∀ r p, n - p = r → ∀ i, p ≤ i → i < run P n p → P i = true := by
  intro r
  induction r with
  | zero =>
    intro p hr i h1 h2
    rw [run_e (by omega)] at h2; omega
  | succ r ih =>
    intro p hr i h1 h2
    by_cases q : p < n ∧ P p = true
    · rw [run_s q.1 q.2] at h2
      by_cases e : i = p
      · rw [e]; exact q.2
      · exact ih (p + 1) (by omega) i (by omega) h2
    · rw [run_e q] at h2; omega
theorem run_at {P : Nat → Bool} {n : Nat} : ∀ r p, n - p = r → ¬ (run P n p < n ∧ P (run P n p) = true) := by
  intro r
  induction r with
  | zero =>
    intro p hr
    rw [run_e (by omega)]; omega
  | succ r ih =>
    intro p hr
    by_cases q : p < n ∧ P p = true
    · rw [run_s q.1 q.2]; exact ih (p + 1) (by omega)
    · rw [run_e q]; exact q
def isL (b : Nat) : Bool := decide (97 ≤ b ∧ b ≤ 122)
def isD (b : Nat) : Bool := decide (48 ≤ b ∧ b ≤ 57)
def isB (b : Nat) : Bool := decide (b = 10 ∨ b = 32)
/-- a token's start behind p; its end; its kind: 0 end, 1 word, 2 number, 3 close, 4 none -/
def tS (T : Nat → Nat) (n p : Nat) : Nat := run (fun i => isB (T i)) n p
def tE (T : Nat → Nat) (n w : Nat) : Nat := if w < n then (if isL (T w) then run (fun i => isL (T i)) n w else if isD (T w) then run (fun i => isD (T i)) n w else w + 1) else w
def tK (T : Nat → Nat) (n w : Nat) : Nat := if w < n then (if isL (T w) then 1 else if isD (T w) then (if run (fun i => isD (T i)) n w - w ≤ 2 then 2 else 4) else if T w = 59 then 3 else 4) else 0
theorem tS_le {T : Nat → Nat} {n p : Nat} (hp : p ≤ n) : p ≤ tS T n p ∧ tS T n p ≤ n := run_le _ p rfl hp
theorem tE_le {T : Nat → Nat} {n w : Nat} (hw : w ≤ n) : w ≤ tE T n w ∧ tE T n w ≤ n := by
  unfold tE
  split
  · split
    · exact run_le _ w rfl hw
    · split
      · exact run_le _ w rfl hw
      · omega
  · omega
theorem tE_gt {T : Nat → Nat} {n w : Nat} (hw : w < n) : w < tE T n w := by
  unfold tE
  rw [if_pos hw]
  split
  · rename_i q
    rw [run_s hw q]
    have := run_le (P := fun i => isL (T i)) (n := n) _ (w + 1) rfl (by omega)
    omega
  · split
    · rename_i q
      rw [run_s hw q]
      have := run_le (P := fun i => isD (T i)) (n := n) _ (w + 1) rfl (by omega)
      omega
    · omega
def TapC (h : PH) (n : Nat) (T : Nat → Nat) : Prop := ∀ k, k < n → T k < 256 ∧ h.1 26 0 k = nI (T k)
theorem sI_ow (h : PH) (t i k : Nat) (v w : Int32) : pm_sI (pm_sI h t i k v) t i k w = pm_sI h t i k w := ph_ext (fun a b c => by
  rw [pm_sI_at, pm_sI_at, pm_sI_at]
  split <;> rfl) rfl
theorem isLet_C (h : PH) {b : Nat} (hb : b < 256) : pm_ev (68, 0, [vi (nI b)], [], h) = some (some (vi (bI (isL b))), h) := by
  rw [E_X4_isLetter]
  unfold isL
  by_cases q1 : b < 97
  · rw [decide_eq_false (by omega)]
    simp (disch := omega) only [y_0, y_1, y_2, y_3, y_4, y_5, y_6, y_7, y_8, y_9, y_10, y_11, y_12, y_13, y_14, y_15, y_16, y_17, y_18, y_19, y_20, y_21, y_22, y_23, y_24, y_29, y_30, y_31, y_32, y_39, y_40, y_48, y_49, y_50, y_60, y_64, y_69, y_78, y_99, y_100, y_142, y_161, y_600, y_610, y_894, y_999, y_1000, y_1216, y_1276, neg1, neg2, nI_add, nI_mul, nn_sub, nn_lt, nn_le, nn_eq, in_lt, ni_lt, in_le, ni_le, in_eq, ni_eq, iI_lt, iI_le, iI_eq, nn_clamp, inb_n, t_lt, f_lt, t_le, f_le, t_eq, f_eq, ti_lt, fi_lt, ti_le, fi_le, ti_eq, fi_eq, ↓reduceIte, ite_true, ite_false, eq_self, decide_true, decide_false, Bool.true_and, Bool.and_true, Bool.false_and, Bool.and_false, Bool.true_or, Bool.or_true, Bool.false_or, Bool.or_false, bI_t, bI_f, bI_nand, n_mod, an11, an01, negn1, negn2, false_and, and_false, true_and, and_true, not_true_eq_false, not_false_eq_true, bI_n0, bI_n1, Bool.true_eq_false, Bool.false_eq_true, cI_s, cL_s, cV_s, cR_n, pm_bR_self, bI_ite, bL_ite, bV_ite, bR_ite, y_97]
  · by_cases q2 : 122 < b
    · rw [decide_eq_false (by omega)]
      simp (disch := omega) only [y_0, y_1, y_2, y_3, y_4, y_5, y_6, y_7, y_8, y_9, y_10, y_11, y_12, y_13, y_14, y_15, y_16, y_17, y_18, y_19, y_20, y_21, y_22, y_23, y_24, y_29, y_30, y_31, y_32, y_39, y_40, y_48, y_49, y_50, y_60, y_64, y_69, y_78, y_99, y_100, y_142, y_161, y_600, y_610, y_894, y_999, y_1000, y_1216, y_1276, neg1, neg2, nI_add, nI_mul, nn_sub, nn_lt, nn_le, nn_eq, in_lt, ni_lt, in_le, ni_le, in_eq, ni_eq, iI_lt, iI_le, iI_eq, nn_clamp, inb_n, t_lt, f_lt, t_le, f_le, t_eq, f_eq, ti_lt, fi_lt, ti_le, fi_le, ti_eq, fi_eq, ↓reduceIte, ite_true, ite_false, eq_self, decide_true, decide_false, Bool.true_and, Bool.and_true, Bool.false_and, Bool.and_false, Bool.true_or, Bool.or_true, Bool.false_or, Bool.or_false, bI_t, bI_f, bI_nand, n_mod, an11, an01, negn1, negn2, false_and, and_false, true_and, and_true, not_true_eq_false, not_false_eq_true, bI_n0, bI_n1, Bool.true_eq_false, Bool.false_eq_true, cI_s, cL_s, cV_s, cR_n, pm_bR_self, bI_ite, bL_ite, bV_ite, bR_ite, y_97, y_122]
    · rw [decide_eq_true (by omega)]
      simp (disch := omega) only [y_0, y_1, y_2, y_3, y_4, y_5, y_6, y_7, y_8, y_9, y_10, y_11, y_12, y_13, y_14, y_15, y_16, y_17, y_18, y_19, y_20, y_21, y_22, y_23, y_24, y_29, y_30, y_31, y_32, y_39, y_40, y_48, y_49, y_50, y_60, y_64, y_69, y_78, y_99, y_100, y_142, y_161, y_600, y_610, y_894, y_999, y_1000, y_1216, y_1276, neg1, neg2, nI_add, nI_mul, nn_sub, nn_lt, nn_le, nn_eq, in_lt, ni_lt, in_le, ni_le, in_eq, ni_eq, iI_lt, iI_le, iI_eq, nn_clamp, inb_n, t_lt, f_lt, t_le, f_le, t_eq, f_eq, ti_lt, fi_lt, ti_le, fi_le, ti_eq, fi_eq, ↓reduceIte, ite_true, ite_false, eq_self, decide_true, decide_false, Bool.true_and, Bool.and_true, Bool.false_and, Bool.and_false, Bool.true_or, Bool.or_true, Bool.false_or, Bool.or_false, bI_t, bI_f, bI_nand, n_mod, an11, an01, negn1, negn2, false_and, and_false, true_and, and_true, not_true_eq_false, not_false_eq_true, bI_n0, bI_n1, Bool.true_eq_false, Bool.false_eq_true, cI_s, cL_s, cV_s, cR_n, pm_bR_self, bI_ite, bL_ite, bV_ite, bR_ite, y_97, y_122]
theorem isDig_C (h : PH) {b : Nat} (hb : b < 256) : pm_ev (69, 0, [vi (nI b)], [], h) = some (some (vi (bI (isD b))), h) := by
  rw [E_X4_isDigit]
  unfold isD
  by_cases q1 : b < 48
  · rw [decide_eq_false (by omega)]
    simp (disch := omega) only [y_0, y_1, y_2, y_3, y_4, y_5, y_6, y_7, y_8, y_9, y_10, y_11, y_12, y_13, y_14, y_15, y_16, y_17, y_18, y_19, y_20, y_21, y_22, y_23, y_24, y_29, y_30, y_31, y_32, y_39, y_40, y_48, y_49, y_50, y_60, y_64, y_69, y_78, y_99, y_100, y_142, y_161, y_600, y_610, y_894, y_999, y_1000, y_1216, y_1276, neg1, neg2, nI_add, nI_mul, nn_sub, nn_lt, nn_le, nn_eq, in_lt, ni_lt, in_le, ni_le, in_eq, ni_eq, iI_lt, iI_le, iI_eq, nn_clamp, inb_n, t_lt, f_lt, t_le, f_le, t_eq, f_eq, ti_lt, fi_lt, ti_le, fi_le, ti_eq, fi_eq, ↓reduceIte, ite_true, ite_false, eq_self, decide_true, decide_false, Bool.true_and, Bool.and_true, Bool.false_and, Bool.and_false, Bool.true_or, Bool.or_true, Bool.false_or, Bool.or_false, bI_t, bI_f, bI_nand, n_mod, an11, an01, negn1, negn2, false_and, and_false, true_and, and_true, not_true_eq_false, not_false_eq_true, bI_n0, bI_n1, Bool.true_eq_false, Bool.false_eq_true, cI_s, cL_s, cV_s, cR_n, pm_bR_self, bI_ite, bL_ite, bV_ite, bR_ite]
  · by_cases q2 : 57 < b
    · rw [decide_eq_false (by omega)]
      simp (disch := omega) only [y_0, y_1, y_2, y_3, y_4, y_5, y_6, y_7, y_8, y_9, y_10, y_11, y_12, y_13, y_14, y_15, y_16, y_17, y_18, y_19, y_20, y_21, y_22, y_23, y_24, y_29, y_30, y_31, y_32, y_39, y_40, y_48, y_49, y_50, y_60, y_64, y_69, y_78, y_99, y_100, y_142, y_161, y_600, y_610, y_894, y_999, y_1000, y_1216, y_1276, neg1, neg2, nI_add, nI_mul, nn_sub, nn_lt, nn_le, nn_eq, in_lt, ni_lt, in_le, ni_le, in_eq, ni_eq, iI_lt, iI_le, iI_eq, nn_clamp, inb_n, t_lt, f_lt, t_le, f_le, t_eq, f_eq, ti_lt, fi_lt, ti_le, fi_le, ti_eq, fi_eq, ↓reduceIte, ite_true, ite_false, eq_self, decide_true, decide_false, Bool.true_and, Bool.and_true, Bool.false_and, Bool.and_false, Bool.true_or, Bool.or_true, Bool.false_or, Bool.or_false, bI_t, bI_f, bI_nand, n_mod, an11, an01, negn1, negn2, false_and, and_false, true_and, and_true, not_true_eq_false, not_false_eq_true, bI_n0, bI_n1, Bool.true_eq_false, Bool.false_eq_true, cI_s, cL_s, cV_s, cR_n, pm_bR_self, bI_ite, bL_ite, bV_ite, bR_ite, y_57]
    · rw [decide_eq_true (by omega)]
      simp (disch := omega) only [y_0, y_1, y_2, y_3, y_4, y_5, y_6, y_7, y_8, y_9, y_10, y_11, y_12, y_13, y_14, y_15, y_16, y_17, y_18, y_19, y_20, y_21, y_22, y_23, y_24, y_29, y_30, y_31, y_32, y_39, y_40, y_48, y_49, y_50, y_60, y_64, y_69, y_78, y_99, y_100, y_142, y_161, y_600, y_610, y_894, y_999, y_1000, y_1216, y_1276, neg1, neg2, nI_add, nI_mul, nn_sub, nn_lt, nn_le, nn_eq, in_lt, ni_lt, in_le, ni_le, in_eq, ni_eq, iI_lt, iI_le, iI_eq, nn_clamp, inb_n, t_lt, f_lt, t_le, f_le, t_eq, f_eq, ti_lt, fi_lt, ti_le, fi_le, ti_eq, fi_eq, ↓reduceIte, ite_true, ite_false, eq_self, decide_true, decide_false, Bool.true_and, Bool.and_true, Bool.false_and, Bool.and_false, Bool.true_or, Bool.or_true, Bool.false_or, Bool.or_false, bI_t, bI_f, bI_nand, n_mod, an11, an01, negn1, negn2, false_and, and_false, true_and, and_true, not_true_eq_false, not_false_eq_true, bI_n0, bI_n1, Bool.true_eq_false, Bool.false_eq_true, cI_s, cL_s, cV_s, cR_n, pm_bR_self, bI_ite, bL_ite, bV_ite, bR_ite, y_57]
/-- the reader behind a token -/
def adC (h : PH) (k w e : Nat) : PH := pm_sI (pm_sI (pm_sI h 4 0 7 (nI w)) 4 0 8 (nI e)) 4 0 6 (nI k)
theorem adv_87 {h : PH} {n : Nat} {T : Nat → Nat} (hT : TapC h n T) (hn : n ≤ 600) {w : Nat} : ∀ r e, n - e = r → e ≤ n → pm_ev (67, 87, [vr 4 0, vr 26 0, vi (nI n)], [], pm_sI (pm_sI h 4 0 7 (nI w)) 4 0 8 (nI e)) = some (none, adC h 1 w (run (fun i => isL (T i)) n e)) := by
  intro r
  induction r with
  | zero =>
    intro e hr he
    rw [run_e (by omega), E_X4_advance_87]
    simp (disch := omega) only [y_0, y_1, y_2, y_3, y_4, y_5, y_6, y_7, y_8, y_9, y_10, y_11, y_12, y_13, y_14, y_15, y_16, y_17, y_18, y_19, y_20, y_21, y_22, y_23, y_24, y_29, y_30, y_31, y_32, y_39, y_40, y_48, y_49, y_50, y_60, y_64, y_69, y_78, y_99, y_100, y_142, y_161, y_600, y_610, y_894, y_999, y_1000, y_1216, y_1276, neg1, neg2, nI_add, nI_mul, nn_sub, nn_lt, nn_le, nn_eq, in_lt, ni_lt, in_le, ni_le, in_eq, ni_eq, iI_lt, iI_le, iI_eq, nn_clamp, inb_n, t_lt, f_lt, t_le, f_le, t_eq, f_eq, ti_lt, fi_lt, ti_le, fi_le, ti_eq, fi_eq, ↓reduceIte, ite_true, ite_false, eq_self, decide_true, decide_false, Bool.true_and, Bool.and_true, Bool.false_and, Bool.and_false, Bool.true_or, Bool.or_true, Bool.false_or, Bool.or_false, bI_t, bI_f, bI_nand, n_mod, an11, an01, negn1, negn2, false_and, and_false, true_and, and_true, not_true_eq_false, not_false_eq_true, bI_n0, bI_n1, Bool.true_eq_false, Bool.false_eq_true, cI_s, cL_s, cV_s, cR_n, pm_bR_self, bI_ite, bL_ite, bV_ite, bR_ite, sI_same]
    rfl
  | succ r ih =>
    intro e hr he
    obtain ⟨b1, b2⟩ := hT e (by omega)
    rw [E_X4_advance_87]
    have IL := fun h => isLet_C h b1
    cases q : isL (T e)
    · rw [run_e (fun z => by rw [q] at z; cases z.2)]
      rw [q] at IL
      simp (disch := omega) only [y_0, y_1, y_2, y_3, y_4, y_5, y_6, y_7, y_8, y_9, y_10, y_11, y_12, y_13, y_14, y_15, y_16, y_17, y_18, y_19, y_20, y_21, y_22, y_23, y_24, y_29, y_30, y_31, y_32, y_39, y_40, y_48, y_49, y_50, y_60, y_64, y_69, y_78, y_99, y_100, y_142, y_161, y_600, y_610, y_894, y_999, y_1000, y_1216, y_1276, neg1, neg2, nI_add, nI_mul, nn_sub, nn_lt, nn_le, nn_eq, in_lt, ni_lt, in_le, ni_le, in_eq, ni_eq, iI_lt, iI_le, iI_eq, nn_clamp, inb_n, t_lt, f_lt, t_le, f_le, t_eq, f_eq, ti_lt, fi_lt, ti_le, fi_le, ti_eq, fi_eq, ↓reduceIte, ite_true, ite_false, eq_self, decide_true, decide_false, Bool.true_and, Bool.and_true, Bool.false_and, Bool.and_false, Bool.true_or, Bool.or_true, Bool.false_or, Bool.or_false, bI_t, bI_f, bI_nand, n_mod, an11, an01, negn1, negn2, false_and, and_false, true_and, and_true, not_true_eq_false, not_false_eq_true, bI_n0, bI_n1, Bool.true_eq_false, Bool.false_eq_true, cI_s, cL_s, cV_s, cR_n, pm_bR_self, bI_ite, bL_ite, bV_ite, bR_ite, sI_same, sI_tag, b2, IL]
      rfl
    · rw [run_s (show e < n by omega) (by exact q), ← ih (e + 1) (by omega) (by omega)]
      rw [q] at IL
      simp (disch := omega) only [y_0, y_1, y_2, y_3, y_4, y_5, y_6, y_7, y_8, y_9, y_10, y_11, y_12, y_13, y_14, y_15, y_16, y_17, y_18, y_19, y_20, y_21, y_22, y_23, y_24, y_29, y_30, y_31, y_32, y_39, y_40, y_48, y_49, y_50, y_60, y_64, y_69, y_78, y_99, y_100, y_142, y_161, y_600, y_610, y_894, y_999, y_1000, y_1216, y_1276, neg1, neg2, nI_add, nI_mul, nn_sub, nn_lt, nn_le, nn_eq, in_lt, ni_lt, in_le, ni_le, in_eq, ni_eq, iI_lt, iI_le, iI_eq, nn_clamp, inb_n, t_lt, f_lt, t_le, f_le, t_eq, f_eq, ti_lt, fi_lt, ti_le, fi_le, ti_eq, fi_eq, ↓reduceIte, ite_true, ite_false, eq_self, decide_true, decide_false, Bool.true_and, Bool.and_true, Bool.false_and, Bool.and_false, Bool.true_or, Bool.or_true, Bool.false_or, Bool.or_false, bI_t, bI_f, bI_nand, n_mod, an11, an01, negn1, negn2, false_and, and_false, true_and, and_true, not_true_eq_false, not_false_eq_true, bI_n0, bI_n1, Bool.true_eq_false, Bool.false_eq_true, cI_s, cL_s, cV_s, cR_n, pm_bR_self, bI_ite, bL_ite, bV_ite, bR_ite, sI_same, sI_tag, b2, IL, sI_ow]
theorem adv_140 {h : PH} {n : Nat} {T : Nat → Nat} (hT : TapC h n T) (hn : n ≤ 600) {w : Nat} : ∀ r e, n - e = r → w ≤ e → e ≤ n → pm_ev (67, 140, [vr 4 0, vr 26 0, vi (nI n)], [], pm_sI (pm_sI h 4 0 7 (nI w)) 4 0 8 (nI e)) = some (none, adC h (if run (fun i => isD (T i)) n e - w ≤ 2 then 2 else 4) w (run (fun i => isD (T i)) n e)) := by
  intro r
  induction r with
  | zero =>
    intro e hr hw he
    rw [run_e (by omega), E_X4_advance_140]
    by_cases q : e - w ≤ 2
    · rw [if_pos q]
      simp (disch := omega) only [y_0, y_1, y_2, y_3, y_4, y_5, y_6, y_7, y_8, y_9, y_10, y_11, y_12, y_13, y_14, y_15, y_16, y_17, y_18, y_19, y_20, y_21, y_22, y_23, y_24, y_29, y_30, y_31, y_32, y_39, y_40, y_48, y_49, y_50, y_60, y_64, y_69, y_78, y_99, y_100, y_142, y_161, y_600, y_610, y_894, y_999, y_1000, y_1216, y_1276, neg1, neg2, nI_add, nI_mul, nn_sub, nn_lt, nn_le, nn_eq, in_lt, ni_lt, in_le, ni_le, in_eq, ni_eq, iI_lt, iI_le, iI_eq, nn_clamp, inb_n, t_lt, f_lt, t_le, f_le, t_eq, f_eq, ti_lt, fi_lt, ti_le, fi_le, ti_eq, fi_eq, ↓reduceIte, ite_true, ite_false, eq_self, decide_true, decide_false, Bool.true_and, Bool.and_true, Bool.false_and, Bool.and_false, Bool.true_or, Bool.or_true, Bool.false_or, Bool.or_false, bI_t, bI_f, bI_nand, n_mod, an11, an01, negn1, negn2, false_and, and_false, true_and, and_true, not_true_eq_false, not_false_eq_true, bI_n0, bI_n1, Bool.true_eq_false, Bool.false_eq_true, cI_s, cL_s, cV_s, cR_n, pm_bR_self, bI_ite, bL_ite, bV_ite, bR_ite, sI_same, sI_pl]
      rfl
    · rw [if_neg q]
      simp (disch := omega) only [y_0, y_1, y_2, y_3, y_4, y_5, y_6, y_7, y_8, y_9, y_10, y_11, y_12, y_13, y_14, y_15, y_16, y_17, y_18, y_19, y_20, y_21, y_22, y_23, y_24, y_29, y_30, y_31, y_32, y_39, y_40, y_48, y_49, y_50, y_60, y_64, y_69, y_78, y_99, y_100, y_142, y_161, y_600, y_610, y_894, y_999, y_1000, y_1216, y_1276, neg1, neg2, nI_add, nI_mul, nn_sub, nn_lt, nn_le, nn_eq, in_lt, ni_lt, in_le, ni_le, in_eq, ni_eq, iI_lt, iI_le, iI_eq, nn_clamp, inb_n, t_lt, f_lt, t_le, f_le, t_eq, f_eq, ti_lt, fi_lt, ti_le, fi_le, ti_eq, fi_eq, ↓reduceIte, ite_true, ite_false, eq_self, decide_true, decide_false, Bool.true_and, Bool.and_true, Bool.false_and, Bool.and_false, Bool.true_or, Bool.or_true, Bool.false_or, Bool.or_false, bI_t, bI_f, bI_nand, n_mod, an11, an01, negn1, negn2, false_and, and_false, true_and, and_true, not_true_eq_false, not_false_eq_true, bI_n0, bI_n1, Bool.true_eq_false, Bool.false_eq_true, cI_s, cL_s, cV_s, cR_n, pm_bR_self, bI_ite, bL_ite, bV_ite, bR_ite, sI_same, sI_pl]
      rfl
  | succ r ih =>
    intro e hr hw he
    obtain ⟨b1, b2⟩ := hT e (by omega)
    rw [E_X4_advance_140]
    have IL := fun h => isDig_C h b1
    cases q : isD (T e)
    · rw [run_e (fun z => by rw [q] at z; cases z.2)]
      rw [q] at IL
      by_cases q2 : e - w ≤ 2
      · rw [if_pos q2]
        simp (disch := omega) only [y_0, y_1, y_2, y_3, y_4, y_5, y_6, y_7, y_8, y_9, y_10, y_11, y_12, y_13, y_14, y_15, y_16, y_17, y_18, y_19, y_20, y_21, y_22, y_23, y_24, y_29, y_30, y_31, y_32, y_39, y_40, y_48, y_49, y_50, y_60, y_64, y_69, y_78, y_99, y_100, y_142, y_161, y_600, y_610, y_894, y_999, y_1000, y_1216, y_1276, neg1, neg2, nI_add, nI_mul, nn_sub, nn_lt, nn_le, nn_eq, in_lt, ni_lt, in_le, ni_le, in_eq, ni_eq, iI_lt, iI_le, iI_eq, nn_clamp, inb_n, t_lt, f_lt, t_le, f_le, t_eq, f_eq, ti_lt, fi_lt, ti_le, fi_le, ti_eq, fi_eq, ↓reduceIte, ite_true, ite_false, eq_self, decide_true, decide_false, Bool.true_and, Bool.and_true, Bool.false_and, Bool.and_false, Bool.true_or, Bool.or_true, Bool.false_or, Bool.or_false, bI_t, bI_f, bI_nand, n_mod, an11, an01, negn1, negn2, false_and, and_false, true_and, and_true, not_true_eq_false, not_false_eq_true, bI_n0, bI_n1, Bool.true_eq_false, Bool.false_eq_true, cI_s, cL_s, cV_s, cR_n, pm_bR_self, bI_ite, bL_ite, bV_ite, bR_ite, sI_same, sI_pl, sI_tag, b2, IL]
        rfl
      · rw [if_neg q2]
        simp (disch := omega) only [y_0, y_1, y_2, y_3, y_4, y_5, y_6, y_7, y_8, y_9, y_10, y_11, y_12, y_13, y_14, y_15, y_16, y_17, y_18, y_19, y_20, y_21, y_22, y_23, y_24, y_29, y_30, y_31, y_32, y_39, y_40, y_48, y_49, y_50, y_60, y_64, y_69, y_78, y_99, y_100, y_142, y_161, y_600, y_610, y_894, y_999, y_1000, y_1216, y_1276, neg1, neg2, nI_add, nI_mul, nn_sub, nn_lt, nn_le, nn_eq, in_lt, ni_lt, in_le, ni_le, in_eq, ni_eq, iI_lt, iI_le, iI_eq, nn_clamp, inb_n, t_lt, f_lt, t_le, f_le, t_eq, f_eq, ti_lt, fi_lt, ti_le, fi_le, ti_eq, fi_eq, ↓reduceIte, ite_true, ite_false, eq_self, decide_true, decide_false, Bool.true_and, Bool.and_true, Bool.false_and, Bool.and_false, Bool.true_or, Bool.or_true, Bool.false_or, Bool.or_false, bI_t, bI_f, bI_nand, n_mod, an11, an01, negn1, negn2, false_and, and_false, true_and, and_true, not_true_eq_false, not_false_eq_true, bI_n0, bI_n1, Bool.true_eq_false, Bool.false_eq_true, cI_s, cL_s, cV_s, cR_n, pm_bR_self, bI_ite, bL_ite, bV_ite, bR_ite, sI_same, sI_pl, sI_tag, b2, IL]
        rfl
    · rw [run_s (show e < n by omega) (by exact q), ← ih (e + 1) (by omega) (by omega) (by omega)]
      rw [q] at IL
      simp (disch := omega) only [y_0, y_1, y_2, y_3, y_4, y_5, y_6, y_7, y_8, y_9, y_10, y_11, y_12, y_13, y_14, y_15, y_16, y_17, y_18, y_19, y_20, y_21, y_22, y_23, y_24, y_29, y_30, y_31, y_32, y_39, y_40, y_48, y_49, y_50, y_60, y_64, y_69, y_78, y_99, y_100, y_142, y_161, y_600, y_610, y_894, y_999, y_1000, y_1216, y_1276, neg1, neg2, nI_add, nI_mul, nn_sub, nn_lt, nn_le, nn_eq, in_lt, ni_lt, in_le, ni_le, in_eq, ni_eq, iI_lt, iI_le, iI_eq, nn_clamp, inb_n, t_lt, f_lt, t_le, f_le, t_eq, f_eq, ti_lt, fi_lt, ti_le, fi_le, ti_eq, fi_eq, ↓reduceIte, ite_true, ite_false, eq_self, decide_true, decide_false, Bool.true_and, Bool.and_true, Bool.false_and, Bool.and_false, Bool.true_or, Bool.or_true, Bool.false_or, Bool.or_false, bI_t, bI_f, bI_nand, n_mod, an11, an01, negn1, negn2, false_and, and_false, true_and, and_true, not_true_eq_false, not_false_eq_true, bI_n0, bI_n1, Bool.true_eq_false, Bool.false_eq_true, cI_s, cL_s, cV_s, cR_n, pm_bR_self, bI_ite, bL_ite, bV_ite, bR_ite, sI_same, sI_tag, b2, IL, sI_ow]
theorem adv_stop {h : PH} {n : Nat} {T : Nat → Nat} (hT : TapC h n T) (hn : n ≤ 600) {w : Nat} (hw : w ≤ n) (hb : ¬ (w < n ∧ isB (T w) = true)) : pm_ev (67, 8, [vr 4 0, vr 26 0, vi (nI n)], [], pm_sI h 4 0 7 (nI w)) = some (none, adC h (tK T n w) w (tE T n w)) := by
  rw [E_X4_advance_8]
  unfold tK tE
  by_cases q0 : w < n
  · rw [if_pos q0, if_pos q0]
    obtain ⟨b1, b2⟩ := hT w q0
    have nb : T w ≠ 10 ∧ T w ≠ 32 := by
      constructor
      · intro z; exact hb ⟨q0, by unfold isB; rw [decide_eq_true (Or.inl z)]⟩
      · intro z; exact hb ⟨q0, by unfold isB; rw [decide_eq_true (Or.inr z)]⟩
    obtain ⟨n1, n2⟩ := nb
    have IL := fun h => isLet_C h b1
    have ID := fun h => isDig_C h b1
    cases q1 : isL (T w)
    · rw [q1] at IL
      rw [if_neg (show ¬ (false = true) by decide), if_neg (show ¬ (false = true) by decide)]
      cases q2 : isD (T w)
      · rw [q2] at ID
        rw [if_neg (show ¬ (false = true) by decide), if_neg (show ¬ (false = true) by decide)]
        by_cases q3 : T w = 59
        · rw [if_pos q3]
          simp (disch := omega) only [y_0, y_1, y_2, y_3, y_4, y_5, y_6, y_7, y_8, y_9, y_10, y_11, y_12, y_13, y_14, y_15, y_16, y_17, y_18, y_19, y_20, y_21, y_22, y_23, y_24, y_29, y_30, y_31, y_32, y_39, y_40, y_48, y_49, y_50, y_60, y_64, y_69, y_78, y_99, y_100, y_142, y_161, y_600, y_610, y_894, y_999, y_1000, y_1216, y_1276, neg1, neg2, nI_add, nI_mul, nn_sub, nn_lt, nn_le, nn_eq, in_lt, ni_lt, in_le, ni_le, in_eq, ni_eq, iI_lt, iI_le, iI_eq, nn_clamp, inb_n, t_lt, f_lt, t_le, f_le, t_eq, f_eq, ti_lt, fi_lt, ti_le, fi_le, ti_eq, fi_eq, ↓reduceIte, ite_true, ite_false, eq_self, decide_true, decide_false, Bool.true_and, Bool.and_true, Bool.false_and, Bool.and_false, Bool.true_or, Bool.or_true, Bool.false_or, Bool.or_false, bI_t, bI_f, bI_nand, n_mod, an11, an01, negn1, negn2, false_and, and_false, true_and, and_true, not_true_eq_false, not_false_eq_true, bI_n0, bI_n1, Bool.true_eq_false, Bool.false_eq_true, cI_s, cL_s, cV_s, cR_n, pm_bR_self, bI_ite, bL_ite, bV_ite, bR_ite, sI_same, sI_pl, sI_tag, b2, IL, ID, E_X4_advance_198, sI_ow, y_59]
          rfl
        · rw [if_neg q3]
          simp (disch := omega) only [y_0, y_1, y_2, y_3, y_4, y_5, y_6, y_7, y_8, y_9, y_10, y_11, y_12, y_13, y_14, y_15, y_16, y_17, y_18, y_19, y_20, y_21, y_22, y_23, y_24, y_29, y_30, y_31, y_32, y_39, y_40, y_48, y_49, y_50, y_60, y_64, y_69, y_78, y_99, y_100, y_142, y_161, y_600, y_610, y_894, y_999, y_1000, y_1216, y_1276, neg1, neg2, nI_add, nI_mul, nn_sub, nn_lt, nn_le, nn_eq, in_lt, ni_lt, in_le, ni_le, in_eq, ni_eq, iI_lt, iI_le, iI_eq, nn_clamp, inb_n, t_lt, f_lt, t_le, f_le, t_eq, f_eq, ti_lt, fi_lt, ti_le, fi_le, ti_eq, fi_eq, ↓reduceIte, ite_true, ite_false, eq_self, decide_true, decide_false, Bool.true_and, Bool.and_true, Bool.false_and, Bool.and_false, Bool.true_or, Bool.or_true, Bool.false_or, Bool.or_false, bI_t, bI_f, bI_nand, n_mod, an11, an01, negn1, negn2, false_and, and_false, true_and, and_true, not_true_eq_false, not_false_eq_true, bI_n0, bI_n1, Bool.true_eq_false, Bool.false_eq_true, cI_s, cL_s, cV_s, cR_n, pm_bR_self, bI_ite, bL_ite, bV_ite, bR_ite, sI_same, sI_pl, sI_tag, b2, IL, ID, E_X4_advance_198, sI_ow, y_59]
          rfl
      · rw [q2] at ID
        rw [if_pos (show (true = true) from rfl), if_pos (show (true = true) from rfl)]
        have A := adv_140 hT hn (w := w) _ w rfl (Nat.le_refl _) hw
        rw [← A]
        simp (disch := omega) only [y_0, y_1, y_2, y_3, y_4, y_5, y_6, y_7, y_8, y_9, y_10, y_11, y_12, y_13, y_14, y_15, y_16, y_17, y_18, y_19, y_20, y_21, y_22, y_23, y_24, y_29, y_30, y_31, y_32, y_39, y_40, y_48, y_49, y_50, y_60, y_64, y_69, y_78, y_99, y_100, y_142, y_161, y_600, y_610, y_894, y_999, y_1000, y_1216, y_1276, neg1, neg2, nI_add, nI_mul, nn_sub, nn_lt, nn_le, nn_eq, in_lt, ni_lt, in_le, ni_le, in_eq, ni_eq, iI_lt, iI_le, iI_eq, nn_clamp, inb_n, t_lt, f_lt, t_le, f_le, t_eq, f_eq, ti_lt, fi_lt, ti_le, fi_le, ti_eq, fi_eq, ↓reduceIte, ite_true, ite_false, eq_self, decide_true, decide_false, Bool.true_and, Bool.and_true, Bool.false_and, Bool.and_false, Bool.true_or, Bool.or_true, Bool.false_or, Bool.or_false, bI_t, bI_f, bI_nand, n_mod, an11, an01, negn1, negn2, false_and, and_false, true_and, and_true, not_true_eq_false, not_false_eq_true, bI_n0, bI_n1, Bool.true_eq_false, Bool.false_eq_true, cI_s, cL_s, cV_s, cR_n, pm_bR_self, bI_ite, bL_ite, bV_ite, bR_ite, sI_same, sI_pl, sI_tag, b2, IL, ID]
    · rw [q1] at IL
      rw [if_pos (show (true = true) from rfl), if_pos (show (true = true) from rfl)]
      have A := adv_87 hT hn (w := w) _ w rfl hw
      rw [← A]
      simp (disch := omega) only [y_0, y_1, y_2, y_3, y_4, y_5, y_6, y_7, y_8, y_9, y_10, y_11, y_12, y_13, y_14, y_15, y_16, y_17, y_18, y_19, y_20, y_21, y_22, y_23, y_24, y_29, y_30, y_31, y_32, y_39, y_40, y_48, y_49, y_50, y_60, y_64, y_69, y_78, y_99, y_100, y_142, y_161, y_600, y_610, y_894, y_999, y_1000, y_1216, y_1276, neg1, neg2, nI_add, nI_mul, nn_sub, nn_lt, nn_le, nn_eq, in_lt, ni_lt, in_le, ni_le, in_eq, ni_eq, iI_lt, iI_le, iI_eq, nn_clamp, inb_n, t_lt, f_lt, t_le, f_le, t_eq, f_eq, ti_lt, fi_lt, ti_le, fi_le, ti_eq, fi_eq, ↓reduceIte, ite_true, ite_false, eq_self, decide_true, decide_false, Bool.true_and, Bool.and_true, Bool.false_and, Bool.and_false, Bool.true_or, Bool.or_true, Bool.false_or, Bool.or_false, bI_t, bI_f, bI_nand, n_mod, an11, an01, negn1, negn2, false_and, and_false, true_and, and_true, not_true_eq_false, not_false_eq_true, bI_n0, bI_n1, Bool.true_eq_false, Bool.false_eq_true, cI_s, cL_s, cV_s, cR_n, pm_bR_self, bI_ite, bL_ite, bV_ite, bR_ite, sI_same, sI_pl, sI_tag, b2, IL]
  · rw [if_neg q0, if_neg q0]
    simp (disch := omega) only [y_0, y_1, y_2, y_3, y_4, y_5, y_6, y_7, y_8, y_9, y_10, y_11, y_12, y_13, y_14, y_15, y_16, y_17, y_18, y_19, y_20, y_21, y_22, y_23, y_24, y_29, y_30, y_31, y_32, y_39, y_40, y_48, y_49, y_50, y_60, y_64, y_69, y_78, y_99, y_100, y_142, y_161, y_600, y_610, y_894, y_999, y_1000, y_1216, y_1276, neg1, neg2, nI_add, nI_mul, nn_sub, nn_lt, nn_le, nn_eq, in_lt, ni_lt, in_le, ni_le, in_eq, ni_eq, iI_lt, iI_le, iI_eq, nn_clamp, inb_n, t_lt, f_lt, t_le, f_le, t_eq, f_eq, ti_lt, fi_lt, ti_le, fi_le, ti_eq, fi_eq, ↓reduceIte, ite_true, ite_false, eq_self, decide_true, decide_false, Bool.true_and, Bool.and_true, Bool.false_and, Bool.and_false, Bool.true_or, Bool.or_true, Bool.false_or, Bool.or_false, bI_t, bI_f, bI_nand, n_mod, an11, an01, negn1, negn2, false_and, and_false, true_and, and_true, not_true_eq_false, not_false_eq_true, bI_n0, bI_n1, Bool.true_eq_false, Bool.false_eq_true, cI_s, cL_s, cV_s, cR_n, pm_bR_self, bI_ite, bL_ite, bV_ite, bR_ite, sI_same]
    rfl
theorem adv_8 {h : PH} {n : Nat} {T : Nat → Nat} (hT : TapC h n T) (hn : n ≤ 600) : ∀ r p, n - p = r → p ≤ n → pm_ev (67, 8, [vr 4 0, vr 26 0, vi (nI n)], [], pm_sI h 4 0 7 (nI p)) = some (none, adC h (tK T n (tS T n p)) (tS T n p) (tE T n (tS T n p))) := by
  intro r
  induction r with
  | zero =>
    intro p hr hp
    have e : tS T n p = p := run_e (by omega)
    rw [e]
    exact adv_stop hT hn hp (by omega)
  | succ r ih =>
    intro p hr hp
    by_cases q : p < n ∧ isB (T p) = true
    · have e : tS T n p = tS T n (p + 1) := run_s q.1 q.2
      obtain ⟨b1, b2⟩ := hT p q.1
      rw [e, ← ih (p + 1) (by omega) (by omega), E_X4_advance_8]
      have qq := q.2
      unfold isB at qq
      have qq := of_decide_eq_true qq
      obtain ⟨q0, _⟩ := q
      by_cases q1 : T p = 10
      · simp (disch := omega) only [y_0, y_1, y_2, y_3, y_4, y_5, y_6, y_7, y_8, y_9, y_10, y_11, y_12, y_13, y_14, y_15, y_16, y_17, y_18, y_19, y_20, y_21, y_22, y_23, y_24, y_29, y_30, y_31, y_32, y_39, y_40, y_48, y_49, y_50, y_60, y_64, y_69, y_78, y_99, y_100, y_142, y_161, y_600, y_610, y_894, y_999, y_1000, y_1216, y_1276, neg1, neg2, nI_add, nI_mul, nn_sub, nn_lt, nn_le, nn_eq, in_lt, ni_lt, in_le, ni_le, in_eq, ni_eq, iI_lt, iI_le, iI_eq, nn_clamp, inb_n, t_lt, f_lt, t_le, f_le, t_eq, f_eq, ti_lt, fi_lt, ti_le, fi_le, ti_eq, fi_eq, ↓reduceIte, ite_true, ite_false, eq_self, decide_true, decide_false, Bool.true_and, Bool.and_true, Bool.false_and, Bool.and_false, Bool.true_or, Bool.or_true, Bool.false_or, Bool.or_false, bI_t, bI_f, bI_nand, n_mod, an11, an01, negn1, negn2, false_and, and_false, true_and, and_true, not_true_eq_false, not_false_eq_true, bI_n0, bI_n1, Bool.true_eq_false, Bool.false_eq_true, cI_s, cL_s, cV_s, cR_n, pm_bR_self, bI_ite, bL_ite, bV_ite, bR_ite, sI_same, sI_tag, b2, sI_ow]
      · have q2 : T p = 32 := by omega
        simp (disch := omega) only [y_0, y_1, y_2, y_3, y_4, y_5, y_6, y_7, y_8, y_9, y_10, y_11, y_12, y_13, y_14, y_15, y_16, y_17, y_18, y_19, y_20, y_21, y_22, y_23, y_24, y_29, y_30, y_31, y_32, y_39, y_40, y_48, y_49, y_50, y_60, y_64, y_69, y_78, y_99, y_100, y_142, y_161, y_600, y_610, y_894, y_999, y_1000, y_1216, y_1276, neg1, neg2, nI_add, nI_mul, nn_sub, nn_lt, nn_le, nn_eq, in_lt, ni_lt, in_le, ni_le, in_eq, ni_eq, iI_lt, iI_le, iI_eq, nn_clamp, inb_n, t_lt, f_lt, t_le, f_le, t_eq, f_eq, ti_lt, fi_lt, ti_le, fi_le, ti_eq, fi_eq, ↓reduceIte, ite_true, ite_false, eq_self, decide_true, decide_false, Bool.true_and, Bool.and_true, Bool.false_and, Bool.and_false, Bool.true_or, Bool.or_true, Bool.false_or, Bool.or_false, bI_t, bI_f, bI_nand, n_mod, an11, an01, negn1, negn2, false_and, and_false, true_and, and_true, not_true_eq_false, not_false_eq_true, bI_n0, bI_n1, Bool.true_eq_false, Bool.false_eq_true, cI_s, cL_s, cV_s, cR_n, pm_bR_self, bI_ite, bL_ite, bV_ite, bR_ite, sI_same, sI_tag, b2, sI_ow]
    · have e : tS T n p = p := run_e q
      rw [e]
      exact adv_stop hT hn hp q
theorem advance_C {h : PH} {n p : Nat} {T : Nat → Nat} (hT : TapC h n T) (hn : n ≤ 600) (hp : p ≤ n) (h8 : h.1 4 0 8 = nI p) : pm_ev (67, 0, [vr 4 0, vr 26 0, vi (nI n)], [], h) = some (none, adC h (tK T n (tS T n p)) (tS T n p) (tE T n (tS T n p))) := by
  rw [E_X4_advance, h8]
  exact adv_8 hT hn _ p rfl hp
