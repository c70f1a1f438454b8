/-! ===== deeds: the class ===== -/
/-- a deed that isn't HOUR: was it done, and what is then -/
def aAct (σ : CrS) (kd s b m : Nat) : Bool × CrS :=
  if s < (σ.1 6).val ∧ (σ.2.2.2.1 ||| σ.2.2.2.2).testBit s = false then
    if kd = 0 then (if σ.2.2.1.testBit s = false ∧ stpOk σ.1 (σ.1 (40+s)).val (σ.1 (50+s)).val b = true then (true, (goA σ.1 s (f64 (stpX (σ.1 (40+s)).val b).toNat) (f64 (stpY (σ.1 (50+s)).val b).toNat), σ.2.1, σ.2.2.1 ||| 2 ^ s, σ.2.2.2.1, σ.2.2.2.2)) else (false, σ))
    else if kd = 1 then (if b < (σ.1 (80+s)).val then (true, (plainA σ.1 s b (f64 m), σ.2)) else (false, σ))
    else (if (σ.1 (60+s)).val = 0 then (false, σ) else (true, (cargoA σ.1 s (f64 ((σ.1 (60+s)).val - 1)), σ.2)))
  else (false, σ)
theorem or16p {a s : Nat} (ha : a < 16) (hs : s < 4) : a ||| 2 ^ s < 16 := or16 ha (pw_lt hs)
theorem aAct_V {σ : CrS} (hV : csV σ) {kd s b m : Nat} (hb : kd ≤ 1 → b < 4) (hm : m ≤ 9) : csV (aAct σ kd s b m).2 := by
  obtain ⟨c, hr, gn, st, ca⟩ := σ
  obtain ⟨hv, b1, b2, b3, b4⟩ := id hV
  dsimp only at hv b1 b2 b3 b4
  have hV1 := hv.1
  unfold aAct
  dsimp only
  split
  · rename_i q
    have hs : s < (c (6)).val := q.1
    obtain ⟨v1, v2, v3, _, v5, _⟩ := hv.2.2.1 s hs
    split
    · split
      · rename_i q2
        have ok := of_decide_eq_true q2.2
        exact ⟨go_cV hv hs (by rw [f64_v (by omega)]; omega) (by rw [f64_v (by omega)]; omega), b1, or16p b2 (by omega), b3, b4⟩
      · exact hV
    · split
      · split
        · rename_i q2
          exact ⟨plain_cV hv hs q2 (by rw [f64_v (by omega)]; exact hm), b1, b2, b3, b4⟩
        · exact hV
      · split
        · exact hV
        · exact ⟨cargo_cV hv hs (by rw [f64_v (by omega)]; omega), b1, b2, b3, b4⟩
  · exact hV
theorem stp_b (x y d : Nat) (hd : d < 4) : ((x : Int) - 1 ≤ stpX x d ∧ stpX x d ≤ x + 1) ∧ ((y : Int) - 1 ≤ stpY y d ∧ stpY y d ≤ y + 1) := by
  have a := stpX_v x
  have b := stpY_v y
  have : d = 0 ∨ d = 1 ∨ d = 2 ∨ d = 3 := by omega
  rcases this with e | e | e | e <;> subst e <;> omega
theorem sail_69 {h : PH} {c : AC} {hr gn st ca s d : Nat} (hV : csV (c, hr, gn, st, ca)) (hC : CouC h (c, hr, gn, st, ca)) (hs : s < (c (6)).val) (hd : d < 4) (s0 s1 x4 : Int32) (eX : s1 + s0 = iI (stpX (c (40+s)).val d)) (eY : x4 = iI (stpY (c (50+s)).val d)) : pm_ev (35, 69, [vr 1 0, vi (nI s), none, none, vi x4], [vi s0, vi s1], h) = if gn.testBit s = false ∧ stpOk c (c (40+s)).val (c (50+s)).val d = true then some (some (vi (nI 1)), pm_sI (pm_sI h 12 9 s (nI (8 * (stpY (c (50+s)).val d).toNat + (stpX (c (40+s)).val d).toNat))) 1 0 2 (nI (gn ||| 2 ^ s))) else some (some (vi (nI 0)), h) := by
  obtain ⟨hC9, h1, h2, h3, h4⟩ := hC
  obtain ⟨hv, _, b2, _, _⟩ := hV
  dsimp only at hC9 h1 h2 h3 h4 hv b2
  have hV1 := hv.1
  obtain ⟨v1, v2, _⟩ := hv.2.2.1 s hs
  obtain ⟨c0, c1, _⟩ := hC9.1
  have sb := stp_b (c (40+s)).val (c (50+s)).val d hd
  rw [E_X1_sail_69, eX, eY]
  unfold stpOk
  generalize stpX (c (40+s)).val d = X at *
  generalize stpY (c (50+s)).val d = Y at *
  cases q : gn.testBit s
  · by_cases ok : 0 ≤ X ∧ X < (c (0)).val ∧ 0 ≤ Y ∧ Y < (c (1)).val
    · rw [if_pos (show (false = false ∧ decide (0 ≤ X ∧ X < (c (0)).val ∧ 0 ≤ Y ∧ Y < (c (1)).val) = true) from ⟨rfl, decide_eq_true ok⟩), iI_toNat ok.1, iI_toNat ok.2.2.1]
      obtain ⟨o1, o2, o3, o4⟩ := ok
      simp (disch := omega) only [y_0, y_1, y_2, y_3, y_4, y_5, y_6, y_7, y_8, y_9, y_10, y_11, y_12, y_13, y_14, y_15, y_16, y_17, y_18, y_19, y_20, y_21, y_22, y_23, y_24, y_29, y_30, y_31, y_32, y_39, y_40, y_48, y_49, y_50, y_60, y_64, y_69, y_78, y_99, y_100, y_142, y_161, y_600, y_610, y_894, y_999, y_1000, y_1216, y_1276, neg1, neg2, nI_add, nI_mul, nn_sub, nn_lt, nn_le, nn_eq, in_lt, ni_lt, in_le, ni_le, in_eq, ni_eq, iI_lt, iI_le, iI_eq, nn_clamp, inb_n, t_lt, f_lt, t_le, f_le, t_eq, f_eq, ti_lt, fi_lt, ti_le, fi_le, ti_eq, fi_eq, ↓reduceIte, ite_true, ite_false, eq_self, decide_true, decide_false, Bool.true_and, Bool.and_true, Bool.false_and, Bool.and_false, Bool.true_or, Bool.or_true, Bool.false_or, Bool.or_false, bI_t, bI_f, bI_nand, n_mod, an11, an01, negn1, negn2, false_and, and_false, true_and, and_true, not_true_eq_false, not_false_eq_true, bI_n0, bI_n1, Bool.true_eq_false, Bool.false_eq_true, cI_s, cL_s, cV_s, cR_n, pm_bR_self, bI_ite, bL_ite, bV_ite, bR_ite, h2, nn_and, shr_n, bit_i, q, c0, c1, E_X1_sail_132, sI_tag, shl_1, nn_or]
    · rw [if_neg (show ¬ (false = false ∧ decide (0 ≤ X ∧ X < (c (0)).val ∧ 0 ≤ Y ∧ Y < (c (1)).val) = true) from fun z => ok (of_decide_eq_true z.2))]
      by_cases k1 : Y < 0
      · simp (disch := omega) only [y_0, y_1, y_2, y_3, y_4, y_5, y_6, y_7, y_8, y_9, y_10, y_11, y_12, y_13, y_14, y_15, y_16, y_17, y_18, y_19, y_20, y_21, y_22, y_23, y_24, y_29, y_30, y_31, y_32, y_39, y_40, y_48, y_49, y_50, y_60, y_64, y_69, y_78, y_99, y_100, y_142, y_161, y_600, y_610, y_894, y_999, y_1000, y_1216, y_1276, neg1, neg2, nI_add, nI_mul, nn_sub, nn_lt, nn_le, nn_eq, in_lt, ni_lt, in_le, ni_le, in_eq, ni_eq, iI_lt, iI_le, iI_eq, nn_clamp, inb_n, t_lt, f_lt, t_le, f_le, t_eq, f_eq, ti_lt, fi_lt, ti_le, fi_le, ti_eq, fi_eq, ↓reduceIte, ite_true, ite_false, eq_self, decide_true, decide_false, Bool.true_and, Bool.and_true, Bool.false_and, Bool.and_false, Bool.true_or, Bool.or_true, Bool.false_or, Bool.or_false, bI_t, bI_f, bI_nand, n_mod, an11, an01, negn1, negn2, false_and, and_false, true_and, and_true, not_true_eq_false, not_false_eq_true, bI_n0, bI_n1, Bool.true_eq_false, Bool.false_eq_true, cI_s, cL_s, cV_s, cR_n, pm_bR_self, bI_ite, bL_ite, bV_ite, bR_ite, h2, nn_and, shr_n, bit_i, q, c0, c1, E_X1_sail_114]
      · by_cases k2 : Y < (c (1)).val
        · by_cases k3 : X < 0
          · simp (disch := omega) only [y_0, y_1, y_2, y_3, y_4, y_5, y_6, y_7, y_8, y_9, y_10, y_11, y_12, y_13, y_14, y_15, y_16, y_17, y_18, y_19, y_20, y_21, y_22, y_23, y_24, y_29, y_30, y_31, y_32, y_39, y_40, y_48, y_49, y_50, y_60, y_64, y_69, y_78, y_99, y_100, y_142, y_161, y_600, y_610, y_894, y_999, y_1000, y_1216, y_1276, neg1, neg2, nI_add, nI_mul, nn_sub, nn_lt, nn_le, nn_eq, in_lt, ni_lt, in_le, ni_le, in_eq, ni_eq, iI_lt, iI_le, iI_eq, nn_clamp, inb_n, t_lt, f_lt, t_le, f_le, t_eq, f_eq, ti_lt, fi_lt, ti_le, fi_le, ti_eq, fi_eq, ↓reduceIte, ite_true, ite_false, eq_self, decide_true, decide_false, Bool.true_and, Bool.and_true, Bool.false_and, Bool.and_false, Bool.true_or, Bool.or_true, Bool.false_or, Bool.or_false, bI_t, bI_f, bI_nand, n_mod, an11, an01, negn1, negn2, false_and, and_false, true_and, and_true, not_true_eq_false, not_false_eq_true, bI_n0, bI_n1, Bool.true_eq_false, Bool.false_eq_true, cI_s, cL_s, cV_s, cR_n, pm_bR_self, bI_ite, bL_ite, bV_ite, bR_ite, h2, nn_and, shr_n, bit_i, q, c0, c1, E_X1_sail_114]
          · simp (disch := omega) only [y_0, y_1, y_2, y_3, y_4, y_5, y_6, y_7, y_8, y_9, y_10, y_11, y_12, y_13, y_14, y_15, y_16, y_17, y_18, y_19, y_20, y_21, y_22, y_23, y_24, y_29, y_30, y_31, y_32, y_39, y_40, y_48, y_49, y_50, y_60, y_64, y_69, y_78, y_99, y_100, y_142, y_161, y_600, y_610, y_894, y_999, y_1000, y_1216, y_1276, neg1, neg2, nI_add, nI_mul, nn_sub, nn_lt, nn_le, nn_eq, in_lt, ni_lt, in_le, ni_le, in_eq, ni_eq, iI_lt, iI_le, iI_eq, nn_clamp, inb_n, t_lt, f_lt, t_le, f_le, t_eq, f_eq, ti_lt, fi_lt, ti_le, fi_le, ti_eq, fi_eq, ↓reduceIte, ite_true, ite_false, eq_self, decide_true, decide_false, Bool.true_and, Bool.and_true, Bool.false_and, Bool.and_false, Bool.true_or, Bool.or_true, Bool.false_or, Bool.or_false, bI_t, bI_f, bI_nand, n_mod, an11, an01, negn1, negn2, false_and, and_false, true_and, and_true, not_true_eq_false, not_false_eq_true, bI_n0, bI_n1, Bool.true_eq_false, Bool.false_eq_true, cI_s, cL_s, cV_s, cR_n, pm_bR_self, bI_ite, bL_ite, bV_ite, bR_ite, h2, nn_and, shr_n, bit_i, q, c0, c1, E_X1_sail_114]
        · simp (disch := omega) only [y_0, y_1, y_2, y_3, y_4, y_5, y_6, y_7, y_8, y_9, y_10, y_11, y_12, y_13, y_14, y_15, y_16, y_17, y_18, y_19, y_20, y_21, y_22, y_23, y_24, y_29, y_30, y_31, y_32, y_39, y_40, y_48, y_49, y_50, y_60, y_64, y_69, y_78, y_99, y_100, y_142, y_161, y_600, y_610, y_894, y_999, y_1000, y_1216, y_1276, neg1, neg2, nI_add, nI_mul, nn_sub, nn_lt, nn_le, nn_eq, in_lt, ni_lt, in_le, ni_le, in_eq, ni_eq, iI_lt, iI_le, iI_eq, nn_clamp, inb_n, t_lt, f_lt, t_le, f_le, t_eq, f_eq, ti_lt, fi_lt, ti_le, fi_le, ti_eq, fi_eq, ↓reduceIte, ite_true, ite_false, eq_self, decide_true, decide_false, Bool.true_and, Bool.and_true, Bool.false_and, Bool.and_false, Bool.true_or, Bool.or_true, Bool.false_or, Bool.or_false, bI_t, bI_f, bI_nand, n_mod, an11, an01, negn1, negn2, false_and, and_false, true_and, and_true, not_true_eq_false, not_false_eq_true, bI_n0, bI_n1, Bool.true_eq_false, Bool.false_eq_true, cI_s, cL_s, cV_s, cR_n, pm_bR_self, bI_ite, bL_ite, bV_ite, bR_ite, h2, nn_and, shr_n, bit_i, q, c0, c1, E_X1_sail_114]
  · rw [if_neg (show ¬ (true = false ∧ decide (0 ≤ X ∧ X < (c (0)).val ∧ 0 ≤ Y ∧ Y < (c (1)).val) = true) from fun z => by cases z.1)]
    simp (disch := omega) only [y_0, y_1, y_2, y_3, y_4, y_5, y_6, y_7, y_8, y_9, y_10, y_11, y_12, y_13, y_14, y_15, y_16, y_17, y_18, y_19, y_20, y_21, y_22, y_23, y_24, y_29, y_30, y_31, y_32, y_39, y_40, y_48, y_49, y_50, y_60, y_64, y_69, y_78, y_99, y_100, y_142, y_161, y_600, y_610, y_894, y_999, y_1000, y_1216, y_1276, neg1, neg2, nI_add, nI_mul, nn_sub, nn_lt, nn_le, nn_eq, in_lt, ni_lt, in_le, ni_le, in_eq, ni_eq, iI_lt, iI_le, iI_eq, nn_clamp, inb_n, t_lt, f_lt, t_le, f_le, t_eq, f_eq, ti_lt, fi_lt, ti_le, fi_le, ti_eq, fi_eq, ↓reduceIte, ite_true, ite_false, eq_self, decide_true, decide_false, Bool.true_and, Bool.and_true, Bool.false_and, Bool.and_false, Bool.true_or, Bool.or_true, Bool.false_or, Bool.or_false, bI_t, bI_f, bI_nand, n_mod, an11, an01, negn1, negn2, false_and, and_false, true_and, and_true, not_true_eq_false, not_false_eq_true, bI_n0, bI_n1, Bool.true_eq_false, Bool.false_eq_true, cI_s, cL_s, cV_s, cR_n, pm_bR_self, bI_ite, bL_ite, bV_ite, bR_ite, h2, nn_and, shr_n, bit_i, q, E_X1_sail_114]
theorem sail_C {h : PH} {c : AC} {hr gn st ca s d : Nat} (hV : csV (c, hr, gn, st, ca)) (hC : CouC h (c, hr, gn, st, ca)) (hs : s < (c (6)).val) (hd : d < 4) : pm_ev (35, 0, [vr 1 0, vi (nI s), vi (nI d), none, none], [], h) = if gn.testBit s = false ∧ stpOk c (c (40+s)).val (c (50+s)).val d = true then some (some (vi (nI 1)), pm_sI (pm_sI h 12 9 s (nI (8 * (stpY (c (50+s)).val d).toNat + (stpX (c (40+s)).val d).toNat))) 1 0 2 (nI (gn ||| 2 ^ s))) else some (some (vi (nI 0)), h) := by
  have S := fun s0 s1 x4 => sail_69 hV hC hs hd s0 s1 x4
  have hv : cV c := hV.1
  have hC9 : CoastC h 9 c := hC.1
  have hV1 := hv.1
  obtain ⟨v1, v2, _⟩ := hv.2.2.1 s hs
  have s1 := (hC9.2.2 s hs).1.1
  have e1 : (8 * (c (50+s)).val + (c (40+s)).val) / 2 ^ 3 = (c (50+s)).val := by omega
  have e2 : 8 * (c (50+s)).val + (c (40+s)).val &&& 7 = (c (40+s)).val := by rw [show (7 : Nat) = 2 ^ 3 - 1 from rfl, Nat.and_two_pow_sub_one_eq_mod]; omega
  have e3 : nI (8 * (c (50+s)).val + (c (40+s)).val) >>> nI 3 = nI (c (50+s)).val := by have := shr_n (n := 8 * (c (50+s)).val + (c (40+s)).val) (k := 3) (by omega) (by omega); rw [e1] at this; exact this
  have vx := stpX_v (c (40+s)).val
  have vy := stpY_v (c (50+s)).val
  generalize (c (40+s)).val = x at *
  generalize (c (50+s)).val = y at *
  have : d = 0 ∨ d = 1 ∨ d = 2 ∨ d = 3 := by omega
  rcases this with e | e | e | e <;> subst e
  · rw [← S (nI 0) (nI x) (iI (stpY y 0)) (by rw [vx.1, nI_add, Nat.add_zero, iI_nat]) rfl, E_X1_sail]
    simp (disch := omega) only [y_0, y_1, y_2, y_3, y_4, y_5, y_6, y_7, y_8, y_9, y_10, y_11, y_12, y_13, y_14, y_15, y_16, y_17, y_18, y_19, y_20, y_21, y_22, y_23, y_24, y_29, y_30, y_31, y_32, y_39, y_40, y_48, y_49, y_50, y_60, y_64, y_69, y_78, y_99, y_100, y_142, y_161, y_600, y_610, y_894, y_999, y_1000, y_1216, y_1276, neg1, neg2, nI_add, nI_mul, nn_sub, nn_lt, nn_le, nn_eq, in_lt, ni_lt, in_le, ni_le, in_eq, ni_eq, iI_lt, iI_le, iI_eq, nn_clamp, inb_n, t_lt, f_lt, t_le, f_le, t_eq, f_eq, ti_lt, fi_lt, ti_le, fi_le, ti_eq, fi_eq, ↓reduceIte, ite_true, ite_false, eq_self, decide_true, decide_false, Bool.true_and, Bool.and_true, Bool.false_and, Bool.and_false, Bool.true_or, Bool.or_true, Bool.false_or, Bool.or_false, bI_t, bI_f, bI_nand, n_mod, an11, an01, negn1, negn2, false_and, and_false, true_and, and_true, not_true_eq_false, not_false_eq_true, bI_n0, bI_n1, Bool.true_eq_false, Bool.false_eq_true, cI_s, cL_s, cV_s, cR_n, pm_bR_self, bI_ite, bL_ite, bV_ite, bR_ite, s1, nn_and, e2, show 3 &&& 31 = 3 from rfl, e3, E_X1_sail_46]
    rw [vy.1, iI_nadd]; rfl
  · rw [← S (nI 1) (nI x) (iI (stpY y 1)) (by rw [vx.2.1, nI_add, ← iI_nat]; rfl) rfl, E_X1_sail]
    simp (disch := omega) only [y_0, y_1, y_2, y_3, y_4, y_5, y_6, y_7, y_8, y_9, y_10, y_11, y_12, y_13, y_14, y_15, y_16, y_17, y_18, y_19, y_20, y_21, y_22, y_23, y_24, y_29, y_30, y_31, y_32, y_39, y_40, y_48, y_49, y_50, y_60, y_64, y_69, y_78, y_99, y_100, y_142, y_161, y_600, y_610, y_894, y_999, y_1000, y_1216, y_1276, neg1, neg2, nI_add, nI_mul, nn_sub, nn_lt, nn_le, nn_eq, in_lt, ni_lt, in_le, ni_le, in_eq, ni_eq, iI_lt, iI_le, iI_eq, nn_clamp, inb_n, t_lt, f_lt, t_le, f_le, t_eq, f_eq, ti_lt, fi_lt, ti_le, fi_le, ti_eq, fi_eq, ↓reduceIte, ite_true, ite_false, eq_self, decide_true, decide_false, Bool.true_and, Bool.and_true, Bool.false_and, Bool.and_false, Bool.true_or, Bool.or_true, Bool.false_or, Bool.or_false, bI_t, bI_f, bI_nand, n_mod, an11, an01, negn1, negn2, false_and, and_false, true_and, and_true, not_true_eq_false, not_false_eq_true, bI_n0, bI_n1, Bool.true_eq_false, Bool.false_eq_true, cI_s, cL_s, cV_s, cR_n, pm_bR_self, bI_ite, bL_ite, bV_ite, bR_ite, s1, nn_and, e2, show 3 &&& 31 = 3 from rfl, e3, E_X1_sail_46]
    rw [vy.2.1, Nat.add_zero, iI_nat]
  · rw [← S (nI 0) (nI x) (iI (stpY y 2)) (by rw [vx.2.2.1, nI_add, Nat.add_zero, iI_nat]) rfl, E_X1_sail]
    simp (disch := omega) only [y_0, y_1, y_2, y_3, y_4, y_5, y_6, y_7, y_8, y_9, y_10, y_11, y_12, y_13, y_14, y_15, y_16, y_17, y_18, y_19, y_20, y_21, y_22, y_23, y_24, y_29, y_30, y_31, y_32, y_39, y_40, y_48, y_49, y_50, y_60, y_64, y_69, y_78, y_99, y_100, y_142, y_161, y_600, y_610, y_894, y_999, y_1000, y_1216, y_1276, neg1, neg2, nI_add, nI_mul, nn_sub, nn_lt, nn_le, nn_eq, in_lt, ni_lt, in_le, ni_le, in_eq, ni_eq, iI_lt, iI_le, iI_eq, nn_clamp, inb_n, t_lt, f_lt, t_le, f_le, t_eq, f_eq, ti_lt, fi_lt, ti_le, fi_le, ti_eq, fi_eq, ↓reduceIte, ite_true, ite_false, eq_self, decide_true, decide_false, Bool.true_and, Bool.and_true, Bool.false_and, Bool.and_false, Bool.true_or, Bool.or_true, Bool.false_or, Bool.or_false, bI_t, bI_f, bI_nand, n_mod, an11, an01, negn1, negn2, false_and, and_false, true_and, and_true, not_true_eq_false, not_false_eq_true, bI_n0, bI_n1, Bool.true_eq_false, Bool.false_eq_true, cI_s, cL_s, cV_s, cR_n, pm_bR_self, bI_ite, bL_ite, bV_ite, bR_ite, s1, nn_and, e2, show 3 &&& 31 = 3 from rfl, e3, E_X1_sail_46]
    rw [vy.2.2.1, ← iI_nat]; rfl
  · rw [← S (iI (-1)) (nI x) (iI (stpY y 3)) (by rw [vx.2.2.2, iI_nadd]; rfl) rfl, E_X1_sail]
    simp (disch := omega) only [y_0, y_1, y_2, y_3, y_4, y_5, y_6, y_7, y_8, y_9, y_10, y_11, y_12, y_13, y_14, y_15, y_16, y_17, y_18, y_19, y_20, y_21, y_22, y_23, y_24, y_29, y_30, y_31, y_32, y_39, y_40, y_48, y_49, y_50, y_60, y_64, y_69, y_78, y_99, y_100, y_142, y_161, y_600, y_610, y_894, y_999, y_1000, y_1216, y_1276, neg1, neg2, nI_add, nI_mul, nn_sub, nn_lt, nn_le, nn_eq, in_lt, ni_lt, in_le, ni_le, in_eq, ni_eq, iI_lt, iI_le, iI_eq, nn_clamp, inb_n, t_lt, f_lt, t_le, f_le, t_eq, f_eq, ti_lt, fi_lt, ti_le, fi_le, ti_eq, fi_eq, ↓reduceIte, ite_true, ite_false, eq_self, decide_true, decide_false, Bool.true_and, Bool.and_true, Bool.false_and, Bool.and_false, Bool.true_or, Bool.or_true, Bool.false_or, Bool.or_false, bI_t, bI_f, bI_nand, n_mod, an11, an01, negn1, negn2, false_and, and_false, true_and, and_true, not_true_eq_false, not_false_eq_true, bI_n0, bI_n1, Bool.true_eq_false, Bool.false_eq_true, cI_s, cL_s, cV_s, cR_n, pm_bR_self, bI_ite, bL_ite, bV_ite, bR_ite, s1, nn_and, e2, show 3 &&& 31 = 3 from rfl, e3, E_X1_sail_46]
    rw [vy.2.2.2, Nat.add_zero, iI_nat]
theorem bI1 (b : Bool) : bI b &&& 1 = bI b := bI_and b
theorem coT_9 {t : Nat} (h : t = 12 ∨ t = 13 ∨ t = 16 ∨ t = 17) : crT t 9 = true := by rcases h with e | e | e | e <;> subst e <;> rfl
theorem act_C {h : PH} {σ : CrS} (hV : csV σ) (hC : CouC h σ) {kd s b m : Nat} (hk : kd < 3) (hs4 : s < 4) (B C : Int32) (hb : kd ≤ 1 → B = nI b ∧ b < 4) (hm : kd = 1 → C = nI m ∧ m ≤ 9) : ∃ h', pm_ev (33, 0, [vr 1 0, vi (nI kd), vi (nI s), vi B, vi C], [], h) = some (some (vi (bI (aAct σ kd s b m).1)), h') ∧ CouC h' (aAct σ kd s b m).2 ∧ kC h h' := by
  obtain ⟨c, hr, gn, st, ca⟩ := σ
  have hv : cV c := hV.1
  have hC9 : CoastC h 9 c := hC.1
  have hV1 := hv.1
  have HS := hasShip_Cn hC9 (show s < 2147483648 by omega)
  unfold aAct
  dsimp only
  by_cases q0 : s < (c (6)).val
  · rw [decide_eq_true q0] at HS
    have LO := lost_C hV hC hs4
    cases q1 : (st ||| ca).testBit s
    · rw [q1] at LO
      rw [if_pos ⟨q0, rfl⟩]
      obtain ⟨_, h1, h2, h3, h4⟩ := id hC
      dsimp only at h1 h2 h3 h4
      obtain ⟨v1, v2, v3, _, v5, _⟩ := hv.2.2.1 s q0
      have start : pm_ev (33, 0, [vr 1 0, vi (nI kd), vi (nI s), vi B, vi C], [], h) = (if nI kd = 0 then (pm_bI (pm_ev (35, 0, [vr 1 0, vi (nI s), vi B, none, none], [], h)) fun r11 h10 => (if r11 &&& 1 = r11 then some (some (vi r11), h10) else none)) else (if nI kd = 1 then (pm_bV (pm_ev (27, 0, [vr 0 9, vi (nI s), vi B, vi C], [], h)) fun h7 => (pm_bI (pm_ev (6, 0, [vr 0 9, vi (nI s), vi B], [], h7)) fun r9 h8 => (if r9 &&& 1 = r9 then some (some (vi r9), h8) else none))) else (if nI kd = 2 then (pm_bI (pm_ev (36, 0, [vr 1 0, vi (nI s)], [], h)) fun r6 h5 => (if r6 &&& 1 = r6 then some (some (vi r6), h5) else none)) else some (some (vi 0), h)))) := by
        rw [E_X1_act, HS, cI_s, if_neg (by decide), LO, cI_s, if_pos (by rfl)]
      rw [start]
      have : kd = 0 ∨ kd = 1 ∨ kd = 2 := by omega
      rcases this with e | e | e <;> subst e
      · obtain ⟨rfl, hb4⟩ := hb (by decide)
        rw [if_pos (by rfl), sail_C hV hC q0 hb4, if_pos rfl]
        by_cases q2 : gn.testBit s = false ∧ stpOk c (c (40+s)).val (c (50+s)).val b = true
        · rw [if_pos q2, if_pos q2, cI_s, if_pos (by rfl)]
          have ok := of_decide_eq_true q2.2
          refine ⟨_, rfl, ⟨?_, ?_, ?_, ?_, ?_⟩, (Fr.sI _ _ _ (coT_9 (Or.inl rfl))).tr (Fr.sI _ _ _ rfl), ?_⟩
          · have G := goTo_C hv hC9 q0 (f64 (stpX (c (40+s)).val b).toNat) (f64 (stpY (c (50+s)).val b).toNat)
            rw [f64_v (by omega), f64_v (by omega)] at G
            exact G.fr (fun t k' ht _ => sI_tag _ _ _ _ _ _ (by omega)) rfl
          · simp (disch := omega) only [sI_pl, sI_tag]; exact h1
          · simp (disch := omega) only [sI_same]
          · simp (disch := omega) only [sI_pl, sI_tag]; exact h3
          · simp (disch := omega) only [sI_pl, sI_tag]; exact h4
          · simp (disch := omega) only [sI_pl, sI_tag]
        · rw [if_neg q2, if_neg q2, cI_s, if_pos (by rfl)]
          exact ⟨h, rfl, hC, kC.rf h⟩
      · obtain ⟨rfl, hb4⟩ := hb (by decide)
        obtain ⟨rfl, hm9⟩ := hm rfl
        rw [if_neg (by decide), if_pos (by rfl), if_neg (by decide), if_pos rfl]
        have fv : (f64 m).val = m := f64_v (by omega)
        by_cases q2 : b < (c (80+s)).val
        · have MP := makePlain_C hv hC9 q0 q2 (f64 m)
          have PC := plain_C hv hC9 q0 q2 (f64 m)
          rw [fv] at MP PC
          have HM := hasMan_Cn (plain_cV hv q0 q2 (m := f64 m) (by omega)) PC (s := s) (k := b) (by rw [plain_o c _ (by omega) (by omega)]; exact q0) (by omega)
          rw [plain_o c _ (i := 80+s) (by omega) (by omega), decide_eq_true q2] at HM
          rw [if_pos q2, MP, cV_s, HM, cI_s, if_pos (by rfl)]
          refine ⟨_, rfl, ⟨PC, ?_, ?_, ?_, ?_⟩, (Fr.sI _ _ _ (coT_9 (by decide))).tr (Fr.sI _ _ _ (coT_9 (by decide))), ?_⟩
          · simp (disch := omega) only [sI_tag]; exact h1
          · simp (disch := omega) only [sI_tag]; exact h2
          · simp (disch := omega) only [sI_tag]; exact h3
          · simp (disch := omega) only [sI_tag]; exact h4
          · simp (disch := omega) only [sI_tag]
        · have HM := hasMan_Cn hv hC9 q0 (show b < 2147483648 by omega)
          rw [decide_eq_false q2] at HM
          rw [if_neg q2, E_X0_makePlain, HM, cI_s, if_pos (by rfl), cV_s, HM, cI_s, if_pos (by rfl)]
          exact ⟨h, rfl, hC, kC.rf h⟩
      · rw [if_neg (by decide), if_neg (by decide), if_pos (by rfl), if_neg (by decide), if_neg (by decide)]
        have s2 := (hC9.2.2 s q0).1.2.1
        by_cases q2 : (c (60+s)).val = 0
        · have T : pm_ev (36, 0, [vr 1 0, vi (nI s)], [], h) = some (some (vi (nI 0)), h) := by
            rw [E_X1_throwOut]
            simp (disch := omega) only [y_0, y_1, y_2, y_3, y_4, y_5, y_6, y_7, y_8, y_9, y_10, y_11, y_12, y_13, y_14, y_15, y_16, y_17, y_18, y_19, y_20, y_21, y_22, y_23, y_24, y_29, y_30, y_31, y_32, y_39, y_40, y_48, y_49, y_50, y_60, y_64, y_69, y_78, y_99, y_100, y_142, y_161, y_600, y_610, y_894, y_999, y_1000, y_1216, y_1276, neg1, neg2, nI_add, nI_mul, nn_sub, nn_lt, nn_le, nn_eq, in_lt, ni_lt, in_le, ni_le, in_eq, ni_eq, iI_lt, iI_le, iI_eq, nn_clamp, inb_n, t_lt, f_lt, t_le, f_le, t_eq, f_eq, ti_lt, fi_lt, ti_le, fi_le, ti_eq, fi_eq, ↓reduceIte, ite_true, ite_false, eq_self, decide_true, decide_false, Bool.true_and, Bool.and_true, Bool.false_and, Bool.and_false, Bool.true_or, Bool.or_true, Bool.false_or, Bool.or_false, bI_t, bI_f, bI_nand, n_mod, an11, an01, negn1, negn2, false_and, and_false, true_and, and_true, not_true_eq_false, not_false_eq_true, bI_n0, bI_n1, Bool.true_eq_false, Bool.false_eq_true, cI_s, cL_s, cV_s, cR_n, pm_bR_self, bI_ite, bL_ite, bV_ite, bR_ite, s2]
          rw [if_pos q2, T, cI_s, if_pos (by rfl)]
          exact ⟨h, rfl, hC, kC.rf h⟩
        · have T : pm_ev (36, 0, [vr 1 0, vi (nI s)], [], h) = some (some (vi (nI 1)), pm_sI h 13 9 s (nI ((c (60+s)).val - 1))) := by
            rw [E_X1_throwOut]
            simp (disch := omega) only [y_0, y_1, y_2, y_3, y_4, y_5, y_6, y_7, y_8, y_9, y_10, y_11, y_12, y_13, y_14, y_15, y_16, y_17, y_18, y_19, y_20, y_21, y_22, y_23, y_24, y_29, y_30, y_31, y_32, y_39, y_40, y_48, y_49, y_50, y_60, y_64, y_69, y_78, y_99, y_100, y_142, y_161, y_600, y_610, y_894, y_999, y_1000, y_1216, y_1276, neg1, neg2, nI_add, nI_mul, nn_sub, nn_lt, nn_le, nn_eq, in_lt, ni_lt, in_le, ni_le, in_eq, ni_eq, iI_lt, iI_le, iI_eq, nn_clamp, inb_n, t_lt, f_lt, t_le, f_le, t_eq, f_eq, ti_lt, fi_lt, ti_le, fi_le, ti_eq, fi_eq, ↓reduceIte, ite_true, ite_false, eq_self, decide_true, decide_false, Bool.true_and, Bool.and_true, Bool.false_and, Bool.and_false, Bool.true_or, Bool.or_true, Bool.false_or, Bool.or_false, bI_t, bI_f, bI_nand, n_mod, an11, an01, negn1, negn2, false_and, and_false, true_and, and_true, not_true_eq_false, not_false_eq_true, bI_n0, bI_n1, Bool.true_eq_false, Bool.false_eq_true, cI_s, cL_s, cV_s, cR_n, pm_bR_self, bI_ite, bL_ite, bV_ite, bR_ite, s2, E_X1_throwOut_27]
          rw [if_neg q2, T, cI_s, if_pos (by rfl)]
          have G := cargo_C hv hC9 q0 (f64 ((c (60+s)).val - 1))
          rw [f64_v (by omega)] at G
          refine ⟨_, rfl, ⟨G, ?_, ?_, ?_, ?_⟩, Fr.sI _ _ _ (coT_9 (by decide)), ?_⟩
          · simp (disch := omega) only [sI_tag]; exact h1
          · simp (disch := omega) only [sI_tag]; exact h2
          · simp (disch := omega) only [sI_tag]; exact h3
          · simp (disch := omega) only [sI_tag]; exact h4
          · simp (disch := omega) only [sI_tag]
    · rw [q1] at LO
      rw [if_neg (fun z => by cases z.2)]
      refine ⟨h, ?_, hC, kC.rf h⟩
      rw [E_X1_act, HS, cI_s, if_neg (by decide), LO, cI_s, if_neg (by decide)]
      rfl
  · rw [decide_eq_false q0] at HS
    rw [if_neg (fun z => q0 z.1)]
    refine ⟨h, ?_, hC, kC.rf h⟩
    rw [E_X1_act, HS, cI_s, if_pos (by rfl)]
    rfl
