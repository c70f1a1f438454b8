/-! ===== the tape: fault, count, end, feed ===== -/
def tpT (a i : Nat) : Bool := scB a i || (a == 33 || (i == 0 && (a == 6 || a == 26)))
theorem tp_img {t a i : Nat} (ht : 1 ≤ t) (ht3 : t ≤ 3) (h : tpT a i = true) : toT t a i = false := by
  unfold tpT at h
  rw [Bool.or_eq_true] at h
  rcases h with h | h
  · exact scB_toT ht3 h
  · cases q : toT t a i
    · rfl
    · exfalso
      unfold toT at q
      simp only [Bool.or_eq_true, Bool.and_eq_true, beq_iff_eq] at q h
      have b1 : ∀ x y, Nat.ble x y = true → x ≤ y := fun x y z => Nat.le_of_ble_eq_true z
      rcases q with ⟨q1, q2⟩ | ⟨q1, q2⟩
      · omega
      · rcases q2 with ((q2 | q2) | q2) | q2
        · omega
        · omega
        · omega
        · have := b1 _ _ q2.1; have := b1 _ _ q2.2; omega
theorem Inv.tape {h h' : PH} (hI : Inv h) (hf : Fr tpT h h') (g33 : ∀ k, (k < 3 ∨ 610 ≤ k) → h'.1 33 0 k = h.1 33 0 k) (hT : RT h' 0 h') : Inv h' := by
  obtain ⟨⟨⟨nc, c1, c2, c3, c4⟩, ⟨nn, n1, n2, n3, n4⟩, ⟨nl, l1, l2, l3, l4⟩, _⟩, rk⟩ := hI
  have sc : ∀ a k, k < 2 → (a = 0 ∨ a = 2 ∨ a = 3 ∨ (10 ≤ a ∧ a ≤ 23)) → tpT a (k + (2*0+0)) = false := fun a k hk ha => by
    have : k = 0 ∨ k = 1 := by omega
    rcases this with e | e <;> subst e <;> rcases ha with e | e | e | e
    · subst e; rfl
    · subst e; rfl
    · subst e; rfl
    · have : a = 10 ∨ a = 11 ∨ a = 12 ∨ a = 13 ∨ a = 14 ∨ a = 15 ∨ a = 16 ∨ a = 17 ∨ a = 18 ∨ a = 19 ∨ a = 20 ∨ a = 21 ∨ a = 22 ∨ a = 23 := by omega
      rcases this with e | e | e | e | e | e | e | e | e | e | e | e | e | e <;> subst e <;> rfl
    · subst e; rfl
    · subst e; rfl
    · subst e; rfl
    · have : a = 10 ∨ a = 11 ∨ a = 12 ∨ a = 13 ∨ a = 14 ∨ a = 15 ∨ a = 16 ∨ a = 17 ∨ a = 18 ∨ a = 19 ∨ a = 20 ∨ a = 21 ∨ a = 22 ∨ a = 23 := by omega
      rcases this with e | e | e | e | e | e | e | e | e | e | e | e | e | e <;> subst e <;> rfl
  refine ⟨⟨⟨nc, c1, ((hf 27 0 rfl 0).1).trans c2, (g33 0 (by omega)).trans c3, fun k hk => ?_⟩, ⟨nn, n1, ((hf 27 0 rfl 1).1).trans n2, (g33 1 (by omega)).trans n3, fun k hk => ?_⟩, ⟨nl, l1, ((hf 27 0 rfl 2).1).trans l2, (g33 2 (by omega)).trans l3, fun k hk => ?_⟩, hT⟩, fun k hk => ?_⟩
  · obtain ⟨c, x1, x2, x3, x4⟩ := c4 k hk
    exact ⟨c, x1, x2.fr (fun a i h1 h2 => (hf a _ (sc a k (by omega) (by omega)) i).1) ((hf 0 _ (sc 0 k (by omega) (by omega)) 4).2), x3.frb x1 (fun i hi => g33 _ (by omega)), x4.frb x1 (fun i hi => g33 _ (by omega))⟩
  · obtain ⟨n, x1, x2, x3⟩ := n4 k hk
    exact ⟨n, x1, x2.fr (fun i => (hf 3 _ (sc 3 k (by omega) (by omega)) i).1) (fun i => (hf 22 _ (sc 22 k (by omega) (by omega)) i).1) (fun i => (hf 23 _ (sc 23 k (by omega) (by omega)) i).1), x3.frb x1 (fun i hi => g33 _ (by omega))⟩
  · obtain ⟨l, x1, x2, x3⟩ := l4 k hk
    exact ⟨l, x1, x2.fr (fun i => (hf 2 _ (sc 2 k (by omega) (by omega)) i).1) (fun i => (hf 19 _ (sc 19 k (by omega) (by omega)) i).1) (fun i => (hf 20 _ (sc 20 k (by omega) (by omega)) i).1) (fun i => (hf 21 _ (sc 21 k (by omega) (by omega)) i).1), x3.frb x1 (fun i hi => g33 _ (by omega))⟩
  · obtain ⟨b, b1, b2, b3⟩ := rk k hk
    exact ⟨b, ((hf 32 0 rfl k).1).trans b1, ((hf 34 0 rfl k).1).trans b2, fun q => (b3 q).keep hf (fun a i e => tp_img (by omega) (by omega) e) (fun i _ => by rw [vM_33, vM_33]; exact g33 _ (by omega))⟩
theorem rest_tp {h h' : PH} (hf : Fr tpT h h') : rest44 h h' := fun t i k ht => hf t i (by
  have e0 : scB t i = false := by
    cases q : scB t i
    · rfl
    · exfalso
      have := rest_scB (h := (fun a b _ => if a = t ∧ b = i then 0 else 0, fun _ _ _ => 0)) (h' := (fun a b _ => if a = t ∧ b = i then 1 else 0, fun _ _ _ => 0)) (fun a b hab c => ⟨by
        show (if a = t ∧ b = i then (1 : Int32) else 0) = (if a = t ∧ b = i then (0 : Int32) else 0)
        rw [if_neg (fun z => by rw [z.1, z.2, q] at hab; cases hab), if_neg (fun z => by rw [z.1, z.2, q] at hab; cases hab)], rfl⟩) t i 0 ht
      have e := this.1
      have e : (if t = t ∧ i = i then (1 : Int32) else 0) = (if t = t ∧ i = i then (0 : Int32) else 0) := e
      rw [if_pos ⟨rfl, rfl⟩, if_pos ⟨rfl, rfl⟩] at e
      exact absurd e (by decide)
  unfold tpT
  have n : ∀ x, x < 44 → (t == x) = false := fun x hx => by rw [beq_eq_false_iff_ne]; omega
  rw [e0, n 33 (by decide), n 6 (by decide), n 26 (by decide)]
  simp) k
theorem q_fault {h : PH} (hI : Inv h) (a : Int32) : SameI (fun h => (111, 0, [vr 7 0, vi a], [], h)) (fun h => (184, 0, [vr 8 0, vi a], [], h)) h := by
  obtain ⟨_, _, _, len, _, _, _, _, t5, t6⟩ := id hI.1
  have R : rest44 h h := fun _ _ _ _ => ⟨rfl, rfl⟩
  by_cases q0 : a = 0
  · refine ⟨vi (h.1 6 0 2), h, h, ?_, ?_, hI, R, R⟩
    · dsimp only; rw [E_X8_fault, if_pos q0]
    · dsimp only; rw [E_X9_fault, if_pos q0, E_X9_fault_10, t5]; rfl
  · by_cases q1 : a = 1
    · refine ⟨vi (h.1 6 0 3), h, h, ?_, ?_, hI, R, R⟩
      · dsimp only; rw [E_X8_fault, if_neg q0, if_pos q1]
      · dsimp only; rw [E_X9_fault, if_neg q0, if_pos q1, E_X9_fault_25, t6]; rfl
    · refine ⟨vi (-1), h, h, ?_, ?_, hI, R, R⟩
      · dsimp only; rw [E_X8_fault, if_neg q0, if_neg q1]
      · dsimp only; rw [E_X9_fault, if_neg q0, if_neg q1]
theorem q_count {h : PH} (hI : Inv h) (a : Int32) : SameI (fun h => (135, 0, [vr 7 0, vi a], [], h)) (fun h => (264, 0, [vr 8 0, vi a], [], h)) h := by
  obtain ⟨⟨nc, _, c2, c3, _⟩, ⟨nn, _, n2, n3, _⟩, ⟨nl, _, l2, l3, _⟩, _⟩ := id hI.1
  have R : rest44 h h := fun _ _ _ _ => ⟨rfl, rfl⟩
  rcases ix a (show 3 < 2147483648 by omega) with ⟨z, rfl, z1, z2⟩ | ⟨k, rfl, k1, k2⟩ | ⟨k, rfl, hk⟩
  · refine ⟨vi (iI (-2)), h, h, ?_, ?_, hI, R, R⟩
    · dsimp only; rw [E_X8_count, E_X7_held]
      simp (disch := omega) only [y_0, y_1, y_2, y_3, y_4, y_5, y_6, y_7, y_8, y_9, y_10, y_11, y_12, y_13, y_14, y_15, y_16, y_17, y_18, y_19, y_20, y_21, y_22, y_23, y_24, y_29, y_30, y_31, y_32, y_39, y_40, y_48, y_49, y_50, y_60, y_64, y_69, y_78, y_99, y_100, y_142, y_161, y_600, y_610, y_894, y_999, y_1000, y_1216, y_1276, neg1, neg2, nI_add, nI_mul, nn_sub, nn_lt, nn_le, nn_eq, in_lt, ni_lt, in_le, ni_le, in_eq, ni_eq, iI_lt, iI_le, iI_eq, nn_clamp, inb_n, t_lt, f_lt, t_le, f_le, t_eq, f_eq, ti_lt, fi_lt, ti_le, fi_le, ti_eq, fi_eq, ↓reduceIte, ite_true, ite_false, eq_self, decide_true, decide_false, Bool.true_and, Bool.and_true, Bool.false_and, Bool.and_false, Bool.true_or, Bool.or_true, Bool.false_or, Bool.or_false, bI_t, bI_f, bI_nand, n_mod, an11, an01, negn1, negn2, false_and, and_false, true_and, and_true, not_true_eq_false, not_false_eq_true, bI_n0, bI_n1, Bool.true_eq_false, Bool.false_eq_true, cI_s, cL_s, cV_s, cR_n, pm_bR_self, bI_ite, bL_ite, bV_ite, bR_ite]
    · dsimp only; rw [E_X9_count]
      simp (disch := omega) only [y_0, y_1, y_2, y_3, y_4, y_5, y_6, y_7, y_8, y_9, y_10, y_11, y_12, y_13, y_14, y_15, y_16, y_17, y_18, y_19, y_20, y_21, y_22, y_23, y_24, y_29, y_30, y_31, y_32, y_39, y_40, y_48, y_49, y_50, y_60, y_64, y_69, y_78, y_99, y_100, y_142, y_161, y_600, y_610, y_894, y_999, y_1000, y_1216, y_1276, neg1, neg2, nI_add, nI_mul, nn_sub, nn_lt, nn_le, nn_eq, in_lt, ni_lt, in_le, ni_le, in_eq, ni_eq, iI_lt, iI_le, iI_eq, nn_clamp, inb_n, t_lt, f_lt, t_le, f_le, t_eq, f_eq, ti_lt, fi_lt, ti_le, fi_le, ti_eq, fi_eq, ↓reduceIte, ite_true, ite_false, eq_self, decide_true, decide_false, Bool.true_and, Bool.and_true, Bool.false_and, Bool.and_false, Bool.true_or, Bool.or_true, Bool.false_or, Bool.or_false, bI_t, bI_f, bI_nand, n_mod, an11, an01, negn1, negn2, false_and, and_false, true_and, and_true, not_true_eq_false, not_false_eq_true, bI_n0, bI_n1, Bool.true_eq_false, Bool.false_eq_true, cI_s, cL_s, cV_s, cR_n, pm_bR_self, bI_ite, bL_ite, bV_ite, bR_ite, isIn_inn]
  · refine ⟨vi (iI (-2)), h, h, ?_, ?_, hI, R, R⟩
    · dsimp only; rw [E_X8_count, E_X7_held]
      simp (disch := omega) only [y_0, y_1, y_2, y_3, y_4, y_5, y_6, y_7, y_8, y_9, y_10, y_11, y_12, y_13, y_14, y_15, y_16, y_17, y_18, y_19, y_20, y_21, y_22, y_23, y_24, y_29, y_30, y_31, y_32, y_39, y_40, y_48, y_49, y_50, y_60, y_64, y_69, y_78, y_99, y_100, y_142, y_161, y_600, y_610, y_894, y_999, y_1000, y_1216, y_1276, neg1, neg2, nI_add, nI_mul, nn_sub, nn_lt, nn_le, nn_eq, in_lt, ni_lt, in_le, ni_le, in_eq, ni_eq, iI_lt, iI_le, iI_eq, nn_clamp, inb_n, t_lt, f_lt, t_le, f_le, t_eq, f_eq, ti_lt, fi_lt, ti_le, fi_le, ti_eq, fi_eq, ↓reduceIte, ite_true, ite_false, eq_self, decide_true, decide_false, Bool.true_and, Bool.and_true, Bool.false_and, Bool.and_false, Bool.true_or, Bool.or_true, Bool.false_or, Bool.or_false, bI_t, bI_f, bI_nand, n_mod, an11, an01, negn1, negn2, false_and, and_false, true_and, and_true, not_true_eq_false, not_false_eq_true, bI_n0, bI_n1, Bool.true_eq_false, Bool.false_eq_true, cI_s, cL_s, cV_s, cR_n, pm_bR_self, bI_ite, bL_ite, bV_ite, bR_ite]
    · dsimp only; rw [E_X9_count]
      simp (disch := omega) only [y_0, y_1, y_2, y_3, y_4, y_5, y_6, y_7, y_8, y_9, y_10, y_11, y_12, y_13, y_14, y_15, y_16, y_17, y_18, y_19, y_20, y_21, y_22, y_23, y_24, y_29, y_30, y_31, y_32, y_39, y_40, y_48, y_49, y_50, y_60, y_64, y_69, y_78, y_99, y_100, y_142, y_161, y_600, y_610, y_894, y_999, y_1000, y_1216, y_1276, neg1, neg2, nI_add, nI_mul, nn_sub, nn_lt, nn_le, nn_eq, in_lt, ni_lt, in_le, ni_le, in_eq, ni_eq, iI_lt, iI_le, iI_eq, nn_clamp, inb_n, t_lt, f_lt, t_le, f_le, t_eq, f_eq, ti_lt, fi_lt, ti_le, fi_le, ti_eq, fi_eq, ↓reduceIte, ite_true, ite_false, eq_self, decide_true, decide_false, Bool.true_and, Bool.and_true, Bool.false_and, Bool.and_false, Bool.true_or, Bool.or_true, Bool.false_or, Bool.or_false, bI_t, bI_f, bI_nand, n_mod, an11, an01, negn1, negn2, false_and, and_false, true_and, and_true, not_true_eq_false, not_false_eq_true, bI_n0, bI_n1, Bool.true_eq_false, Bool.false_eq_true, cI_s, cL_s, cV_s, cR_n, pm_bR_self, bI_ite, bL_ite, bV_ite, bR_ite, isIn_nnn]
  · refine ⟨vi (h.1 27 0 k), h, h, ?_, ?_, hI, R, R⟩
    · dsimp only; rw [E_X8_count, E_X7_held]
      simp (disch := omega) only [y_0, y_1, y_2, y_3, y_4, y_5, y_6, y_7, y_8, y_9, y_10, y_11, y_12, y_13, y_14, y_15, y_16, y_17, y_18, y_19, y_20, y_21, y_22, y_23, y_24, y_29, y_30, y_31, y_32, y_39, y_40, y_48, y_49, y_50, y_60, y_64, y_69, y_78, y_99, y_100, y_142, y_161, y_600, y_610, y_894, y_999, y_1000, y_1216, y_1276, neg1, neg2, nI_add, nI_mul, nn_sub, nn_lt, nn_le, nn_eq, in_lt, ni_lt, in_le, ni_le, in_eq, ni_eq, iI_lt, iI_le, iI_eq, nn_clamp, inb_n, t_lt, f_lt, t_le, f_le, t_eq, f_eq, ti_lt, fi_lt, ti_le, fi_le, ti_eq, fi_eq, ↓reduceIte, ite_true, ite_false, eq_self, decide_true, decide_false, Bool.true_and, Bool.and_true, Bool.false_and, Bool.and_false, Bool.true_or, Bool.or_true, Bool.false_or, Bool.or_false, bI_t, bI_f, bI_nand, n_mod, an11, an01, negn1, negn2, false_and, and_false, true_and, and_true, not_true_eq_false, not_false_eq_true, bI_n0, bI_n1, Bool.true_eq_false, Bool.false_eq_true, cI_s, cL_s, cV_s, cR_n, pm_bR_self, bI_ite, bL_ite, bV_ite, bR_ite]
    · have e : h.1 33 0 k = h.1 27 0 k := by
        have : k = 0 ∨ k = 1 ∨ k = 2 := by omega
        rcases this with e | e | e <;> subst e
        · rw [c2, c3]
        · rw [n2, n3]
        · rw [l2, l3]
      dsimp only; rw [E_X9_count]
      simp (disch := omega) only [y_0, y_1, y_2, y_3, y_4, y_5, y_6, y_7, y_8, y_9, y_10, y_11, y_12, y_13, y_14, y_15, y_16, y_17, y_18, y_19, y_20, y_21, y_22, y_23, y_24, y_29, y_30, y_31, y_32, y_39, y_40, y_48, y_49, y_50, y_60, y_64, y_69, y_78, y_99, y_100, y_142, y_161, y_600, y_610, y_894, y_999, y_1000, y_1216, y_1276, neg1, neg2, nI_add, nI_mul, nn_sub, nn_lt, nn_le, nn_eq, in_lt, ni_lt, in_le, ni_le, in_eq, ni_eq, iI_lt, iI_le, iI_eq, nn_clamp, inb_n, t_lt, f_lt, t_le, f_le, t_eq, f_eq, ti_lt, fi_lt, ti_le, fi_le, ti_eq, fi_eq, ↓reduceIte, ite_true, ite_false, eq_self, decide_true, decide_false, Bool.true_and, Bool.and_true, Bool.false_and, Bool.and_false, Bool.true_or, Bool.or_true, Bool.false_or, Bool.or_false, bI_t, bI_f, bI_nand, n_mod, an11, an01, negn1, negn2, false_and, and_false, true_and, and_true, not_true_eq_false, not_false_eq_true, bI_n0, bI_n1, Bool.true_eq_false, Bool.false_eq_true, cI_s, cL_s, cV_s, cR_n, pm_bR_self, bI_ite, bL_ite, bV_ite, bR_ite, isIn_nnn, E_X9_count_15, e]
theorem q_end {h : PH} (hI : Inv h) (a : Int32) : SameI (fun h => (109, 0, [vr 7 0, vi a], [], h)) (fun h => (155, 0, [vr 8 0, vi a], [], h)) h := by
  obtain ⟨_, _, _, len, t1, t2, t3, t4, t5, t6⟩ := id hI.1
  have R : rest44 h h := fun _ _ _ _ => ⟨rfl, rfl⟩
  rcases ix a (show len + 1 < 2147483648 by omega) with ⟨z, rfl, z1, z2⟩ | ⟨k, rfl, k1, k2⟩ | ⟨k, rfl, hk⟩
  · refine ⟨vi (iI (-1)), h, h, ?_, ?_, hI, R, R⟩
    · dsimp only; rw [E_X8_end]
      simp (disch := omega) only [y_0, y_1, y_2, y_3, y_4, y_5, y_6, y_7, y_8, y_9, y_10, y_11, y_12, y_13, y_14, y_15, y_16, y_17, y_18, y_19, y_20, y_21, y_22, y_23, y_24, y_29, y_30, y_31, y_32, y_39, y_40, y_48, y_49, y_50, y_60, y_64, y_69, y_78, y_99, y_100, y_142, y_161, y_600, y_610, y_894, y_999, y_1000, y_1216, y_1276, neg1, neg2, nI_add, nI_mul, nn_sub, nn_lt, nn_le, nn_eq, in_lt, ni_lt, in_le, ni_le, in_eq, ni_eq, iI_lt, iI_le, iI_eq, nn_clamp, inb_n, t_lt, f_lt, t_le, f_le, t_eq, f_eq, ti_lt, fi_lt, ti_le, fi_le, ti_eq, fi_eq, ↓reduceIte, ite_true, ite_false, eq_self, decide_true, decide_false, Bool.true_and, Bool.and_true, Bool.false_and, Bool.and_false, Bool.true_or, Bool.or_true, Bool.false_or, Bool.or_false, bI_t, bI_f, bI_nand, n_mod, an11, an01, negn1, negn2, false_and, and_false, true_and, and_true, not_true_eq_false, not_false_eq_true, bI_n0, bI_n1, Bool.true_eq_false, Bool.false_eq_true, cI_s, cL_s, cV_s, cR_n, pm_bR_self, bI_ite, bL_ite, bV_ite, bR_ite]
    · dsimp only; rw [E_X9_end]
      simp (disch := omega) only [y_0, y_1, y_2, y_3, y_4, y_5, y_6, y_7, y_8, y_9, y_10, y_11, y_12, y_13, y_14, y_15, y_16, y_17, y_18, y_19, y_20, y_21, y_22, y_23, y_24, y_29, y_30, y_31, y_32, y_39, y_40, y_48, y_49, y_50, y_60, y_64, y_69, y_78, y_99, y_100, y_142, y_161, y_600, y_610, y_894, y_999, y_1000, y_1216, y_1276, neg1, neg2, nI_add, nI_mul, nn_sub, nn_lt, nn_le, nn_eq, in_lt, ni_lt, in_le, ni_le, in_eq, ni_eq, iI_lt, iI_le, iI_eq, nn_clamp, inb_n, t_lt, f_lt, t_le, f_le, t_eq, f_eq, ti_lt, fi_lt, ti_le, fi_le, ti_eq, fi_eq, ↓reduceIte, ite_true, ite_false, eq_self, decide_true, decide_false, Bool.true_and, Bool.and_true, Bool.false_and, Bool.and_false, Bool.true_or, Bool.or_true, Bool.false_or, Bool.or_false, bI_t, bI_f, bI_nand, n_mod, an11, an01, negn1, negn2, false_and, and_false, true_and, and_true, not_true_eq_false, not_false_eq_true, bI_n0, bI_n1, Bool.true_eq_false, Bool.false_eq_true, cI_s, cL_s, cV_s, cR_n, pm_bR_self, bI_ite, bL_ite, bV_ite, bR_ite]
  · refine ⟨vi (iI (-1)), h, h, ?_, ?_, hI, R, R⟩
    · dsimp only; rw [E_X8_end]
      simp (disch := omega) only [y_0, y_1, y_2, y_3, y_4, y_5, y_6, y_7, y_8, y_9, y_10, y_11, y_12, y_13, y_14, y_15, y_16, y_17, y_18, y_19, y_20, y_21, y_22, y_23, y_24, y_29, y_30, y_31, y_32, y_39, y_40, y_48, y_49, y_50, y_60, y_64, y_69, y_78, y_99, y_100, y_142, y_161, y_600, y_610, y_894, y_999, y_1000, y_1216, y_1276, neg1, neg2, nI_add, nI_mul, nn_sub, nn_lt, nn_le, nn_eq, in_lt, ni_lt, in_le, ni_le, in_eq, ni_eq, iI_lt, iI_le, iI_eq, nn_clamp, inb_n, t_lt, f_lt, t_le, f_le, t_eq, f_eq, ti_lt, fi_lt, ti_le, fi_le, ti_eq, fi_eq, ↓reduceIte, ite_true, ite_false, eq_self, decide_true, decide_false, Bool.true_and, Bool.and_true, Bool.false_and, Bool.and_false, Bool.true_or, Bool.or_true, Bool.false_or, Bool.or_false, bI_t, bI_f, bI_nand, n_mod, an11, an01, negn1, negn2, false_and, and_false, true_and, and_true, not_true_eq_false, not_false_eq_true, bI_n0, bI_n1, Bool.true_eq_false, Bool.false_eq_true, cI_s, cL_s, cV_s, cR_n, pm_bR_self, bI_ite, bL_ite, bV_ite, bR_ite, t2]
    · dsimp only; rw [E_X9_end]
      simp (disch := omega) only [y_0, y_1, y_2, y_3, y_4, y_5, y_6, y_7, y_8, y_9, y_10, y_11, y_12, y_13, y_14, y_15, y_16, y_17, y_18, y_19, y_20, y_21, y_22, y_23, y_24, y_29, y_30, y_31, y_32, y_39, y_40, y_48, y_49, y_50, y_60, y_64, y_69, y_78, y_99, y_100, y_142, y_161, y_600, y_610, y_894, y_999, y_1000, y_1216, y_1276, neg1, neg2, nI_add, nI_mul, nn_sub, nn_lt, nn_le, nn_eq, in_lt, ni_lt, in_le, ni_le, in_eq, ni_eq, iI_lt, iI_le, iI_eq, nn_clamp, inb_n, t_lt, f_lt, t_le, f_le, t_eq, f_eq, ti_lt, fi_lt, ti_le, fi_le, ti_eq, fi_eq, ↓reduceIte, ite_true, ite_false, eq_self, decide_true, decide_false, Bool.true_and, Bool.and_true, Bool.false_and, Bool.and_false, Bool.true_or, Bool.or_true, Bool.false_or, Bool.or_false, bI_t, bI_f, bI_nand, n_mod, an11, an01, negn1, negn2, false_and, and_false, true_and, and_true, not_true_eq_false, not_false_eq_true, bI_n0, bI_n1, Bool.true_eq_false, Bool.false_eq_true, cI_s, cL_s, cV_s, cR_n, pm_bR_self, bI_ite, bL_ite, bV_ite, bR_ite, t3, E_X9_end_11]
  · have f : Fr tpT h (pm_sI (pm_sI h 6 0 1 (nI k)) 33 0 4 (nI k)) := (Fr.sI _ _ _ rfl).tr (Fr.sI _ _ _ rfl)
    refine ⟨vi (nI k), pm_sI h 6 0 1 (nI k), pm_sI (pm_sI h 6 0 1 (nI k)) 33 0 4 (nI k), ?_, ?_, hI.tape f (fun i hi => ?_) ⟨k, by omega, ?_, ?_, fun i hi => ?_, ?_, ?_⟩, rest_tp f, rest_tp (Fr.sI _ _ _ rfl)⟩
    · dsimp only; rw [E_X8_end]
      simp (disch := omega) only [y_0, y_1, y_2, y_3, y_4, y_5, y_6, y_7, y_8, y_9, y_10, y_11, y_12, y_13, y_14, y_15, y_16, y_17, y_18, y_19, y_20, y_21, y_22, y_23, y_24, y_29, y_30, y_31, y_32, y_39, y_40, y_48, y_49, y_50, y_60, y_64, y_69, y_78, y_99, y_100, y_142, y_161, y_600, y_610, y_894, y_999, y_1000, y_1216, y_1276, neg1, neg2, nI_add, nI_mul, nn_sub, nn_lt, nn_le, nn_eq, in_lt, ni_lt, in_le, ni_le, in_eq, ni_eq, iI_lt, iI_le, iI_eq, nn_clamp, inb_n, t_lt, f_lt, t_le, f_le, t_eq, f_eq, ti_lt, fi_lt, ti_le, fi_le, ti_eq, fi_eq, ↓reduceIte, ite_true, ite_false, eq_self, decide_true, decide_false, Bool.true_and, Bool.and_true, Bool.false_and, Bool.and_false, Bool.true_or, Bool.or_true, Bool.false_or, Bool.or_false, bI_t, bI_f, bI_nand, n_mod, an11, an01, negn1, negn2, false_and, and_false, true_and, and_true, not_true_eq_false, not_false_eq_true, bI_n0, bI_n1, Bool.true_eq_false, Bool.false_eq_true, cI_s, cL_s, cV_s, cR_n, pm_bR_self, bI_ite, bL_ite, bV_ite, bR_ite, t2]
    · dsimp only; rw [E_X9_end]
      simp (disch := omega) only [y_0, y_1, y_2, y_3, y_4, y_5, y_6, y_7, y_8, y_9, y_10, y_11, y_12, y_13, y_14, y_15, y_16, y_17, y_18, y_19, y_20, y_21, y_22, y_23, y_24, y_29, y_30, y_31, y_32, y_39, y_40, y_48, y_49, y_50, y_60, y_64, y_69, y_78, y_99, y_100, y_142, y_161, y_600, y_610, y_894, y_999, y_1000, y_1216, y_1276, neg1, neg2, nI_add, nI_mul, nn_sub, nn_lt, nn_le, nn_eq, in_lt, ni_lt, in_le, ni_le, in_eq, ni_eq, iI_lt, iI_le, iI_eq, nn_clamp, inb_n, t_lt, f_lt, t_le, f_le, t_eq, f_eq, ti_lt, fi_lt, ti_le, fi_le, ti_eq, fi_eq, ↓reduceIte, ite_true, ite_false, eq_self, decide_true, decide_false, Bool.true_and, Bool.and_true, Bool.false_and, Bool.and_false, Bool.true_or, Bool.or_true, Bool.false_or, Bool.or_false, bI_t, bI_f, bI_nand, n_mod, an11, an01, negn1, negn2, false_and, and_false, true_and, and_true, not_true_eq_false, not_false_eq_true, bI_n0, bI_n1, Bool.true_eq_false, Bool.false_eq_true, cI_s, cL_s, cV_s, cR_n, pm_bR_self, bI_ite, bL_ite, bV_ite, bR_ite, sI_tag, t3, E_X9_end_11]
    · rw [sI_pl _ _ _ _ _ (by omega), sI_tag _ _ _ _ _ _ (by decide)]
    · rw [sI_tag _ _ _ _ _ _ (by decide), sI_same]
    · rw [sI_same]
    · obtain ⟨b, x1, x2, x3⟩ := t4 i (by omega)
      refine ⟨b, x1, ?_, ?_⟩
      · rw [sI_tag _ _ _ _ _ _ (by decide), sI_tag _ _ _ _ _ _ (by decide)]; exact x2
      · rw [sI_pl _ _ _ _ _ (by omega), sI_tag _ _ _ _ _ _ (by decide)]; exact x3
    · simp (disch := omega) only [sI_tag, sI_pl]; exact t5
    · simp (disch := omega) only [sI_tag, sI_pl]; exact t6
