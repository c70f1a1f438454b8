theorem passes_168 {h : PH} {a : Nat} {c : AC} (hv : cV c) (hm : ModS h a c) (hA : AliveM h c) {s : Nat} (hab : h.1 8 0 19 = nI 15) (hs : s < (c (6)).val) {g t : Nat} (hg : g < 64) (ht : t < 100) (N B : Nat → Int32) (f u : Nat → Bool) : ∀ r k, k + r = (c (0)).val * (c (1)).val → pm_ev (251, 168, [vr 8 0, vi (nI s), vi (nI g), vi (nI t), vi (nI k), none, none], [], paH h (cutF (boolF (fun i => f i && safeI c (aLit c s (t % 24)) i)) N k) (boolF f) (cutF (boolF (fun i => (u i || (decide (i = g) && f i)) && safeI c (aLit c s (t % 24)) i)) B k) (boolF u)) = some (none, paH h (cutF (boolF (fun i => f i && safeI c (aLit c s (t % 24)) i)) N ((c (0)).val * (c (1)).val)) (boolF f) (cutF (boolF (fun i => (u i || (decide (i = g) && f i)) && safeI c (aLit c s (t % 24)) i)) B ((c (0)).val * (c (1)).val)) (boolF u)) := by
  have hV1 := hv.1
  have hWb := WH_le hv
  obtain ⟨WH, hWH⟩ : ∃ n, n = (c (0)).val * (c (1)).val := ⟨_, rfl⟩
  rw [← hWH] at hWb ⊢
  have hwh : ∀ N T B U, (paH h N T B U).1 8 0 14 * (paH h N T B U).1 8 0 15 = nI WH := fun N T B U => by rw [paH_8, paH_8, hm.2.2.1, hm.2.2.2.1, nI_mul, hWH]
  generalize hnw : (fun i => f i && safeI c (aLit c s (t % 24)) i) = nw
  generalize hbn : (fun i => (u i || (decide (i = g) && f i)) && safeI c (aLit c s (t % 24)) i) = bn
  intro r
  induction r with
  | zero =>
    intro k hk
    have hk : k = WH := by omega
    subst hk
    rw [E_X9_passes_168]
    simp (disch := omega) only [y_0, y_1, y_2, y_3, y_4, y_5, y_6, y_7, y_8, y_9, y_10, y_11, y_12, y_13, y_14, y_15, y_16, y_17, y_18, y_19, y_20, y_21, y_22, y_23, y_24, y_29, y_30, y_31, y_32, y_39, y_40, y_48, y_49, y_50, y_60, y_64, y_69, y_78, y_99, y_100, y_142, y_161, y_600, y_610, y_894, y_999, y_1000, y_1216, y_1276, neg1, neg2, nI_add, nI_mul, nn_sub, nn_lt, nn_le, nn_eq, in_lt, ni_lt, in_le, ni_le, in_eq, ni_eq, iI_lt, iI_le, iI_eq, nn_clamp, inb_n, t_lt, f_lt, t_le, f_le, t_eq, f_eq, ti_lt, fi_lt, ti_le, fi_le, ti_eq, fi_eq, ↓reduceIte, ite_true, ite_false, eq_self, decide_true, decide_false, Bool.true_and, Bool.and_true, Bool.false_and, Bool.and_false, Bool.true_or, Bool.or_true, Bool.false_or, Bool.or_false, bI_t, bI_f, bI_nand, n_mod, an11, an01, negn1, negn2, false_and, and_false, true_and, and_true, not_true_eq_false, not_false_eq_true, bI_n0, bI_n1, Bool.true_eq_false, Bool.false_eq_true, cI_s, cL_s, cV_s, cR_n, pm_bR_self, bI_ite, bL_ite, bV_ite, bR_ite, E_X9_passes_23, E_X9_passes_24, E_X9_passes_37, E_X9_passes_78, E_X9_passes_191, E_X9_passes_38, E_X9_passes_153, E_X9_passes_102, E_X9_passes_220, E_X9_passes_211, E_X9_passes_112, E_X9_passes_121, E_X9_passes_263, E_X9_passes_238, E_X9_passes_134, E_X9_passes_254, E_X9_passes_144, hwh]
  | succ r ih =>
    intro k hk
    have hk2 : k < (c (0)).val * (c (1)).val := by omega
    obtain ⟨x1, x2, x3⟩ := cell_xy (show 0 < (c (0)).val by omega) hk2
    have S := fun N T B U => isSafe_M hv (paH_M hm N T B U) (paH_A hA N T B U) (by rw [paH_8]; exact hab) (by decide) hs x1 x2 (show t < 100000 by omega) (show 0 < 3 by decide)
    rw [x3, how_0] at S
    have R41 : ∀ N B, (paH h N (boolF f) B (boolF u)).1 41 0 k = bI (f k) := fun N B => paH_41 h N (boolF f) B _ (by omega)
    have R43 : ∀ N B, (paH h N (boolF f) B (boolF u)).1 43 0 k = bI (u k) := fun N B => paH_43 h N _ B (boolF u) (by omega)
    have hnk : nw k = (f k && safeI c (aLit c s (t % 24)) k) := by rw [← hnw]
    have hbk : bn k = ((u k || (decide (k = g) && f k)) && safeI c (aLit c s (t % 24)) k) := by rw [← hbn]
    change ∀ N T B U, pm_ev _ = some (some (vi (bI (safeI c (aLit c s (t % 24)) k))), _) at S
    have en := fun v => cutF_s (boolF nw) N k (v := v)
    have eb := fun v => cutF_s (boolF bn) B k (v := v)
    have vn : boolF nw k = bI (nw k) := rfl
    have vb : boolF bn k = bI (bn k) := rfl
    rw [← ih (k + 1) (by omega), E_X9_passes_168]
    cases q : safeI c (aLit c s (t % 24)) k
    · rw [q, Bool.and_false] at hnk hbk
      have e1 : upd (cutF (boolF nw) N k) k (nI 0) = cutF (boolF nw) N (k + 1) := en _ (by rw [vn, hnk]; rfl)
      have e2 : upd (cutF (boolF bn) B k) k (nI 0) = cutF (boolF bn) B (k + 1) := eb _ (by rw [vb, hbk]; rfl)
      rw [q] at S
      simp (disch := omega) only [y_0, y_1, y_2, y_3, y_4, y_5, y_6, y_7, y_8, y_9, y_10, y_11, y_12, y_13, y_14, y_15, y_16, y_17, y_18, y_19, y_20, y_21, y_22, y_23, y_24, y_29, y_30, y_31, y_32, y_39, y_40, y_48, y_49, y_50, y_60, y_64, y_69, y_78, y_99, y_100, y_142, y_161, y_600, y_610, y_894, y_999, y_1000, y_1216, y_1276, neg1, neg2, nI_add, nI_mul, nn_sub, nn_lt, nn_le, nn_eq, in_lt, ni_lt, in_le, ni_le, in_eq, ni_eq, iI_lt, iI_le, iI_eq, nn_clamp, inb_n, t_lt, f_lt, t_le, f_le, t_eq, f_eq, ti_lt, fi_lt, ti_le, fi_le, ti_eq, fi_eq, ↓reduceIte, ite_true, ite_false, eq_self, decide_true, decide_false, Bool.true_and, Bool.and_true, Bool.false_and, Bool.and_false, Bool.true_or, Bool.or_true, Bool.false_or, Bool.or_false, bI_t, bI_f, bI_nand, n_mod, an11, an01, negn1, negn2, false_and, and_false, true_and, and_true, not_true_eq_false, not_false_eq_true, bI_n0, bI_n1, Bool.true_eq_false, Bool.false_eq_true, cI_s, cL_s, cV_s, cR_n, pm_bR_self, bI_ite, bL_ite, bV_ite, bR_ite, E_X9_passes_23, E_X9_passes_24, E_X9_passes_37, E_X9_passes_78, E_X9_passes_191, E_X9_passes_38, E_X9_passes_153, E_X9_passes_102, E_X9_passes_220, E_X9_passes_211, E_X9_passes_112, E_X9_passes_121, E_X9_passes_263, E_X9_passes_238, E_X9_passes_134, E_X9_passes_254, E_X9_passes_144, hwh, S, paH_s40, paH_s42, e1, e2]
    · rw [q, Bool.and_true] at hnk hbk
      rw [q] at S
      cases q1 : f k
      · rw [q1] at R41
        rw [q1, Bool.and_false, Bool.or_false] at hbk
        rw [q1] at hnk
        have e1 : upd (cutF (boolF nw) N k) k (nI 0) = cutF (boolF nw) N (k + 1) := en _ (by rw [vn, hnk]; rfl)
        cases q2 : u k
        · rw [q2] at R43 hbk
          have e2 : upd (cutF (boolF bn) B k) k (nI 0) = cutF (boolF bn) B (k + 1) := eb _ (by rw [vb, hbk]; rfl)
          by_cases q3 : k = g
          · simp (disch := omega) only [y_0, y_1, y_2, y_3, y_4, y_5, y_6, y_7, y_8, y_9, y_10, y_11, y_12, y_13, y_14, y_15, y_16, y_17, y_18, y_19, y_20, y_21, y_22, y_23, y_24, y_29, y_30, y_31, y_32, y_39, y_40, y_48, y_49, y_50, y_60, y_64, y_69, y_78, y_99, y_100, y_142, y_161, y_600, y_610, y_894, y_999, y_1000, y_1216, y_1276, neg1, neg2, nI_add, nI_mul, nn_sub, nn_lt, nn_le, nn_eq, in_lt, ni_lt, in_le, ni_le, in_eq, ni_eq, iI_lt, iI_le, iI_eq, nn_clamp, inb_n, t_lt, f_lt, t_le, f_le, t_eq, f_eq, ti_lt, fi_lt, ti_le, fi_le, ti_eq, fi_eq, ↓reduceIte, ite_true, ite_false, eq_self, decide_true, decide_false, Bool.true_and, Bool.and_true, Bool.false_and, Bool.and_false, Bool.true_or, Bool.or_true, Bool.false_or, Bool.or_false, bI_t, bI_f, bI_nand, n_mod, an11, an01, negn1, negn2, false_and, and_false, true_and, and_true, not_true_eq_false, not_false_eq_true, bI_n0, bI_n1, Bool.true_eq_false, Bool.false_eq_true, cI_s, cL_s, cV_s, cR_n, pm_bR_self, bI_ite, bL_ite, bV_ite, bR_ite, E_X9_passes_23, E_X9_passes_24, E_X9_passes_37, E_X9_passes_78, E_X9_passes_191, E_X9_passes_38, E_X9_passes_153, E_X9_passes_102, E_X9_passes_220, E_X9_passes_211, E_X9_passes_112, E_X9_passes_121, E_X9_passes_263, E_X9_passes_238, E_X9_passes_134, E_X9_passes_254, E_X9_passes_144, hwh, S, paH_s40, paH_s42, R41, R43, q3, e1, e2]
            subst q3
            simp (disch := omega) only [y_0, y_1, y_2, y_3, y_4, y_5, y_6, y_7, y_8, y_9, y_10, y_11, y_12, y_13, y_14, y_15, y_16, y_17, y_18, y_19, y_20, y_21, y_22, y_23, y_24, y_29, y_30, y_31, y_32, y_39, y_40, y_48, y_49, y_50, y_60, y_64, y_69, y_78, y_99, y_100, y_142, y_161, y_600, y_610, y_894, y_999, y_1000, y_1216, y_1276, neg1, neg2, nI_add, nI_mul, nn_sub, nn_lt, nn_le, nn_eq, in_lt, ni_lt, in_le, ni_le, in_eq, ni_eq, iI_lt, iI_le, iI_eq, nn_clamp, inb_n, t_lt, f_lt, t_le, f_le, t_eq, f_eq, ti_lt, fi_lt, ti_le, fi_le, ti_eq, fi_eq, ↓reduceIte, ite_true, ite_false, eq_self, decide_true, decide_false, Bool.true_and, Bool.and_true, Bool.false_and, Bool.and_false, Bool.true_or, Bool.or_true, Bool.false_or, Bool.or_false, bI_t, bI_f, bI_nand, n_mod, an11, an01, negn1, negn2, false_and, and_false, true_and, and_true, not_true_eq_false, not_false_eq_true, bI_n0, bI_n1, Bool.true_eq_false, Bool.false_eq_true, cI_s, cL_s, cV_s, cR_n, pm_bR_self, bI_ite, bL_ite, bV_ite, bR_ite, E_X9_passes_23, E_X9_passes_24, E_X9_passes_37, E_X9_passes_78, E_X9_passes_191, E_X9_passes_38, E_X9_passes_153, E_X9_passes_102, E_X9_passes_220, E_X9_passes_211, E_X9_passes_112, E_X9_passes_121, E_X9_passes_263, E_X9_passes_238, E_X9_passes_134, E_X9_passes_254, E_X9_passes_144, hwh, S, paH_s40, paH_s42, R41, R43, e1, e2]
          · simp (disch := omega) only [y_0, y_1, y_2, y_3, y_4, y_5, y_6, y_7, y_8, y_9, y_10, y_11, y_12, y_13, y_14, y_15, y_16, y_17, y_18, y_19, y_20, y_21, y_22, y_23, y_24, y_29, y_30, y_31, y_32, y_39, y_40, y_48, y_49, y_50, y_60, y_64, y_69, y_78, y_99, y_100, y_142, y_161, y_600, y_610, y_894, y_999, y_1000, y_1216, y_1276, neg1, neg2, nI_add, nI_mul, nn_sub, nn_lt, nn_le, nn_eq, in_lt, ni_lt, in_le, ni_le, in_eq, ni_eq, iI_lt, iI_le, iI_eq, nn_clamp, inb_n, t_lt, f_lt, t_le, f_le, t_eq, f_eq, ti_lt, fi_lt, ti_le, fi_le, ti_eq, fi_eq, ↓reduceIte, ite_true, ite_false, eq_self, decide_true, decide_false, Bool.true_and, Bool.and_true, Bool.false_and, Bool.and_false, Bool.true_or, Bool.or_true, Bool.false_or, Bool.or_false, bI_t, bI_f, bI_nand, n_mod, an11, an01, negn1, negn2, false_and, and_false, true_and, and_true, not_true_eq_false, not_false_eq_true, bI_n0, bI_n1, Bool.true_eq_false, Bool.false_eq_true, cI_s, cL_s, cV_s, cR_n, pm_bR_self, bI_ite, bL_ite, bV_ite, bR_ite, E_X9_passes_23, E_X9_passes_24, E_X9_passes_37, E_X9_passes_78, E_X9_passes_191, E_X9_passes_38, E_X9_passes_153, E_X9_passes_102, E_X9_passes_220, E_X9_passes_211, E_X9_passes_112, E_X9_passes_121, E_X9_passes_263, E_X9_passes_238, E_X9_passes_134, E_X9_passes_254, E_X9_passes_144, hwh, S, paH_s40, paH_s42, R41, R43, q3, e1, e2]
        · rw [q2] at R43 hbk
          have e2 : upd (cutF (boolF bn) B k) k (nI 1) = cutF (boolF bn) B (k + 1) := eb _ (by rw [vb, hbk]; rfl)
          simp (disch := omega) only [y_0, y_1, y_2, y_3, y_4, y_5, y_6, y_7, y_8, y_9, y_10, y_11, y_12, y_13, y_14, y_15, y_16, y_17, y_18, y_19, y_20, y_21, y_22, y_23, y_24, y_29, y_30, y_31, y_32, y_39, y_40, y_48, y_49, y_50, y_60, y_64, y_69, y_78, y_99, y_100, y_142, y_161, y_600, y_610, y_894, y_999, y_1000, y_1216, y_1276, neg1, neg2, nI_add, nI_mul, nn_sub, nn_lt, nn_le, nn_eq, in_lt, ni_lt, in_le, ni_le, in_eq, ni_eq, iI_lt, iI_le, iI_eq, nn_clamp, inb_n, t_lt, f_lt, t_le, f_le, t_eq, f_eq, ti_lt, fi_lt, ti_le, fi_le, ti_eq, fi_eq, ↓reduceIte, ite_true, ite_false, eq_self, decide_true, decide_false, Bool.true_and, Bool.and_true, Bool.false_and, Bool.and_false, Bool.true_or, Bool.or_true, Bool.false_or, Bool.or_false, bI_t, bI_f, bI_nand, n_mod, an11, an01, negn1, negn2, false_and, and_false, true_and, and_true, not_true_eq_false, not_false_eq_true, bI_n0, bI_n1, Bool.true_eq_false, Bool.false_eq_true, cI_s, cL_s, cV_s, cR_n, pm_bR_self, bI_ite, bL_ite, bV_ite, bR_ite, E_X9_passes_23, E_X9_passes_24, E_X9_passes_37, E_X9_passes_78, E_X9_passes_191, E_X9_passes_38, E_X9_passes_153, E_X9_passes_102, E_X9_passes_220, E_X9_passes_211, E_X9_passes_112, E_X9_passes_121, E_X9_passes_263, E_X9_passes_238, E_X9_passes_134, E_X9_passes_254, E_X9_passes_144, hwh, S, paH_s40, paH_s42, R41, R43, e1, e2]
      · rw [q1] at R41
        rw [q1, Bool.and_true] at hbk
        rw [q1] at hnk
        have e1 : upd (cutF (boolF nw) N k) k (nI 1) = cutF (boolF nw) N (k + 1) := en _ (by rw [vn, hnk]; rfl)
        cases q2 : u k
        · rw [q2, Bool.false_or] at hbk
          rw [q2] at R43
          by_cases q3 : k = g
          · rw [decide_eq_true q3] at hbk
            have e2 : upd (cutF (boolF bn) B k) k (nI 1) = cutF (boolF bn) B (k + 1) := eb _ (by rw [vb, hbk]; rfl)
            subst q3
            simp (disch := omega) only [y_0, y_1, y_2, y_3, y_4, y_5, y_6, y_7, y_8, y_9, y_10, y_11, y_12, y_13, y_14, y_15, y_16, y_17, y_18, y_19, y_20, y_21, y_22, y_23, y_24, y_29, y_30, y_31, y_32, y_39, y_40, y_48, y_49, y_50, y_60, y_64, y_69, y_78, y_99, y_100, y_142, y_161, y_600, y_610, y_894, y_999, y_1000, y_1216, y_1276, neg1, neg2, nI_add, nI_mul, nn_sub, nn_lt, nn_le, nn_eq, in_lt, ni_lt, in_le, ni_le, in_eq, ni_eq, iI_lt, iI_le, iI_eq, nn_clamp, inb_n, t_lt, f_lt, t_le, f_le, t_eq, f_eq, ti_lt, fi_lt, ti_le, fi_le, ti_eq, fi_eq, ↓reduceIte, ite_true, ite_false, eq_self, decide_true, decide_false, Bool.true_and, Bool.and_true, Bool.false_and, Bool.and_false, Bool.true_or, Bool.or_true, Bool.false_or, Bool.or_false, bI_t, bI_f, bI_nand, n_mod, an11, an01, negn1, negn2, false_and, and_false, true_and, and_true, not_true_eq_false, not_false_eq_true, bI_n0, bI_n1, Bool.true_eq_false, Bool.false_eq_true, cI_s, cL_s, cV_s, cR_n, pm_bR_self, bI_ite, bL_ite, bV_ite, bR_ite, E_X9_passes_23, E_X9_passes_24, E_X9_passes_37, E_X9_passes_78, E_X9_passes_191, E_X9_passes_38, E_X9_passes_153, E_X9_passes_102, E_X9_passes_220, E_X9_passes_211, E_X9_passes_112, E_X9_passes_121, E_X9_passes_263, E_X9_passes_238, E_X9_passes_134, E_X9_passes_254, E_X9_passes_144, hwh, S, paH_s40, paH_s42, R41, R43, e1, e2]
          · rw [decide_eq_false q3] at hbk
            have e2 : upd (cutF (boolF bn) B k) k (nI 0) = cutF (boolF bn) B (k + 1) := eb _ (by rw [vb, hbk]; rfl)
            simp (disch := omega) only [y_0, y_1, y_2, y_3, y_4, y_5, y_6, y_7, y_8, y_9, y_10, y_11, y_12, y_13, y_14, y_15, y_16, y_17, y_18, y_19, y_20, y_21, y_22, y_23, y_24, y_29, y_30, y_31, y_32, y_39, y_40, y_48, y_49, y_50, y_60, y_64, y_69, y_78, y_99, y_100, y_142, y_161, y_600, y_610, y_894, y_999, y_1000, y_1216, y_1276, neg1, neg2, nI_add, nI_mul, nn_sub, nn_lt, nn_le, nn_eq, in_lt, ni_lt, in_le, ni_le, in_eq, ni_eq, iI_lt, iI_le, iI_eq, nn_clamp, inb_n, t_lt, f_lt, t_le, f_le, t_eq, f_eq, ti_lt, fi_lt, ti_le, fi_le, ti_eq, fi_eq, ↓reduceIte, ite_true, ite_false, eq_self, decide_true, decide_false, Bool.true_and, Bool.and_true, Bool.false_and, Bool.and_false, Bool.true_or, Bool.or_true, Bool.false_or, Bool.or_false, bI_t, bI_f, bI_nand, n_mod, an11, an01, negn1, negn2, false_and, and_false, true_and, and_true, not_true_eq_false, not_false_eq_true, bI_n0, bI_n1, Bool.true_eq_false, Bool.false_eq_true, cI_s, cL_s, cV_s, cR_n, pm_bR_self, bI_ite, bL_ite, bV_ite, bR_ite, E_X9_passes_23, E_X9_passes_24, E_X9_passes_37, E_X9_passes_78, E_X9_passes_191, E_X9_passes_38, E_X9_passes_153, E_X9_passes_102, E_X9_passes_220, E_X9_passes_211, E_X9_passes_112, E_X9_passes_121, E_X9_passes_263, E_X9_passes_238, E_X9_passes_134, E_X9_passes_254, E_X9_passes_144, hwh, S, paH_s40, paH_s42, R41, R43, q3, e1, e2]
        · rw [q2, Bool.true_or] at hbk
          rw [q2] at R43
          have e2 : upd (cutF (boolF bn) B k) k (nI 1) = cutF (boolF bn) B (k + 1) := eb _ (by rw [vb, hbk]; rfl)
          simp (disch := omega) only [y_0, y_1, y_2, y_3, y_4, y_5, y_6, y_7, y_8, y_9, y_10, y_11, y_12, y_13, y_14, y_15, y_16, y_17, y_18, y_19, y_20, y_21, y_22, y_23, y_24, y_29, y_30, y_31, y_32, y_39, y_40, y_48, y_49, y_50, y_60, y_64, y_69, y_78, y_99, y_100, y_142, y_161, y_600, y_610, y_894, y_999, y_1000, y_1216, y_1276, neg1, neg2, nI_add, nI_mul, nn_sub, nn_lt, nn_le, nn_eq, in_lt, ni_lt, in_le, ni_le, in_eq, ni_eq, iI_lt, iI_le, iI_eq, nn_clamp, inb_n, t_lt, f_lt, t_le, f_le, t_eq, f_eq, ti_lt, fi_lt, ti_le, fi_le, ti_eq, fi_eq, ↓reduceIte, ite_true, ite_false, eq_self, decide_true, decide_false, Bool.true_and, Bool.and_true, Bool.false_and, Bool.and_false, Bool.true_or, Bool.or_true, Bool.false_or, Bool.or_false, bI_t, bI_f, bI_nand, n_mod, an11, an01, negn1, negn2, false_and, and_false, true_and, and_true, not_true_eq_false, not_false_eq_true, bI_n0, bI_n1, Bool.true_eq_false, Bool.false_eq_true, cI_s, cL_s, cV_s, cR_n, pm_bR_self, bI_ite, bL_ite, bV_ite, bR_ite, E_X9_passes_23, E_X9_passes_24, E_X9_passes_37, E_X9_passes_78, E_X9_passes_191, E_X9_passes_38, E_X9_passes_153, E_X9_passes_102, E_X9_passes_220, E_X9_passes_211, E_X9_passes_112, E_X9_passes_121, E_X9_passes_263, E_X9_passes_238, E_X9_passes_134, E_X9_passes_254, E_X9_passes_144, hwh, S, paH_s40, paH_s42, R41, R43, e1, e2]
theorem passes_M {h : PH} {a : Nat} {c : AC} (hv : cV c) (hm : ModS h a c) (hA : AliveM h c) {s : Nat} (hab : h.1 8 0 19 = nI 15) (hs : s < (c (6)).val) {gx gy t : Nat} (hgx : gx < (c (0)).val) (hgy : gy < (c (1)).val) (ht : t < 100) {P Q : Nat → Nat → Bool} (hP : ∀ x y, P x y = true → x < (c (0)).val ∧ y < (c (1)).val) (hQ : ∀ x y, Q x y = true → x < (c (0)).val ∧ y < (c (1)).val) (T U : Nat → Int32) : ∃ T' U', pm_ev (251, 0, [vr 8 0, vi (nI s), vi (nI ((c (0)).val * gy + gx)), vi (nI t), none, none, none], [], paH h (boolF (cellP c P)) T (boolF (cellP c Q)) U) = some (none, paH h (boolF (cellP c (stepP c (aLit c s (t % 24)) P))) T' (boolF (cellP c (fun x y => stepP c (aLit c s (t % 24)) Q x y || (stepP c (aLit c s (t % 24)) P x y && oneP gx gy x y)))) U') := by
  have hV1 := hv.1
  obtain ⟨l1, l2⟩ := cell_lt hv hgx hgy
  have hWb := WH_le hv
  have A1 := passes_3 (h := h) (nI s) (nI ((c (0)).val * gy + gx)) (nI t) (cellP c P) (cellP c Q) T U 64 0 rfl
  rw [cutF_0, cutF_0] at A1
  have A2 := passes_47 hv hm (nI s) (nI ((c (0)).val * gy + gx)) (nI t) (cellP c P) (cellP c Q) _ 0 (Nat.zero_add _)
  have e0 : ∀ w, adjN c w 0 = w := fun w => funext fun i => by unfold adjN; rw [show anyB _ 0 = false from rfl, Bool.or_false]
  rw [e0, e0] at A2
  have A3 := passes_168 hv hm hA hab hs l2 ht (boolF (cellP c P)) (boolF (cellP c Q)) (adjN c (cellP c P) ((c (0)).val * (c (1)).val)) (adjN c (cellP c Q) ((c (0)).val * (c (1)).val)) _ 0 (Nat.zero_add _)
  rw [cutF_0, cutF_0] at A3
  have key : ∀ (R : Nat → Nat → Bool), (∀ x y, R x y = true → x < (c (0)).val ∧ y < (c (1)).val) → ∀ i, i < (c (0)).val * (c (1)).val → adjN c (cellP c R) ((c (0)).val * (c (1)).val) i = sprP R (i % (c (0)).val) (i / (c (0)).val) := fun R hR i hi => by
    obtain ⟨x1, x2, x3⟩ := cell_xy (show 0 < (c (0)).val by omega) hi
    have e := adj_spr hv hR x1 x2
    rw [x3] at e
    rw [adjN_B c _ hi, e]
  refine ⟨boolF (adjN c (cellP c P) ((c (0)).val * (c (1)).val)), boolF (adjN c (cellP c Q) ((c (0)).val * (c (1)).val)), ?_⟩
  rw [E_X9_passes, show (0 : Int32) = nI 0 from rfl, A1, A2, A3]
  refine congrArg (fun g => some (none, g)) (paH_cong h (fun i hi => ?_) (fun i hi => rfl) (fun i hi => ?_) (fun i hi => rfl))
  · by_cases q : i < (c (0)).val * (c (1)).val
    · obtain ⟨x1, x2, x3⟩ := cell_xy (show 0 < (c (0)).val by omega) q
      rw [cutF_lt q]
      unfold boolF
      dsimp only
      rw [key P hP i q]
      unfold cellP stepP safeI inB
      rw [decide_eq_true q, decide_eq_true x1, decide_eq_true x2, Bool.true_and, Bool.and_true, Bool.and_true]
    · rw [cutF_ge (by omega)]
      unfold boolF cellP
      rw [decide_eq_false q, Bool.false_and, Bool.false_and]
  · by_cases q : i < (c (0)).val * (c (1)).val
    · obtain ⟨x1, x2, x3⟩ := cell_xy (show 0 < (c (0)).val by omega) q
      rw [cutF_lt q]
      unfold boolF
      dsimp only
      rw [key P hP i q, key Q hQ i q]
      have eg : decide (i = (c (0)).val * gy + gx) = oneP gx gy (i % (c (0)).val) (i / (c (0)).val) := by
        unfold oneP
        rw [← Bool.decide_and]
        refine decide_eq_decide.mpr ⟨fun e => ?_, fun e => ?_⟩
        · have d := cell_div (y := gy) hgx
          rw [← e] at d
          exact ⟨d.2, d.1⟩
        · rw [← x3, e.1, e.2]
      rw [eg]
      unfold cellP stepP safeI inB
      dsimp only
      rw [decide_eq_true q, decide_eq_true x1, decide_eq_true x2, Bool.true_and, Bool.and_true, Bool.and_true, Bool.and_true]
      congr 1
      generalize sprP P (i % (c (0)).val) (i / (c (0)).val) = A
      generalize sprP Q (i % (c (0)).val) (i / (c (0)).val) = B
      generalize oneP gx gy (i % (c (0)).val) (i / (c (0)).val) = C
      generalize (if aLit c s (t % 24) = true then !aGuard c (i % (c (0)).val) (i / (c (0)).val) (c (5)).val else !rockP c (i % (c (0)).val) (i / (c (0)).val)) = D
      cases A <;> cases B <;> cases C <;> cases D <;> rfl
    · rw [cutF_ge (by omega)]
      unfold boolF cellP
      rw [decide_eq_false q, Bool.false_and, Bool.false_and]
theorem back_101 {h : PH} {a : Nat} {c : AC} (hv : cV c) (hm : ModS h a c) (hA : AliveM h c) {s : Nat} (hab : h.1 8 0 19 = nI 15) (hs : s < (c (6)).val) {gx gy : Nat} (hgx : gx < (c (0)).val) (hgy : gy < (c (1)).val) : ∀ r t T U, t + r = 61 → ∃ g', pm_ev (252, 101, [vr 8 0, none, vi (nI s), vi (nI ((c (0)).val * gy + gx)), vi (nI ((c (0)).val * (c (50+s)).val + (c (40+s)).val)), vi (nI t)], [], paH h (boolF (cellP c (rch c (aLit c s) 0 (c (40+s)).val (c (50+s)).val t))) T (boolF (cellP c (bkP c (aLit c s) (c (40+s)).val (c (50+s)).val gx gy t))) U) = some (some (vi (oN (fstB (fun t => bkP c (aLit c s) (c (40+s)).val (c (50+s)).val gx gy t (c (40+s)).val (c (50+s)).val) r t))), g') ∧ Fr scM h g' := by
  obtain ⟨v1, v2, _⟩ := hv.2.2.1 s hs
  obtain ⟨l1, l2⟩ := cell_lt hv v1 v2
  obtain ⟨l3, l4⟩ := cell_lt hv hgx hgy
  intro r
  induction r with
  | zero =>
    intro t T U ht
    refine ⟨_, ?_, paH_fr h (boolF (cellP c (rch c (aLit c s) 0 (c (40+s)).val (c (50+s)).val t))) T (boolF (cellP c (bkP c (aLit c s) (c (40+s)).val (c (50+s)).val gx gy t))) U⟩
    rw [E_X9_back_101]
    generalize (c (0)).val * (c (50+s)).val + (c (40+s)).val = own at *
    generalize (c (0)).val * gy + gx = gc at *
    simp (disch := omega) only [y_0, y_1, y_2, y_3, y_4, y_5, y_6, y_7, y_8, y_9, y_10, y_11, y_12, y_13, y_14, y_15, y_16, y_17, y_18, y_19, y_20, y_21, y_22, y_23, y_24, y_29, y_30, y_31, y_32, y_39, y_40, y_48, y_49, y_50, y_60, y_64, y_69, y_78, y_99, y_100, y_142, y_161, y_600, y_610, y_894, y_999, y_1000, y_1216, y_1276, neg1, neg2, nI_add, nI_mul, nn_sub, nn_lt, nn_le, nn_eq, in_lt, ni_lt, in_le, ni_le, in_eq, ni_eq, iI_lt, iI_le, iI_eq, nn_clamp, inb_n, t_lt, f_lt, t_le, f_le, t_eq, f_eq, ti_lt, fi_lt, ti_le, fi_le, ti_eq, fi_eq, ↓reduceIte, ite_true, ite_false, eq_self, decide_true, decide_false, Bool.true_and, Bool.and_true, Bool.false_and, Bool.and_false, Bool.true_or, Bool.or_true, Bool.false_or, Bool.or_false, bI_t, bI_f, bI_nand, n_mod, an11, an01, negn1, negn2, false_and, and_false, true_and, and_true, not_true_eq_false, not_false_eq_true, bI_n0, bI_n1, Bool.true_eq_false, Bool.false_eq_true, cI_s, cL_s, cV_s, cR_n, pm_bR_self, bI_ite, bL_ite, bV_ite, bR_ite, E_X9_back_13, E_X9_back_30, E_X9_back_67, E_X9_back_92, E_X9_back_115, ]
    rfl
  | succ r ih =>
    intro t T U ht
    have R : ∀ N U, (paH h N T (boolF (cellP c (bkP c (aLit c s) (c (40+s)).val (c (50+s)).val gx gy t))) U).1 42 0 ((c (0)).val * (c (50+s)).val + (c (40+s)).val) = bI (bkP c (aLit c s) (c (40+s)).val (c (50+s)).val gx gy t (c (40+s)).val (c (50+s)).val) := fun N U => by
      rw [paH_42 h N T _ U l2]
      unfold boolF
      rw [cellP_at hv _ v1 v2]
    cases q : bkP c (aLit c s) (c (40+s)).val (c (50+s)).val gx gy t (c (40+s)).val (c (50+s)).val
    · obtain ⟨T', U', P⟩ := passes_M hv hm hA hab hs hgx hgy (show t < 100 by omega) (rch_in v1 v2 t) (bk_in (L := aLit c s) (gx := gx) (gy := gy) v1 v2 t) T U
      rw [← rch_0s, ← bkP_s] at P
      obtain ⟨g', e, f⟩ := ih (t + 1) T' U' (by omega)
      refine ⟨g', ?_, f⟩
      rw [fstB_f (p := fun t => bkP c (aLit c s) (c (40+s)).val (c (50+s)).val gx gy t (c (40+s)).val (c (50+s)).val) q, ← e, E_X9_back_101]
      rw [q] at R
      generalize (c (0)).val * (c (50+s)).val + (c (40+s)).val = own at *
      generalize (c (0)).val * gy + gx = gc at *
      simp (disch := omega) only [y_0, y_1, y_2, y_3, y_4, y_5, y_6, y_7, y_8, y_9, y_10, y_11, y_12, y_13, y_14, y_15, y_16, y_17, y_18, y_19, y_20, y_21, y_22, y_23, y_24, y_29, y_30, y_31, y_32, y_39, y_40, y_48, y_49, y_50, y_60, y_64, y_69, y_78, y_99, y_100, y_142, y_161, y_600, y_610, y_894, y_999, y_1000, y_1216, y_1276, neg1, neg2, nI_add, nI_mul, nn_sub, nn_lt, nn_le, nn_eq, in_lt, ni_lt, in_le, ni_le, in_eq, ni_eq, iI_lt, iI_le, iI_eq, nn_clamp, inb_n, t_lt, f_lt, t_le, f_le, t_eq, f_eq, ti_lt, fi_lt, ti_le, fi_le, ti_eq, fi_eq, ↓reduceIte, ite_true, ite_false, eq_self, decide_true, decide_false, Bool.true_and, Bool.and_true, Bool.false_and, Bool.and_false, Bool.true_or, Bool.or_true, Bool.false_or, Bool.or_false, bI_t, bI_f, bI_nand, n_mod, an11, an01, negn1, negn2, false_and, and_false, true_and, and_true, not_true_eq_false, not_false_eq_true, bI_n0, bI_n1, Bool.true_eq_false, Bool.false_eq_true, cI_s, cL_s, cV_s, cR_n, pm_bR_self, bI_ite, bL_ite, bV_ite, bR_ite, E_X9_back_13, E_X9_back_30, E_X9_back_67, E_X9_back_92, E_X9_back_115, R, P]
    · refine ⟨_, ?_, paH_fr h (boolF (cellP c (rch c (aLit c s) 0 (c (40+s)).val (c (50+s)).val t))) T (boolF (cellP c (bkP c (aLit c s) (c (40+s)).val (c (50+s)).val gx gy t))) U⟩
      rw [fstB_t (p := fun t => bkP c (aLit c s) (c (40+s)).val (c (50+s)).val gx gy t (c (40+s)).val (c (50+s)).val) q, E_X9_back_101]
      rw [q] at R
      generalize (c (0)).val * (c (50+s)).val + (c (40+s)).val = own at *
      generalize (c (0)).val * gy + gx = gc at *
      simp (disch := omega) only [y_0, y_1, y_2, y_3, y_4, y_5, y_6, y_7, y_8, y_9, y_10, y_11, y_12, y_13, y_14, y_15, y_16, y_17, y_18, y_19, y_20, y_21, y_22, y_23, y_24, y_29, y_30, y_31, y_32, y_39, y_40, y_48, y_49, y_50, y_60, y_64, y_69, y_78, y_99, y_100, y_142, y_161, y_600, y_610, y_894, y_999, y_1000, y_1216, y_1276, neg1, neg2, nI_add, nI_mul, nn_sub, nn_lt, nn_le, nn_eq, in_lt, ni_lt, in_le, ni_le, in_eq, ni_eq, iI_lt, iI_le, iI_eq, nn_clamp, inb_n, t_lt, f_lt, t_le, f_le, t_eq, f_eq, ti_lt, fi_lt, ti_le, fi_le, ti_eq, fi_eq, ↓reduceIte, ite_true, ite_false, eq_self, decide_true, decide_false, Bool.true_and, Bool.and_true, Bool.false_and, Bool.and_false, Bool.true_or, Bool.or_true, Bool.false_or, Bool.or_false, bI_t, bI_f, bI_nand, n_mod, an11, an01, negn1, negn2, false_and, and_false, true_and, and_true, not_true_eq_false, not_false_eq_true, bI_n0, bI_n1, Bool.true_eq_false, Bool.false_eq_true, cI_s, cL_s, cV_s, cR_n, pm_bR_self, bI_ite, bL_ite, bV_ite, bR_ite, E_X9_back_13, E_X9_back_30, E_X9_back_67, E_X9_back_92, E_X9_back_115, R]
      rfl
theorem back_41 {h : PH} {own gc : Nat} (ho : own < 64) (hg : gc < 64) (s : Int32) (N T B U : Nat → Int32) : ∀ r k, k + r = 64 → pm_ev (252, 41, [vr 8 0, none, vi s, vi (nI gc), vi (nI own), vi (nI k)], [], paH h (cutF (ownF own) N k) T (cutF (boolF (fun i => decide (i = own) && decide (i = gc))) B k) U) = pm_ev (252, 101, [vr 8 0, none, vi s, vi (nI gc), vi (nI own), vi (nI 0)], [], paH h (ownF own) T (boolF (fun i => decide (i = own) && decide (i = gc))) U) := by
  intro r
  induction r with
  | zero =>
    intro k hk
    have hk : k = 64 := by omega
    subst hk
    rw [E_X9_back_41]
    simp (disch := omega) only [y_0, y_1, y_2, y_3, y_4, y_5, y_6, y_7, y_8, y_9, y_10, y_11, y_12, y_13, y_14, y_15, y_16, y_17, y_18, y_19, y_20, y_21, y_22, y_23, y_24, y_29, y_30, y_31, y_32, y_39, y_40, y_48, y_49, y_50, y_60, y_64, y_69, y_78, y_99, y_100, y_142, y_161, y_600, y_610, y_894, y_999, y_1000, y_1216, y_1276, neg1, neg2, nI_add, nI_mul, nn_sub, nn_lt, nn_le, nn_eq, in_lt, ni_lt, in_le, ni_le, in_eq, ni_eq, iI_lt, iI_le, iI_eq, nn_clamp, inb_n, t_lt, f_lt, t_le, f_le, t_eq, f_eq, ti_lt, fi_lt, ti_le, fi_le, ti_eq, fi_eq, ↓reduceIte, ite_true, ite_false, eq_self, decide_true, decide_false, Bool.true_and, Bool.and_true, Bool.false_and, Bool.and_false, Bool.true_or, Bool.or_true, Bool.false_or, Bool.or_false, bI_t, bI_f, bI_nand, n_mod, an11, an01, negn1, negn2, false_and, and_false, true_and, and_true, not_true_eq_false, not_false_eq_true, bI_n0, bI_n1, Bool.true_eq_false, Bool.false_eq_true, cI_s, cL_s, cV_s, cR_n, pm_bR_self, bI_ite, bL_ite, bV_ite, bR_ite, E_X9_back_13, E_X9_back_30, E_X9_back_67, E_X9_back_92, E_X9_back_115, ]
    exact congrArg (fun g' => pm_ev (252, 101, [vr 8 0, none, vi s, vi (nI gc), vi (nI own), vi (nI 0)], [], g')) (paH_cong h (fun k hk => cutF_lt hk) (fun k hk => rfl) (fun k hk => cutF_lt hk) (fun k hk => rfl))
  | succ r ih =>
    intro k hk
    rw [← ih (k + 1) (by omega), E_X9_back_41]
    have en := fun v => cutF_s (ownF own) N k (v := v)
    have eb := fun v => cutF_s (boolF (fun i => decide (i = own) && decide (i = gc))) B k (v := v)
    by_cases q : k = own
    · have e1 := en (nI 1) (by unfold ownF; rw [decide_eq_true q]; rfl)
      by_cases q2 : k = gc
      · have e2 := eb (nI 1) (by unfold boolF; dsimp only; rw [decide_eq_true q, decide_eq_true q2]; rfl)
        simp (disch := omega) only [y_0, y_1, y_2, y_3, y_4, y_5, y_6, y_7, y_8, y_9, y_10, y_11, y_12, y_13, y_14, y_15, y_16, y_17, y_18, y_19, y_20, y_21, y_22, y_23, y_24, y_29, y_30, y_31, y_32, y_39, y_40, y_48, y_49, y_50, y_60, y_64, y_69, y_78, y_99, y_100, y_142, y_161, y_600, y_610, y_894, y_999, y_1000, y_1216, y_1276, neg1, neg2, nI_add, nI_mul, nn_sub, nn_lt, nn_le, nn_eq, in_lt, ni_lt, in_le, ni_le, in_eq, ni_eq, iI_lt, iI_le, iI_eq, nn_clamp, inb_n, t_lt, f_lt, t_le, f_le, t_eq, f_eq, ti_lt, fi_lt, ti_le, fi_le, ti_eq, fi_eq, ↓reduceIte, ite_true, ite_false, eq_self, decide_true, decide_false, Bool.true_and, Bool.and_true, Bool.false_and, Bool.and_false, Bool.true_or, Bool.or_true, Bool.false_or, Bool.or_false, bI_t, bI_f, bI_nand, n_mod, an11, an01, negn1, negn2, false_and, and_false, true_and, and_true, not_true_eq_false, not_false_eq_true, bI_n0, bI_n1, Bool.true_eq_false, Bool.false_eq_true, cI_s, cL_s, cV_s, cR_n, pm_bR_self, bI_ite, bL_ite, bV_ite, bR_ite, E_X9_back_13, E_X9_back_30, E_X9_back_67, E_X9_back_92, E_X9_back_115, paH_s40, paH_s42, e1, e2]
      · have e2 := eb (nI 0) (by unfold boolF; dsimp only; rw [decide_eq_true q, decide_eq_false q2]; rfl)
        simp (disch := omega) only [y_0, y_1, y_2, y_3, y_4, y_5, y_6, y_7, y_8, y_9, y_10, y_11, y_12, y_13, y_14, y_15, y_16, y_17, y_18, y_19, y_20, y_21, y_22, y_23, y_24, y_29, y_30, y_31, y_32, y_39, y_40, y_48, y_49, y_50, y_60, y_64, y_69, y_78, y_99, y_100, y_142, y_161, y_600, y_610, y_894, y_999, y_1000, y_1216, y_1276, neg1, neg2, nI_add, nI_mul, nn_sub, nn_lt, nn_le, nn_eq, in_lt, ni_lt, in_le, ni_le, in_eq, ni_eq, iI_lt, iI_le, iI_eq, nn_clamp, inb_n, t_lt, f_lt, t_le, f_le, t_eq, f_eq, ti_lt, fi_lt, ti_le, fi_le, ti_eq, fi_eq, ↓reduceIte, ite_true, ite_false, eq_self, decide_true, decide_false, Bool.true_and, Bool.and_true, Bool.false_and, Bool.and_false, Bool.true_or, Bool.or_true, Bool.false_or, Bool.or_false, bI_t, bI_f, bI_nand, n_mod, an11, an01, negn1, negn2, false_and, and_false, true_and, and_true, not_true_eq_false, not_false_eq_true, bI_n0, bI_n1, Bool.true_eq_false, Bool.false_eq_true, cI_s, cL_s, cV_s, cR_n, pm_bR_self, bI_ite, bL_ite, bV_ite, bR_ite, E_X9_back_13, E_X9_back_30, E_X9_back_67, E_X9_back_92, E_X9_back_115, paH_s40, paH_s42, e1, e2]
    · have e1 := en (nI 0) (by unfold ownF; rw [decide_eq_false q]; rfl)
      have e2 := eb (nI 0) (by unfold boolF; dsimp only; rw [decide_eq_false q]; rfl)
      simp (disch := omega) only [y_0, y_1, y_2, y_3, y_4, y_5, y_6, y_7, y_8, y_9, y_10, y_11, y_12, y_13, y_14, y_15, y_16, y_17, y_18, y_19, y_20, y_21, y_22, y_23, y_24, y_29, y_30, y_31, y_32, y_39, y_40, y_48, y_49, y_50, y_60, y_64, y_69, y_78, y_99, y_100, y_142, y_161, y_600, y_610, y_894, y_999, y_1000, y_1216, y_1276, neg1, neg2, nI_add, nI_mul, nn_sub, nn_lt, nn_le, nn_eq, in_lt, ni_lt, in_le, ni_le, in_eq, ni_eq, iI_lt, iI_le, iI_eq, nn_clamp, inb_n, t_lt, f_lt, t_le, f_le, t_eq, f_eq, ti_lt, fi_lt, ti_le, fi_le, ti_eq, fi_eq, ↓reduceIte, ite_true, ite_false, eq_self, decide_true, decide_false, Bool.true_and, Bool.and_true, Bool.false_and, Bool.and_false, Bool.true_or, Bool.or_true, Bool.false_or, Bool.or_false, bI_t, bI_f, bI_nand, n_mod, an11, an01, negn1, negn2, false_and, and_false, true_and, and_true, not_true_eq_false, not_false_eq_true, bI_n0, bI_n1, Bool.true_eq_false, Bool.false_eq_true, cI_s, cL_s, cV_s, cR_n, pm_bR_self, bI_ite, bL_ite, bV_ite, bR_ite, E_X9_back_13, E_X9_back_30, E_X9_back_67, E_X9_back_92, E_X9_back_115, paH_s40, paH_s42, e1, e2]
theorem own_cell {c : AC} (hv : cV c) {fx fy i : Nat} (hx : fx < (c (0)).val) (hy : fy < (c (1)).val) : decide (i = (c (0)).val * fy + fx) = (decide (i < (c (0)).val * (c (1)).val) && oneP fx fy (i % (c (0)).val) (i / (c (0)).val)) := by
  have hV1 := hv.1
  obtain ⟨d1, d2⟩ := cell_div (y := fy) hx
  unfold oneP
  by_cases e : i = (c (0)).val * fy + fx
  · have := (cell_lt hv hx hy).1
    rw [decide_eq_true e, decide_eq_true (by omega : i < (c (0)).val * (c (1)).val), e, d1, d2]
    simp
  · rw [decide_eq_false e]
    by_cases q : i < (c (0)).val * (c (1)).val
    · obtain ⟨x1, x2, x3⟩ := cell_xy (show 0 < (c (0)).val by omega) q
      by_cases e1 : i % (c (0)).val = fx
      · rw [decide_eq_false (fun e2 : i / (c (0)).val = fy => e (by rw [← x3, e1, e2]))]; simp
      · rw [decide_eq_false e1]; simp
    · rw [decide_eq_false q, Bool.false_and]
theorem back_30 {h : PH} {a : Nat} {c : AC} (hv : cV c) (hm : ModS h a c) (hd : CoastMd h a c) (hA : AliveM h c) {s : Nat} (hab : h.1 8 0 19 = nI 15) (hs : s < (c (6)).val) {gx gy : Nat} (hgx : gx < (c (0)).val) (hgy : gy < (c (1)).val) : ∃ g', pm_ev (252, 30, [vr 8 0, none, vi (nI s), vi (nI ((c (0)).val * gy + gx)), none, none], [], h) = some (some (vi (oN (fstB (fun t => bkP c (aLit c s) (c (40+s)).val (c (50+s)).val gx gy t (c (40+s)).val (c (50+s)).val) 61 0))), g') ∧ Fr scM h g' := by
  obtain ⟨v1, v2, _⟩ := hv.2.2.1 s hs
  obtain ⟨l1, l2⟩ := cell_lt hv v1 v2
  obtain ⟨l3, l4⟩ := cell_lt hv hgx hgy
  obtain ⟨g', e, f⟩ := back_101 hv hm hA hab hs hgx hgy 61 0 (h.1 41 0) (h.1 43 0) rfl
  refine ⟨g', ?_, f⟩
  have A := back_41 (h := h) l2 l4 (nI s) (h.1 40 0) (h.1 41 0) (h.1 42 0) (h.1 43 0) 64 0 rfl
  rw [cutF_0, cutF_0, paH_self] at A
  have O := of_M0 hv hm hd hs
  have e1 : ownF ((c (0)).val * (c (50+s)).val + (c (40+s)).val) = boolF (cellP c (rch c (aLit c s) 0 (c (40+s)).val (c (50+s)).val 0)) := funext fun i => by
    unfold ownF boolF cellP
    rw [own_cell hv v1 v2]
    rfl
  have e2 : boolF (fun i => decide (i = (c (0)).val * (c (50+s)).val + (c (40+s)).val) && decide (i = (c (0)).val * gy + gx)) = boolF (cellP c (bkP c (aLit c s) (c (40+s)).val (c (50+s)).val gx gy 0)) := funext fun i => by
    unfold boolF cellP
    dsimp only
    rw [own_cell hv v1 v2, own_cell hv hgx hgy]
    show bI _ = bI (decide (i < (c (0)).val * (c (1)).val) && (oneP (c (40+s)).val (c (50+s)).val (i % (c (0)).val) (i / (c (0)).val) && oneP gx gy (i % (c (0)).val) (i / (c (0)).val)))
    cases decide (i < (c (0)).val * (c (1)).val) <;> rfl
  rw [e1, e2] at A
  rw [← e, ← A, E_X9_back_30]
  generalize (c (0)).val * (c (50+s)).val + (c (40+s)).val = own at *
  generalize (c (0)).val * gy + gx = gc at *
  simp (disch := omega) only [y_0, y_1, y_2, y_3, y_4, y_5, y_6, y_7, y_8, y_9, y_10, y_11, y_12, y_13, y_14, y_15, y_16, y_17, y_18, y_19, y_20, y_21, y_22, y_23, y_24, y_29, y_30, y_31, y_32, y_39, y_40, y_48, y_49, y_50, y_60, y_64, y_69, y_78, y_99, y_100, y_142, y_161, y_600, y_610, y_894, y_999, y_1000, y_1216, y_1276, neg1, neg2, nI_add, nI_mul, nn_sub, nn_lt, nn_le, nn_eq, in_lt, ni_lt, in_le, ni_le, in_eq, ni_eq, iI_lt, iI_le, iI_eq, nn_clamp, inb_n, t_lt, f_lt, t_le, f_le, t_eq, f_eq, ti_lt, fi_lt, ti_le, fi_le, ti_eq, fi_eq, ↓reduceIte, ite_true, ite_false, eq_self, decide_true, decide_false, Bool.true_and, Bool.and_true, Bool.false_and, Bool.and_false, Bool.true_or, Bool.or_true, Bool.false_or, Bool.or_false, bI_t, bI_f, bI_nand, n_mod, an11, an01, negn1, negn2, false_and, and_false, true_and, and_true, not_true_eq_false, not_false_eq_true, bI_n0, bI_n1, Bool.true_eq_false, Bool.false_eq_true, cI_s, cL_s, cV_s, cR_n, pm_bR_self, bI_ite, bL_ite, bV_ite, bR_ite, E_X9_back_13, E_X9_back_30, E_X9_back_67, E_X9_back_92, E_X9_back_115, O]
theorem q_back {h : PH} (hI : NowC h) (a b d : Int32) : Same2 (fun h => (130, 0, [vr 7 0, vi a, vi b, vi d, none], [], h)) (fun h => (252, 0, [vr 8 0, vi a, vi b, vi d, none, none], [], h)) h := by
  refine ask1 hI (E_X8_back h a b d) (fun h => E_X9_back h a b d) (fun h => by rw [E_X8_isVoyage_n, bI_s, if_pos rfl]) (fun _ => rfl) (fun k co ek hk hv hC => ?_)
  have hV1 := hv.1
  have hWb := WH_le hv
  rcases ix b (show (co (6)).val < 2147483648 by omega) with ⟨z, rfl, z1, z2⟩ | ⟨s, rfl, k1, k2⟩ | ⟨s, rfl, hs⟩
  · refine ⟨vi (iI (-1)), h, ?_, Fr.rfl', fun g hm hd => ⟨g, ?_, Fr.rfl'⟩⟩
    · simp (disch := omega) only [y_0, y_1, y_2, y_3, y_4, y_5, y_6, y_7, y_8, y_9, y_10, y_11, y_12, y_13, y_14, y_15, y_16, y_17, y_18, y_19, y_20, y_21, y_22, y_23, y_24, y_29, y_30, y_31, y_32, y_39, y_40, y_48, y_49, y_50, y_60, y_64, y_69, y_78, y_99, y_100, y_142, y_161, y_600, y_610, y_894, y_999, y_1000, y_1216, y_1276, neg1, neg2, nI_add, nI_mul, nn_sub, nn_lt, nn_le, nn_eq, in_lt, ni_lt, in_le, ni_le, in_eq, ni_eq, iI_lt, iI_le, iI_eq, nn_clamp, inb_n, t_lt, f_lt, t_le, f_le, t_eq, f_eq, ti_lt, fi_lt, ti_le, fi_le, ti_eq, fi_eq, ↓reduceIte, ite_true, ite_false, eq_self, decide_true, decide_false, Bool.true_and, Bool.and_true, Bool.false_and, Bool.and_false, Bool.true_or, Bool.or_true, Bool.false_or, Bool.or_false, bI_t, bI_f, bI_nand, n_mod, an11, an01, negn1, negn2, false_and, and_false, true_and, and_true, not_true_eq_false, not_false_eq_true, bI_n0, bI_n1, Bool.true_eq_false, Bool.false_eq_true, cI_s, cL_s, cV_s, cR_n, pm_bR_self, bI_ite, bL_ite, bV_ite, bR_ite, E_X8_back_35, E_X8_isVoyage_n, E_X9_back_13, E_X9_back_30, E_X9_back_67, E_X9_back_92, E_X9_back_115, E_X8_isVoyage, hasShip_C hC]
    · simp (disch := omega) only [y_0, y_1, y_2, y_3, y_4, y_5, y_6, y_7, y_8, y_9, y_10, y_11, y_12, y_13, y_14, y_15, y_16, y_17, y_18, y_19, y_20, y_21, y_22, y_23, y_24, y_29, y_30, y_31, y_32, y_39, y_40, y_48, y_49, y_50, y_60, y_64, y_69, y_78, y_99, y_100, y_142, y_161, y_600, y_610, y_894, y_999, y_1000, y_1216, y_1276, neg1, neg2, nI_add, nI_mul, nn_sub, nn_lt, nn_le, nn_eq, in_lt, ni_lt, in_le, ni_le, in_eq, ni_eq, iI_lt, iI_le, iI_eq, nn_clamp, inb_n, t_lt, f_lt, t_le, f_le, t_eq, f_eq, ti_lt, fi_lt, ti_le, fi_le, ti_eq, fi_eq, ↓reduceIte, ite_true, ite_false, eq_self, decide_true, decide_false, Bool.true_and, Bool.and_true, Bool.false_and, Bool.and_false, Bool.true_or, Bool.or_true, Bool.false_or, Bool.or_false, bI_t, bI_f, bI_nand, n_mod, an11, an01, negn1, negn2, false_and, and_false, true_and, and_true, not_true_eq_false, not_false_eq_true, bI_n0, bI_n1, Bool.true_eq_false, Bool.false_eq_true, cI_s, cL_s, cV_s, cR_n, pm_bR_self, bI_ite, bL_ite, bV_ite, bR_ite, E_X8_back_35, E_X8_isVoyage_n, E_X9_back_13, E_X9_back_30, E_X9_back_67, E_X9_back_92, E_X9_back_115, isShip_M hm, E_X9_back, E_X9_back_13, E_X9_back_30, E_X9_back_67, E_X9_back_92, E_X9_back_115]
  · refine ⟨vi (iI (-1)), h, ?_, Fr.rfl', fun g hm hd => ⟨g, ?_, Fr.rfl'⟩⟩
    · simp (disch := omega) only [y_0, y_1, y_2, y_3, y_4, y_5, y_6, y_7, y_8, y_9, y_10, y_11, y_12, y_13, y_14, y_15, y_16, y_17, y_18, y_19, y_20, y_21, y_22, y_23, y_24, y_29, y_30, y_31, y_32, y_39, y_40, y_48, y_49, y_50, y_60, y_64, y_69, y_78, y_99, y_100, y_142, y_161, y_600, y_610, y_894, y_999, y_1000, y_1216, y_1276, neg1, neg2, nI_add, nI_mul, nn_sub, nn_lt, nn_le, nn_eq, in_lt, ni_lt, in_le, ni_le, in_eq, ni_eq, iI_lt, iI_le, iI_eq, nn_clamp, inb_n, t_lt, f_lt, t_le, f_le, t_eq, f_eq, ti_lt, fi_lt, ti_le, fi_le, ti_eq, fi_eq, ↓reduceIte, ite_true, ite_false, eq_self, decide_true, decide_false, Bool.true_and, Bool.and_true, Bool.false_and, Bool.and_false, Bool.true_or, Bool.or_true, Bool.false_or, Bool.or_false, bI_t, bI_f, bI_nand, n_mod, an11, an01, negn1, negn2, false_and, and_false, true_and, and_true, not_true_eq_false, not_false_eq_true, bI_n0, bI_n1, Bool.true_eq_false, Bool.false_eq_true, cI_s, cL_s, cV_s, cR_n, pm_bR_self, bI_ite, bL_ite, bV_ite, bR_ite, E_X8_back_35, E_X8_isVoyage_n, E_X9_back_13, E_X9_back_30, E_X9_back_67, E_X9_back_92, E_X9_back_115, E_X8_isVoyage, hasShip_Cn hC]
    · simp (disch := omega) only [y_0, y_1, y_2, y_3, y_4, y_5, y_6, y_7, y_8, y_9, y_10, y_11, y_12, y_13, y_14, y_15, y_16, y_17, y_18, y_19, y_20, y_21, y_22, y_23, y_24, y_29, y_30, y_31, y_32, y_39, y_40, y_48, y_49, y_50, y_60, y_64, y_69, y_78, y_99, y_100, y_142, y_161, y_600, y_610, y_894, y_999, y_1000, y_1216, y_1276, neg1, neg2, nI_add, nI_mul, nn_sub, nn_lt, nn_le, nn_eq, in_lt, ni_lt, in_le, ni_le, in_eq, ni_eq, iI_lt, iI_le, iI_eq, nn_clamp, inb_n, t_lt, f_lt, t_le, f_le, t_eq, f_eq, ti_lt, fi_lt, ti_le, fi_le, ti_eq, fi_eq, ↓reduceIte, ite_true, ite_false, eq_self, decide_true, decide_false, Bool.true_and, Bool.and_true, Bool.false_and, Bool.and_false, Bool.true_or, Bool.or_true, Bool.false_or, Bool.or_false, bI_t, bI_f, bI_nand, n_mod, an11, an01, negn1, negn2, false_and, and_false, true_and, and_true, not_true_eq_false, not_false_eq_true, bI_n0, bI_n1, Bool.true_eq_false, Bool.false_eq_true, cI_s, cL_s, cV_s, cR_n, pm_bR_self, bI_ite, bL_ite, bV_ite, bR_ite, E_X8_back_35, E_X8_isVoyage_n, E_X9_back_13, E_X9_back_30, E_X9_back_67, E_X9_back_92, E_X9_back_115, isShip_Mn hm, E_X9_back, E_X9_back_13, E_X9_back_30, E_X9_back_67, E_X9_back_92, E_X9_back_115]
  rcases ix d (show (co (0)).val * (co (1)).val < 2147483648 by omega) with ⟨z, rfl, z1, z2⟩ | ⟨n, rfl, k1, k2⟩ | ⟨n, rfl, hn⟩
  · refine ⟨vi (iI (-1)), h, ?_, Fr.rfl', fun g hm hd => ⟨g, ?_, Fr.rfl'⟩⟩
    · simp (disch := omega) only [y_0, y_1, y_2, y_3, y_4, y_5, y_6, y_7, y_8, y_9, y_10, y_11, y_12, y_13, y_14, y_15, y_16, y_17, y_18, y_19, y_20, y_21, y_22, y_23, y_24, y_29, y_30, y_31, y_32, y_39, y_40, y_48, y_49, y_50, y_60, y_64, y_69, y_78, y_99, y_100, y_142, y_161, y_600, y_610, y_894, y_999, y_1000, y_1216, y_1276, neg1, neg2, nI_add, nI_mul, nn_sub, nn_lt, nn_le, nn_eq, in_lt, ni_lt, in_le, ni_le, in_eq, ni_eq, iI_lt, iI_le, iI_eq, nn_clamp, inb_n, t_lt, f_lt, t_le, f_le, t_eq, f_eq, ti_lt, fi_lt, ti_le, fi_le, ti_eq, fi_eq, ↓reduceIte, ite_true, ite_false, eq_self, decide_true, decide_false, Bool.true_and, Bool.and_true, Bool.false_and, Bool.and_false, Bool.true_or, Bool.or_true, Bool.false_or, Bool.or_false, bI_t, bI_f, bI_nand, n_mod, an11, an01, negn1, negn2, false_and, and_false, true_and, and_true, not_true_eq_false, not_false_eq_true, bI_n0, bI_n1, Bool.true_eq_false, Bool.false_eq_true, cI_s, cL_s, cV_s, cR_n, pm_bR_self, bI_ite, bL_ite, bV_ite, bR_ite, E_X8_back_35, E_X8_isVoyage_n, E_X9_back_13, E_X9_back_30, E_X9_back_67, E_X9_back_92, E_X9_back_115, E_X8_isVoyage, hasShip_Cn hC, spotOf_neg hv hC z1 z2]
    · simp (disch := omega) only [y_0, y_1, y_2, y_3, y_4, y_5, y_6, y_7, y_8, y_9, y_10, y_11, y_12, y_13, y_14, y_15, y_16, y_17, y_18, y_19, y_20, y_21, y_22, y_23, y_24, y_29, y_30, y_31, y_32, y_39, y_40, y_48, y_49, y_50, y_60, y_64, y_69, y_78, y_99, y_100, y_142, y_161, y_600, y_610, y_894, y_999, y_1000, y_1216, y_1276, neg1, neg2, nI_add, nI_mul, nn_sub, nn_lt, nn_le, nn_eq, in_lt, ni_lt, in_le, ni_le, in_eq, ni_eq, iI_lt, iI_le, iI_eq, nn_clamp, inb_n, t_lt, f_lt, t_le, f_le, t_eq, f_eq, ti_lt, fi_lt, ti_le, fi_le, ti_eq, fi_eq, ↓reduceIte, ite_true, ite_false, eq_self, decide_true, decide_false, Bool.true_and, Bool.and_true, Bool.false_and, Bool.and_false, Bool.true_or, Bool.or_true, Bool.false_or, Bool.or_false, bI_t, bI_f, bI_nand, n_mod, an11, an01, negn1, negn2, false_and, and_false, true_and, and_true, not_true_eq_false, not_false_eq_true, bI_n0, bI_n1, Bool.true_eq_false, Bool.false_eq_true, cI_s, cL_s, cV_s, cR_n, pm_bR_self, bI_ite, bL_ite, bV_ite, bR_ite, E_X8_back_35, E_X8_isVoyage_n, E_X9_back_13, E_X9_back_30, E_X9_back_67, E_X9_back_92, E_X9_back_115, isShip_Mn hm, isCell_M hv hm z1 z2, E_X9_back, E_X9_back_13, E_X9_back_30, E_X9_back_67, E_X9_back_92, E_X9_back_115]
  · refine ⟨vi (iI (-1)), h, ?_, Fr.rfl', fun g hm hd => ⟨g, ?_, Fr.rfl'⟩⟩
    · simp (disch := omega) only [y_0, y_1, y_2, y_3, y_4, y_5, y_6, y_7, y_8, y_9, y_10, y_11, y_12, y_13, y_14, y_15, y_16, y_17, y_18, y_19, y_20, y_21, y_22, y_23, y_24, y_29, y_30, y_31, y_32, y_39, y_40, y_48, y_49, y_50, y_60, y_64, y_69, y_78, y_99, y_100, y_142, y_161, y_600, y_610, y_894, y_999, y_1000, y_1216, y_1276, neg1, neg2, nI_add, nI_mul, nn_sub, nn_lt, nn_le, nn_eq, in_lt, ni_lt, in_le, ni_le, in_eq, ni_eq, iI_lt, iI_le, iI_eq, nn_clamp, inb_n, t_lt, f_lt, t_le, f_le, t_eq, f_eq, ti_lt, fi_lt, ti_le, fi_le, ti_eq, fi_eq, ↓reduceIte, ite_true, ite_false, eq_self, decide_true, decide_false, Bool.true_and, Bool.and_true, Bool.false_and, Bool.and_false, Bool.true_or, Bool.or_true, Bool.false_or, Bool.or_false, bI_t, bI_f, bI_nand, n_mod, an11, an01, negn1, negn2, false_and, and_false, true_and, and_true, not_true_eq_false, not_false_eq_true, bI_n0, bI_n1, Bool.true_eq_false, Bool.false_eq_true, cI_s, cL_s, cV_s, cR_n, pm_bR_self, bI_ite, bL_ite, bV_ite, bR_ite, E_X8_back_35, E_X8_isVoyage_n, E_X9_back_13, E_X9_back_30, E_X9_back_67, E_X9_back_92, E_X9_back_115, E_X8_isVoyage, hasShip_Cn hC, spotOf_big hv hC k1 k2]
    · have ic := isCell_Mn hv hm k2
      rw [decide_eq_false (by omega)] at ic
      simp (disch := omega) only [y_0, y_1, y_2, y_3, y_4, y_5, y_6, y_7, y_8, y_9, y_10, y_11, y_12, y_13, y_14, y_15, y_16, y_17, y_18, y_19, y_20, y_21, y_22, y_23, y_24, y_29, y_30, y_31, y_32, y_39, y_40, y_48, y_49, y_50, y_60, y_64, y_69, y_78, y_99, y_100, y_142, y_161, y_600, y_610, y_894, y_999, y_1000, y_1216, y_1276, neg1, neg2, nI_add, nI_mul, nn_sub, nn_lt, nn_le, nn_eq, in_lt, ni_lt, in_le, ni_le, in_eq, ni_eq, iI_lt, iI_le, iI_eq, nn_clamp, inb_n, t_lt, f_lt, t_le, f_le, t_eq, f_eq, ti_lt, fi_lt, ti_le, fi_le, ti_eq, fi_eq, ↓reduceIte, ite_true, ite_false, eq_self, decide_true, decide_false, Bool.true_and, Bool.and_true, Bool.false_and, Bool.and_false, Bool.true_or, Bool.or_true, Bool.false_or, Bool.or_false, bI_t, bI_f, bI_nand, n_mod, an11, an01, negn1, negn2, false_and, and_false, true_and, and_true, not_true_eq_false, not_false_eq_true, bI_n0, bI_n1, Bool.true_eq_false, Bool.false_eq_true, cI_s, cL_s, cV_s, cR_n, pm_bR_self, bI_ite, bL_ite, bV_ite, bR_ite, E_X8_back_35, E_X8_isVoyage_n, E_X9_back_13, E_X9_back_30, E_X9_back_67, E_X9_back_92, E_X9_back_115, isShip_Mn hm, ic, E_X9_back, E_X9_back_13, E_X9_back_30, E_X9_back_67, E_X9_back_92, E_X9_back_115]
  obtain ⟨x1, x2, x3⟩ := cell_xy (show 0 < (co (0)).val by omega) hn
  obtain ⟨v1, v2, _⟩ := hv.2.2.1 s hs
  have sp := spotOf_C hv hC hn
  obtain ⟨h', e1, hS, f1, f2⟩ := chart_C hv hC (gx := n % (co (0)).val) (gy := n / (co (0)).val) hs (by omega) (by omega)
  have hC' := hC.ch f1 f2
  have hbl := bitsB_lt (aLit co s) 24
  have fw := there_C hS (by omega) (by omega) (show bitsB (aLit co s) 24 < 2147483648 by omega)
  simp only [bkP_bits] at fw
  have hsp : 8 * (n / (co (0)).val) + n % (co (0)).val < 64 := by omega
  refine ⟨vi (oN (fstB (fun t => bkP co (aLit co s) (co (40+s)).val (co (50+s)).val (n % (co (0)).val) (n / (co (0)).val) t (co (40+s)).val (co (50+s)).val) 61 0)), h', ?_, chart_fr f1 f2, fun g hm hd => ?_⟩
  · clear x3
    generalize n % (co (0)).val = gx at *
    generalize n / (co (0)).val = gy at *
    simp (disch := omega) only [y_0, y_1, y_2, y_3, y_4, y_5, y_6, y_7, y_8, y_9, y_10, y_11, y_12, y_13, y_14, y_15, y_16, y_17, y_18, y_19, y_20, y_21, y_22, y_23, y_24, y_29, y_30, y_31, y_32, y_39, y_40, y_48, y_49, y_50, y_60, y_64, y_69, y_78, y_99, y_100, y_142, y_161, y_600, y_610, y_894, y_999, y_1000, y_1216, y_1276, neg1, neg2, nI_add, nI_mul, nn_sub, nn_lt, nn_le, nn_eq, in_lt, ni_lt, in_le, ni_le, in_eq, ni_eq, iI_lt, iI_le, iI_eq, nn_clamp, inb_n, t_lt, f_lt, t_le, f_le, t_eq, f_eq, ti_lt, fi_lt, ti_le, fi_le, ti_eq, fi_eq, ↓reduceIte, ite_true, ite_false, eq_self, decide_true, decide_false, Bool.true_and, Bool.and_true, Bool.false_and, Bool.and_false, Bool.true_or, Bool.or_true, Bool.false_or, Bool.or_false, bI_t, bI_f, bI_nand, n_mod, an11, an01, negn1, negn2, false_and, and_false, true_and, and_true, not_true_eq_false, not_false_eq_true, bI_n0, bI_n1, Bool.true_eq_false, Bool.false_eq_true, cI_s, cL_s, cV_s, cR_n, pm_bR_self, bI_ite, bL_ite, bV_ite, bR_ite, E_X8_back_35, E_X8_isVoyage_n, E_X9_back_13, E_X9_back_30, E_X9_back_67, E_X9_back_92, E_X9_back_115, E_X8_isVoyage, hasShip_Cn hC, sp, e1, E_X8_back_35, litHours_C hv hC' hs, fw]
  · obtain ⟨g1, T, hm2, hd2, hA, h19, fr2, _⟩ := asTold_pack hv hm hd
    obtain ⟨g', G, f3⟩ := back_30 hv hm2 hd2 hA h19 hs x1 x2
    rw [x3] at G
    refine ⟨g', ?_, fr2.tr f3⟩
    have ic := isCell_Mn hv hm (show n < 2147483648 by omega)
    rw [decide_eq_true hn] at ic
    rw [← G]
    simp (disch := omega) only [y_0, y_1, y_2, y_3, y_4, y_5, y_6, y_7, y_8, y_9, y_10, y_11, y_12, y_13, y_14, y_15, y_16, y_17, y_18, y_19, y_20, y_21, y_22, y_23, y_24, y_29, y_30, y_31, y_32, y_39, y_40, y_48, y_49, y_50, y_60, y_64, y_69, y_78, y_99, y_100, y_142, y_161, y_600, y_610, y_894, y_999, y_1000, y_1216, y_1276, neg1, neg2, nI_add, nI_mul, nn_sub, nn_lt, nn_le, nn_eq, in_lt, ni_lt, in_le, ni_le, in_eq, ni_eq, iI_lt, iI_le, iI_eq, nn_clamp, inb_n, t_lt, f_lt, t_le, f_le, t_eq, f_eq, ti_lt, fi_lt, ti_le, fi_le, ti_eq, fi_eq, ↓reduceIte, ite_true, ite_false, eq_self, decide_true, decide_false, Bool.true_and, Bool.and_true, Bool.false_and, Bool.and_false, Bool.true_or, Bool.or_true, Bool.false_or, Bool.or_false, bI_t, bI_f, bI_nand, n_mod, an11, an01, negn1, negn2, false_and, and_false, true_and, and_true, not_true_eq_false, not_false_eq_true, bI_n0, bI_n1, Bool.true_eq_false, Bool.false_eq_true, cI_s, cL_s, cV_s, cR_n, pm_bR_self, bI_ite, bL_ite, bV_ite, bR_ite, E_X8_back_35, E_X8_isVoyage_n, E_X9_back_13, E_X9_back_30, E_X9_back_67, E_X9_back_92, E_X9_back_115, isShip_Mn hm, ic, T, E_X9_back_13]
