theorem tellsC_man {h : PH} {D : DD} {v : Nat → Nat} {q : Nat} (hq : 6 ≤ q ∧ q < 12) (hD : DcC h D) (x0 : (if h.1 24 0 0 < 0 then 0 else h.1 24 0 0) = nI (v 0)) (x1 : (if h.1 24 0 1 < 0 then 0 else h.1 24 0 1) = nI (v 1)) (x5 : q = 11 → h.1 24 0 0 = nI (v 0)) (b0 : v 0 ≤ 9) (b1 : v 1 ≤ 23) (h5 : (D.1 5).val ≤ 4) (h6 : 0 < (D.1 6).val ∧ (D.1 6).val ≤ 4) (h80 : ∀ s, s < (D.1 6).val → (D.1 (80+s)).val ≤ 4) (hm : (D.1 (80+((D.1 6).val-1))).val < 4) (hfs : -1 ≤ D.2.2.2 ∧ D.2.2.2 ≤ 3) : ∃ h', pm_ev (80, 0, [vr 4 0, vi (nI (q - 6))], [], h) = some (none, h') ∧ DcC h' (aTell q v D) ∧ frT h h' := by
  obtain ⟨⟨⟨c0, c1, c2, c3, c5, c8, cr⟩, cg, cs⟩, m9, m10, m11⟩ := hD
  obtain ⟨c, fc, fr, fs⟩ := D
  dsimp only at c0 c1 c2 c3 c5 c8 cr cg cs m9 m10 m11 h5 h6 h80 hm hfs
  have at' : aTell q v (c, fc, fr, fs) = (cU (cU (cU (cU c (100+(4*((c (6)).val-1)+(c (80+((c (6)).val-1))).val)) (f64 (q-6))) (120+(4*((c (6)).val-1)+(c (80+((c (6)).val-1))).val)) (f64 (v 0))) (140+(4*((c (6)).val-1)+(c (80+((c (6)).val-1))).val)) (f64 (v 1))) (80+((c (6)).val-1)) (f64 ((c (80+((c (6)).val-1))).val + 1)), fc, fr, if q = 11 then max fs (v 0) else fs) := by
    unfold aTell
    rw [if_neg (by omega), if_neg (by omega), if_neg (by omega), if_neg (by omega), if_neg (by omega), if_neg (by omega), if_pos (by omega)]
  have s4 := (cs ((c (6)).val-1) (by omega)).1.2.2.2
  generalize hK : (c (80+((c (6)).val-1))).val = K at *
  generalize hS : (c (6)).val - 1 = S at *
  have hSi : (c (6)).val = S + 1 := by omega
  have A : pm_ev (4, 0, [vr 0 8, vi (nI (q - 6)), vi (nI (v 0)), vi (nI (v 1)), none, none], [], h) = some (none, pm_sI (pm_sI (pm_sI (pm_sI h 16 8 (4*S+K) (nI (q - 6))) 17 8 (4*S+K) (nI (v 0))) 18 8 (4*S+K) (nI (v 1))) 15 8 S (nI (K + 1))) := by
    have e1 : h.1 0 8 8 - 1 = nI S := by rw [c8, show (1 : Int32) = nI 1 from rfl, nn_sub (by omega), hS]
    have HS : pm_ev (5, 0, [vr 0 8, vi (nI S)], [], h) = some (some (vi (nI 1)), h) := by
      rw [E_X0_hasShip]
      simp (disch := omega) only [y_0, y_1, y_2, y_3, y_4, y_5, y_6, y_7, y_8, y_9, y_10, y_11, y_12, y_13, y_14, y_15, y_16, y_17, y_18, y_19, y_20, y_21, y_22, y_23, y_24, y_29, y_30, y_31, y_32, y_39, y_40, y_48, y_49, y_50, y_60, y_64, y_69, y_78, y_99, y_100, y_142, y_161, y_600, y_610, y_894, y_999, y_1000, y_1216, y_1276, neg1, neg2, nI_add, nI_mul, nn_sub, nn_lt, nn_le, nn_eq, in_lt, ni_lt, in_le, ni_le, in_eq, ni_eq, iI_lt, iI_le, iI_eq, nn_clamp, inb_n, t_lt, f_lt, t_le, f_le, t_eq, f_eq, ti_lt, fi_lt, ti_le, fi_le, ti_eq, fi_eq, ↓reduceIte, ite_true, ite_false, eq_self, decide_true, decide_false, Bool.true_and, Bool.and_true, Bool.false_and, Bool.and_false, Bool.true_or, Bool.or_true, Bool.false_or, Bool.or_false, bI_t, bI_f, bI_nand, n_mod, an11, an01, negn1, negn2, false_and, and_false, true_and, and_true, not_true_eq_false, not_false_eq_true, bI_n0, bI_n1, Bool.true_eq_false, Bool.false_eq_true, cI_s, cL_s, cV_s, cR_n, pm_bR_self, bI_ite, bL_ite, bV_ite, bR_ite, c8]
    rw [E_X0_addMan, e1, HS, cI_s]
    simp (disch := omega) only [y_0, y_1, y_2, y_3, y_4, y_5, y_6, y_7, y_8, y_9, y_10, y_11, y_12, y_13, y_14, y_15, y_16, y_17, y_18, y_19, y_20, y_21, y_22, y_23, y_24, y_29, y_30, y_31, y_32, y_39, y_40, y_48, y_49, y_50, y_60, y_64, y_69, y_78, y_99, y_100, y_142, y_161, y_600, y_610, y_894, y_999, y_1000, y_1216, y_1276, neg1, neg2, nI_add, nI_mul, nn_sub, nn_lt, nn_le, nn_eq, in_lt, ni_lt, in_le, ni_le, in_eq, ni_eq, iI_lt, iI_le, iI_eq, nn_clamp, inb_n, t_lt, f_lt, t_le, f_le, t_eq, f_eq, ti_lt, fi_lt, ti_le, fi_le, ti_eq, fi_eq, ↓reduceIte, ite_true, ite_false, eq_self, decide_true, decide_false, Bool.true_and, Bool.and_true, Bool.false_and, Bool.and_false, Bool.true_or, Bool.or_true, Bool.false_or, Bool.or_false, bI_t, bI_f, bI_nand, n_mod, an11, an01, negn1, negn2, false_and, and_false, true_and, and_true, not_true_eq_false, not_false_eq_true, bI_n0, bI_n1, Bool.true_eq_false, Bool.false_eq_true, cI_s, cL_s, cV_s, cR_n, pm_bR_self, bI_ite, bL_ite, bV_ite, bR_ite, s4, E_X0_addMan_50, E_X0_addMan_58, E_X0_addMan_66, sI_tag]
  generalize hH : pm_sI (pm_sI (pm_sI (pm_sI h 16 8 (4*S+K) (nI (q - 6))) 17 8 (4*S+K) (nI (v 0))) 18 8 (4*S+K) (nI (v 1))) 15 8 S (nI (K + 1)) = h1 at *
  have f1 : frT h h1 := by
    rw [← hH]
    exact (((frT.s8 _ (by omega) _ _).tr (frT.s8 _ (by omega) _ _)).tr (frT.s8 _ (by omega) _ _)).tr (frT.s8 _ (by omega) _ _)
  have C1 : CoastC h1 8 (cU (cU (cU (cU c (100+(4*S+K)) (f64 (q-6))) (120+(4*S+K)) (f64 (v 0))) (140+(4*S+K)) (f64 (v 1))) (80+S) (f64 (K + 1))) := by
    rw [← hH]
    refine ⟨⟨?_, ?_, ?_, ?_, ?_, ?_, ?_⟩, fun g hg => ?_, fun s hs => ?_⟩
    · simp (disch := omega) only [cU_ne, cU_eq, f64_v, sI_pl, sI_same, sI_tag, sI_2, sL_1, sL_tag, sL_same, sL_pl]; exact c0
    · simp (disch := omega) only [cU_ne, cU_eq, f64_v, sI_pl, sI_same, sI_tag, sI_2, sL_1, sL_tag, sL_same, sL_pl]; exact c1
    · simp (disch := omega) only [cU_ne, cU_eq, f64_v, sI_pl, sI_same, sI_tag, sI_2, sL_1, sL_tag, sL_same, sL_pl]; exact c2
    · simp (disch := omega) only [cU_ne, cU_eq, f64_v, sI_pl, sI_same, sI_tag, sI_2, sL_1, sL_tag, sL_same, sL_pl]; exact c3
    · simp (disch := omega) only [cU_ne, cU_eq, f64_v, sI_pl, sI_same, sI_tag, sI_2, sL_1, sL_tag, sL_same, sL_pl]; exact c5
    · simp (disch := omega) only [cU_ne, cU_eq, f64_v, sI_pl, sI_same, sI_tag, sI_2, sL_1, sL_tag, sL_same, sL_pl]; exact c8
    · simp (disch := omega) only [cU_ne, cU_eq, f64_v, sI_pl, sI_same, sI_tag, sI_2, sL_1, sL_tag, sL_same, sL_pl]; exact cr
    · simp (disch := omega) only [cU_ne] at hg
      simp (disch := omega) only [cU_ne, cU_eq, f64_v, sI_pl, sI_same, sI_tag, sI_2, sL_1, sL_tag, sL_same, sL_pl]
      exact cg g hg
    · simp (disch := omega) only [cU_ne] at hs
      have h8 := h80 s hs
      obtain ⟨⟨y1, y2, y3, y4⟩, y5⟩ := cs s hs
      by_cases z : s = S
      · subst z
        rw [hK] at h8 y5 y4
        refine ⟨⟨?_, ?_, ?_, ?_⟩, fun k hk => ?_⟩
        · simp (disch := omega) only [cU_ne, cU_eq, f64_v, sI_pl, sI_same, sI_tag, sI_2, sL_1, sL_tag, sL_same, sL_pl]; exact y1
        · simp (disch := omega) only [cU_ne, cU_eq, f64_v, sI_pl, sI_same, sI_tag, sI_2, sL_1, sL_tag, sL_same, sL_pl]; exact y2
        · simp (disch := omega) only [cU_ne, cU_eq, f64_v, sI_pl, sI_same, sI_tag, sI_2, sL_1, sL_tag, sL_same, sL_pl]; exact y3
        · simp (disch := omega) only [cU_ne, cU_eq, f64_v, sI_pl, sI_same, sI_tag, sI_2, sL_1, sL_tag, sL_same, sL_pl]
        · rw [cU_eq, f64_v (by omega)] at hk
          by_cases w : k = K
          · subst w
            refine ⟨?_, ?_, ?_⟩
            · simp (disch := omega) only [cU_ne, cU_eq, f64_v, sI_pl, sI_same, sI_tag, sI_2, sL_1, sL_tag, sL_same, sL_pl]
            · simp (disch := omega) only [cU_ne, cU_eq, f64_v, sI_pl, sI_same, sI_tag, sI_2, sL_1, sL_tag, sL_same, sL_pl]
            · simp (disch := omega) only [cU_ne, cU_eq, f64_v, sI_pl, sI_same, sI_tag, sI_2, sL_1, sL_tag, sL_same, sL_pl]
          · obtain ⟨u1, u2, u3⟩ := y5 k (by omega)
            refine ⟨?_, ?_, ?_⟩
            · simp (disch := omega) only [cU_ne, cU_eq, f64_v, sI_pl, sI_same, sI_tag, sI_2, sL_1, sL_tag, sL_same, sL_pl]; exact u1
            · simp (disch := omega) only [cU_ne, cU_eq, f64_v, sI_pl, sI_same, sI_tag, sI_2, sL_1, sL_tag, sL_same, sL_pl]; exact u2
            · simp (disch := omega) only [cU_ne, cU_eq, f64_v, sI_pl, sI_same, sI_tag, sI_2, sL_1, sL_tag, sL_same, sL_pl]; exact u3
      · refine ⟨⟨?_, ?_, ?_, ?_⟩, fun k hk => ?_⟩
        · simp (disch := omega) only [cU_ne, cU_eq, f64_v, sI_pl, sI_same, sI_tag, sI_2, sL_1, sL_tag, sL_same, sL_pl]; exact y1
        · simp (disch := omega) only [cU_ne, cU_eq, f64_v, sI_pl, sI_same, sI_tag, sI_2, sL_1, sL_tag, sL_same, sL_pl]; exact y2
        · simp (disch := omega) only [cU_ne, cU_eq, f64_v, sI_pl, sI_same, sI_tag, sI_2, sL_1, sL_tag, sL_same, sL_pl]; exact y3
        · simp (disch := omega) only [cU_ne, cU_eq, f64_v, sI_pl, sI_same, sI_tag, sI_2, sL_1, sL_tag, sL_same, sL_pl]; exact y4
        · simp (disch := omega) only [cU_ne] at hk
          obtain ⟨u1, u2, u3⟩ := y5 k hk
          refine ⟨?_, ?_, ?_⟩
          · simp (disch := omega) only [cU_ne, cU_eq, f64_v, sI_pl, sI_same, sI_tag, sI_2, sL_1, sL_tag, sL_same, sL_pl]; exact u1
          · simp (disch := omega) only [cU_ne, cU_eq, f64_v, sI_pl, sI_same, sI_tag, sI_2, sL_1, sL_tag, sL_same, sL_pl]; exact u2
          · simp (disch := omega) only [cU_ne, cU_eq, f64_v, sI_pl, sI_same, sI_tag, sI_2, sL_1, sL_tag, sL_same, sL_pl]; exact u3
  have k9 : h1.1 4 0 9 = nI fc := by rw [← hH]; simp (disch := omega) only [cU_ne, cU_eq, f64_v, sI_pl, sI_same, sI_tag, sI_2, sL_1, sL_tag, sL_same, sL_pl]; exact m9
  have k10 : h1.1 4 0 10 = nI fr := by rw [← hH]; simp (disch := omega) only [cU_ne, cU_eq, f64_v, sI_pl, sI_same, sI_tag, sI_2, sL_1, sL_tag, sL_same, sL_pl]; exact m10
  have k11 : h1.1 4 0 11 = iI fs := by rw [← hH]; simp (disch := omega) only [cU_ne, cU_eq, f64_v, sI_pl, sI_same, sI_tag, sI_2, sL_1, sL_tag, sL_same, sL_pl]; exact m11
  have k24 : h1.1 24 0 0 = h.1 24 0 0 := by rw [← hH]; simp (disch := omega) only [cU_ne, cU_eq, f64_v, sI_pl, sI_same, sI_tag, sI_2, sL_1, sL_tag, sL_same, sL_pl]
  rw [E_X4_tellMan, show (0 : Int32).toNatClampNeg = 0 from rfl, show (1 : Int32).toNatClampNeg = 1 from rfl, x0, x1, A, cV_s, at']
  by_cases q11 : q = 11
  · rw [if_pos (show nI (q - 6) = 5 by rw [q11]; rfl), if_pos q11]
    refine ⟨pm_sI h1 4 0 11 (iI (max fs (v 0))), ?_, ⟨C1.fr (fun t k ht _ => sI_tag _ _ _ _ _ _ (by omega)) rfl, (sI_pl _ _ _ _ _ (by decide)).trans k9, (sI_pl _ _ _ _ _ (by decide)).trans k10, sI_same _ _ _ _ _⟩, f1.tr (frT.s4 _ (by omega) _)⟩
    rw [k24, k11, x5 q11]
    congr 3
    by_cases w : fs < (v 0 : Int)
    · rw [if_pos ((in_lt (by omega) (by omega) (by omega)).mpr w), Int.max_eq_right (by omega), iI_nat]
    · rw [if_neg (fun z => w ((in_lt (by omega) (by omega) (by omega)).mp z)), Int.max_eq_left (by omega)]
  · rw [if_neg (show ¬ nI (q - 6) = 5 from fun z => by have := (nn_eq (by omega) (by decide)).mp (z.trans (show (5 : Int32) = nI 5 from rfl)); omega), if_neg q11]
    exact ⟨h1, rfl, ⟨C1, k9, k10, k11⟩, f1⟩
/-! ===== nights and logs: the class ===== -/
theorem tellsN {h : PH} {D : DD} {v : Nat → Nat} {q : Nat} (hq : 12 ≤ q ∧ q < 16) (hD : NightC h 8 D.1) (hk : (D.1 0).val < 40) (x0 : h.1 24 0 0 = iI (((if 1 ≤ nN q then v 0 + 1 else 0 : Nat) : Int) - 1)) (x1 : h.1 24 0 1 = iI (((if 2 ≤ nN q then v 1 + 1 else 0 : Nat) : Int) - 1)) (x2 : h.1 24 0 2 = iI (((if 3 ≤ nN q then v 2 + 1 else 0 : Nat) : Int) - 1)) (b0 : v 0 ≤ 23) (b1 : v 1 ≤ 23) (b2 : v 2 ≤ 23) : ∃ h', pm_ev (61, 0, [vr 3 8, vi (nI (q - 12)), vi (h.1 24 0 0), vi (h.1 24 0 1), vi (h.1 24 0 2)], [], h) = some (none, h') ∧ NightC h' 8 (aTell q v D).1 ∧ frT h h' := by
  obtain ⟨c, D2⟩ := D
  obtain ⟨n0, nk⟩ := hD
  dsimp only at n0 nk hk
  have at' : (aTell q v (c, D2)).1 = cU (cU (cU (cU (cU c (10+(c (0)).val) (f64 (q-12))) (100+(c (0)).val) (f64 (if 1 ≤ nN q then v 0 + 1 else 0))) (200+(c (0)).val) (f64 (if 2 ≤ nN q then v 1 + 1 else 0))) (300+(c (0)).val) (f64 (if 3 ≤ nN q then v 2 + 1 else 0))) 0 (f64 ((c (0)).val + 1)) := by
    unfold aTell
    rw [if_neg (by omega), if_neg (by omega), if_neg (by omega), if_neg (by omega), if_neg (by omega), if_neg (by omega), if_neg (by omega), if_pos (by omega)]
  rw [at', x0, x1, x2]
  have w0 : (if 1 ≤ nN q then v 0 + 1 else 0) < 64 := by split <;> omega
  have w1 : (if 2 ≤ nN q then v 1 + 1 else 0) < 64 := by split <;> omega
  have w2 : (if 3 ≤ nN q then v 2 + 1 else 0) < 64 := by split <;> omega
  generalize (if 1 ≤ nN q then v 0 + 1 else 0) = a0 at *
  generalize (if 2 ≤ nN q then v 1 + 1 else 0) = a1 at *
  generalize (if 3 ≤ nN q then v 2 + 1 else 0) = a2 at *
  refine ⟨pm_sI (pm_sI (pm_sI (pm_sI (pm_sI h 22 8 (c (0)).val (nI (q - 12))) 23 8 (3 * (c (0)).val) (iI ((a0 : Int) - 1))) 23 8 (3 * (c (0)).val + 1) (iI ((a1 : Int) - 1))) 23 8 (3 * (c (0)).val + 2) (iI ((a2 : Int) - 1))) 3 8 0 (nI ((c (0)).val + 1)), ?_, ⟨?_, fun k hk2 => ?_⟩, ((((frT.s8 _ (by omega) _ _).tr (frT.s8 _ (by omega) _ _)).tr (frT.s8 _ (by omega) _ _)).tr (frT.s8 _ (by omega) _ _)).tr (frT.s8 _ (by omega) _ _)⟩
  · rw [E_X3_add]
    simp (disch := omega) only [y_0, y_1, y_2, y_3, y_4, y_5, y_6, y_7, y_8, y_9, y_10, y_11, y_12, y_13, y_14, y_15, y_16, y_17, y_18, y_19, y_20, y_21, y_22, y_23, y_24, y_29, y_30, y_31, y_32, y_39, y_40, y_48, y_49, y_50, y_60, y_64, y_69, y_78, y_99, y_100, y_142, y_161, y_600, y_610, y_894, y_999, y_1000, y_1216, y_1276, neg1, neg2, nI_add, nI_mul, nn_sub, nn_lt, nn_le, nn_eq, in_lt, ni_lt, in_le, ni_le, in_eq, ni_eq, iI_lt, iI_le, iI_eq, nn_clamp, inb_n, t_lt, f_lt, t_le, f_le, t_eq, f_eq, ti_lt, fi_lt, ti_le, fi_le, ti_eq, fi_eq, ↓reduceIte, ite_true, ite_false, eq_self, decide_true, decide_false, Bool.true_and, Bool.and_true, Bool.false_and, Bool.and_false, Bool.true_or, Bool.or_true, Bool.false_or, Bool.or_false, bI_t, bI_f, bI_nand, n_mod, an11, an01, negn1, negn2, false_and, and_false, true_and, and_true, not_true_eq_false, not_false_eq_true, bI_n0, bI_n1, Bool.true_eq_false, Bool.false_eq_true, cI_s, cL_s, cV_s, cR_n, pm_bR_self, bI_ite, bL_ite, bV_ite, bR_ite, n0, E_X3_add_19, E_X3_add_31, E_X3_add_45, E_X3_add_60, sI_tag]
  · simp (disch := omega) only [cU_ne, cU_eq, f64_v, sI_pl, sI_same, sI_tag, sI_2, sL_1, sL_tag, sL_same, sL_pl]
  · rw [cU_eq, f64_v (by omega)] at hk2
    by_cases z : k = (c (0)).val
    · subst z
      refine ⟨?_, ?_, ?_, ?_⟩
      · simp (disch := omega) only [cU_ne, cU_eq, f64_v, sI_pl, sI_same, sI_tag, sI_2, sL_1, sL_tag, sL_same, sL_pl]
      · simp (disch := omega) only [cU_ne, cU_eq, f64_v, sI_pl, sI_same, sI_tag, sI_2, sL_1, sL_tag, sL_same, sL_pl]
      · simp (disch := omega) only [cU_ne, cU_eq, f64_v, sI_pl, sI_same, sI_tag, sI_2, sL_1, sL_tag, sL_same, sL_pl]
      · simp (disch := omega) only [cU_ne, cU_eq, f64_v, sI_pl, sI_same, sI_tag, sI_2, sL_1, sL_tag, sL_same, sL_pl]
    · obtain ⟨u1, u2, u3, u4⟩ := nk k (by omega)
      refine ⟨?_, ?_, ?_, ?_⟩
      · simp (disch := omega) only [cU_ne, cU_eq, f64_v, sI_pl, sI_same, sI_tag, sI_2, sL_1, sL_tag, sL_same, sL_pl]; exact u1
      · simp (disch := omega) only [cU_ne, cU_eq, f64_v, sI_pl, sI_same, sI_tag, sI_2, sL_1, sL_tag, sL_same, sL_pl]; exact u2
      · simp (disch := omega) only [cU_ne, cU_eq, f64_v, sI_pl, sI_same, sI_tag, sI_2, sL_1, sL_tag, sL_same, sL_pl]; exact u3
      · simp (disch := omega) only [cU_ne, cU_eq, f64_v, sI_pl, sI_same, sI_tag, sI_2, sL_1, sL_tag, sL_same, sL_pl]; exact u4
theorem tellsL {h : PH} {D : DD} {v : Nat → Nat} {q : Nat} (hq : 16 ≤ q ∧ q < 21) (hD : LogC h 8 D.1) (hm : q = 16 → (D.1 0).val < 6) (hf : q = 19 ∨ q = 20 → (D.1 3).val < 10) (l6 : (D.1 0).val ≤ 6) (l10 : (D.1 3).val ≤ 10) (x0 : h.1 24 0 0 = nI (v 0)) (b0 : v 0 ≤ 23) : ∃ h', pm_ev (82, 0, [vr 4 0, vi (nI q)], [], h) = some (none, h') ∧ LogC h' 8 (aTell q v D).1 ∧ frT h h' := by
  obtain ⟨c, D2⟩ := D
  obtain ⟨⟨c0, c1, c2, c3⟩, cm, cf⟩ := hD
  dsimp only at c0 c1 c2 c3 cm cf hm hf l6 l10
  have : q = 16 ∨ q = 17 ∨ q = 18 ∨ q = 19 ∨ q = 20 := by omega
  rcases this with e | e | e | e | e <;> subst e
  · have hm := hm rfl
    rw [show (aTell 16 v (c, D2)).1 = cU (cU c (10+(c (0)).val) (f64 (v 0))) 0 (f64 ((c (0)).val + 1)) from rfl]
    refine ⟨pm_sI (pm_sI h 19 8 (c (0)).val (nI (v 0))) 2 8 0 (nI ((c (0)).val + 1)), ?_, ⟨⟨?_, ?_, ?_, ?_⟩, fun k hk => ?_, fun k hk => ?_⟩, (frT.s8 _ (by omega) _ _).tr (frT.s8 _ (by omega) _ _)⟩
    · rw [E_X4_tellLog, if_pos (by rfl), show (0 : Int32).toNatClampNeg = 0 from rfl, x0, E_X2_addMan]
      simp (disch := omega) only [y_0, y_1, y_2, y_3, y_4, y_5, y_6, y_7, y_8, y_9, y_10, y_11, y_12, y_13, y_14, y_15, y_16, y_17, y_18, y_19, y_20, y_21, y_22, y_23, y_24, y_29, y_30, y_31, y_32, y_39, y_40, y_48, y_49, y_50, y_60, y_64, y_69, y_78, y_99, y_100, y_142, y_161, y_600, y_610, y_894, y_999, y_1000, y_1216, y_1276, neg1, neg2, nI_add, nI_mul, nn_sub, nn_lt, nn_le, nn_eq, in_lt, ni_lt, in_le, ni_le, in_eq, ni_eq, iI_lt, iI_le, iI_eq, nn_clamp, inb_n, t_lt, f_lt, t_le, f_le, t_eq, f_eq, ti_lt, fi_lt, ti_le, fi_le, ti_eq, fi_eq, ↓reduceIte, ite_true, ite_false, eq_self, decide_true, decide_false, Bool.true_and, Bool.and_true, Bool.false_and, Bool.and_false, Bool.true_or, Bool.or_true, Bool.false_or, Bool.or_false, bI_t, bI_f, bI_nand, n_mod, an11, an01, negn1, negn2, false_and, and_false, true_and, and_true, not_true_eq_false, not_false_eq_true, bI_n0, bI_n1, Bool.true_eq_false, Bool.false_eq_true, cI_s, cL_s, cV_s, cR_n, pm_bR_self, bI_ite, bL_ite, bV_ite, bR_ite, c0, E_X2_addMan_19, sI_tag]
    · simp (disch := omega) only [cU_ne, cU_eq, f64_v, sI_pl, sI_same, sI_tag, sI_2, sL_1, sL_tag, sL_same, sL_pl]
    · simp (disch := omega) only [cU_ne, cU_eq, f64_v, sI_pl, sI_same, sI_tag, sI_2, sL_1, sL_tag, sL_same, sL_pl]; exact c1
    · simp (disch := omega) only [cU_ne, cU_eq, f64_v, sI_pl, sI_same, sI_tag, sI_2, sL_1, sL_tag, sL_same, sL_pl]; exact c2
    · simp (disch := omega) only [cU_ne, cU_eq, f64_v, sI_pl, sI_same, sI_tag, sI_2, sL_1, sL_tag, sL_same, sL_pl]; exact c3
    · rw [cU_eq, f64_v (by omega)] at hk
      by_cases z : k = (c (0)).val
      · subst z; simp (disch := omega) only [cU_ne, cU_eq, f64_v, sI_pl, sI_same, sI_tag, sI_2, sL_1, sL_tag, sL_same, sL_pl]
      · simp (disch := omega) only [cU_ne, cU_eq, f64_v, sI_pl, sI_same, sI_tag, sI_2, sL_1, sL_tag, sL_same, sL_pl]; exact cm k (by omega)
    · simp (disch := omega) only [cU_ne] at hk
      simp (disch := omega) only [cU_ne, cU_eq, f64_v, sI_pl, sI_same, sI_tag, sI_2, sL_1, sL_tag, sL_same, sL_pl]; exact cf k hk
  · rw [show (aTell 17 v (c, D2)).1 = cU c 1 (f64 (v 0)) from rfl]
    refine ⟨pm_sI h 2 8 2 (nI (v 0)), ?_, ⟨⟨?_, ?_, ?_, ?_⟩, fun k hk => ?_, fun k hk => ?_⟩, frT.s8 _ (by omega) _ _⟩
    · rw [E_X4_tellLog, if_neg (by decide), if_pos (by rfl), show (0 : Int32).toNatClampNeg = 0 from rfl, x0]
    · simp (disch := omega) only [cU_ne, cU_eq, f64_v, sI_pl, sI_same, sI_tag, sI_2, sL_1, sL_tag, sL_same, sL_pl]; exact c0
    · simp (disch := omega) only [cU_ne, cU_eq, f64_v, sI_pl, sI_same, sI_tag, sI_2, sL_1, sL_tag, sL_same, sL_pl]
    · simp (disch := omega) only [cU_ne, cU_eq, f64_v, sI_pl, sI_same, sI_tag, sI_2, sL_1, sL_tag, sL_same, sL_pl]; exact c2
    · simp (disch := omega) only [cU_ne, cU_eq, f64_v, sI_pl, sI_same, sI_tag, sI_2, sL_1, sL_tag, sL_same, sL_pl]; exact c3
    · simp (disch := omega) only [cU_ne] at hk
      simp (disch := omega) only [cU_ne, cU_eq, f64_v, sI_pl, sI_same, sI_tag, sI_2, sL_1, sL_tag, sL_same, sL_pl]; exact cm k hk
    · simp (disch := omega) only [cU_ne] at hk
      simp (disch := omega) only [cU_ne, cU_eq, f64_v, sI_pl, sI_same, sI_tag, sI_2, sL_1, sL_tag, sL_same, sL_pl]; exact cf k hk
  · rw [show (aTell 18 v (c, D2)).1 = cU c 2 (f64 (v 0)) from rfl]
    refine ⟨pm_sI h 2 8 3 (nI (v 0)), ?_, ⟨⟨?_, ?_, ?_, ?_⟩, fun k hk => ?_, fun k hk => ?_⟩, frT.s8 _ (by omega) _ _⟩
    · rw [E_X4_tellLog, if_neg (by decide), if_neg (by decide), if_pos (by rfl), show (0 : Int32).toNatClampNeg = 0 from rfl, x0]
    · simp (disch := omega) only [cU_ne, cU_eq, f64_v, sI_pl, sI_same, sI_tag, sI_2, sL_1, sL_tag, sL_same, sL_pl]; exact c0
    · simp (disch := omega) only [cU_ne, cU_eq, f64_v, sI_pl, sI_same, sI_tag, sI_2, sL_1, sL_tag, sL_same, sL_pl]; exact c1
    · simp (disch := omega) only [cU_ne, cU_eq, f64_v, sI_pl, sI_same, sI_tag, sI_2, sL_1, sL_tag, sL_same, sL_pl]
    · simp (disch := omega) only [cU_ne, cU_eq, f64_v, sI_pl, sI_same, sI_tag, sI_2, sL_1, sL_tag, sL_same, sL_pl]; exact c3
    · simp (disch := omega) only [cU_ne] at hk
      simp (disch := omega) only [cU_ne, cU_eq, f64_v, sI_pl, sI_same, sI_tag, sI_2, sL_1, sL_tag, sL_same, sL_pl]; exact cm k hk
    · simp (disch := omega) only [cU_ne] at hk
      simp (disch := omega) only [cU_ne, cU_eq, f64_v, sI_pl, sI_same, sI_tag, sI_2, sL_1, sL_tag, sL_same, sL_pl]; exact cf k hk
  · have hf := hf (by omega)
    rw [show (aTell 19 v (c, D2)).1 = cU (cU (cU c (20+(c (3)).val) (f64 1)) (30+(c (3)).val) (f64 (v 0))) 3 (f64 ((c (3)).val + 1)) from rfl]
    refine ⟨pm_sI (pm_sI (pm_sI h 20 8 (c (3)).val (nI 1)) 21 8 (c (3)).val (nI (v 0))) 2 8 4 (nI ((c (3)).val + 1)), ?_, ⟨⟨?_, ?_, ?_, ?_⟩, fun k hk => ?_, fun k hk => ?_⟩, ((frT.s8 _ (by omega) _ _).tr (frT.s8 _ (by omega) _ _)).tr (frT.s8 _ (by omega) _ _)⟩
    · rw [E_X4_tellLog, if_neg (by decide), if_neg (by decide), if_neg (by decide), if_pos (by rfl), show (0 : Int32).toNatClampNeg = 0 from rfl, x0, E_X2_addFact]
      simp (disch := omega) only [y_0, y_1, y_2, y_3, y_4, y_5, y_6, y_7, y_8, y_9, y_10, y_11, y_12, y_13, y_14, y_15, y_16, y_17, y_18, y_19, y_20, y_21, y_22, y_23, y_24, y_29, y_30, y_31, y_32, y_39, y_40, y_48, y_49, y_50, y_60, y_64, y_69, y_78, y_99, y_100, y_142, y_161, y_600, y_610, y_894, y_999, y_1000, y_1216, y_1276, neg1, neg2, nI_add, nI_mul, nn_sub, nn_lt, nn_le, nn_eq, in_lt, ni_lt, in_le, ni_le, in_eq, ni_eq, iI_lt, iI_le, iI_eq, nn_clamp, inb_n, t_lt, f_lt, t_le, f_le, t_eq, f_eq, ti_lt, fi_lt, ti_le, fi_le, ti_eq, fi_eq, ↓reduceIte, ite_true, ite_false, eq_self, decide_true, decide_false, Bool.true_and, Bool.and_true, Bool.false_and, Bool.and_false, Bool.true_or, Bool.or_true, Bool.false_or, Bool.or_false, bI_t, bI_f, bI_nand, n_mod, an11, an01, negn1, negn2, false_and, and_false, true_and, and_true, not_true_eq_false, not_false_eq_true, bI_n0, bI_n1, Bool.true_eq_false, Bool.false_eq_true, cI_s, cL_s, cV_s, cR_n, pm_bR_self, bI_ite, bL_ite, bV_ite, bR_ite, c3, E_X2_addFact_19, E_X2_addFact_29, sI_tag]
    · simp (disch := omega) only [cU_ne, cU_eq, f64_v, sI_pl, sI_same, sI_tag, sI_2, sL_1, sL_tag, sL_same, sL_pl]; exact c0
    · simp (disch := omega) only [cU_ne, cU_eq, f64_v, sI_pl, sI_same, sI_tag, sI_2, sL_1, sL_tag, sL_same, sL_pl]; exact c1
    · simp (disch := omega) only [cU_ne, cU_eq, f64_v, sI_pl, sI_same, sI_tag, sI_2, sL_1, sL_tag, sL_same, sL_pl]; exact c2
    · simp (disch := omega) only [cU_ne, cU_eq, f64_v, sI_pl, sI_same, sI_tag, sI_2, sL_1, sL_tag, sL_same, sL_pl]
    · simp (disch := omega) only [cU_ne] at hk
      simp (disch := omega) only [cU_ne, cU_eq, f64_v, sI_pl, sI_same, sI_tag, sI_2, sL_1, sL_tag, sL_same, sL_pl]; exact cm k hk
    · rw [cU_eq, f64_v (by omega)] at hk
      by_cases z : k = (c (3)).val
      · subst z; simp (disch := omega) only [cU_ne, cU_eq, f64_v, sI_pl, sI_same, sI_tag, sI_2, sL_1, sL_tag, sL_same, sL_pl, and_self]
      · simp (disch := omega) only [cU_ne, cU_eq, f64_v, sI_pl, sI_same, sI_tag, sI_2, sL_1, sL_tag, sL_same, sL_pl]; exact cf k (by omega)
  · have hf := hf (by omega)
    rw [show (aTell 20 v (c, D2)).1 = cU (cU (cU c (20+(c (3)).val) (f64 0)) (30+(c (3)).val) (f64 (v 0))) 3 (f64 ((c (3)).val + 1)) from rfl]
    refine ⟨pm_sI (pm_sI (pm_sI h 20 8 (c (3)).val (nI 0)) 21 8 (c (3)).val (nI (v 0))) 2 8 4 (nI ((c (3)).val + 1)), ?_, ⟨⟨?_, ?_, ?_, ?_⟩, fun k hk => ?_, fun k hk => ?_⟩, ((frT.s8 _ (by omega) _ _).tr (frT.s8 _ (by omega) _ _)).tr (frT.s8 _ (by omega) _ _)⟩
    · rw [E_X4_tellLog, if_neg (by decide), if_neg (by decide), if_neg (by decide), if_neg (by decide), show (0 : Int32).toNatClampNeg = 0 from rfl, x0, E_X2_addFact]
      simp (disch := omega) only [y_0, y_1, y_2, y_3, y_4, y_5, y_6, y_7, y_8, y_9, y_10, y_11, y_12, y_13, y_14, y_15, y_16, y_17, y_18, y_19, y_20, y_21, y_22, y_23, y_24, y_29, y_30, y_31, y_32, y_39, y_40, y_48, y_49, y_50, y_60, y_64, y_69, y_78, y_99, y_100, y_142, y_161, y_600, y_610, y_894, y_999, y_1000, y_1216, y_1276, neg1, neg2, nI_add, nI_mul, nn_sub, nn_lt, nn_le, nn_eq, in_lt, ni_lt, in_le, ni_le, in_eq, ni_eq, iI_lt, iI_le, iI_eq, nn_clamp, inb_n, t_lt, f_lt, t_le, f_le, t_eq, f_eq, ti_lt, fi_lt, ti_le, fi_le, ti_eq, fi_eq, ↓reduceIte, ite_true, ite_false, eq_self, decide_true, decide_false, Bool.true_and, Bool.and_true, Bool.false_and, Bool.and_false, Bool.true_or, Bool.or_true, Bool.false_or, Bool.or_false, bI_t, bI_f, bI_nand, n_mod, an11, an01, negn1, negn2, false_and, and_false, true_and, and_true, not_true_eq_false, not_false_eq_true, bI_n0, bI_n1, Bool.true_eq_false, Bool.false_eq_true, cI_s, cL_s, cV_s, cR_n, pm_bR_self, bI_ite, bL_ite, bV_ite, bR_ite, c3, E_X2_addFact_19, E_X2_addFact_29, sI_tag]
    · simp (disch := omega) only [cU_ne, cU_eq, f64_v, sI_pl, sI_same, sI_tag, sI_2, sL_1, sL_tag, sL_same, sL_pl]; exact c0
    · simp (disch := omega) only [cU_ne, cU_eq, f64_v, sI_pl, sI_same, sI_tag, sI_2, sL_1, sL_tag, sL_same, sL_pl]; exact c1
    · simp (disch := omega) only [cU_ne, cU_eq, f64_v, sI_pl, sI_same, sI_tag, sI_2, sL_1, sL_tag, sL_same, sL_pl]; exact c2
    · simp (disch := omega) only [cU_ne, cU_eq, f64_v, sI_pl, sI_same, sI_tag, sI_2, sL_1, sL_tag, sL_same, sL_pl]
    · simp (disch := omega) only [cU_ne] at hk
      simp (disch := omega) only [cU_ne, cU_eq, f64_v, sI_pl, sI_same, sI_tag, sI_2, sL_1, sL_tag, sL_same, sL_pl]; exact cm k hk
    · rw [cU_eq, f64_v (by omega)] at hk
      by_cases z : k = (c (3)).val
      · subst z; simp (disch := omega) only [cU_ne, cU_eq, f64_v, sI_pl, sI_same, sI_tag, sI_2, sL_1, sL_tag, sL_same, sL_pl, and_self]
      · simp (disch := omega) only [cU_ne, cU_eq, f64_v, sI_pl, sI_same, sI_tag, sI_2, sL_1, sL_tag, sL_same, sL_pl]; exact cf k (by omega)
