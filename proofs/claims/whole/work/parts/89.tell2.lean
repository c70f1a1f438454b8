theorem tellsC_5 {h : PH} {D : DD} {v : Nat → Nat} (hD : DcC h D) (h0 : h.1 24 0 0 = nI (v 0)) (b0 : v 0 ≤ 20) : ∃ h', pm_ev (81, 0, [vr 4 0, vi (nI 5), none], [], h) = some (none, h') ∧ DcC h' (aTell 5 v D) ∧ frT h h' := by
  obtain ⟨⟨⟨c0, c1, c2, c3, c5, c8, cr⟩, cg, cs⟩, m9, m10, m11⟩ := hD
  obtain ⟨c, fc, fr, fs⟩ := D
  refine ⟨pm_sI h 0 8 3 (nI (v 0)), ?_, ⟨⟨⟨?_, ?_, ?_, ?_, ?_, ?_, ?_⟩, fun g hg => ?_, fun s hs => ?_⟩, ?_, ?_, ?_⟩, frT.s8 _ (by omega) _ _⟩
  · rw [E_X4_tellCoast, if_neg (by decide), if_pos (by rfl), show (0 : Int32).toNatClampNeg = 0 from rfl, h0]
  all_goals (try (rw [show aTell 5 v (c, fc, fr, fs) = (cU c 4 (f64 (v 0)), fc, fr, fs) from rfl] at *))
  all_goals (dsimp only at *)
  · simp (disch := omega) only [cU_ne, cU_eq, f64_v, sI_pl, sI_same, sI_tag, sI_2, sL_1, sL_tag, sL_same, sL_pl]; exact c0
  · simp (disch := omega) only [cU_ne, cU_eq, f64_v, sI_pl, sI_same, sI_tag, sI_2, sL_1, sL_tag, sL_same, sL_pl]; exact c1
  · simp (disch := omega) only [cU_ne, cU_eq, f64_v, sI_pl, sI_same, sI_tag, sI_2, sL_1, sL_tag, sL_same, sL_pl]; exact c2
  · simp (disch := omega) only [cU_ne, cU_eq, f64_v, sI_pl, sI_same, sI_tag, sI_2, sL_1, sL_tag, sL_same, sL_pl]
  · simp (disch := omega) only [cU_ne, cU_eq, f64_v, sI_pl, sI_same, sI_tag, sI_2, sL_1, sL_tag, sL_same, sL_pl]; exact c5
  · simp (disch := omega) only [cU_ne, cU_eq, f64_v, sI_pl, sI_same, sI_tag, sI_2, sL_1, sL_tag, sL_same, sL_pl]; exact c8
  · simp (disch := omega) only [cU_ne, cU_eq, f64_v, sI_pl, sI_same, sI_tag, sI_2, sL_1, sL_tag, sL_same, sL_pl]; exact cr
  · simp (disch := omega) only [cU_ne] at hg
    simp (disch := omega) only [cU_ne, cU_eq, f64_v, sI_pl, sI_same, sI_tag, sI_2, sL_1, sL_tag, sL_same, sL_pl]
    exact cg g hg
  · simp (disch := omega) only [cU_ne] at hs
    simp (disch := omega) only [cU_ne, cU_eq, f64_v, sI_pl, sI_same, sI_tag, sI_2, sL_1, sL_tag, sL_same, sL_pl]
    exact cs s hs
  · simp (disch := omega) only [cU_ne, cU_eq, f64_v, sI_pl, sI_same, sI_tag, sI_2, sL_1, sL_tag, sL_same, sL_pl]; exact m9
  · simp (disch := omega) only [cU_ne, cU_eq, f64_v, sI_pl, sI_same, sI_tag, sI_2, sL_1, sL_tag, sL_same, sL_pl]; exact m10
  · simp (disch := omega) only [cU_ne, cU_eq, f64_v, sI_pl, sI_same, sI_tag, sI_2, sL_1, sL_tag, sL_same, sL_pl]; exact m11
/-- the marks first -/
def mkH (h : PH) (a b : Nat) : PH := pm_sI (pm_sI h 4 0 9 (nI a)) 4 0 10 (nI b)
theorem tells_101 {h : PH} {fc fr q : Nat} {v : Nat → Nat} (m9 : h.1 4 0 9 = nI fc) (m10 : h.1 4 0 10 = nI fr) (hfc : fc < 8) (hfr : fr < 8) (h0 : h.1 24 0 0 = nI (v 0)) (h1 : h.1 24 0 1 = nI (v 1)) (b0 : v 0 ≤ 7) (b1 : v 1 ≤ 7) (hq : 1 ≤ q ∧ q ≤ 4) : pm_ev (81, 0, [vr 4 0, vi (nI q), none], [], h) = pm_ev (81, 101, [vr 4 0, vi (nI q), vi (nI (8 * v 1 + v 0))], [], mkH h (max fc (v 0)) (max fr (v 1))) := by
  rw [E_X4_tellCoast, show (0 : Int32).toNatClampNeg = 0 from rfl, show (1 : Int32).toNatClampNeg = 1 from rfl, h0, h1, m9, m10, max_v (by omega) (by omega), max_v (by omega) (by omega), show (0 : Int32) = nI 0 from rfl, if_neg (fun z => by have := (nn_eq (by omega) (by decide)).mp z; omega), show (5 : Int32) = nI 5 from rfl, if_neg (fun z => by have := (nn_eq (by omega) (by decide)).mp z; omega), show (8 : Int32) = nI 8 from rfl, nI_mul, nI_add]
  rfl
theorem mkH_fr (h : PH) (a b : Nat) : frT h (mkH h a b) := (frT.s4 _ (by omega) _).tr (frT.s4 _ (by omega) _)
theorem mkH_C {h : PH} {a b : Nat} {c : AC} (hC : CoastC h 8 c) : CoastC (mkH h a b) 8 c := hC.fr (fun t k ht _ => by unfold mkH; rw [sI_tag _ _ _ _ _ _ (by omega), sI_tag _ _ _ _ _ _ (by omega)]) rfl
theorem mkH_9 (h : PH) (a b : Nat) : (mkH h a b).1 4 0 9 = nI a := by unfold mkH; rw [sI_pl _ _ _ _ _ (by decide), sI_same]
theorem mkH_10 (h : PH) (a b : Nat) : (mkH h a b).1 4 0 10 = nI b := by unfold mkH; rw [sI_same]
theorem mkH_11 (h : PH) (a b : Nat) : (mkH h a b).1 4 0 11 = h.1 4 0 11 := by unfold mkH; rw [sI_pl _ _ _ _ _ (by decide), sI_pl _ _ _ _ _ (by decide)]
theorem mkH_24 (h : PH) (a b k : Nat) : (mkH h a b).1 24 0 k = h.1 24 0 k := by unfold mkH; rw [sI_tag _ _ _ _ _ _ (by decide), sI_tag _ _ _ _ _ _ (by decide)]
theorem tellsC_1 {h : PH} {D : DD} {v : Nat → Nat} (hD : DcC h D) (hfc : D.2.1 < 8) (hfr : D.2.2.1 < 8) (h0 : h.1 24 0 0 = nI (v 0)) (h1 : h.1 24 0 1 = nI (v 1)) (b0 : v 0 ≤ 7) (b1 : v 1 ≤ 7) : ∃ h', pm_ev (81, 0, [vr 4 0, vi (nI 1), none], [], h) = some (none, h') ∧ DcC h' (aTell 1 v D) ∧ frT h h' := by
  obtain ⟨hC, m9, m10, m11⟩ := hD
  obtain ⟨c, fc, fr, fs⟩ := D
  dsimp only at hC m9 m10 m11 hfc hfr
  have st := tells_101 (q := 1) m9 m10 hfc hfr h0 h1 b0 b1 (by omega)
  obtain ⟨⟨c0, c1, c2, c3, c5, c8, cr⟩, cg, cs⟩ := mkH_C (a := max fc (v 0)) (b := max fr (v 1)) hC
  have k9 := mkH_9 h (max fc (v 0)) (max fr (v 1))
  have k10 := mkH_10 h (max fc (v 0)) (max fr (v 1))
  have k11 := (mkH_11 h (max fc (v 0)) (max fr (v 1))).trans m11
  have f1 := mkH_fr h (max fc (v 0)) (max fr (v 1))
  generalize mkH h (max fc (v 0)) (max fr (v 1)) = h1' at *
  refine ⟨pm_sI h1' 0 8 2 (nI (8 * v 1 + v 0)), ?_, ⟨⟨⟨?_, ?_, ?_, ?_, ?_, ?_, ?_⟩, fun g hg => ?_, fun s hs => ?_⟩, ?_, ?_, ?_⟩, f1.tr (frT.s8 _ (by omega) _ _)⟩
  · rw [st, E_X4_tellCoast_101, if_pos (by rfl), E_X4_tellCoast_182]
  all_goals (try (rw [show aTell 1 v (c, fc, fr, fs) = (cU (cU c 2 (f64 (v 0))) 3 (f64 (v 1)), max fc (v 0), max fr (v 1), fs) from rfl] at *))
  all_goals (dsimp only at *)
  · simp (disch := omega) only [cU_ne, cU_eq, f64_v, sI_pl, sI_same, sI_tag, sI_2, sL_1, sL_tag, sL_same, sL_pl]; exact c0
  · simp (disch := omega) only [cU_ne, cU_eq, f64_v, sI_pl, sI_same, sI_tag, sI_2, sL_1, sL_tag, sL_same, sL_pl]; exact c1
  · simp (disch := omega) only [cU_ne, cU_eq, f64_v, sI_pl, sI_same, sI_tag, sI_2, sL_1, sL_tag, sL_same, sL_pl]
  · simp (disch := omega) only [cU_ne, cU_eq, f64_v, sI_pl, sI_same, sI_tag, sI_2, sL_1, sL_tag, sL_same, sL_pl]; exact c3
  · simp (disch := omega) only [cU_ne, cU_eq, f64_v, sI_pl, sI_same, sI_tag, sI_2, sL_1, sL_tag, sL_same, sL_pl]; exact c5
  · simp (disch := omega) only [cU_ne, cU_eq, f64_v, sI_pl, sI_same, sI_tag, sI_2, sL_1, sL_tag, sL_same, sL_pl]; exact c8
  · simp (disch := omega) only [cU_ne, cU_eq, f64_v, sI_pl, sI_same, sI_tag, sI_2, sL_1, sL_tag, sL_same, sL_pl]; exact cr
  · simp (disch := omega) only [cU_ne] at hg
    simp (disch := omega) only [cU_ne, cU_eq, f64_v, sI_pl, sI_same, sI_tag, sI_2, sL_1, sL_tag, sL_same, sL_pl]
    exact cg g hg
  · simp (disch := omega) only [cU_ne] at hs
    simp (disch := omega) only [cU_ne, cU_eq, f64_v, sI_pl, sI_same, sI_tag, sI_2, sL_1, sL_tag, sL_same, sL_pl]
    exact cs s hs
  · simp (disch := omega) only [cU_ne, cU_eq, f64_v, sI_pl, sI_same, sI_tag, sI_2, sL_1, sL_tag, sL_same, sL_pl]; exact k9
  · simp (disch := omega) only [cU_ne, cU_eq, f64_v, sI_pl, sI_same, sI_tag, sI_2, sL_1, sL_tag, sL_same, sL_pl]; exact k10
  · simp (disch := omega) only [cU_ne, cU_eq, f64_v, sI_pl, sI_same, sI_tag, sI_2, sL_1, sL_tag, sL_same, sL_pl]; exact k11
theorem tellsC_2 {h : PH} {D : DD} {v : Nat → Nat} (hD : DcC h D) (hfc : D.2.1 < 8) (hfr : D.2.2.1 < 8) (h0 : h.1 24 0 0 = nI (v 0)) (h1 : h.1 24 0 1 = nI (v 1)) (b0 : v 0 ≤ 7) (b1 : v 1 ≤ 7) (h56 : (D.1 5).val ≤ 4 ∧ (D.1 6).val ≤ 4 ∧ ∀ s, s < (D.1 6).val → (D.1 (80+s)).val ≤ 4) : ∃ h', pm_ev (81, 0, [vr 4 0, vi (nI 2), none], [], h) = some (none, h') ∧ DcC h' (aTell 2 v D) ∧ frT h h' := by
  obtain ⟨hC, m9, m10, m11⟩ := hD
  obtain ⟨c, fc, fr, fs⟩ := D
  dsimp only at hC m9 m10 m11 hfc hfr h56
  obtain ⟨h5, h6, h80⟩ := h56
  have st := tells_101 (q := 2) m9 m10 hfc hfr h0 h1 b0 b1 (by omega)
  obtain ⟨⟨c0, c1, c2, c3, c5, c8, cr⟩, cg, cs⟩ := mkH_C (a := max fc (v 0)) (b := max fr (v 1)) hC
  have k9 := mkH_9 h (max fc (v 0)) (max fr (v 1))
  have k10 := mkH_10 h (max fc (v 0)) (max fr (v 1))
  have k11 := (mkH_11 h (max fc (v 0)) (max fr (v 1))).trans m11
  have f1 := mkH_fr h (max fc (v 0)) (max fr (v 1))
  generalize mkH h (max fc (v 0)) (max fr (v 1)) = h1' at *
  have sp : 8 * v 1 + v 0 < 64 := by omega
  refine ⟨pm_sL h1' 0 8 4 (lS (fun i => decide (((cU c (200+(8 * v 1 + v 0)) 1) (200+i)).val = 1))), ?_, ⟨⟨⟨?_, ?_, ?_, ?_, ?_, ?_, ?_⟩, fun g hg => ?_, fun s hs => ?_⟩, ?_, ?_, ?_⟩, f1.tr (frT.sL _ _ _)⟩
  · have e : lS (fun i => decide (((cU c (200+(8 * v 1 + v 0)) 1) (200+i)).val = 1)) = h1'.2 0 8 4 ||| ((1 : Int64) <<< ((nI (8 * v 1 + v 0)).toInt64 &&& 63)) := by
      rw [cr, lS_one sp, lS_or]
      refine lS_cong (fun i hi => ?_)
      by_cases z : i = 8 * v 1 + v 0
      · rw [z, cU_eq]; simp
      · rw [cU_ne c _ (by omega), decide_eq_false z, Bool.or_false]
    rw [e, st, E_X4_tellCoast_101, if_neg (by decide), if_pos (by rfl), E_X4_tellCoast_182]
  all_goals (try (rw [show aTell 2 v (c, fc, fr, fs) = (cU c (200+(8 * v 1 + v 0)) 1, max fc (v 0), max fr (v 1), fs) from rfl] at *))
  all_goals (dsimp only at *)
  · simp (disch := omega) only [cU_ne, cU_eq, f64_v, sI_pl, sI_same, sI_tag, sI_2, sL_1, sL_tag, sL_same, sL_pl]; exact c0
  · simp (disch := omega) only [cU_ne, cU_eq, f64_v, sI_pl, sI_same, sI_tag, sI_2, sL_1, sL_tag, sL_same, sL_pl]; exact c1
  · simp (disch := omega) only [cU_ne, cU_eq, f64_v, sI_pl, sI_same, sI_tag, sI_2, sL_1, sL_tag, sL_same, sL_pl]; exact c2
  · simp (disch := omega) only [cU_ne, cU_eq, f64_v, sI_pl, sI_same, sI_tag, sI_2, sL_1, sL_tag, sL_same, sL_pl]; exact c3
  · simp (disch := omega) only [cU_ne, cU_eq, f64_v, sI_pl, sI_same, sI_tag, sI_2, sL_1, sL_tag, sL_same, sL_pl]; exact c5
  · simp (disch := omega) only [cU_ne, cU_eq, f64_v, sI_pl, sI_same, sI_tag, sI_2, sL_1, sL_tag, sL_same, sL_pl]; exact c8
  · exact sL_same _ _ _ _ _
  · simp (disch := omega) only [cU_ne] at hg
    simp (disch := omega) only [cU_ne, cU_eq, f64_v, sI_pl, sI_same, sI_tag, sI_2, sL_1, sL_tag, sL_same, sL_pl]
    exact cg g hg
  · simp (disch := omega) only [cU_ne] at hs
    have h8 := h80 s hs
    obtain ⟨x1, x2⟩ := cs s hs
    refine ⟨?_, fun k hk => ?_⟩
    · simp (disch := omega) only [cU_ne, cU_eq, f64_v, sI_pl, sI_same, sI_tag, sI_2, sL_1, sL_tag, sL_same, sL_pl]; exact x1
    · simp (disch := omega) only [cU_ne] at hk
      simp (disch := omega) only [cU_ne, cU_eq, f64_v, sI_pl, sI_same, sI_tag, sI_2, sL_1, sL_tag, sL_same, sL_pl]; exact x2 k hk
  · simp (disch := omega) only [cU_ne, cU_eq, f64_v, sI_pl, sI_same, sI_tag, sI_2, sL_1, sL_tag, sL_same, sL_pl]; exact k9
  · simp (disch := omega) only [cU_ne, cU_eq, f64_v, sI_pl, sI_same, sI_tag, sI_2, sL_1, sL_tag, sL_same, sL_pl]; exact k10
  · simp (disch := omega) only [cU_ne, cU_eq, f64_v, sI_pl, sI_same, sI_tag, sI_2, sL_1, sL_tag, sL_same, sL_pl]; exact k11
theorem tellsC_3 {h : PH} {D : DD} {v : Nat → Nat} (hD : DcC h D) (hfc : D.2.1 < 8) (hfr : D.2.2.1 < 8) (h0 : h.1 24 0 0 = nI (v 0)) (h1 : h.1 24 0 1 = nI (v 1)) (h2 : h.1 24 0 2 = nI (v 2)) (b0 : v 0 ≤ 7) (b1 : v 1 ≤ 7) (b2 : v 2 ≤ 7) (h5 : (D.1 5).val < 4) (h56 : (D.1 6).val ≤ 4 ∧ ∀ s, s < (D.1 6).val → (D.1 (80+s)).val ≤ 4) : ∃ h', pm_ev (81, 0, [vr 4 0, vi (nI 3), none], [], h) = some (none, h') ∧ DcC h' (aTell 3 v D) ∧ frT h h' := by
  obtain ⟨hC, m9, m10, m11⟩ := hD
  obtain ⟨c, fc, fr, fs⟩ := D
  dsimp only at hC m9 m10 m11 hfc hfr h5 h56
  obtain ⟨h6, h80⟩ := h56
  have st := tells_101 (q := 3) m9 m10 hfc hfr h0 h1 b0 b1 (by omega)
  obtain ⟨⟨c0, c1, c2, c3, c5, c8, cr⟩, cg, cs⟩ := mkH_C (a := max fc (v 0)) (b := max fr (v 1)) hC
  have k9 := mkH_9 h (max fc (v 0)) (max fr (v 1))
  have k10 := mkH_10 h (max fc (v 0)) (max fr (v 1))
  have k11 := (mkH_11 h (max fc (v 0)) (max fr (v 1))).trans m11
  have k24 := (mkH_24 h (max fc (v 0)) (max fr (v 1)) 2).trans h2
  have f1 := mkH_fr h (max fc (v 0)) (max fr (v 1))
  generalize mkH h (max fc (v 0)) (max fr (v 1)) = h1' at *
  have sp : 8 * v 1 + v 0 < 64 := by omega
  refine ⟨pm_sI (pm_sI (pm_sI h1' 10 8 (c (5)).val (nI (8 * v 1 + v 0))) 11 8 (c (5)).val (nI (v 2))) 0 8 5 (nI ((c (5)).val + 1)), ?_, ⟨⟨⟨?_, ?_, ?_, ?_, ?_, ?_, ?_⟩, fun g hg => ?_, fun s hs => ?_⟩, ?_, ?_, ?_⟩, ((f1.tr (frT.s8 _ (by omega) _ _)).tr (frT.s8 _ (by omega) _ _)).tr (frT.s8 _ (by omega) _ _)⟩
  · have A : pm_ev (2, 0, [vr 0 8, vi (nI (8 * v 1 + v 0)), vi (nI (v 2))], [], h1') = some (none, pm_sI (pm_sI (pm_sI h1' 10 8 (c (5)).val (nI (8 * v 1 + v 0))) 11 8 (c (5)).val (nI (v 2))) 0 8 5 (nI ((c (5)).val + 1))) := by
      rw [E_X0_addGuard]
      simp (disch := omega) only [y_0, y_1, y_2, y_3, y_4, y_5, y_6, y_7, y_8, y_9, y_10, y_11, y_12, y_13, y_14, y_15, y_16, y_17, y_18, y_19, y_20, y_21, y_22, y_23, y_24, y_29, y_30, y_31, y_32, y_39, y_40, y_48, y_49, y_50, y_60, y_64, y_69, y_78, y_99, y_100, y_142, y_161, y_600, y_610, y_894, y_999, y_1000, y_1216, y_1276, neg1, neg2, nI_add, nI_mul, nn_sub, nn_lt, nn_le, nn_eq, in_lt, ni_lt, in_le, ni_le, in_eq, ni_eq, iI_lt, iI_le, iI_eq, nn_clamp, inb_n, t_lt, f_lt, t_le, f_le, t_eq, f_eq, ti_lt, fi_lt, ti_le, fi_le, ti_eq, fi_eq, ↓reduceIte, ite_true, ite_false, eq_self, decide_true, decide_false, Bool.true_and, Bool.and_true, Bool.false_and, Bool.and_false, Bool.true_or, Bool.or_true, Bool.false_or, Bool.or_false, bI_t, bI_f, bI_nand, n_mod, an11, an01, negn1, negn2, false_and, and_false, true_and, and_true, not_true_eq_false, not_false_eq_true, bI_n0, bI_n1, Bool.true_eq_false, Bool.false_eq_true, cI_s, cL_s, cV_s, cR_n, pm_bR_self, bI_ite, bL_ite, bV_ite, bR_ite, c5, E_X0_addGuard_18, sI_tag, E_X0_addGuard_28]
    rw [st, E_X4_tellCoast_101, if_neg (by decide), if_neg (by decide), if_pos (by rfl), show (2 : Int32).toNatClampNeg = 2 from rfl, k24, A, cV_s, E_X4_tellCoast_182]
  all_goals (try (rw [show aTell 3 v (c, fc, fr, fs) = (cU (cU (cU (cU c (10+(c (5)).val) (f64 (v 0))) (20+(c (5)).val) (f64 (v 1))) (30+(c (5)).val) (f64 (v 2))) 5 (f64 ((c (5)).val + 1)), max fc (v 0), max fr (v 1), fs) from rfl] at *))
  all_goals (dsimp only at *)
  · simp (disch := omega) only [cU_ne, cU_eq, f64_v, sI_pl, sI_same, sI_tag, sI_2, sL_1, sL_tag, sL_same, sL_pl]; exact c0
  · simp (disch := omega) only [cU_ne, cU_eq, f64_v, sI_pl, sI_same, sI_tag, sI_2, sL_1, sL_tag, sL_same, sL_pl]; exact c1
  · simp (disch := omega) only [cU_ne, cU_eq, f64_v, sI_pl, sI_same, sI_tag, sI_2, sL_1, sL_tag, sL_same, sL_pl]; exact c2
  · simp (disch := omega) only [cU_ne, cU_eq, f64_v, sI_pl, sI_same, sI_tag, sI_2, sL_1, sL_tag, sL_same, sL_pl]; exact c3
  · simp (disch := omega) only [cU_ne, cU_eq, f64_v, sI_pl, sI_same, sI_tag, sI_2, sL_1, sL_tag, sL_same, sL_pl]
  · simp (disch := omega) only [cU_ne, cU_eq, f64_v, sI_pl, sI_same, sI_tag, sI_2, sL_1, sL_tag, sL_same, sL_pl]; exact c8
  · simp (disch := omega) only [cU_ne, cU_eq, f64_v, sI_pl, sI_same, sI_tag, sI_2, sL_1, sL_tag, sL_same, sL_pl]; exact cr
  · rw [cU_eq, f64_v (by omega)] at hg
    by_cases z : g = (c (5)).val
    · subst z
      simp (disch := omega) only [cU_ne, cU_eq, f64_v, sI_pl, sI_same, sI_tag, sI_2, sL_1, sL_tag, sL_same, sL_pl, and_self]
    · simp (disch := omega) only [cU_ne, cU_eq, f64_v, sI_pl, sI_same, sI_tag, sI_2, sL_1, sL_tag, sL_same, sL_pl]
      exact cg g (by omega)
  · simp (disch := omega) only [cU_ne] at hs
    have h8 := h80 s hs
    obtain ⟨x1, x2⟩ := cs s hs
    refine ⟨?_, fun k hk => ?_⟩
    · simp (disch := omega) only [cU_ne, cU_eq, f64_v, sI_pl, sI_same, sI_tag, sI_2, sL_1, sL_tag, sL_same, sL_pl]; exact x1
    · simp (disch := omega) only [cU_ne] at hk
      simp (disch := omega) only [cU_ne, cU_eq, f64_v, sI_pl, sI_same, sI_tag, sI_2, sL_1, sL_tag, sL_same, sL_pl]; exact x2 k hk
  · simp (disch := omega) only [cU_ne, cU_eq, f64_v, sI_pl, sI_same, sI_tag, sI_2, sL_1, sL_tag, sL_same, sL_pl]; exact k9
  · simp (disch := omega) only [cU_ne, cU_eq, f64_v, sI_pl, sI_same, sI_tag, sI_2, sL_1, sL_tag, sL_same, sL_pl]; exact k10
  · simp (disch := omega) only [cU_ne, cU_eq, f64_v, sI_pl, sI_same, sI_tag, sI_2, sL_1, sL_tag, sL_same, sL_pl]; exact k11
theorem tellsC_4 {h : PH} {D : DD} {v : Nat → Nat} (hD : DcC h D) (hfc : D.2.1 < 8) (hfr : D.2.2.1 < 8) (h0 : h.1 24 0 0 = nI (v 0)) (h1 : h.1 24 0 1 = nI (v 1)) (h2 : h.1 24 0 2 = nI (v 2)) (h3 : h.1 24 0 3 = nI (v 3)) (b0 : v 0 ≤ 7) (b1 : v 1 ≤ 7) (b2 : v 2 ≤ 9) (b3 : v 3 ≤ 9) (h5 : (D.1 5).val ≤ 4) (h6 : (D.1 6).val < 4) (h80 : ∀ s, s < (D.1 6).val → (D.1 (80+s)).val ≤ 4) : ∃ h', pm_ev (81, 0, [vr 4 0, vi (nI 4), none], [], h) = some (none, h') ∧ DcC h' (aTell 4 v D) ∧ frT h h' := by
  obtain ⟨hC, m9, m10, m11⟩ := hD
  obtain ⟨c, fc, fr, fs⟩ := D
  dsimp only at hC m9 m10 m11 hfc hfr h5 h6 h80
  have st := tells_101 (q := 4) m9 m10 hfc hfr h0 h1 b0 b1 (by omega)
  obtain ⟨⟨c0, c1, c2, c3, c5, c8, cr⟩, cg, cs⟩ := mkH_C (a := max fc (v 0)) (b := max fr (v 1)) hC
  have k9 := mkH_9 h (max fc (v 0)) (max fr (v 1))
  have k10 := mkH_10 h (max fc (v 0)) (max fr (v 1))
  have k11 := (mkH_11 h (max fc (v 0)) (max fr (v 1))).trans m11
  have k24 := (mkH_24 h (max fc (v 0)) (max fr (v 1)) 2).trans h2
  have k25 := (mkH_24 h (max fc (v 0)) (max fr (v 1)) 3).trans h3
  have f1 := mkH_fr h (max fc (v 0)) (max fr (v 1))
  generalize mkH h (max fc (v 0)) (max fr (v 1)) = h1' at *
  have sp : 8 * v 1 + v 0 < 64 := by omega
  refine ⟨pm_sI (pm_sI (pm_sI (pm_sI (pm_sI h1' 12 8 (c (6)).val (nI (8 * v 1 + v 0))) 13 8 (c (6)).val (nI (v 2))) 14 8 (c (6)).val (nI (v 3))) 15 8 (c (6)).val (nI 0)) 0 8 8 (nI ((c (6)).val + 1)), ?_, ⟨⟨⟨?_, ?_, ?_, ?_, ?_, ?_, ?_⟩, fun g hg => ?_, fun s hs => ?_⟩, ?_, ?_, ?_⟩, ((((f1.tr (frT.s8 _ (by omega) _ _)).tr (frT.s8 _ (by omega) _ _)).tr (frT.s8 _ (by omega) _ _)).tr (frT.s8 _ (by omega) _ _)).tr (frT.s8 _ (by omega) _ _)⟩
  · have A : pm_ev (3, 0, [vr 0 8, vi (nI (8 * v 1 + v 0)), vi (nI (v 2)), vi (nI (v 3))], [], h1') = some (none, pm_sI (pm_sI (pm_sI (pm_sI (pm_sI h1' 12 8 (c (6)).val (nI (8 * v 1 + v 0))) 13 8 (c (6)).val (nI (v 2))) 14 8 (c (6)).val (nI (v 3))) 15 8 (c (6)).val (nI 0)) 0 8 8 (nI ((c (6)).val + 1))) := by
      rw [E_X0_addShip]
      simp (disch := omega) only [y_0, y_1, y_2, y_3, y_4, y_5, y_6, y_7, y_8, y_9, y_10, y_11, y_12, y_13, y_14, y_15, y_16, y_17, y_18, y_19, y_20, y_21, y_22, y_23, y_24, y_29, y_30, y_31, y_32, y_39, y_40, y_48, y_49, y_50, y_60, y_64, y_69, y_78, y_99, y_100, y_142, y_161, y_600, y_610, y_894, y_999, y_1000, y_1216, y_1276, neg1, neg2, nI_add, nI_mul, nn_sub, nn_lt, nn_le, nn_eq, in_lt, ni_lt, in_le, ni_le, in_eq, ni_eq, iI_lt, iI_le, iI_eq, nn_clamp, inb_n, t_lt, f_lt, t_le, f_le, t_eq, f_eq, ti_lt, fi_lt, ti_le, fi_le, ti_eq, fi_eq, ↓reduceIte, ite_true, ite_false, eq_self, decide_true, decide_false, Bool.true_and, Bool.and_true, Bool.false_and, Bool.and_false, Bool.true_or, Bool.or_true, Bool.false_or, Bool.or_false, bI_t, bI_f, bI_nand, n_mod, an11, an01, negn1, negn2, false_and, and_false, true_and, and_true, not_true_eq_false, not_false_eq_true, bI_n0, bI_n1, Bool.true_eq_false, Bool.false_eq_true, cI_s, cL_s, cV_s, cR_n, pm_bR_self, bI_ite, bL_ite, bV_ite, bR_ite, c8, E_X0_addShip_18, E_X0_addShip_28, E_X0_addShip_38, E_X0_addShip_48, sI_tag]
    rw [st, E_X4_tellCoast_101, if_neg (by decide), if_neg (by decide), if_neg (by decide), show (2 : Int32).toNatClampNeg = 2 from rfl, show (3 : Int32).toNatClampNeg = 3 from rfl, k24, k25, A, cV_s, E_X4_tellCoast_182]
  all_goals (try (rw [show aTell 4 v (c, fc, fr, fs) = (cU (cU (cU (cU (cU (cU c (40+(c (6)).val) (f64 (v 0))) (50+(c (6)).val) (f64 (v 1))) (60+(c (6)).val) (f64 (v 2))) (70+(c (6)).val) (f64 (v 3))) (80+(c (6)).val) 0) 6 (f64 ((c (6)).val + 1)), max fc (v 0), max fr (v 1), fs) from rfl] at *))
  all_goals (dsimp only at *)
  · simp (disch := omega) only [cU_ne, cU_eq, f64_v, sI_pl, sI_same, sI_tag, sI_2, sL_1, sL_tag, sL_same, sL_pl]; exact c0
  · simp (disch := omega) only [cU_ne, cU_eq, f64_v, sI_pl, sI_same, sI_tag, sI_2, sL_1, sL_tag, sL_same, sL_pl]; exact c1
  · simp (disch := omega) only [cU_ne, cU_eq, f64_v, sI_pl, sI_same, sI_tag, sI_2, sL_1, sL_tag, sL_same, sL_pl]; exact c2
  · simp (disch := omega) only [cU_ne, cU_eq, f64_v, sI_pl, sI_same, sI_tag, sI_2, sL_1, sL_tag, sL_same, sL_pl]; exact c3
  · simp (disch := omega) only [cU_ne, cU_eq, f64_v, sI_pl, sI_same, sI_tag, sI_2, sL_1, sL_tag, sL_same, sL_pl]; exact c5
  · simp (disch := omega) only [cU_ne, cU_eq, f64_v, sI_pl, sI_same, sI_tag, sI_2, sL_1, sL_tag, sL_same, sL_pl]
  · simp (disch := omega) only [cU_ne, cU_eq, f64_v, sI_pl, sI_same, sI_tag, sI_2, sL_1, sL_tag, sL_same, sL_pl]; exact cr
  · simp (disch := omega) only [cU_ne] at hg
    simp (disch := omega) only [cU_ne, cU_eq, f64_v, sI_pl, sI_same, sI_tag, sI_2, sL_1, sL_tag, sL_same, sL_pl]
    exact cg g hg
  · rw [cU_eq, f64_v (by omega)] at hs
    by_cases z : s = (c (6)).val
    · subst z
      refine ⟨?_, fun k hk => ?_⟩
      · simp (disch := omega) only [cU_ne, cU_eq, f64_v, sI_pl, sI_same, sI_tag, sI_2, sL_1, sL_tag, sL_same, sL_pl]
        exact ⟨trivial, trivial, trivial, rfl⟩
      · simp (disch := omega) only [cU_ne, cU_eq] at hk
        exact absurd hk (Nat.not_lt_zero _)
    · have h8 := h80 s (by omega)
      obtain ⟨x1, x2⟩ := cs s (by omega)
      refine ⟨?_, fun k hk => ?_⟩
      · simp (disch := omega) only [cU_ne, cU_eq, f64_v, sI_pl, sI_same, sI_tag, sI_2, sL_1, sL_tag, sL_same, sL_pl]; exact x1
      · simp (disch := omega) only [cU_ne] at hk
        simp (disch := omega) only [cU_ne, cU_eq, f64_v, sI_pl, sI_same, sI_tag, sI_2, sL_1, sL_tag, sL_same, sL_pl]; exact x2 k hk
  · simp (disch := omega) only [cU_ne, cU_eq, f64_v, sI_pl, sI_same, sI_tag, sI_2, sL_1, sL_tag, sL_same, sL_pl]; exact k9
  · simp (disch := omega) only [cU_ne, cU_eq, f64_v, sI_pl, sI_same, sI_tag, sI_2, sL_1, sL_tag, sL_same, sL_pl]; exact k10
  · simp (disch := omega) only [cU_ne, cU_eq, f64_v, sI_pl, sI_same, sI_tag, sI_2, sL_1, sL_tag, sL_same, sL_pl]; exact k11
