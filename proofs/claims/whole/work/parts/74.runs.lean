/-! ===== a night's deeds in their order ===== -/
def aDeed (nt : AC) (d : Nat) (σ : CrS) : Bool × CrS := aDo σ (nt (10+d)).val ((nt (100+d)).val - 1) ((nt (200+d)).val - 1) ((nt (300+d)).val - 1)
def aRun (nt : AC) (most : Nat) : Nat → Nat → CrS → Nat × CrS
  | 0, d, σ => (d, σ)
  | r + 1, d, σ => if d < most then (if (aDeed nt d σ).1 then aRun nt most r (d + 1) (aDeed nt d σ).2 else (d, (aDeed nt d σ).2)) else (d, σ)
theorem aRun_ge {nt : AC} {m : Nat} : ∀ r d σ, d + r ≤ m → aRun nt m r d σ = aRun nt (d + r) r d σ
  | 0, d, σ, _ => rfl
  | r + 1, d, σ, h => by
    rw [aRun, aRun, if_pos (show d < m by omega), if_pos (show d < d + (r + 1) by omega), aRun_ge r (d + 1) _ (by omega), show d + 1 + r = d + (r + 1) by omega]
theorem aRun_le {nt : AC} {m : Nat} : ∀ r d σ, d ≤ m → (aRun nt m r d σ).1 ≤ m ∧ (aRun nt m r d σ).1 ≤ d + r
  | 0, d, σ, h => ⟨h, Nat.le_refl _⟩
  | r + 1, d, σ, h => by
    rw [aRun]
    split
    · split
      · have := aRun_le (nt := nt) (m := m) r (d + 1) (aDeed nt d σ).2 (by omega)
        omega
      · exact ⟨h, by show d ≤ _; omega⟩
    · exact ⟨h, by show d ≤ _; omega⟩
theorem aDeed_V {nt : AC} (hn : nV nt) {d : Nat} (hd : d < (nt (0)).val) {σ : CrS} (hV : csV σ) : csV (aDeed nt d σ).2 := by
  obtain ⟨k1, k2, k3, k4⟩ := hn.2 d hd
  unfold aDeed
  by_cases q : (nt (10+d)).val = 1
  · exact aDo_V hV (fun _ => by have := k3 (by omega); omega) (by have := k4 q; omega)
  · unfold aDo
    split
    · split
      · rename_i q2; exact aPass_V hV q2
      · exact hV
    · rename_i q3
      have e : ∀ m m', aAct σ (nt (10+d)).val ((nt (100+d)).val - 1) ((nt (200+d)).val - 1) m = aAct σ (nt (10+d)).val ((nt (100+d)).val - 1) ((nt (200+d)).val - 1) m' := fun m m' => by
        unfold aAct
        rw [if_neg q, if_neg q]
      rw [e _ 0]
      exact aAct_V hV (fun z => by have := k3 z; omega) (by omega)
theorem follow_8 {nt : AC} (hn : nV nt) {j most : Nat} (hmost : most < 2147483648) : ∀ r d σ h, d + r = (nt (0)).val → csV σ → CouC h σ → NightC h j nt → ∃ h', pm_ev (30, 8, [vr 1 0, none, vr 3 j, vi (nI most), vi (nI d), none, none, none], [], h) = some (some (vi (nI (aRun nt most r d σ).1)), h') ∧ CouC h' (aRun nt most r d σ).2 ∧ csV (aRun nt most r d σ).2 ∧ Fr crT h h' := by
  have hn0 := hn.1
  intro r
  induction r with
  | zero =>
    intro d σ h hd hV hC hN
    refine ⟨h, ?_, hC, hV, Fr.rfl'⟩
    have c0 := hN.1
    rw [E_X1_follow_8]
    by_cases q : d < most
    · simp (disch := omega) only [y_0, y_1, y_2, y_3, y_4, y_5, y_6, y_7, y_8, y_9, y_10, y_11, y_12, y_13, y_14, y_15, y_16, y_17, y_18, y_19, y_20, y_21, y_22, y_23, y_24, y_29, y_30, y_31, y_32, y_39, y_40, y_48, y_49, y_50, y_60, y_64, y_69, y_78, y_99, y_100, y_142, y_161, y_600, y_610, y_894, y_999, y_1000, y_1216, y_1276, neg1, neg2, nI_add, nI_mul, nn_sub, nn_lt, nn_le, nn_eq, in_lt, ni_lt, in_le, ni_le, in_eq, ni_eq, iI_lt, iI_le, iI_eq, nn_clamp, inb_n, t_lt, f_lt, t_le, f_le, t_eq, f_eq, ti_lt, fi_lt, ti_le, fi_le, ti_eq, fi_eq, ↓reduceIte, ite_true, ite_false, eq_self, decide_true, decide_false, Bool.true_and, Bool.and_true, Bool.false_and, Bool.and_false, Bool.true_or, Bool.or_true, Bool.false_or, Bool.or_false, bI_t, bI_f, bI_nand, n_mod, an11, an01, negn1, negn2, false_and, and_false, true_and, and_true, not_true_eq_false, not_false_eq_true, bI_n0, bI_n1, Bool.true_eq_false, Bool.false_eq_true, cI_s, cL_s, cV_s, cR_n, pm_bR_self, bI_ite, bL_ite, bV_ite, bR_ite, c0, E_X1_follow_101]
      rfl
    · simp (disch := omega) only [y_0, y_1, y_2, y_3, y_4, y_5, y_6, y_7, y_8, y_9, y_10, y_11, y_12, y_13, y_14, y_15, y_16, y_17, y_18, y_19, y_20, y_21, y_22, y_23, y_24, y_29, y_30, y_31, y_32, y_39, y_40, y_48, y_49, y_50, y_60, y_64, y_69, y_78, y_99, y_100, y_142, y_161, y_600, y_610, y_894, y_999, y_1000, y_1216, y_1276, neg1, neg2, nI_add, nI_mul, nn_sub, nn_lt, nn_le, nn_eq, in_lt, ni_lt, in_le, ni_le, in_eq, ni_eq, iI_lt, iI_le, iI_eq, nn_clamp, inb_n, t_lt, f_lt, t_le, f_le, t_eq, f_eq, ti_lt, fi_lt, ti_le, fi_le, ti_eq, fi_eq, ↓reduceIte, ite_true, ite_false, eq_self, decide_true, decide_false, Bool.true_and, Bool.and_true, Bool.false_and, Bool.and_false, Bool.true_or, Bool.or_true, Bool.false_or, Bool.or_false, bI_t, bI_f, bI_nand, n_mod, an11, an01, negn1, negn2, false_and, and_false, true_and, and_true, not_true_eq_false, not_false_eq_true, bI_n0, bI_n1, Bool.true_eq_false, Bool.false_eq_true, cI_s, cL_s, cV_s, cR_n, pm_bR_self, bI_ite, bL_ite, bV_ite, bR_ite, E_X1_follow_101]
      rfl
  | succ r ih =>
    intro d σ h hd hV hC hN
    have hd2 : d < (nt (0)).val := by omega
    obtain ⟨c0, ck⟩ := id hN
    obtain ⟨e0, e1, e2, e3⟩ := ck d hd2
    obtain ⟨k1, k2, k3, k4⟩ := hn.2 d hd2
    have dV := aDeed_V hn hd2 hV
    rw [aRun]
    by_cases q : d < most
    · rw [if_pos q]
      have st : pm_ev (30, 8, [vr 1 0, none, vr 3 j, vi (nI most), vi (nI d), none, none, none], [], h) = pm_ev (30, 45, [vr 1 0, none, vr 3 j, vi (nI most), vi (nI d), vi (nI (nt (10+d)).val), vi (nI (3*d)), none], [vi (iI (((nt (100+d)).val : Int) - 1))], h) := by
        rw [E_X1_follow_8]
        simp (disch := omega) only [y_0, y_1, y_2, y_3, y_4, y_5, y_6, y_7, y_8, y_9, y_10, y_11, y_12, y_13, y_14, y_15, y_16, y_17, y_18, y_19, y_20, y_21, y_22, y_23, y_24, y_29, y_30, y_31, y_32, y_39, y_40, y_48, y_49, y_50, y_60, y_64, y_69, y_78, y_99, y_100, y_142, y_161, y_600, y_610, y_894, y_999, y_1000, y_1216, y_1276, neg1, neg2, nI_add, nI_mul, nn_sub, nn_lt, nn_le, nn_eq, in_lt, ni_lt, in_le, ni_le, in_eq, ni_eq, iI_lt, iI_le, iI_eq, nn_clamp, inb_n, t_lt, f_lt, t_le, f_le, t_eq, f_eq, ti_lt, fi_lt, ti_le, fi_le, ti_eq, fi_eq, ↓reduceIte, ite_true, ite_false, eq_self, decide_true, decide_false, Bool.true_and, Bool.and_true, Bool.false_and, Bool.and_false, Bool.true_or, Bool.or_true, Bool.false_or, Bool.or_false, bI_t, bI_f, bI_nand, n_mod, an11, an01, negn1, negn2, false_and, and_false, true_and, and_true, not_true_eq_false, not_false_eq_true, bI_n0, bI_n1, Bool.true_eq_false, Bool.false_eq_true, cI_s, cL_s, cV_s, cR_n, pm_bR_self, bI_ite, bL_ite, bV_ite, bR_ite, c0, e0, E_X1_follow_30, e1]
      rw [st]
      -- what the deed does
      have A : ∃ h', (∃ ok, ok = (aDeed nt d σ).1 ∧ pm_ev (30, 45, [vr 1 0, none, vr 3 j, vi (nI most), vi (nI d), vi (nI (nt (10+d)).val), vi (nI (3*d)), none], [vi (iI (((nt (100+d)).val : Int) - 1))], h) = (if bI ok = 0 then pm_ev (30, 101, [none, none, none, none, vi (nI d), none, none, none], [], h') else pm_ev (30, 95, [vr 1 0, none, vr 3 j, vi (nI most), vi (nI d), none, none, none], [], h'))) ∧ CouC h' (aDeed nt d σ).2 ∧ kC h h' := by
        by_cases k3' : (nt (10+d)).val = 3
        · unfold aDeed aDo
          rw [if_pos k3', E_X1_follow_45, k3', if_pos (show nI 3 = (3 : Int32) from rfl)]
          by_cases hh : σ.2.1 < 23
          · obtain ⟨h', e, hC', f⟩ := pass_C hV hC hh
            rw [if_pos hh, e, cI_s]
            exact ⟨h', ⟨true, rfl, rfl⟩, hC', f⟩
          · have h24 := hV.2.1
            rw [if_neg hh, pass_C0 hC (by omega), cI_s]
            exact ⟨h, ⟨false, rfl, rfl⟩, hC, kC.rf h⟩
        · obtain ⟨s1, s2⟩ := k2 k3'
          unfold aDeed aDo
          rw [if_neg k3', E_X1_follow_45, show (3 : Int32) = nI 3 from rfl, if_neg (fun z => k3' ((nn_eq (by omega) (by omega)).mp z))]
          obtain ⟨h', e, hC', f⟩ := act_C hV hC (kd := (nt (10+d)).val) (s := (nt (100+d)).val - 1) (b := (nt (200+d)).val - 1) (m := (nt (300+d)).val - 1) (by omega) (by omega) (iI (((nt (200+d)).val : Int) - 1)) (iI (((nt (300+d)).val : Int) - 1)) (fun z => by
            have := k3 z
            exact ⟨by rw [iI_toNat (by omega)]; congr 1; omega, by omega⟩) (fun z => by
            have := k4 z
            exact ⟨by rw [iI_toNat (by omega)]; congr 1; omega, by omega⟩)
          refine ⟨h', ⟨_, rfl, ?_⟩, hC', f⟩
          rw [show iI (((nt (100+d)).val : Int) - 1) = nI ((nt (100+d)).val - 1) by rw [iI_toNat (by omega)]; congr 1; omega]
          have g1 : (if pm_inb (nI (3 * d) + 1) 120 = true then pm_ev (30, 77, [vr 1 0, none, vr 3 j, vi (nI most), vi (nI d), vi (nI (nt (10+d)).val), vi (nI (3 * d)), vi (nI ((nt (100+d)).val - 1))], [vi (h.1 23 j ((nI (3 * d) + 1).toNatClampNeg)), vi (nI ((nt (100+d)).val - 1)), vi (nI (nt (10+d)).val), vr 1 0], h) else none) = pm_ev (30, 86, [vr 1 0, none, vr 3 j, vi (nI most), vi (nI d), vi (nI (nt (10+d)).val), vi (nI (3 * d)), vi (nI ((nt (100+d)).val - 1))], [vi (iI (((nt (300+d)).val : Int) - 1)), vi (iI (((nt (200+d)).val : Int) - 1)), vi (nI ((nt (100+d)).val - 1)), vi (nI (nt (10+d)).val), vr 1 0], h) := by
            rw [show (1 : Int32) = nI 1 from rfl, nI_add, if_pos (inb_n (by omega) (by omega)), nn_clamp (by omega), e2, E_X1_follow_77, show (2 : Int32) = nI 2 from rfl, nI_add, if_pos (inb_n (by omega) (by omega)), nn_clamp (by omega), e3]
          rw [g1, E_X1_follow_86, e, cI_s]
      obtain ⟨h1, ⟨ok, eok, e⟩, hC1, f1⟩ := A
      rw [e, ← eok]
      cases ok
      · refine ⟨h1, ?_, hC1, dV, f1.1⟩
        rw [if_pos (by rfl), E_X1_follow_101]
        rfl
      · obtain ⟨h', e', hC', hV', f'⟩ := ih (d + 1) (aDeed nt d σ).2 h1 (by omega) dV hC1 (hN.cr f1.1)
        refine ⟨h', ?_, hC', hV', f1.1.tr f'⟩
        rw [if_neg (by decide), E_X1_follow_95, show (1 : Int32) = nI 1 from rfl, nI_add]
        exact e'
    · rw [if_neg q]
      refine ⟨h, ?_, hC, hV, Fr.rfl'⟩
      rw [E_X1_follow_8]
      simp (disch := omega) only [y_0, y_1, y_2, y_3, y_4, y_5, y_6, y_7, y_8, y_9, y_10, y_11, y_12, y_13, y_14, y_15, y_16, y_17, y_18, y_19, y_20, y_21, y_22, y_23, y_24, y_29, y_30, y_31, y_32, y_39, y_40, y_48, y_49, y_50, y_60, y_64, y_69, y_78, y_99, y_100, y_142, y_161, y_600, y_610, y_894, y_999, y_1000, y_1216, y_1276, neg1, neg2, nI_add, nI_mul, nn_sub, nn_lt, nn_le, nn_eq, in_lt, ni_lt, in_le, ni_le, in_eq, ni_eq, iI_lt, iI_le, iI_eq, nn_clamp, inb_n, t_lt, f_lt, t_le, f_le, t_eq, f_eq, ti_lt, fi_lt, ti_le, fi_le, ti_eq, fi_eq, ↓reduceIte, ite_true, ite_false, eq_self, decide_true, decide_false, Bool.true_and, Bool.and_true, Bool.false_and, Bool.and_false, Bool.true_or, Bool.or_true, Bool.false_or, Bool.or_false, bI_t, bI_f, bI_nand, n_mod, an11, an01, negn1, negn2, false_and, and_false, true_and, and_true, not_true_eq_false, not_false_eq_true, bI_n0, bI_n1, Bool.true_eq_false, Bool.false_eq_true, cI_s, cL_s, cV_s, cR_n, pm_bR_self, bI_ite, bL_ite, bV_ite, bR_ite, E_X1_follow_101]
theorem runs_4 {nt : AC} (hn : nV nt) {a b most : Nat} (hmost : most < 2147483648) : ∀ r d σ g, d + r = (nt (0)).val → csV σ → CouM g a σ → NightM g b nt → g.1 8 0 20 = nI b → g.1 8 0 26 = nI d → ∃ g', pm_ev (214, 4, [vr 8 0, vi (nI most)], [], g) = some (none, g') ∧ CouM g' a (aRun nt most r d σ).2 ∧ g'.1 8 0 26 = nI (aRun nt most r d σ).1 ∧ Fr scM g g' := by
  have hn0 := hn.1
  intro r
  induction r with
  | zero =>
    intro d σ g hd hV hM hN h20 h26
    refine ⟨g, ?_, hM, h26, Fr.rfl'⟩
    obtain ⟨⟨m0, ha⟩, _⟩ := hN
    rw [E_X9_runs_4]
    by_cases q : d < most
    · simp (disch := omega) only [y_0, y_1, y_2, y_3, y_4, y_5, y_6, y_7, y_8, y_9, y_10, y_11, y_12, y_13, y_14, y_15, y_16, y_17, y_18, y_19, y_20, y_21, y_22, y_23, y_24, y_29, y_30, y_31, y_32, y_39, y_40, y_48, y_49, y_50, y_60, y_64, y_69, y_78, y_99, y_100, y_142, y_161, y_600, y_610, y_894, y_999, y_1000, y_1216, y_1276, neg1, neg2, nI_add, nI_mul, nn_sub, nn_lt, nn_le, nn_eq, in_lt, ni_lt, in_le, ni_le, in_eq, ni_eq, iI_lt, iI_le, iI_eq, nn_clamp, inb_n, t_lt, f_lt, t_le, f_le, t_eq, f_eq, ti_lt, fi_lt, ti_le, fi_le, ti_eq, fi_eq, ↓reduceIte, ite_true, ite_false, eq_self, decide_true, decide_false, Bool.true_and, Bool.and_true, Bool.false_and, Bool.and_false, Bool.true_or, Bool.or_true, Bool.false_or, Bool.or_false, bI_t, bI_f, bI_nand, n_mod, an11, an01, negn1, negn2, false_and, and_false, true_and, and_true, not_true_eq_false, not_false_eq_true, bI_n0, bI_n1, Bool.true_eq_false, Bool.false_eq_true, cI_s, cL_s, cV_s, cR_n, pm_bR_self, bI_ite, bL_ite, bV_ite, bR_ite, h26, h20, m0, E_X9_runs_25]
    · simp (disch := omega) only [y_0, y_1, y_2, y_3, y_4, y_5, y_6, y_7, y_8, y_9, y_10, y_11, y_12, y_13, y_14, y_15, y_16, y_17, y_18, y_19, y_20, y_21, y_22, y_23, y_24, y_29, y_30, y_31, y_32, y_39, y_40, y_48, y_49, y_50, y_60, y_64, y_69, y_78, y_99, y_100, y_142, y_161, y_600, y_610, y_894, y_999, y_1000, y_1216, y_1276, neg1, neg2, nI_add, nI_mul, nn_sub, nn_lt, nn_le, nn_eq, in_lt, ni_lt, in_le, ni_le, in_eq, ni_eq, iI_lt, iI_le, iI_eq, nn_clamp, inb_n, t_lt, f_lt, t_le, f_le, t_eq, f_eq, ti_lt, fi_lt, ti_le, fi_le, ti_eq, fi_eq, ↓reduceIte, ite_true, ite_false, eq_self, decide_true, decide_false, Bool.true_and, Bool.and_true, Bool.false_and, Bool.and_false, Bool.true_or, Bool.or_true, Bool.false_or, Bool.or_false, bI_t, bI_f, bI_nand, n_mod, an11, an01, negn1, negn2, false_and, and_false, true_and, and_true, not_true_eq_false, not_false_eq_true, bI_n0, bI_n1, Bool.true_eq_false, Bool.false_eq_true, cI_s, cL_s, cV_s, cR_n, pm_bR_self, bI_ite, bL_ite, bV_ite, bR_ite, h26]
  | succ r ih =>
    intro d σ g hd hV hM hN h20 h26
    have hd2 : d < (nt (0)).val := by omega
    obtain ⟨⟨m0, ha⟩, mk⟩ := id hN
    obtain ⟨e0, e1, e2, e3⟩ := mk d hd2
    obtain ⟨k1, k2, k3, k4⟩ := hn.2 d hd2
    have dV := aDeed_V hn hd2 hV
    rw [aRun]
    by_cases q : d < most
    · rw [if_pos q]
      have st : pm_ev (214, 4, [vr 8 0, vi (nI most)], [], g) = pm_bI (pm_ev (213, 0, [vr 8 0, vi (nI (nt (10+d)).val), vi (iI (((nt (100+d)).val : Int) - 1)), vi (iI (((nt (200+d)).val : Int) - 1)), vi (iI (((nt (300+d)).val : Int) - 1)), none], [], g)) fun r3 h2 => (if r3 = 0 then some (none, h2) else pm_ev (214, 4, [vr 8 0, vi (nI most)], [], (pm_sI h2 8 0 26 ((h2.1 8 0 26) + 1)))) := by
        rw [E_X9_runs_4, h26, if_pos ((nn_lt (by omega) (by omega)).mpr q), h20, if_pos (inb_n (by omega) (by omega)), nn_clamp (by omega), m0, E_X9_runs_25, if_pos ((nn_lt (by omega) (by omega)).mpr hd2), h20, h26, show (1 : Int32) = nI 1 from rfl, show (4 : Int32) = nI 4 from rfl, nI_mul, nI_add, nI_add, if_pos (inb_n (by omega) (by omega)), nn_clamp (by omega), e0, E_X9_runs_47, h20, h26, show (2 : Int32) = nI 2 from rfl, show (4 : Int32) = nI 4 from rfl, nI_mul, nI_add, nI_add, if_pos (inb_n (by omega) (by omega)), nn_clamp (by omega), e1, E_X9_runs_65, h20, h26, show (3 : Int32) = nI 3 from rfl, show (4 : Int32) = nI 4 from rfl, nI_mul, nI_add, nI_add, if_pos (inb_n (by omega) (by omega)), nn_clamp (by omega), e2, E_X9_runs_83, h20, h26, show (4 : Int32) = nI 4 from rfl, nI_mul, nI_add, nI_add, if_pos (inb_n (by omega) (by omega)), nn_clamp (by omega), e3, E_X9_runs_101]
        rfl
      have D : ∃ g', pm_ev (213, 0, [vr 8 0, vi (nI (nt (10+d)).val), vi (iI (((nt (100+d)).val : Int) - 1)), vi (iI (((nt (200+d)).val : Int) - 1)), vi (iI (((nt (300+d)).val : Int) - 1)), none], [], g) = some (some (vi (bI (aDeed nt d σ).1)), g') ∧ CouM g' a (aDeed nt d σ).2 ∧ kM g g' := by
        by_cases k3' : (nt (10+d)).val = 3
        · obtain ⟨g', e, hM', f⟩ := does_M hV hM (kd := (nt (10+d)).val) (s := 0) (b := (nt (200+d)).val - 1) (m := (nt (300+d)).val - 1) (by omega) (by omega) (iI (((nt (100+d)).val : Int) - 1)) (iI (((nt (200+d)).val : Int) - 1)) (iI (((nt (300+d)).val : Int) - 1)) (fun z => absurd k3' z) (fun z => by omega) (fun z => by omega)
          have ee : aDo σ (nt (10+d)).val 0 ((nt (200+d)).val - 1) ((nt (300+d)).val - 1) = aDeed nt d σ := by unfold aDeed aDo; rw [if_pos k3', if_pos k3']
          rw [ee] at e hM'
          exact ⟨g', e, hM', f⟩
        · obtain ⟨s1, s2⟩ := k2 k3'
          exact does_M hV hM (kd := (nt (10+d)).val) (s := (nt (100+d)).val - 1) (b := (nt (200+d)).val - 1) (m := (nt (300+d)).val - 1) (by omega) (by omega) (iI (((nt (100+d)).val : Int) - 1)) (iI (((nt (200+d)).val : Int) - 1)) (iI (((nt (300+d)).val : Int) - 1)) (fun _ => by rw [iI_toNat (by omega)]; congr 1; omega) (fun z => by
            have := k3 z
            exact ⟨by rw [iI_toNat (by omega)]; congr 1; omega, by omega⟩) (fun z => by
            have := k4 z
            exact ⟨by rw [iI_toNat (by omega)]; congr 1; omega, by omega⟩)
      obtain ⟨g1, e, hM1, f1⟩ := D
      rw [st, e, cI_s]
      have h261 : g1.1 8 0 26 = nI d := (f1.2 26 (by omega)).trans h26
      cases (aDeed nt d σ).1
      · refine ⟨g1, ?_, hM1, h261, f1.1⟩
        rw [if_pos (by rfl)]
      · have f2 : Fr scM g1 (pm_sI g1 8 0 26 (nI (d + 1))) := Fr.sI _ _ _ rfl
        have m33 : ∀ k, (pm_sI g1 8 0 26 (nI (d + 1))).1 33 0 k = g.1 33 0 k := fun k => (sI_tag _ _ _ _ _ _ (by decide)).trans (f1.1 33 0 rfl k).1
        obtain ⟨g', e', hM', h26', f'⟩ := ih (d + 1) (aDeed nt d σ).2 (pm_sI g1 8 0 26 (nI (d + 1))) (by omega) dV (hM1.fr (fun t k ht => sI_tag _ _ _ _ _ _ ht) (fun k hk => sI_pl _ _ _ _ _ (by omega))) (hN.fr m33) (by rw [sI_pl _ _ _ _ _ (by decide)]; exact (f1.2 20 (by omega)).trans h20) (sI_same _ _ _ _ _)
        refine ⟨g', ?_, hM', h26', (f1.1.tr f2).tr f'⟩
        rw [if_neg (by decide), h261, show (1 : Int32) = nI 1 from rfl, nI_add]
        exact e'
    · rw [if_neg q]
      refine ⟨g, ?_, hM, h26, Fr.rfl'⟩
      rw [E_X9_runs_4]
      simp (disch := omega) only [y_0, y_1, y_2, y_3, y_4, y_5, y_6, y_7, y_8, y_9, y_10, y_11, y_12, y_13, y_14, y_15, y_16, y_17, y_18, y_19, y_20, y_21, y_22, y_23, y_24, y_29, y_30, y_31, y_32, y_39, y_40, y_48, y_49, y_50, y_60, y_64, y_69, y_78, y_99, y_100, y_142, y_161, y_600, y_610, y_894, y_999, y_1000, y_1216, y_1276, neg1, neg2, nI_add, nI_mul, nn_sub, nn_lt, nn_le, nn_eq, in_lt, ni_lt, in_le, ni_le, in_eq, ni_eq, iI_lt, iI_le, iI_eq, nn_clamp, inb_n, t_lt, f_lt, t_le, f_le, t_eq, f_eq, ti_lt, fi_lt, ti_le, fi_le, ti_eq, fi_eq, ↓reduceIte, ite_true, ite_false, eq_self, decide_true, decide_false, Bool.true_and, Bool.and_true, Bool.false_and, Bool.and_false, Bool.true_or, Bool.or_true, Bool.false_or, Bool.or_false, bI_t, bI_f, bI_nand, n_mod, an11, an01, negn1, negn2, false_and, and_false, true_and, and_true, not_true_eq_false, not_false_eq_true, bI_n0, bI_n1, Bool.true_eq_false, Bool.false_eq_true, cI_s, cL_s, cV_s, cR_n, pm_bR_self, bI_ite, bL_ite, bV_ite, bR_ite, h26]
theorem csV0 {c : AC} (hv : cV c) : csV (c, 0, 0, 0, 0) := ⟨hv, show 0 < 24 by decide, show 0 < 16 by decide, show 0 < 16 by decide, show 0 < 16 by decide⟩
theorem follow_C {h : PH} {c nt : AC} (hv : cV c) (hn : nV nt) {i j most : Nat} (hi : i ≠ 9) (hmost : most < 2147483648) (hC : CoastC h i c) (hN : NightC h j nt) : ∃ h', pm_ev (30, 0, [vr 1 0, vr 0 i, vr 3 j, vi (nI most), none, none, none, none], [], h) = some (some (vi (nI (aRun nt most (nt (0)).val 0 (c, 0, 0, 0, 0)).1)), h') ∧ CouC h' (aRun nt most (nt (0)).val 0 (c, 0, 0, 0, 0)).2 ∧ csV (aRun nt most (nt (0)).val 0 (c, 0, 0, 0, 0)).2 ∧ Fr scC h h' := by
  obtain ⟨h1, e1, hC1, f1⟩ := begin_C hv hC hi
  obtain ⟨h', e, hC', hV', f⟩ := follow_8 hn hmost _ 0 _ h1 (Nat.zero_add _) (csV0 hv) hC1 (hN.cr f1)
  refine ⟨h', ?_, hC', hV', (f1.tr f).mono (fun _ _ => crT_scC)⟩
  rw [E_X1_follow, e1, cV_s]
  exact e
theorem runs_M {g : PH} {a b : Nat} {c nt : AC} (hv : cV c) (hn : nV nt) {most : Nat} (hmost : most < 2147483648) (hm : ModS g a c) (hd : CoastMd g a c) (hN : NightM g b nt) (h20 : g.1 8 0 20 = nI b) : ∃ g', pm_ev (214, 0, [vr 8 0, vi (nI most)], [], g) = some (none, g') ∧ CouM g' a (aRun nt most (nt (0)).val 0 (c, 0, 0, 0, 0)).2 ∧ g'.1 8 0 26 = nI (aRun nt most (nt (0)).val 0 (c, 0, 0, 0, 0)).1 ∧ Fr scM g g' := by
  obtain ⟨g1, e1, hM1, h26, f1, k1⟩ := begins_M hv hm hd
  obtain ⟨g', e, hM', h26', f⟩ := runs_4 hn hmost _ 0 _ g1 (Nat.zero_add _) (csV0 hv) hM1 (hN.fr (fun k => (f1 33 0 rfl k).1)) ((k1 20 (by omega)).trans h20) h26
  refine ⟨g', ?_, hM', h26', f1.tr f⟩
  rw [E_X9_runs, e1, cV_s]
  exact e
/-- a question about a coast and a night -/
theorem ask4 {h : PH} (hI : NowC h) (hJ : NowN h) {a b : Int32} {w : PV} {σC σM : PH → PS} {F : Nat → Nat → PH → Option PR} {G : Int32 → PH → Option PR} {N2 : PH → Option PR}
    (eC : pm_ev (σC h) = pm_bR (pm_ev (138, 0, [vr 7 0, vi a], [], h)) 0 (fun h1 => pm_bR (pm_ev (139, 0, [vr 7 0, vi b], [], h1)) 3 (fun h3 => some (some w, h3)) fun _ h3 => some (some w, h3)) fun o2 h1 => pm_bR (pm_ev (139, 0, [vr 7 0, vi b], [], h1)) 3 (fun h5 => some (some w, h5)) fun o6 h5 => F o2 o6 h5)
    (eM : ∀ h, pm_ev (σM h) = pm_bI (pm_ev (185, 0, [vr 8 0, vi a], [], h)) (fun r h1 => if r = 0 then N2 h1 else pm_bI (pm_ev (198, 0, [vr 8 0, vi b], [], h1)) fun r4 h3 => G r4 h3))
    (hN2 : ∀ h, N2 h = some (some w, h)) (hG : ∀ h, G (nI 0) h = some (some w, h))
    (K : ∀ (i j : Nat) (c nt : AC), i < 2 → j < 2 → cV c → nV nt → CoastC h i c → NightC h j nt → ∃ v h1, F i j h = some (some v, h1) ∧ Fr scC h h1 ∧ ∀ g, ModS g (610 + 142 * i) c → CoastMd g (610 + 142 * i) c → NightM g (894 + 161 * j) nt → g.1 8 0 20 = nI (894 + 161 * j) → ∃ g', G (nI 1) g = some (some v, g') ∧ Fr scM g g') : Same2 σC σM h := by
  obtain ⟨nn, hnn, n1, n2, hni⟩ := hJ
  -- the night of the class
  have nC : (pm_ev (139, 0, [vr 7 0, vi b], [], h) = some (some vn, h) ∧ ∀ g, g.1 33 0 1 = nI nn → pm_ev (198, 0, [vr 8 0, vi b], [], g) = some (some (vi (nI 0)), g)) ∨ ∃ j nt, j < 2 ∧ nV nt ∧ NightC h j nt ∧ NightM h (894 + 161 * j) nt ∧ pm_ev (139, 0, [vr 7 0, vi b], [], h) = some (some (vr 3 j), h) ∧ ∀ g, g.1 33 0 1 = nI nn → pm_ev (198, 0, [vr 8 0, vi b], [], g) = some (some (vi (nI 1)), pm_sI g 8 0 20 (nI (894 + 161 * j))) := by
    rcases ix b (show nn < 2147483648 by omega) with ⟨z, rfl, z1, z2⟩ | ⟨k, rfl, k1, k2⟩ | ⟨k, rfl, hk⟩
    · exact Or.inl ⟨nightAt_neg h z1 z2, fun g hg => isNight_no hg hnn z1 (by omega) (by omega)⟩
    · refine Or.inl ⟨nightAt_big n1 k1 k2, fun g hg => ?_⟩
      rw [← iI_nat]
      exact isNight_no hg hnn (by omega) (by omega) (by omega)
    · obtain ⟨nt, v1, v2, v3⟩ := hni k hk
      exact Or.inr ⟨k, nt, by omega, v1, v2, v3, nightAt_in n1 hnn hk, fun g hg => isNight_yes hg hnn hk⟩
  obtain ⟨nc, hnc, m1, m2, hco⟩ := hI
  have noC : pm_ev (138, 0, [vr 7 0, vi a], [], h) = some (some vn, h) → pm_ev (185, 0, [vr 8 0, vi a], [], h) = some (some (vi (nI 0)), h) → Same2 σC σM h := fun e1 e2 => by
    refine ⟨w, h, h, ?_, ?_, Fr.rfl', Fr.rfl'⟩
    · rw [eC, e1, bR_n]
      rcases nC with ⟨x1, _⟩ | ⟨j, nt, _, _, _, _, x1, _⟩
      · rw [x1, bR_n]
      · rw [x1, pm_bR_self]
    · rw [eM, e2, bI_s, if_pos (by rfl), hN2]
  rcases ix a (show nc < 2147483648 by omega) with ⟨z, rfl, z1, z2⟩ | ⟨k, rfl, k1, k2⟩ | ⟨k, rfl, hk⟩
  · exact noC (coastAt_neg h z1 z2) (isCoast_neg m2 hnc z1 z2)
  · exact noC (coastAt_big m1 k1 k2) (isCoast_big m2 hnc k1 k2)
  · obtain ⟨c, hv, hC, hMs, hMd⟩ := hco k hk
    rcases nC with ⟨x1, x2⟩ | ⟨j, nt, hj, hn, hNC, hNM, x1, x2⟩
    · refine ⟨w, h, isCoastH h (610 + 142 * k) c, ?_, ?_, Fr.rfl', isCoastH_fr h _ c⟩
      · rw [eC, coastAt_in m1 hnc hk, pm_bR_self, x1, bR_n]
      · rw [eM, isCoast_yes m2 hnc hk hMs, bI_s, if_neg (by decide), x2 _ (by rw [isCoastH_ne _ _ _ _ _ (by decide)]; exact n2), bI_s, hG]
    · obtain ⟨v, h1, e1, f1, hK⟩ := K k j c nt (by omega) hj hv hn hC hNC
      have m33 : ∀ x, h1.1 33 0 x = h.1 33 0 x := fun x => (f1 33 0 rfl x).1
      have hMs1 := hMs.fr m33
      have hMd1 := hMd.fr m33
      have t33 : ∀ x, (pm_sI (isCoastH h1 (610 + 142 * k) c) 8 0 20 (nI (894 + 161 * j))).1 33 0 x = h1.1 33 0 x := fun x => (sI_tag _ _ _ _ _ _ (by decide)).trans (isCoastH_ne h1 _ c 0 x (by decide))
      have hm := (isCoastH_m hMs1).fr (h' := pm_sI (isCoastH h1 (610 + 142 * k) c) 8 0 20 (nI (894 + 161 * j))) (fun x => sI_tag _ _ _ _ _ _ (by decide)) (fun x _ _ => sI_pl _ _ _ _ _ (by omega))
      obtain ⟨g', e2, f2⟩ := hK _ hm (hMd1.fr t33) ((hNM.fr m33).fr t33) (sI_same _ _ _ _ _)
      refine ⟨v, h1, g', ?_, ?_, f1, ((isCoastH_fr h1 _ c).tr (Fr.sI _ _ _ rfl)).tr f2⟩
      · rw [eC, coastAt_in m1 hnc hk, pm_bR_self, x1, pm_bR_self]; exact e1
      · rw [eM, isCoast_yes ((m33 0).trans m2) hnc hk hMs1, bI_s, if_neg (by decide), x2 _ (by rw [isCoastH_ne _ _ _ _ _ (by decide), m33]; exact n2), bI_s]; exact e2
theorem q_stop {h : PH} (hI : NowC h) (hJ : NowN h) (a b : Int32) : Same2 (fun h => (116, 0, [vr 7 0, vi a, vi b, none, none], [], h)) (fun h => (215, 0, [vr 8 0, vi a, vi b], [], h)) h := by
  refine ask4 hI hJ (w := vi (-1)) (G := fun r4 h3 => pm_ev (215, 13, [vr 8 0, vi a, vi b], [vi r4], h3)) (E_X8_stop h a b) (fun h => E_X9_stop h a b) (fun _ => rfl) (fun h => by rw [E_X9_stop_13, if_pos (by rfl)]) (fun i j c nt hi hj hv hn hC hN => ?_)
  have n40 := hn.1
  have c0 := hN.1
  obtain ⟨h', e, _, _, f⟩ := follow_C (most := (nt (0)).val) hv hn (by omega) (by omega) hC hN
  refine ⟨vi (nI (aRun nt (nt (0)).val (nt (0)).val 0 (c, 0, 0, 0, 0)).1), h', ?_, f, fun g hm hd hNM h20 => ?_⟩
  · rw [c0, e, cI_s]
  · obtain ⟨g', e2, _, h26, f2⟩ := runs_M (most := 40) hv hn (by omega) hm hd hNM h20
    have ge := aRun_ge (nt := nt) (m := 40) (nt (0)).val 0 (c, 0, 0, 0, 0) (by omega)
    rw [Nat.zero_add] at ge
    rw [ge] at h26
    refine ⟨g', ?_, f2⟩
    rw [E_X9_stop_13, if_neg (by decide), show (40 : Int32) = nI 40 from rfl, e2, cV_s, h26]
theorem q_state {h : PH} (hI : NowC h) (hJ : NowN h) (a b d e : Int32) : Same2 (fun h => (117, 0, [vr 7 0, vi a, vi b, vi d, vi e, none, none], [], h)) (fun h => (217, 0, [vr 8 0, vi a, vi b, vi d, vi e], [], h)) h := by
  refine ask4 hI hJ (w := vi (-2)) (G := fun r4 h3 => pm_ev (217, 13, [vr 8 0, vi a, vi b, vi d, vi e], [vi r4], h3)) (E_X8_state h a b d e) (fun h => E_X9_state h a b d e) (fun _ => rfl) (fun h => by rw [E_X9_state_13, if_pos (by rfl)]) (fun i j c nt hi hj hv hn hC hN => ?_)
  have n40 := hn.1
  rcases ix0 d with ⟨z, rfl, z1, z2⟩ | ⟨m, rfl, hm31⟩
  · have lz : iI z < 0 := by rw [show (0 : Int32) = nI 0 from rfl, in_lt (by decide) z1 (by omega)]; omega
    refine ⟨vi (-2), h, ?_, Fr.rfl', fun g hm hd hNM h20 => ⟨g, ?_, Fr.rfl'⟩⟩
    · rw [if_pos lz]
    · rw [E_X9_state_13, if_neg (by decide), if_pos lz]
  · have lm : ¬ nI m < 0 := by rw [show (0 : Int32) = nI 0 from rfl, nn_lt hm31 (by decide)]; omega
    obtain ⟨h', e1, hC', hV', f⟩ := follow_C (most := m) hv hn (show i ≠ 9 by omega) hm31 hC hN
    have le := aRun_le (nt := nt) (m := m) (nt (0)).val 0 (c, 0, 0, 0, 0) (by omega)
    rcases ix0 e with ⟨z, rfl, z1, z2⟩ | ⟨w, rfl, hw31⟩
    · have lz : iI z < 0 := by rw [show (0 : Int32) = nI 0 from rfl, in_lt (by decide) z1 (by omega)]; omega
      refine ⟨vi (-2), h', ?_, f, fun g hm hd hNM h20 => ⟨g, ?_, Fr.rfl'⟩⟩
      · rw [if_neg lm, e1, cI_s]
        split
        · rfl
        · rw [told_Cneg h' z1 z2, cI_s]; rfl
      · rw [E_X9_state_13, if_neg (by decide), if_neg lm, if_pos lz]
    · have lw : ¬ nI w < 0 := by rw [show (0 : Int32) = nI 0 from rfl, nn_lt hw31 (by decide)]; omega
      have T := told_C hV' hC' hw31
      have R := fun (g : PH) (hm : ModS g (610 + 142 * i) c) (hd : CoastMd g (610 + 142 * i) c) (hNM : NightM g (894 + 161 * j) nt) (h20 : g.1 8 0 20 = nI (894 + 161 * j)) => runs_M (most := m) hv hn hm31 hm hd hNM h20
      generalize aRun nt m (nt (0)).val 0 (c, 0, 0, 0, 0) = rs at *
      obtain ⟨dn, σ⟩ := rs
      dsimp only at e1 hC' hV' le T R
      by_cases q : dn = m
      · subst q
        refine ⟨vi (aNow σ w), h', ?_, f, fun g hm hd hNM h20 => ?_⟩
        · rw [if_neg lm, e1, cI_s, if_neg (fun z => Nat.lt_irrefl _ ((nn_lt hm31 hm31).mp z)), T, cI_s]
        · obtain ⟨g', e2, hM', h26, f2⟩ := R g hm hd hNM h20
          refine ⟨g', ?_, f2⟩
          rw [E_X9_state_13, if_neg (by decide), if_neg lm, if_neg lw, e2, cV_s, h26, if_pos rfl, nowOf_M hV' hM' hw31, cI_s, E_X9_state_47]
      · refine ⟨vi (-2), h', ?_, f, fun g hm hd hNM h20 => ?_⟩
        · rw [if_neg lm, e1, cI_s, if_pos ((nn_lt (by omega) hm31).mpr (by omega))]
        · obtain ⟨g', e2, hM', h26, f2⟩ := R g hm hd hNM h20
          refine ⟨g', ?_, f2⟩
          rw [E_X9_state_13, if_neg (by decide), if_neg lm, if_neg lw, e2, cV_s, h26, if_neg (fun z => q ((nn_eq (by omega) hm31).mp z))]
