/-! ===== watch ===== -/
def lkH (h : PH) (G : Nat → Int64) (k : Nat) : PH := (h.1, fun a b i => if a = 25 ∧ b = 0 ∧ i < k then G i else h.2 a b i)
theorem lkH_0 (h : PH) (G : Nat → Int64) : lkH h G 0 = h := Prod.ext rfl (funext fun a => funext fun b => funext fun i => if_neg (by omega))
theorem lkH_s (h : PH) (G : Nat → Int64) (k : Nat) : pm_sL (lkH h G k) 25 0 k (G k) = lkH h G (k + 1) := Prod.ext rfl (funext fun a => funext fun b => funext fun i => by
  show (pm_sL (lkH h G k) 25 0 k (G k)).2 a b i = _
  rw [pm_sL_at]
  show (if a = 25 ∧ b = 0 ∧ i = k then G k else if a = 25 ∧ b = 0 ∧ i < k then G i else h.2 a b i) = (if a = 25 ∧ b = 0 ∧ i < k + 1 then G i else h.2 a b i)
  by_cases q : a = 25 ∧ b = 0
  · by_cases q2 : i = k
    · subst q2; rw [if_pos ⟨q.1, q.2, rfl⟩, if_pos ⟨q.1, q.2, by omega⟩]
    · rw [if_neg (fun x => q2 x.2.2)]
      by_cases q3 : i < k
      · rw [if_pos ⟨q.1, q.2, q3⟩, if_pos ⟨q.1, q.2, by omega⟩]
      · rw [if_neg (fun x => q3 x.2.2), if_neg (fun x => by have := x.2.2; omega)]
  · rw [if_neg (fun x => q ⟨x.1, x.2.1⟩), if_neg (fun x => q ⟨x.1, x.2.1⟩), if_neg (fun x => q ⟨x.1, x.2.1⟩)])
theorem lkH_25 (h : PH) (G : Nat → Int64) {k i : Nat} (hi : i < k) : (lkH h G k).2 25 0 i = G i := if_pos ⟨rfl, rfl, hi⟩
theorem lkH_o (h : PH) (G : Nat → Int64) (k : Nat) {t : Nat} (b i : Nat) (ht : t ≠ 25) : (lkH h G k).2 t b i = h.2 t b i := if_neg (fun x => ht x.1)
def ballI (c : AC) (R i : Nat) : Nat → Nat → Bool := ballP c (i % (c (0)).val) (i / (c (0)).val) R
def lookG (c : AC) (R i : Nat) : Int64 := lS (toS (ballI c R i))
theorem look_26 {h : PH} {j : Nat} {c : AC} (hv : cV c) (hC : CoastC h j c) (h0 : h.2 5 0 0 = lS (boardS c)) (h5 : h.1 5 0 5 = nI ((c (0)).val * (c (1)).val)) {R : Nat} (hR : R < 8) : ∀ r k, k + r = (c (0)).val * (c (1)).val → pm_ev (100, 26, [vr 5 0, vr 0 j, vi (nI R), vi (nI k)], [], lkH h (lookG c R) k) = some (none, lkH h (lookG c R) ((c (0)).val * (c (1)).val)) := by
  have hV1 := hv.1
  have hWb := WH_le hv
  have h5' : ∀ k, (lkH h (lookG c R) k).1 5 0 5 = nI ((c (0)).val * (c (1)).val) := fun _ => h5
  have h0' : ∀ k, (lkH h (lookG c R) k).2 5 0 0 = lS (boardS c) := fun k => (lkH_o h _ k 0 0 (by decide)).trans h0
  have hC' : ∀ k, CoastC (lkH h (lookG c R) k) j c := fun k => hC.fr (fun _ _ _ _ => rfl) (lkH_o h _ k j 4 (by decide))
  intro r
  induction r with
  | zero =>
    intro k hk
    have hk : k = (c (0)).val * (c (1)).val := by omega
    rw [hk, E_X6_look_26]
    generalize (c (0)).val * (c (1)).val = WH at *
    simp (disch := omega) only [y_0, y_1, y_2, y_3, y_4, y_5, y_6, y_7, y_8, y_9, y_10, y_11, y_12, y_13, y_14, y_15, y_16, y_17, y_18, y_19, y_20, y_21, y_22, y_23, y_24, y_29, y_30, y_31, y_32, y_39, y_40, y_48, y_49, y_50, y_60, y_64, y_69, y_78, y_99, y_100, y_142, y_161, y_600, y_610, y_894, y_999, y_1000, y_1216, y_1276, neg1, neg2, nI_add, nI_mul, nn_sub, nn_lt, nn_le, nn_eq, in_lt, ni_lt, in_le, ni_le, in_eq, ni_eq, iI_lt, iI_le, iI_eq, nn_clamp, inb_n, t_lt, f_lt, t_le, f_le, t_eq, f_eq, ti_lt, fi_lt, ti_le, fi_le, ti_eq, fi_eq, ↓reduceIte, ite_true, ite_false, eq_self, decide_true, decide_false, Bool.true_and, Bool.and_true, Bool.false_and, Bool.and_false, Bool.true_or, Bool.or_true, Bool.false_or, Bool.or_false, bI_t, bI_f, bI_nand, n_mod, an11, an01, negn1, negn2, false_and, and_false, true_and, and_true, not_true_eq_false, not_false_eq_true, bI_n0, bI_n1, Bool.true_eq_false, Bool.false_eq_true, cI_s, cL_s, cV_s, cR_n, pm_bR_self, bI_ite, bL_ite, bV_ite, bR_ite, E_X6_look_53, h5']
  | succ r ih =>
    intro k hk
    have hk2 : k < (c (0)).val * (c (1)).val := by omega
    obtain ⟨x1, x2, x3⟩ := cell_xy (show 0 < (c (0)).val by omega) hk2
    have sp := spotOf_C hv (hC' k) hk2
    have A := around_C (h := lkH h (lookG c R) k) hv x1 x2 hR
    have e1 := lkH_s h (lookG c R) k
    unfold lookG ballI at e1
    rw [← ih (k + 1) (by omega), E_X6_look_26]
    generalize (c (0)).val * (c (1)).val = WH at *
    simp (disch := omega) only [y_0, y_1, y_2, y_3, y_4, y_5, y_6, y_7, y_8, y_9, y_10, y_11, y_12, y_13, y_14, y_15, y_16, y_17, y_18, y_19, y_20, y_21, y_22, y_23, y_24, y_29, y_30, y_31, y_32, y_39, y_40, y_48, y_49, y_50, y_60, y_64, y_69, y_78, y_99, y_100, y_142, y_161, y_600, y_610, y_894, y_999, y_1000, y_1216, y_1276, neg1, neg2, nI_add, nI_mul, nn_sub, nn_lt, nn_le, nn_eq, in_lt, ni_lt, in_le, ni_le, in_eq, ni_eq, iI_lt, iI_le, iI_eq, nn_clamp, inb_n, t_lt, f_lt, t_le, f_le, t_eq, f_eq, ti_lt, fi_lt, ti_le, fi_le, ti_eq, fi_eq, ↓reduceIte, ite_true, ite_false, eq_self, decide_true, decide_false, Bool.true_and, Bool.and_true, Bool.false_and, Bool.and_false, Bool.true_or, Bool.or_true, Bool.false_or, Bool.or_false, bI_t, bI_f, bI_nand, n_mod, an11, an01, negn1, negn2, false_and, and_false, true_and, and_true, not_true_eq_false, not_false_eq_true, bI_n0, bI_n1, Bool.true_eq_false, Bool.false_eq_true, cI_s, cL_s, cV_s, cR_n, pm_bR_self, bI_ite, bL_ite, bV_ite, bR_ite, E_X6_look_53, h5', sp, h0', A]
    unfold lookG ballI
    rw [e1]
theorem look_C {h : PH} {j : Nat} {c : AC} (hv : cV c) (hC : CoastC h j c) {R : Nat} (hR : R < 8) : ∃ h', pm_ev (100, 0, [vr 5 0, vr 0 j, vi (nI R), none], [], h) = some (none, h') ∧ h'.1 5 0 5 = nI ((c (0)).val * (c (1)).val) ∧ (∀ i, i < (c (0)).val * (c (1)).val → h'.2 25 0 i = lS (toS (ballI c R i))) ∧ (∀ t i k, t ≠ 5 → h'.1 t i k = h.1 t i k) ∧ ∀ t i k, t ≠ 5 → t ≠ 25 → h'.2 t i k = h.2 t i k := by
  have hV1 := hv.1
  have hWb := WH_le hv
  have c0 := hC.1.1
  have c1 := hC.1.2.1
  have hC1 : CoastC (pm_sI (pm_sL h 5 0 0 (lS (boardS c))) 5 0 5 (nI ((c (0)).val * (c (1)).val))) j c := hC.fr (fun t k h1 h2 => by rw [sI_tag _ _ _ _ _ _ (by omega)]; rfl) (by rw [sI_2, sL_tag _ _ _ _ _ _ (by decide)])
  have L := look_26 hv hC1 (by rw [sI_2, sL_same]) (sI_same _ _ _ _ _) hR _ 0 (Nat.zero_add _)
  rw [lkH_0] at L
  refine ⟨lkH (pm_sI (pm_sL h 5 0 0 (lS (boardS c))) 5 0 5 (nI ((c (0)).val * (c (1)).val))) (lookG c R) ((c (0)).val * (c (1)).val), ?_, ?_, fun i hi => lkH_25 _ _ hi, fun t i k ht => ?_, fun t i k h1 h2 => ?_⟩
  · rw [E_X6_look, board_C hv hC]
    generalize hWH : (c (0)).val * (c (1)).val = WH at *
    have cc : (pm_sL h 5 0 0 (lS (boardS c))).1 0 j 0 * (pm_sL h 5 0 0 (lS (boardS c))).1 0 j 1 = nI WH := by rw [sL_1, c0, c1, nI_mul, hWH]
    simp (disch := omega) only [y_0, y_1, y_2, y_3, y_4, y_5, y_6, y_7, y_8, y_9, y_10, y_11, y_12, y_13, y_14, y_15, y_16, y_17, y_18, y_19, y_20, y_21, y_22, y_23, y_24, y_29, y_30, y_31, y_32, y_39, y_40, y_48, y_49, y_50, y_60, y_64, y_69, y_78, y_99, y_100, y_142, y_161, y_600, y_610, y_894, y_999, y_1000, y_1216, y_1276, neg1, neg2, nI_add, nI_mul, nn_sub, nn_lt, nn_le, nn_eq, in_lt, ni_lt, in_le, ni_le, in_eq, ni_eq, iI_lt, iI_le, iI_eq, nn_clamp, inb_n, t_lt, f_lt, t_le, f_le, t_eq, f_eq, ti_lt, fi_lt, ti_le, fi_le, ti_eq, fi_eq, ↓reduceIte, ite_true, ite_false, eq_self, decide_true, decide_false, Bool.true_and, Bool.and_true, Bool.false_and, Bool.and_false, Bool.true_or, Bool.or_true, Bool.false_or, Bool.or_false, bI_t, bI_f, bI_nand, n_mod, an11, an01, negn1, negn2, false_and, and_false, true_and, and_true, not_true_eq_false, not_false_eq_true, bI_n0, bI_n1, Bool.true_eq_false, Bool.false_eq_true, cI_s, cL_s, cV_s, cR_n, pm_bR_self, bI_ite, bL_ite, bV_ite, bR_ite, E_X6_look_53, E_X0_cells, cc]
    exact L
  · exact sI_same (pm_sL h 5 0 0 (lS (boardS c))) 5 0 5 (nI ((c (0)).val * (c (1)).val))
  · exact (sI_tag (pm_sL h 5 0 0 (lS (boardS c))) 0 5 (nI ((c (0)).val * (c (1)).val)) i k ht)
  · rw [lkH_o _ _ _ _ _ h2, sI_2, sL_tag _ _ _ _ _ _ h1]
/-- how many cells two guards would see -/
def aSee (c : AC) (R a b : Nat) : Nat := fb_ct (fun i => decide (dst (a % (c (0)).val) (a / (c (0)).val) (i % (c (0)).val) (i / (c (0)).val) ≤ R) || decide (dst (b % (c (0)).val) (b / (c (0)).val) (i % (c (0)).val) (i / (c (0)).val) ≤ R)) ((c (0)).val * (c (1)).val)
theorem aSee_le {c : AC} (hv : cV c) (R a b : Nat) : aSee c R a b ≤ 64 := Nat.le_trans (fb_ct_le _ _) (WH_le hv)
theorem see_C {c : AC} (hv : cV c) (R a b : Nat) : fb_ct (toS (fun x y => ballI c R a x y || ballI c R b x y)) 64 = aSee c R a b := by
  have hV1 := hv.1
  rw [ct_board hv (fun x y h => by
    unfold ballI ballP inB at h
    simp only [Bool.or_eq_true, Bool.and_eq_true, decide_eq_true_eq] at h
    rcases h with h | h <;> exact h.1)]
  unfold aSee
  rw [← ct_64 _ (WH_le hv)]
  refine fb_ct_cong (fun i _ => ?_)
  unfold cellP
  by_cases q : i < (c (0)).val * (c (1)).val
  · obtain ⟨x1, x2, x3⟩ := cell_xy (show 0 < (c (0)).val by omega) q
    unfold ballI ballP inB
    dsimp only
    rw [decide_eq_true q, decide_eq_true x1, decide_eq_true x2]
    rfl
  · rw [decide_eq_false q, Bool.false_and, Bool.false_and]
/-- how many rocks a guard would see -/
def aCro (c : AC) (R a : Nat) : Nat := fb_ct (fun i => rockP c (i % (c (0)).val) (i / (c (0)).val) && decide (dst (a % (c (0)).val) (a / (c (0)).val) (i % (c (0)).val) (i / (c (0)).val) ≤ R)) ((c (0)).val * (c (1)).val)
theorem aCro_le {c : AC} (hv : cV c) (R a : Nat) : aCro c R a ≤ 64 := Nat.le_trans (fb_ct_le _ _) (WH_le hv)
theorem cro_C {c : AC} (hv : cV c) (R a : Nat) : fb_ct (fun i => toS (ballI c R a) i && decide ((c (200+i)).val = 1)) 64 = aCro c R a := by
  have hV1 := hv.1
  have e : fb_ct (fun i => toS (ballI c R a) i && decide ((c (200+i)).val = 1)) 64 = fb_ct (toS (fun x y => ballI c R a x y && rockP c x y)) 64 := fb_ct_cong (fun i hi => by
    unfold toS rockP
    dsimp only
    rw [show 8 * (i / 8) + i % 8 = i by omega])
  rw [e, ct_board hv (fun x y h => by
    unfold ballI ballP inB at h
    simp only [Bool.and_eq_true, decide_eq_true_eq] at h
    exact h.1.1)]
  unfold aCro
  rw [← ct_64 _ (WH_le hv)]
  refine fb_ct_cong (fun i _ => ?_)
  unfold cellP
  by_cases q : i < (c (0)).val * (c (1)).val
  · obtain ⟨x1, x2, x3⟩ := cell_xy (show 0 < (c (0)).val by omega) q
    unfold ballI ballP inB
    dsimp only
    rw [decide_eq_true q, decide_eq_true x1, decide_eq_true x2]
    rw [Bool.true_and, Bool.true_and, Bool.true_and, Bool.and_comm]
    rfl
  · rw [decide_eq_false q, Bool.false_and, Bool.false_and]
theorem bestFor_5 {h : PH} {c : AC} (hv : cV c) {R : Nat} (h5 : h.1 5 0 5 = nI ((c (0)).val * (c (1)).val)) (h25 : ∀ i, i < (c (0)).val * (c (1)).val → h.2 25 0 i = lS (toS (ballI c R i))) : ∀ r k, k + r = (c (0)).val * (c (1)).val → 0 < k → pm_ev (101, 5, [vr 5 0, vl (lS (fun i => decide ((c (200+i)).val = 1))), none, vi (nI (argB (aCro c R) k)), vi (nI k)], [], h) = some (some (vi (nI (argB (aCro c R) ((c (0)).val * (c (1)).val)))), h) := by
  have hV1 := hv.1
  have hWb := WH_le hv
  intro r
  induction r with
  | zero =>
    intro k hk _
    have hk : k = (c (0)).val * (c (1)).val := by omega
    rw [hk, E_X6_bestFor_5]
    generalize (c (0)).val * (c (1)).val = WH at *
    simp (disch := omega) only [y_0, y_1, y_2, y_3, y_4, y_5, y_6, y_7, y_8, y_9, y_10, y_11, y_12, y_13, y_14, y_15, y_16, y_17, y_18, y_19, y_20, y_21, y_22, y_23, y_24, y_29, y_30, y_31, y_32, y_39, y_40, y_48, y_49, y_50, y_60, y_64, y_69, y_78, y_99, y_100, y_142, y_161, y_600, y_610, y_894, y_999, y_1000, y_1216, y_1276, neg1, neg2, nI_add, nI_mul, nn_sub, nn_lt, nn_le, nn_eq, in_lt, ni_lt, in_le, ni_le, in_eq, ni_eq, iI_lt, iI_le, iI_eq, nn_clamp, inb_n, t_lt, f_lt, t_le, f_le, t_eq, f_eq, ti_lt, fi_lt, ti_le, fi_le, ti_eq, fi_eq, ↓reduceIte, ite_true, ite_false, eq_self, decide_true, decide_false, Bool.true_and, Bool.and_true, Bool.false_and, Bool.and_false, Bool.true_or, Bool.or_true, Bool.false_or, Bool.or_false, bI_t, bI_f, bI_nand, n_mod, an11, an01, negn1, negn2, false_and, and_false, true_and, and_true, not_true_eq_false, not_false_eq_true, bI_n0, bI_n1, Bool.true_eq_false, Bool.false_eq_true, cI_s, cL_s, cV_s, cR_n, pm_bR_self, bI_ite, bL_ite, bV_ite, bR_ite, h5]
  | succ r ih =>
    intro k hk hk0
    have e := ih (k + 1) (by omega) (by omega)
    have hl := argB_lt (aCro c R) k hk0
    have B1 := bc_long (fun i => toS (ballI c R k) i && decide ((c (200+i)).val = 1)) h
    have B2 := bc_long (fun i => toS (ballI c R (argB (aCro c R) k)) i && decide ((c (200+i)).val = 1)) h
    rw [cro_C hv] at B1 B2
    have b1 := aCro_le hv R k
    have b2 := aCro_le hv R (argB (aCro c R) k)
    have g1 := h25 k (by omega)
    have g2 := h25 (argB (aCro c R) k) (by omega)
    rw [argB_succ (aCro c R) k] at e
    rw [E_X6_bestFor_5]
    generalize (c (0)).val * (c (1)).val = WH at *
    by_cases q : aCro c R (argB (aCro c R) k) < aCro c R k
    · rw [if_pos q] at e
      simp (disch := omega) only [y_0, y_1, y_2, y_3, y_4, y_5, y_6, y_7, y_8, y_9, y_10, y_11, y_12, y_13, y_14, y_15, y_16, y_17, y_18, y_19, y_20, y_21, y_22, y_23, y_24, y_29, y_30, y_31, y_32, y_39, y_40, y_48, y_49, y_50, y_60, y_64, y_69, y_78, y_99, y_100, y_142, y_161, y_600, y_610, y_894, y_999, y_1000, y_1216, y_1276, neg1, neg2, nI_add, nI_mul, nn_sub, nn_lt, nn_le, nn_eq, in_lt, ni_lt, in_le, ni_le, in_eq, ni_eq, iI_lt, iI_le, iI_eq, nn_clamp, inb_n, t_lt, f_lt, t_le, f_le, t_eq, f_eq, ti_lt, fi_lt, ti_le, fi_le, ti_eq, fi_eq, ↓reduceIte, ite_true, ite_false, eq_self, decide_true, decide_false, Bool.true_and, Bool.and_true, Bool.false_and, Bool.and_false, Bool.true_or, Bool.or_true, Bool.false_or, Bool.or_false, bI_t, bI_f, bI_nand, n_mod, an11, an01, negn1, negn2, false_and, and_false, true_and, and_true, not_true_eq_false, not_false_eq_true, bI_n0, bI_n1, Bool.true_eq_false, Bool.false_eq_true, cI_s, cL_s, cV_s, cR_n, pm_bR_self, bI_ite, bL_ite, bV_ite, bR_ite, h5, g1, g2, lS_and, B1, B2]
      exact e
    · rw [if_neg q] at e
      simp (disch := omega) only [y_0, y_1, y_2, y_3, y_4, y_5, y_6, y_7, y_8, y_9, y_10, y_11, y_12, y_13, y_14, y_15, y_16, y_17, y_18, y_19, y_20, y_21, y_22, y_23, y_24, y_29, y_30, y_31, y_32, y_39, y_40, y_48, y_49, y_50, y_60, y_64, y_69, y_78, y_99, y_100, y_142, y_161, y_600, y_610, y_894, y_999, y_1000, y_1216, y_1276, neg1, neg2, nI_add, nI_mul, nn_sub, nn_lt, nn_le, nn_eq, in_lt, ni_lt, in_le, ni_le, in_eq, ni_eq, iI_lt, iI_le, iI_eq, nn_clamp, inb_n, t_lt, f_lt, t_le, f_le, t_eq, f_eq, ti_lt, fi_lt, ti_le, fi_le, ti_eq, fi_eq, ↓reduceIte, ite_true, ite_false, eq_self, decide_true, decide_false, Bool.true_and, Bool.and_true, Bool.false_and, Bool.and_false, Bool.true_or, Bool.or_true, Bool.false_or, Bool.or_false, bI_t, bI_f, bI_nand, n_mod, an11, an01, negn1, negn2, false_and, and_false, true_and, and_true, not_true_eq_false, not_false_eq_true, bI_n0, bI_n1, Bool.true_eq_false, Bool.false_eq_true, cI_s, cL_s, cV_s, cR_n, pm_bR_self, bI_ite, bL_ite, bV_ite, bR_ite, h5, g1, g2, lS_and, B1, B2]
      exact e
