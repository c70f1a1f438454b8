/-! ===== LOGS =====
0 men, 1 limit, 2 errors, 3 facts, 10+k odds, 20+k lit, 30+k hour -/
def lV (l : AC) : Prop := ((l (0)).val ≤ 6 ∧ 1 ≤ (l (1)).val ∧ (l (1)).val ≤ 6 ∧ (l (2)).val ≤ 9 ∧ (l (3)).val ≤ 10) ∧ (∀ k, k < (l (0)).val → (l (10+k)).val ≤ 10) ∧ ∀ k, k < (l (3)).val → (l (20+k)).val ≤ 1 ∧ (l (30+k)).val ≤ 23
def LogC (h : PH) (j : Nat) (l : AC) : Prop := (h.1 2 j 0 = nI (l (0)).val ∧ h.1 2 j 2 = nI (l (1)).val ∧ h.1 2 j 3 = nI (l (2)).val ∧ h.1 2 j 4 = nI (l (3)).val) ∧ (∀ k, k < (l (0)).val → h.1 19 j k = nI (l (10+k)).val) ∧ ∀ k, k < (l (3)).val → h.1 20 j k = nI (l (20+k)).val ∧ h.1 21 j k = nI (l (30+k)).val
def LogM (h : PH) (a : Nat) (l : AC) : Prop := (h.1 33 0 a = nI (l (0)).val ∧ h.1 33 0 (a+1) = nI (l (1)).val ∧ h.1 33 0 (a+2) = nI (l (2)).val ∧ h.1 33 0 (a+3) = nI (l (3)).val ∧ a < 5000) ∧ (∀ k, k < (l (0)).val → h.1 33 0 (a+4+k) = nI (l (10+k)).val) ∧ ∀ k, k < (l (3)).val → h.1 33 0 (a+10+2*k) = nI (l (20+k)).val ∧ h.1 33 0 (a+11+2*k) = nI (l (30+k)).val
theorem LogM.fr {h h' : PH} {a : Nat} {l : AC} (he : ∀ k, h'.1 33 0 k = h.1 33 0 k) (hm : LogM h a l) : LogM h' a l := by
  unfold LogM at hm ⊢
  simp only [he]
  exact hm
theorem LogC.fr {h h' : PH} {j : Nat} {l : AC} (h2 : ∀ k, h'.1 2 j k = h.1 2 j k) (h19 : ∀ k, h'.1 19 j k = h.1 19 j k) (h20 : ∀ k, h'.1 20 j k = h.1 20 j k) (h21 : ∀ k, h'.1 21 j k = h.1 21 j k) (hm : LogC h j l) : LogC h' j l := by
  unfold LogC at hm ⊢
  simp only [h2, h19, h20, h21]
  exact hm
def ModL (h : PH) (a : Nat) (l : AC) : Prop := LogM h a l ∧ h.1 8 0 30 = nI a
def NowL (h : PH) : Prop := ∃ nl : Nat, nl ≤ 2 ∧ h.1 27 0 2 = nI nl ∧ h.1 33 0 2 = nI nl ∧ ∀ k, k < nl → ∃ l, lV l ∧ LogC h k l ∧ LogM h (1216 + 30 * k) l
theorem NowL.fr {h h' : PH} (hf : Fr scB h h') (hn : NowL h) : NowL h' := by
  obtain ⟨nc, h1, h2, h3, h4⟩ := hn
  refine ⟨nc, h1, ((hf 27 0 rfl 2).1).trans h2, ((hf 33 0 rfl 2).1).trans h3, fun k hk => ?_⟩
  obtain ⟨c, c1, c2, c3⟩ := h4 k hk
  have : k = 0 ∨ k = 1 := by omega
  refine ⟨c, c1, ?_, c3.fr (fun k => (hf 33 0 rfl k).1)⟩
  rcases this with e | e <;> subst e <;> exact c2.fr (fun k => (hf 2 _ rfl k).1) (fun k => (hf 19 _ rfl k).1) (fun k => (hf 20 _ rfl k).1) (fun k => (hf 21 _ rfl k).1)
theorem logAt_neg (h : PH) {z : Int} (h1 : -2147483648 ≤ z) (h2 : z < 0) : pm_ev (140, 0, [vr 7 0, vi (iI z)], [], h) = some (some vn, h) := by
  rw [E_X8_logAt]
  simp (disch := omega) only [y_0, y_1, y_2, y_3, y_4, y_5, y_6, y_7, y_8, y_9, y_10, y_11, y_12, y_13, y_14, y_15, y_16, y_17, y_18, y_19, y_20, y_21, y_22, y_23, y_24, y_29, y_30, y_31, y_32, y_39, y_40, y_48, y_49, y_50, y_60, y_64, y_69, y_78, y_99, y_100, y_142, y_161, y_600, y_610, y_894, y_999, y_1000, y_1216, y_1276, neg1, neg2, nI_add, nI_mul, nn_sub, nn_lt, nn_le, nn_eq, in_lt, ni_lt, in_le, ni_le, in_eq, ni_eq, iI_lt, iI_le, iI_eq, nn_clamp, inb_n, t_lt, f_lt, t_le, f_le, t_eq, f_eq, ti_lt, fi_lt, ti_le, fi_le, ti_eq, fi_eq, ↓reduceIte, ite_true, ite_false, eq_self, decide_true, decide_false, Bool.true_and, Bool.and_true, Bool.false_and, Bool.and_false, Bool.true_or, Bool.or_true, Bool.false_or, Bool.or_false, bI_t, bI_f, bI_nand, n_mod, an11, an01, negn1, negn2, false_and, and_false, true_and, and_true, not_true_eq_false, not_false_eq_true, bI_n0, bI_n1, Bool.true_eq_false, Bool.false_eq_true, cI_s, cL_s, cV_s, cR_n, pm_bR_self, bI_ite, bL_ite, bV_ite, bR_ite, ]
theorem logAt_big {h : PH} {nc k : Nat} (hn : h.1 27 0 2 = nI nc) (hk : nc ≤ k) (h2 : k < 2147483648) : pm_ev (140, 0, [vr 7 0, vi (nI k)], [], h) = some (some vn, h) := by
  rw [E_X8_logAt]
  simp (disch := omega) only [y_0, y_1, y_2, y_3, y_4, y_5, y_6, y_7, y_8, y_9, y_10, y_11, y_12, y_13, y_14, y_15, y_16, y_17, y_18, y_19, y_20, y_21, y_22, y_23, y_24, y_29, y_30, y_31, y_32, y_39, y_40, y_48, y_49, y_50, y_60, y_64, y_69, y_78, y_99, y_100, y_142, y_161, y_600, y_610, y_894, y_999, y_1000, y_1216, y_1276, neg1, neg2, nI_add, nI_mul, nn_sub, nn_lt, nn_le, nn_eq, in_lt, ni_lt, in_le, ni_le, in_eq, ni_eq, iI_lt, iI_le, iI_eq, nn_clamp, inb_n, t_lt, f_lt, t_le, f_le, t_eq, f_eq, ti_lt, fi_lt, ti_le, fi_le, ti_eq, fi_eq, ↓reduceIte, ite_true, ite_false, eq_self, decide_true, decide_false, Bool.true_and, Bool.and_true, Bool.false_and, Bool.and_false, Bool.true_or, Bool.or_true, Bool.false_or, Bool.or_false, bI_t, bI_f, bI_nand, n_mod, an11, an01, negn1, negn2, false_and, and_false, true_and, and_true, not_true_eq_false, not_false_eq_true, bI_n0, bI_n1, Bool.true_eq_false, Bool.false_eq_true, cI_s, cL_s, cV_s, cR_n, pm_bR_self, bI_ite, bL_ite, bV_ite, bR_ite, E_X7_held, hn]
theorem logAt_in {h : PH} {nc k : Nat} (hn : h.1 27 0 2 = nI nc) (hnc : nc ≤ 2) (hk : k < nc) : pm_ev (140, 0, [vr 7 0, vi (nI k)], [], h) = some (some (vr 2 k), h) := by
  rw [E_X8_logAt]
  simp (disch := omega) only [y_0, y_1, y_2, y_3, y_4, y_5, y_6, y_7, y_8, y_9, y_10, y_11, y_12, y_13, y_14, y_15, y_16, y_17, y_18, y_19, y_20, y_21, y_22, y_23, y_24, y_29, y_30, y_31, y_32, y_39, y_40, y_48, y_49, y_50, y_60, y_64, y_69, y_78, y_99, y_100, y_142, y_161, y_600, y_610, y_894, y_999, y_1000, y_1216, y_1276, neg1, neg2, nI_add, nI_mul, nn_sub, nn_lt, nn_le, nn_eq, in_lt, ni_lt, in_le, ni_le, in_eq, ni_eq, iI_lt, iI_le, iI_eq, nn_clamp, inb_n, t_lt, f_lt, t_le, f_le, t_eq, f_eq, ti_lt, fi_lt, ti_le, fi_le, ti_eq, fi_eq, ↓reduceIte, ite_true, ite_false, eq_self, decide_true, decide_false, Bool.true_and, Bool.and_true, Bool.false_and, Bool.and_false, Bool.true_or, Bool.or_true, Bool.false_or, Bool.or_false, bI_t, bI_f, bI_nand, n_mod, an11, an01, negn1, negn2, false_and, and_false, true_and, and_true, not_true_eq_false, not_false_eq_true, bI_n0, bI_n1, Bool.true_eq_false, Bool.false_eq_true, cI_s, cL_s, cV_s, cR_n, pm_bR_self, bI_ite, bL_ite, bV_ite, bR_ite, E_X7_held, hn]
theorem isLog_no {h : PH} {nc : Nat} {z : Int} (hn : h.1 33 0 2 = nI nc) (hnc : nc ≤ 2) (h1 : -2147483648 ≤ z) (h2 : z < 2147483648) (hz : ¬ (0 ≤ z ∧ z < nc)) : pm_ev (238, 0, [vr 8 0, vi (iI z)], [], h) = some (some (vi (nI 0)), h) := by
  rw [E_X9_isLog, E_X9_isOf]
  have e : (decide (((0 : Nat) : Int) ≤ z) && decide (z ≤ (nc : Int) - ((1 : Nat) : Int))) = false := by
    rw [Bool.and_eq_false_iff, decide_eq_false_iff_not, decide_eq_false_iff_not]; omega
  simp (disch := omega) only [z_0, z_1, z_2, inb_n, nn_clamp, ↓reduceIte, hn, nI_sub, isIn_ini, e, bI_s, E_X9_isOf_8,  bI_f, bI_nand, eq_self, show nI 0 &&& nI 1 = nI 0 from rfl]
theorem isLog_yes {h : PH} {nc k : Nat} (hn : h.1 33 0 2 = nI nc) (hnc : nc ≤ 2) (hk : k < nc) : pm_ev (238, 0, [vr 8 0, vi (nI k)], [], h) = some (some (vi (nI 1)), pm_sI h 8 0 30 (nI (1216 + 30 * k))) := by
  rw [E_X9_isLog, E_X9_isOf]
  simp (disch := omega) only [y_0, y_1, y_2, y_3, y_4, y_5, y_6, y_7, y_8, y_9, y_10, y_11, y_12, y_13, y_14, y_15, y_16, y_17, y_18, y_19, y_20, y_21, y_22, y_23, y_24, y_29, y_30, y_31, y_32, y_39, y_40, y_48, y_49, y_50, y_60, y_64, y_69, y_78, y_99, y_100, y_142, y_161, y_600, y_610, y_894, y_999, y_1000, y_1216, y_1276, neg1, neg2, nI_add, nI_mul, nn_sub, nn_lt, nn_le, nn_eq, in_lt, ni_lt, in_le, ni_le, in_eq, ni_eq, iI_lt, iI_le, iI_eq, nn_clamp, inb_n, t_lt, f_lt, t_le, f_le, t_eq, f_eq, ti_lt, fi_lt, ti_le, fi_le, ti_eq, fi_eq, ↓reduceIte, ite_true, ite_false, eq_self, decide_true, decide_false, Bool.true_and, Bool.and_true, Bool.false_and, Bool.and_false, Bool.true_or, Bool.or_true, Bool.false_or, Bool.or_false, bI_t, bI_f, bI_nand, n_mod, an11, an01, negn1, negn2, false_and, and_false, true_and, and_true, not_true_eq_false, not_false_eq_true, bI_n0, bI_n1, Bool.true_eq_false, Bool.false_eq_true, cI_s, cL_s, cV_s, cR_n, pm_bR_self, bI_ite, bL_ite, bV_ite, bR_ite, E_X9_isLog_17, E_X9_isOf_8, hn, isIn_nnn, E_X9_placeOf]
theorem ask2 {h : PH} (hI : NowL h) {a : Int32} {w : PV} {σC σM : PH → PS} {N N2 : PH → Option PR} {F : Nat → PH → Option PR} {G : PH → Option PR}
    (eC : pm_ev (σC h) = pm_bR (pm_ev (140, 0, [vr 7 0, vi a], [], h)) 2 N F)
    (eM : ∀ h, pm_ev (σM h) = pm_bI (pm_ev (238, 0, [vr 8 0, vi a], [], h)) (fun r h1 => if r = 0 then N2 h1 else G h1))
    (hN : ∀ h, N h = some (some w, h)) (hN2 : ∀ h, N2 h = some (some w, h))
    (K : ∀ (k : Nat) (c : AC), a = nI k → k < 2 → lV c → LogC h k c → ∃ v, F k h = some (some v, h) ∧ ∀ g, ModL g (1216 + 30 * k) c → ∃ g', G g = some (some v, g') ∧ Fr scM g g') : Same2 σC σM h := by
  obtain ⟨nc, hnc, n1, n2, hco⟩ := hI
  rcases ix a (show nc < 2147483648 by omega) with ⟨z, rfl, z1, z2⟩ | ⟨k, rfl, k1, k2⟩ | ⟨k, rfl, hk⟩
  · refine ⟨w, h, h, ?_, ?_, Fr.rfl', Fr.rfl'⟩
    · rw [eC, logAt_neg h z1 z2, bR_n, hN]
    · rw [eM, isLog_no n2 hnc z1 (by omega) (by omega), bI_s, if_pos (by rfl), hN2]
  · refine ⟨w, h, h, ?_, ?_, Fr.rfl', Fr.rfl'⟩
    · rw [eC, logAt_big n1 k1 k2, bR_n, hN]
    · rw [eM, ← iI_nat, isLog_no n2 hnc (by omega) (by omega) (by omega), bI_s, if_pos (by rfl), hN2]
  · obtain ⟨c, hv, hC, hM⟩ := hco k hk
    obtain ⟨v, e1, hK⟩ := K k c rfl (by omega) hv hC
    obtain ⟨g', e2, f2⟩ := hK (pm_sI h 8 0 30 (nI (1216 + 30 * k))) ⟨hM.fr (fun x => sI_tag _ _ _ _ _ _ (by decide)), sI_same _ _ _ _ _⟩
    refine ⟨v, h, g', ?_, ?_, Fr.rfl', (Fr.sI _ _ _ rfl).tr f2⟩
    · rw [eC, logAt_in n1 hnc hk, pm_bR_self]; exact e1
    · rw [eM, isLog_yes n2 hnc hk, bI_s, if_neg (by decide)]; exact e2
/-! sets of men -/
def pop6 (st : Nat) : Nat := fb_ct (fun i => st.testBit i) 6
theorem pop6_le (st : Nat) : pop6 st ≤ 6 := fb_ct_le _ 6
theorem pop_32 {st : Nat} (h : st < 64) : fb_ct (fun i => st.testBit i) 32 = pop6 st := by
  have e : fb_ct (fun i => st.testBit i) (6 + 26) = fb_ct (fun i => st.testBit i) 6 + fb_ct (fun k => st.testBit (6 + k)) 26 := fb_ct_split _ 6 26
  rw [show 32 = 6 + 26 from rfl, e]
  have e2 : fb_ct (fun k => st.testBit (6 + k)) 26 = 0 := fb_ct_zero.mpr (fun k _ => Nat.testBit_lt_two_pow (Nat.lt_of_lt_of_le h (show 2 ^ 6 ≤ 2 ^ (6 + k) from pw_le (by omega))))
  rw [e2]; rfl
theorem bitsOf_M (h : PH) {st : Nat} (hs : st < 64) : ∀ r k, k + r = 6 → pm_ev (223, 4, [vi (nI st), vi (nI (fb_ct (fun i => st.testBit i) k)), vi (nI k)], [], h) = some (some (vi (nI (pop6 st))), h) := by
  intro r
  induction r with
  | zero =>
    intro k hk
    have hk : k = 6 := by omega
    subst hk
    rw [E_X9_bitsOf_4]
    simp (disch := omega) only [y_0, y_1, y_2, y_3, y_4, y_5, y_6, y_7, y_8, y_9, y_10, y_11, y_12, y_13, y_14, y_15, y_16, y_17, y_18, y_19, y_20, y_21, y_22, y_23, y_24, y_29, y_30, y_31, y_32, y_39, y_40, y_48, y_49, y_50, y_60, y_64, y_69, y_78, y_99, y_100, y_142, y_161, y_600, y_610, y_894, y_999, y_1000, y_1216, y_1276, neg1, neg2, nI_add, nI_mul, nn_sub, nn_lt, nn_le, nn_eq, in_lt, ni_lt, in_le, ni_le, in_eq, ni_eq, iI_lt, iI_le, iI_eq, nn_clamp, inb_n, t_lt, f_lt, t_le, f_le, t_eq, f_eq, ti_lt, fi_lt, ti_le, fi_le, ti_eq, fi_eq, ↓reduceIte, ite_true, ite_false, eq_self, decide_true, decide_false, Bool.true_and, Bool.and_true, Bool.false_and, Bool.and_false, Bool.true_or, Bool.or_true, Bool.false_or, Bool.or_false, bI_t, bI_f, bI_nand, n_mod, an11, an01, negn1, negn2, false_and, and_false, true_and, and_true, not_true_eq_false, not_false_eq_true, bI_n0, bI_n1, Bool.true_eq_false, Bool.false_eq_true, cI_s, cL_s, cV_s, cR_n, pm_bR_self, bI_ite, bL_ite, bV_ite, bR_ite, ]
    rfl
  | succ r ih =>
    intro k hk
    have e := ih (k + 1) (by omega)
    rw [fb_ct_succ] at e
    rw [E_X9_bitsOf_4]
    simp (disch := omega) only [y_0, y_1, y_2, y_3, y_4, y_5, y_6, y_7, y_8, y_9, y_10, y_11, y_12, y_13, y_14, y_15, y_16, y_17, y_18, y_19, y_20, y_21, y_22, y_23, y_24, y_29, y_30, y_31, y_32, y_39, y_40, y_48, y_49, y_50, y_60, y_64, y_69, y_78, y_99, y_100, y_142, y_161, y_600, y_610, y_894, y_999, y_1000, y_1216, y_1276, neg1, neg2, nI_add, nI_mul, nn_sub, nn_lt, nn_le, nn_eq, in_lt, ni_lt, in_le, ni_le, in_eq, ni_eq, iI_lt, iI_le, iI_eq, nn_clamp, inb_n, t_lt, f_lt, t_le, f_le, t_eq, f_eq, ti_lt, fi_lt, ti_le, fi_le, ti_eq, fi_eq, ↓reduceIte, ite_true, ite_false, eq_self, decide_true, decide_false, Bool.true_and, Bool.and_true, Bool.false_and, Bool.and_false, Bool.true_or, Bool.or_true, Bool.false_or, Bool.or_false, bI_t, bI_f, bI_nand, n_mod, an11, an01, negn1, negn2, false_and, and_false, true_and, and_true, not_true_eq_false, not_false_eq_true, bI_n0, bI_n1, Bool.true_eq_false, Bool.false_eq_true, cI_s, cL_s, cV_s, cR_n, pm_bR_self, bI_ite, bL_ite, bV_ite, bR_ite, nn_and, shr_n, bit_i]
    cases q : st.testBit k
    · rw [q] at e
      simp (disch := omega) only [y_0, y_1, y_2, y_3, y_4, y_5, y_6, y_7, y_8, y_9, y_10, y_11, y_12, y_13, y_14, y_15, y_16, y_17, y_18, y_19, y_20, y_21, y_22, y_23, y_24, y_29, y_30, y_31, y_32, y_39, y_40, y_48, y_49, y_50, y_60, y_64, y_69, y_78, y_99, y_100, y_142, y_161, y_600, y_610, y_894, y_999, y_1000, y_1216, y_1276, neg1, neg2, nI_add, nI_mul, nn_sub, nn_lt, nn_le, nn_eq, in_lt, ni_lt, in_le, ni_le, in_eq, ni_eq, iI_lt, iI_le, iI_eq, nn_clamp, inb_n, t_lt, f_lt, t_le, f_le, t_eq, f_eq, ti_lt, fi_lt, ti_le, fi_le, ti_eq, fi_eq, ↓reduceIte, ite_true, ite_false, eq_self, decide_true, decide_false, Bool.true_and, Bool.and_true, Bool.false_and, Bool.and_false, Bool.true_or, Bool.or_true, Bool.false_or, Bool.or_false, bI_t, bI_f, bI_nand, n_mod, an11, an01, negn1, negn2, false_and, and_false, true_and, and_true, not_true_eq_false, not_false_eq_true, bI_n0, bI_n1, Bool.true_eq_false, Bool.false_eq_true, cI_s, cL_s, cV_s, cR_n, pm_bR_self, bI_ite, bL_ite, bV_ite, bR_ite, ]
      exact e
    · rw [q] at e
      simp (disch := omega) only [y_0, y_1, y_2, y_3, y_4, y_5, y_6, y_7, y_8, y_9, y_10, y_11, y_12, y_13, y_14, y_15, y_16, y_17, y_18, y_19, y_20, y_21, y_22, y_23, y_24, y_29, y_30, y_31, y_32, y_39, y_40, y_48, y_49, y_50, y_60, y_64, y_69, y_78, y_99, y_100, y_142, y_161, y_600, y_610, y_894, y_999, y_1000, y_1216, y_1276, neg1, neg2, nI_add, nI_mul, nn_sub, nn_lt, nn_le, nn_eq, in_lt, ni_lt, in_le, ni_le, in_eq, ni_eq, iI_lt, iI_le, iI_eq, nn_clamp, inb_n, t_lt, f_lt, t_le, f_le, t_eq, f_eq, ti_lt, fi_lt, ti_le, fi_le, ti_eq, fi_eq, ↓reduceIte, ite_true, ite_false, eq_self, decide_true, decide_false, Bool.true_and, Bool.and_true, Bool.false_and, Bool.and_false, Bool.true_or, Bool.or_true, Bool.false_or, Bool.or_false, bI_t, bI_f, bI_nand, n_mod, an11, an01, negn1, negn2, false_and, and_false, true_and, and_true, not_true_eq_false, not_false_eq_true, bI_n0, bI_n1, Bool.true_eq_false, Bool.false_eq_true, cI_s, cL_s, cV_s, cR_n, pm_bR_self, bI_ite, bL_ite, bV_ite, bR_ite, ]
      exact e
theorem bitsOf_M0 (h : PH) {st : Nat} (hs : st < 64) : pm_ev (223, 0, [vi (nI st), none, none], [], h) = some (some (vi (nI (pop6 st))), h) := by
  rw [E_X9_bitsOf]
  exact bitsOf_M h hs 6 0 rfl
def lShine (l : AC) (st at' : Nat) : Bool := decide ((l (1)).val ≤ pop6 st) && (decide (pop6 st = (l (0)).val) || decide (at' % 2 = 0))
theorem shines_C {h : PH} {j : Nat} {l : AC} (hv : lV l) (hC : LogC h j l) {st at' : Nat} (hs : st < 64) (ha : at' < 2147483648) : pm_ev (51, 0, [vr 2 j, vi (nI st), vi (nI at'), none], [], h) = some (some (vi (bI (lShine l st at'))), h) := by
  obtain ⟨⟨l0, l1, _, _⟩, _⟩ := hC
  have hp := pop6_le st
  have hV := hv.1
  rw [E_X2_shines, bc_int st (by omega), pop_32 hs]
  unfold lShine
  by_cases q1 : (l (1)).val ≤ pop6 st
  · by_cases q2 : pop6 st = (l (0)).val
    · simp (disch := omega) only [y_0, y_1, y_2, y_3, y_4, y_5, y_6, y_7, y_8, y_9, y_10, y_11, y_12, y_13, y_14, y_15, y_16, y_17, y_18, y_19, y_20, y_21, y_22, y_23, y_24, y_29, y_30, y_31, y_32, y_39, y_40, y_48, y_49, y_50, y_60, y_64, y_69, y_78, y_99, y_100, y_142, y_161, y_600, y_610, y_894, y_999, y_1000, y_1216, y_1276, neg1, neg2, nI_add, nI_mul, nn_sub, nn_lt, nn_le, nn_eq, in_lt, ni_lt, in_le, ni_le, in_eq, ni_eq, iI_lt, iI_le, iI_eq, nn_clamp, inb_n, t_lt, f_lt, t_le, f_le, t_eq, f_eq, ti_lt, fi_lt, ti_le, fi_le, ti_eq, fi_eq, ↓reduceIte, ite_true, ite_false, eq_self, decide_true, decide_false, Bool.true_and, Bool.and_true, Bool.false_and, Bool.and_false, Bool.true_or, Bool.or_true, Bool.false_or, Bool.or_false, bI_t, bI_f, bI_nand, n_mod, an11, an01, negn1, negn2, false_and, and_false, true_and, and_true, not_true_eq_false, not_false_eq_true, bI_n0, bI_n1, Bool.true_eq_false, Bool.false_eq_true, cI_s, cL_s, cV_s, cR_n, pm_bR_self, bI_ite, bL_ite, bV_ite, bR_ite, l0, l1]
    · by_cases q3 : at' % 2 = 0
      · simp (disch := omega) only [y_0, y_1, y_2, y_3, y_4, y_5, y_6, y_7, y_8, y_9, y_10, y_11, y_12, y_13, y_14, y_15, y_16, y_17, y_18, y_19, y_20, y_21, y_22, y_23, y_24, y_29, y_30, y_31, y_32, y_39, y_40, y_48, y_49, y_50, y_60, y_64, y_69, y_78, y_99, y_100, y_142, y_161, y_600, y_610, y_894, y_999, y_1000, y_1216, y_1276, neg1, neg2, nI_add, nI_mul, nn_sub, nn_lt, nn_le, nn_eq, in_lt, ni_lt, in_le, ni_le, in_eq, ni_eq, iI_lt, iI_le, iI_eq, nn_clamp, inb_n, t_lt, f_lt, t_le, f_le, t_eq, f_eq, ti_lt, fi_lt, ti_le, fi_le, ti_eq, fi_eq, ↓reduceIte, ite_true, ite_false, eq_self, decide_true, decide_false, Bool.true_and, Bool.and_true, Bool.false_and, Bool.and_false, Bool.true_or, Bool.or_true, Bool.false_or, Bool.or_false, bI_t, bI_f, bI_nand, n_mod, an11, an01, negn1, negn2, false_and, and_false, true_and, and_true, not_true_eq_false, not_false_eq_true, bI_n0, bI_n1, Bool.true_eq_false, Bool.false_eq_true, cI_s, cL_s, cV_s, cR_n, pm_bR_self, bI_ite, bL_ite, bV_ite, bR_ite, l0, l1, nn_div, nn_rem2]
      · simp (disch := omega) only [y_0, y_1, y_2, y_3, y_4, y_5, y_6, y_7, y_8, y_9, y_10, y_11, y_12, y_13, y_14, y_15, y_16, y_17, y_18, y_19, y_20, y_21, y_22, y_23, y_24, y_29, y_30, y_31, y_32, y_39, y_40, y_48, y_49, y_50, y_60, y_64, y_69, y_78, y_99, y_100, y_142, y_161, y_600, y_610, y_894, y_999, y_1000, y_1216, y_1276, neg1, neg2, nI_add, nI_mul, nn_sub, nn_lt, nn_le, nn_eq, in_lt, ni_lt, in_le, ni_le, in_eq, ni_eq, iI_lt, iI_le, iI_eq, nn_clamp, inb_n, t_lt, f_lt, t_le, f_le, t_eq, f_eq, ti_lt, fi_lt, ti_le, fi_le, ti_eq, fi_eq, ↓reduceIte, ite_true, ite_false, eq_self, decide_true, decide_false, Bool.true_and, Bool.and_true, Bool.false_and, Bool.and_false, Bool.true_or, Bool.or_true, Bool.false_or, Bool.or_false, bI_t, bI_f, bI_nand, n_mod, an11, an01, negn1, negn2, false_and, and_false, true_and, and_true, not_true_eq_false, not_false_eq_true, bI_n0, bI_n1, Bool.true_eq_false, Bool.false_eq_true, cI_s, cL_s, cV_s, cR_n, pm_bR_self, bI_ite, bL_ite, bV_ite, bR_ite, l0, l1, nn_div, nn_rem2]
  · simp (disch := omega) only [y_0, y_1, y_2, y_3, y_4, y_5, y_6, y_7, y_8, y_9, y_10, y_11, y_12, y_13, y_14, y_15, y_16, y_17, y_18, y_19, y_20, y_21, y_22, y_23, y_24, y_29, y_30, y_31, y_32, y_39, y_40, y_48, y_49, y_50, y_60, y_64, y_69, y_78, y_99, y_100, y_142, y_161, y_600, y_610, y_894, y_999, y_1000, y_1216, y_1276, neg1, neg2, nI_add, nI_mul, nn_sub, nn_lt, nn_le, nn_eq, in_lt, ni_lt, in_le, ni_le, in_eq, ni_eq, iI_lt, iI_le, iI_eq, nn_clamp, inb_n, t_lt, f_lt, t_le, f_le, t_eq, f_eq, ti_lt, fi_lt, ti_le, fi_le, ti_eq, fi_eq, ↓reduceIte, ite_true, ite_false, eq_self, decide_true, decide_false, Bool.true_and, Bool.and_true, Bool.false_and, Bool.and_false, Bool.true_or, Bool.or_true, Bool.false_or, Bool.or_false, bI_t, bI_f, bI_nand, n_mod, an11, an01, negn1, negn2, false_and, and_false, true_and, and_true, not_true_eq_false, not_false_eq_true, bI_n0, bI_n1, Bool.true_eq_false, Bool.false_eq_true, cI_s, cL_s, cV_s, cR_n, pm_bR_self, bI_ite, bL_ite, bV_ite, bR_ite, l0, l1]
theorem shines_M {h : PH} {a : Nat} {l : AC} (hv : lV l) (hM : ModL h a l) {st at' : Nat} (hs : st < 64) (ha : at' < 2147483648) : pm_ev (240, 0, [vr 8 0, vi (nI st), vi (nI at')], [], h) = some (some (vi (bI (lShine l st at'))), h) := by
  obtain ⟨⟨⟨l0, l1, _, _, hl⟩, _⟩, a0⟩ := hM
  have hp := pop6_le st
  have hV := hv.1
  rw [E_X9_isLitBy]
  unfold lShine
  by_cases q1 : (l (1)).val ≤ pop6 st
  · by_cases q2 : pop6 st = (l (0)).val
    · simp (disch := omega) only [y_0, y_1, y_2, y_3, y_4, y_5, y_6, y_7, y_8, y_9, y_10, y_11, y_12, y_13, y_14, y_15, y_16, y_17, y_18, y_19, y_20, y_21, y_22, y_23, y_24, y_29, y_30, y_31, y_32, y_39, y_40, y_48, y_49, y_50, y_60, y_64, y_69, y_78, y_99, y_100, y_142, y_161, y_600, y_610, y_894, y_999, y_1000, y_1216, y_1276, neg1, neg2, nI_add, nI_mul, nn_sub, nn_lt, nn_le, nn_eq, in_lt, ni_lt, in_le, ni_le, in_eq, ni_eq, iI_lt, iI_le, iI_eq, nn_clamp, inb_n, t_lt, f_lt, t_le, f_le, t_eq, f_eq, ti_lt, fi_lt, ti_le, fi_le, ti_eq, fi_eq, ↓reduceIte, ite_true, ite_false, eq_self, decide_true, decide_false, Bool.true_and, Bool.and_true, Bool.false_and, Bool.and_false, Bool.true_or, Bool.or_true, Bool.false_or, Bool.or_false, bI_t, bI_f, bI_nand, n_mod, an11, an01, negn1, negn2, false_and, and_false, true_and, and_true, not_true_eq_false, not_false_eq_true, bI_n0, bI_n1, Bool.true_eq_false, Bool.false_eq_true, cI_s, cL_s, cV_s, cR_n, pm_bR_self, bI_ite, bL_ite, bV_ite, bR_ite, E_X9_isLitBy_15, E_X9_isLitBy_33, bitsOf_M0 h hs, a0, l0, l1]
    · by_cases q3 : at' % 2 = 0
      · simp (disch := omega) only [y_0, y_1, y_2, y_3, y_4, y_5, y_6, y_7, y_8, y_9, y_10, y_11, y_12, y_13, y_14, y_15, y_16, y_17, y_18, y_19, y_20, y_21, y_22, y_23, y_24, y_29, y_30, y_31, y_32, y_39, y_40, y_48, y_49, y_50, y_60, y_64, y_69, y_78, y_99, y_100, y_142, y_161, y_600, y_610, y_894, y_999, y_1000, y_1216, y_1276, neg1, neg2, nI_add, nI_mul, nn_sub, nn_lt, nn_le, nn_eq, in_lt, ni_lt, in_le, ni_le, in_eq, ni_eq, iI_lt, iI_le, iI_eq, nn_clamp, inb_n, t_lt, f_lt, t_le, f_le, t_eq, f_eq, ti_lt, fi_lt, ti_le, fi_le, ti_eq, fi_eq, ↓reduceIte, ite_true, ite_false, eq_self, decide_true, decide_false, Bool.true_and, Bool.and_true, Bool.false_and, Bool.and_false, Bool.true_or, Bool.or_true, Bool.false_or, Bool.or_false, bI_t, bI_f, bI_nand, n_mod, an11, an01, negn1, negn2, false_and, and_false, true_and, and_true, not_true_eq_false, not_false_eq_true, bI_n0, bI_n1, Bool.true_eq_false, Bool.false_eq_true, cI_s, cL_s, cV_s, cR_n, pm_bR_self, bI_ite, bL_ite, bV_ite, bR_ite, E_X9_isLitBy_15, E_X9_isLitBy_33, bitsOf_M0 h hs, a0, l0, l1, nn_div, nn_rem2]
      · simp (disch := omega) only [y_0, y_1, y_2, y_3, y_4, y_5, y_6, y_7, y_8, y_9, y_10, y_11, y_12, y_13, y_14, y_15, y_16, y_17, y_18, y_19, y_20, y_21, y_22, y_23, y_24, y_29, y_30, y_31, y_32, y_39, y_40, y_48, y_49, y_50, y_60, y_64, y_69, y_78, y_99, y_100, y_142, y_161, y_600, y_610, y_894, y_999, y_1000, y_1216, y_1276, neg1, neg2, nI_add, nI_mul, nn_sub, nn_lt, nn_le, nn_eq, in_lt, ni_lt, in_le, ni_le, in_eq, ni_eq, iI_lt, iI_le, iI_eq, nn_clamp, inb_n, t_lt, f_lt, t_le, f_le, t_eq, f_eq, ti_lt, fi_lt, ti_le, fi_le, ti_eq, fi_eq, ↓reduceIte, ite_true, ite_false, eq_self, decide_true, decide_false, Bool.true_and, Bool.and_true, Bool.false_and, Bool.and_false, Bool.true_or, Bool.or_true, Bool.false_or, Bool.or_false, bI_t, bI_f, bI_nand, n_mod, an11, an01, negn1, negn2, false_and, and_false, true_and, and_true, not_true_eq_false, not_false_eq_true, bI_n0, bI_n1, Bool.true_eq_false, Bool.false_eq_true, cI_s, cL_s, cV_s, cR_n, pm_bR_self, bI_ite, bL_ite, bV_ite, bR_ite, E_X9_isLitBy_15, E_X9_isLitBy_33, bitsOf_M0 h hs, a0, l0, l1, nn_div, nn_rem2]
  · simp (disch := omega) only [y_0, y_1, y_2, y_3, y_4, y_5, y_6, y_7, y_8, y_9, y_10, y_11, y_12, y_13, y_14, y_15, y_16, y_17, y_18, y_19, y_20, y_21, y_22, y_23, y_24, y_29, y_30, y_31, y_32, y_39, y_40, y_48, y_49, y_50, y_60, y_64, y_69, y_78, y_99, y_100, y_142, y_161, y_600, y_610, y_894, y_999, y_1000, y_1216, y_1276, neg1, neg2, nI_add, nI_mul, nn_sub, nn_lt, nn_le, nn_eq, in_lt, ni_lt, in_le, ni_le, in_eq, ni_eq, iI_lt, iI_le, iI_eq, nn_clamp, inb_n, t_lt, f_lt, t_le, f_le, t_eq, f_eq, ti_lt, fi_lt, ti_le, fi_le, ti_eq, fi_eq, ↓reduceIte, ite_true, ite_false, eq_self, decide_true, decide_false, Bool.true_and, Bool.and_true, Bool.false_and, Bool.and_false, Bool.true_or, Bool.or_true, Bool.false_or, Bool.or_false, bI_t, bI_f, bI_nand, n_mod, an11, an01, negn1, negn2, false_and, and_false, true_and, and_true, not_true_eq_false, not_false_eq_true, bI_n0, bI_n1, Bool.true_eq_false, Bool.false_eq_true, cI_s, cL_s, cV_s, cR_n, pm_bR_self, bI_ite, bL_ite, bV_ite, bR_ite, E_X9_isLitBy_15, E_X9_isLitBy_33, bitsOf_M0 h hs, a0, l0, l1]
def lAgree (l : AC) (st k : Nat) : Bool := cond (lShine l st (l (30+k)).val) (decide ((l (20+k)).val = 1)) (!decide ((l (20+k)).val = 1))
theorem agrees_C {h : PH} {j : Nat} {l : AC} (hv : lV l) (hC : LogC h j l) {st k : Nat} (hs : st < 64) (hk : k < (l (3)).val) : pm_ev (52, 0, [vr 2 j, vi (nI st), vi (nI k)], [], h) = some (some (vi (bI (lAgree l st k))), h) := by
  have S := shines_C hv hC (st := st) (at' := (l (30+k)).val) hs (by omega)
  obtain ⟨f1, f2⟩ := hC.2.2 k hk
  have hV := hv.1
  have hf := hv.2.2 k hk
  rw [E_X2_agrees]
  unfold lAgree
  cases q : lShine l st (l (30+k)).val <;> (rw [q] at S; by_cases q2 : (l (20+k)).val = 1 <;> simp (disch := omega) only [y_0, y_1, y_2, y_3, y_4, y_5, y_6, y_7, y_8, y_9, y_10, y_11, y_12, y_13, y_14, y_15, y_16, y_17, y_18, y_19, y_20, y_21, y_22, y_23, y_24, y_29, y_30, y_31, y_32, y_39, y_40, y_48, y_49, y_50, y_60, y_64, y_69, y_78, y_99, y_100, y_142, y_161, y_600, y_610, y_894, y_999, y_1000, y_1216, y_1276, neg1, neg2, nI_add, nI_mul, nn_sub, nn_lt, nn_le, nn_eq, in_lt, ni_lt, in_le, ni_le, in_eq, ni_eq, iI_lt, iI_le, iI_eq, nn_clamp, inb_n, t_lt, f_lt, t_le, f_le, t_eq, f_eq, ti_lt, fi_lt, ti_le, fi_le, ti_eq, fi_eq, ↓reduceIte, ite_true, ite_false, eq_self, decide_true, decide_false, Bool.true_and, Bool.and_true, Bool.false_and, Bool.and_false, Bool.true_or, Bool.or_true, Bool.false_or, Bool.or_false, bI_t, bI_f, bI_nand, n_mod, an11, an01, negn1, negn2, false_and, and_false, true_and, and_true, not_true_eq_false, not_false_eq_true, bI_n0, bI_n1, Bool.true_eq_false, Bool.false_eq_true, cI_s, cL_s, cV_s, cR_n, pm_bR_self, bI_ite, bL_ite, bV_ite, bR_ite, f1, f2, S, q2, cond_true, cond_false, Bool.not_false, Bool.not_true])
def lWrong (l : AC) (st : Nat) : Nat := fb_ct (fun k => !lAgree l st k) (l (3)).val
def lFit (l : AC) (st : Nat) : Bool := decide (lWrong l st = 0)
theorem wrongBy_4 {h : PH} {a : Nat} {l : AC} (hv : lV l) (hM : ModL h a l) {st : Nat} (hs : st < 64) : ∀ r k, k + r = (l (3)).val → pm_ev (241, 4, [vr 8 0, vi (nI st), vi (nI (fb_ct (fun k => !lAgree l st k) k)), vi (nI k)], [], h) = some (some (vi (nI (lWrong l st))), h) := by
  obtain ⟨⟨⟨l0, l1, l2, l3, hl⟩, _, lF⟩, a0⟩ := id hM
  have hV := hv.1
  intro r
  induction r with
  | zero =>
    intro k hk
    have hk : k = (l (3)).val := by omega
    subst hk
    rw [E_X9_wrongBy_4]
    simp (disch := omega) only [y_0, y_1, y_2, y_3, y_4, y_5, y_6, y_7, y_8, y_9, y_10, y_11, y_12, y_13, y_14, y_15, y_16, y_17, y_18, y_19, y_20, y_21, y_22, y_23, y_24, y_29, y_30, y_31, y_32, y_39, y_40, y_48, y_49, y_50, y_60, y_64, y_69, y_78, y_99, y_100, y_142, y_161, y_600, y_610, y_894, y_999, y_1000, y_1216, y_1276, neg1, neg2, nI_add, nI_mul, nn_sub, nn_lt, nn_le, nn_eq, in_lt, ni_lt, in_le, ni_le, in_eq, ni_eq, iI_lt, iI_le, iI_eq, nn_clamp, inb_n, t_lt, f_lt, t_le, f_le, t_eq, f_eq, ti_lt, fi_lt, ti_le, fi_le, ti_eq, fi_eq, ↓reduceIte, ite_true, ite_false, eq_self, decide_true, decide_false, Bool.true_and, Bool.and_true, Bool.false_and, Bool.and_false, Bool.true_or, Bool.or_true, Bool.false_or, Bool.or_false, bI_t, bI_f, bI_nand, n_mod, an11, an01, negn1, negn2, false_and, and_false, true_and, and_true, not_true_eq_false, not_false_eq_true, bI_n0, bI_n1, Bool.true_eq_false, Bool.false_eq_true, cI_s, cL_s, cV_s, cR_n, pm_bR_self, bI_ite, bL_ite, bV_ite, bR_ite, E_X9_wrongBy_16, E_X9_wrongBy_38, E_X9_wrongBy_57, a0, l3]
    rfl
  | succ r ih =>
    intro k hk
    have e := ih (k + 1) (by omega)
    have hk2 : k < (l (3)).val := by omega
    have S := shines_M hv hM (st := st) (at' := (l (30+k)).val) hs (by omega)
    obtain ⟨f1, f2⟩ := lF k hk2
    have hf := hv.2.2 k hk2
    rw [fb_ct_succ] at e
    unfold lAgree at e
    rw [E_X9_wrongBy_4]
    unfold lAgree
    cases q : lShine l st (l (30+k)).val <;> (rw [q] at S e; by_cases q2 : (l (20+k)).val = 1 <;> (simp only [q2, cond_true, cond_false, Bool.not_false, Bool.not_true, decide_true, decide_false, ↓reduceIte, Bool.false_eq_true] at e; simp (disch := omega) only [y_0, y_1, y_2, y_3, y_4, y_5, y_6, y_7, y_8, y_9, y_10, y_11, y_12, y_13, y_14, y_15, y_16, y_17, y_18, y_19, y_20, y_21, y_22, y_23, y_24, y_29, y_30, y_31, y_32, y_39, y_40, y_48, y_49, y_50, y_60, y_64, y_69, y_78, y_99, y_100, y_142, y_161, y_600, y_610, y_894, y_999, y_1000, y_1216, y_1276, neg1, neg2, nI_add, nI_mul, nn_sub, nn_lt, nn_le, nn_eq, in_lt, ni_lt, in_le, ni_le, in_eq, ni_eq, iI_lt, iI_le, iI_eq, nn_clamp, inb_n, t_lt, f_lt, t_le, f_le, t_eq, f_eq, ti_lt, fi_lt, ti_le, fi_le, ti_eq, fi_eq, ↓reduceIte, ite_true, ite_false, eq_self, decide_true, decide_false, Bool.true_and, Bool.and_true, Bool.false_and, Bool.and_false, Bool.true_or, Bool.or_true, Bool.false_or, Bool.or_false, bI_t, bI_f, bI_nand, n_mod, an11, an01, negn1, negn2, false_and, and_false, true_and, and_true, not_true_eq_false, not_false_eq_true, bI_n0, bI_n1, Bool.true_eq_false, Bool.false_eq_true, cI_s, cL_s, cV_s, cR_n, pm_bR_self, bI_ite, bL_ite, bV_ite, bR_ite, E_X9_wrongBy_16, E_X9_wrongBy_38, E_X9_wrongBy_57, a0, l3, f1, f2, S, q2]; exact e))
theorem wrongBy_M {h : PH} {a : Nat} {l : AC} (hv : lV l) (hM : ModL h a l) {st : Nat} (hs : st < 64) : pm_ev (241, 0, [vr 8 0, vi (nI st), none, none], [], h) = some (some (vi (nI (lWrong l st))), h) := by
  rw [E_X9_wrongBy]
  exact wrongBy_4 hv hM hs _ 0 (Nat.zero_add _)
