def aDrawN (nx : Int32 → Int32) (rd : Int32 → Nat → Nat) : Nat → Int32 → CrS → CrS
  | 0, _, σ => σ
  | r + 1, x, σ => aDrawN nx rd r (aDrawX nx rd x) (aDrawC nx rd x σ)
theorem aDrawN_s (nx : Int32 → Int32) (rd : Int32 → Nat → Nat) (r : Nat) (x : Int32) (σ : CrS) : aDrawN nx rd (r + 1) x σ = aDrawN nx rd r (aDrawX nx rd x) (aDrawC nx rd x σ) := rfl
theorem drawL_C {nx : Int32 → Int32} {rd : Int32 → Nat → Nat} (hR : RdOk nx rd) {n : Nat} (hn : n < 100) : ∀ r k σ h, k + r = n → csV σ → 0 < (σ.1 6).val → CouC h σ → ∃ h', pm_ev (31, 13, [vr 1 0, none, none, vi (nI n), vi (nI k), none, none, none, none], [], h) = some (none, h') ∧ CouC h' (aDrawN nx rd r (h.1 1 0 5) σ) ∧ csV (aDrawN nx rd r (h.1 1 0 5) σ) ∧ Fr crT h h' := by
  intro r
  induction r with
  | zero =>
    intro k σ h hk hV h6 hC
    refine ⟨h, ?_, hC, hV, Fr.rfl'⟩
    rw [E_X1_draw_13]
    simp (disch := omega) only [y_0, y_1, y_2, y_3, y_4, y_5, y_6, y_7, y_8, y_9, y_10, y_11, y_12, y_13, y_14, y_15, y_16, y_17, y_18, y_19, y_20, y_21, y_22, y_23, y_24, y_29, y_30, y_31, y_32, y_39, y_40, y_48, y_49, y_50, y_60, y_64, y_69, y_78, y_99, y_100, y_142, y_161, y_600, y_610, y_894, y_999, y_1000, y_1216, y_1276, neg1, neg2, nI_add, nI_mul, nn_sub, nn_lt, nn_le, nn_eq, in_lt, ni_lt, in_le, ni_le, in_eq, ni_eq, iI_lt, iI_le, iI_eq, nn_clamp, inb_n, t_lt, f_lt, t_le, f_le, t_eq, f_eq, ti_lt, fi_lt, ti_le, fi_le, ti_eq, fi_eq, ↓reduceIte, ite_true, ite_false, eq_self, decide_true, decide_false, Bool.true_and, Bool.and_true, Bool.false_and, Bool.and_false, Bool.true_or, Bool.or_true, Bool.false_or, Bool.or_false, bI_t, bI_f, bI_nand, n_mod, an11, an01, negn1, negn2, false_and, and_false, true_and, and_true, not_true_eq_false, not_false_eq_true, bI_n0, bI_n1, Bool.true_eq_false, Bool.false_eq_true, cI_s, cL_s, cV_s, cR_n, pm_bR_self, bI_ite, bL_ite, bV_ite, bR_ite, E_X1_draw_126]
  | succ r ih =>
    intro k σ h hk hV h6 hC
    obtain ⟨h1, e1, hC1, x1, f1⟩ := draw_13 hR hV h6 hC hn (show k < n by omega)
    obtain ⟨dV, d6⟩ := aDraw_V hR (x := h.1 1 0 5) hV h6
    rw [aDrawN_s]
    generalize aDrawC nx rd (h.1 1 0 5) σ = p at *
    generalize aDrawX nx rd (h.1 1 0 5) = y at *
    obtain ⟨h', e, hC', hV', f⟩ := ih (k + 1) p h1 (by omega) dV (by rw [d6]; exact h6) hC1
    rw [x1] at hC' hV'
    exact ⟨h', e1.trans e, hC', hV', f1.tr f⟩
theorem drawL_M {nx : Int32 → Int32} {rd : Int32 → Nat → Nat} (hR : RdOk nx rd) {n a : Nat} (hn : n < 100) (w : Int32) : ∀ r k σ g, k + r = n → csV σ → 0 < (σ.1 6).val → CouM g a σ → ∃ g', pm_ev (263, 45, [vr 8 0, none, none, vi (nI n), vi w, vi (nI k)], [], g) = (pm_bI (pm_ev (216, 0, [vr 8 0, vi w, none, none], [], g')) fun r8 h7 => some (some (vi r8), h7)) ∧ CouM g' a (aDrawN nx rd r (g.1 8 0 36) σ) ∧ Fr scM g g' := by
  intro r
  induction r with
  | zero =>
    intro k σ g hk hV h6 hM
    refine ⟨g, ?_, hM, Fr.rfl'⟩
    rw [E_X9_drawn_45, if_neg (fun z => by have := (nn_lt (by omega) (by omega)).mp z; omega)]
  | succ r ih =>
    intro k σ g hk hV h6 hM
    obtain ⟨g1, e1, hM1, x1, f1⟩ := draws_M hR hV h6 hM
    obtain ⟨dV, d6⟩ := aDraw_V hR (x := g.1 8 0 36) hV h6
    rw [aDrawN_s]
    generalize aDrawC nx rd (g.1 8 0 36) σ = p at *
    generalize aDrawX nx rd (g.1 8 0 36) = y at *
    obtain ⟨g', e, hM', f⟩ := ih (k + 1) p g1 (by omega) dV (by rw [d6]; exact h6) hM1
    rw [x1] at hM'
    refine ⟨g', ?_, hM', f1.tr f⟩
    rw [E_X9_drawn_45, if_pos ((nn_lt (by omega) (by omega)).mpr (by omega)), e1, cV_s, show (1 : Int32) = nI 1 from rfl, nI_add]
    exact e
