def adjB (c : AC) (nw : Nat → Bool) (k i : Nat) : Bool := anyB (fun c' => nw c' && (decide (i = c') || nbr c (c' % (c (0)).val) (c' / (c (0)).val) 4 i)) k
theorem goes_95 {h : PH} {a : Nat} {c : AC} (hv : cV c) (hm : ModS h a c) (s b n w t : Int32) (F : Nat → Int32) (nw : Nat → Bool) : ∀ r k, k + r = (c (0)).val * (c (1)).val → pm_ev (219, 95, [vr 8 0, vi s, vi b, vi n, vi w, vi t, vi (nI k), none], [], goH h F (boolF nw) (boolF (adjB c nw k))) = pm_ev (219, 180, [vr 8 0, vi s, vi b, vi n, vi w, vi t, vi (nI 0), none], [], goH h F (boolF nw) (boolF (adjB c nw ((c (0)).val * (c (1)).val)))) := by
  have hV1 := hv.1
  have hb := WH_le hv
  obtain ⟨WH, hWH⟩ : ∃ n, n = (c (0)).val * (c (1)).val := ⟨_, rfl⟩
  rw [← hWH] at hb ⊢
  have hwh : ∀ T, (goH h F (boolF nw) T).1 8 0 14 * (goH h F (boolF nw) T).1 8 0 15 = nI WH := fun T => by rw [goH_8, goH_8, hm.2.2.1, hm.2.2.2.1, nI_mul, hWH]
  intro r
  induction r with
  | zero =>
    intro k hk
    have hk : k = WH := by omega
    subst hk
    rw [E_X9_goes_95]
    simp (disch := omega) only [y_0, y_1, y_2, y_3, y_4, y_5, y_6, y_7, y_8, y_9, y_10, y_11, y_12, y_13, y_14, y_15, y_16, y_17, y_18, y_19, y_20, y_21, y_22, y_23, y_24, y_29, y_30, y_31, y_32, y_39, y_40, y_48, y_49, y_50, y_60, y_64, y_69, y_78, y_99, y_100, y_142, y_161, y_600, y_610, y_894, y_999, y_1000, y_1216, y_1276, neg1, neg2, nI_add, nI_mul, nn_sub, nn_lt, nn_le, nn_eq, in_lt, ni_lt, in_le, ni_le, in_eq, ni_eq, iI_lt, iI_le, iI_eq, nn_clamp, inb_n, t_lt, f_lt, t_le, f_le, t_eq, f_eq, ti_lt, fi_lt, ti_le, fi_le, ti_eq, fi_eq, ↓reduceIte, ite_true, ite_false, eq_self, decide_true, decide_false, Bool.true_and, Bool.and_true, Bool.false_and, Bool.and_false, Bool.true_or, Bool.or_true, Bool.false_or, Bool.or_false, bI_t, bI_f, bI_nand, n_mod, an11, an01, negn1, negn2, false_and, and_false, true_and, and_true, not_true_eq_false, not_false_eq_true, bI_n0, bI_n1, Bool.true_eq_false, Bool.false_eq_true, cI_s, cL_s, cV_s, cR_n, pm_bR_self, bI_ite, bL_ite, bV_ite, bR_ite, E_X9_goes_18, E_X9_goes_57, E_X9_goes_32, E_X9_goes_59, E_X9_goes_41, E_X9_goes_86, E_X9_goes_116, E_X9_goes_130, E_X9_goes_207, E_X9_goes_232, E_X9_goes_223, E_X9_goes_147, E_X9_goes_239, E_X9_goes_165, E_X9_goes_163, E_X9_goes_264, E_X9_goes_249, hwh]
  | succ r ih =>
    intro k hk
    have e := ih (k + 1) (by omega)
    have hk2 : k < (c (0)).val * (c (1)).val := by omega
    obtain ⟨x1, x2, x3⟩ := cell_xy (show 0 < (c (0)).val by omega) hk2
    have N40 : ∀ T, (goH h F (boolF nw) T).1 40 0 k = bI (nw k) := fun T => goH_40 h F (boolF nw) T (by omega)
    have es : ∀ i, adjB c nw (k + 1) i = (adjB c nw k i || (nw k && (decide (i = k) || nbr c (k % (c (0)).val) (k / (c (0)).val) 4 i))) := fun i => rfl
    rw [← e, E_X9_goes_95]
    cases q : nw k
    · have e1 : boolF (adjB c nw (k + 1)) = boolF (adjB c nw k) := funext fun i => by unfold boolF; rw [es, q, Bool.false_and, Bool.or_false]
      rw [e1]
      rw [q] at N40
      simp (disch := omega) only [y_0, y_1, y_2, y_3, y_4, y_5, y_6, y_7, y_8, y_9, y_10, y_11, y_12, y_13, y_14, y_15, y_16, y_17, y_18, y_19, y_20, y_21, y_22, y_23, y_24, y_29, y_30, y_31, y_32, y_39, y_40, y_48, y_49, y_50, y_60, y_64, y_69, y_78, y_99, y_100, y_142, y_161, y_600, y_610, y_894, y_999, y_1000, y_1216, y_1276, neg1, neg2, nI_add, nI_mul, nn_sub, nn_lt, nn_le, nn_eq, in_lt, ni_lt, in_le, ni_le, in_eq, ni_eq, iI_lt, iI_le, iI_eq, nn_clamp, inb_n, t_lt, f_lt, t_le, f_le, t_eq, f_eq, ti_lt, fi_lt, ti_le, fi_le, ti_eq, fi_eq, ↓reduceIte, ite_true, ite_false, eq_self, decide_true, decide_false, Bool.true_and, Bool.and_true, Bool.false_and, Bool.and_false, Bool.true_or, Bool.or_true, Bool.false_or, Bool.or_false, bI_t, bI_f, bI_nand, n_mod, an11, an01, negn1, negn2, false_and, and_false, true_and, and_true, not_true_eq_false, not_false_eq_true, bI_n0, bI_n1, Bool.true_eq_false, Bool.false_eq_true, cI_s, cL_s, cV_s, cR_n, pm_bR_self, bI_ite, bL_ite, bV_ite, bR_ite, E_X9_goes_18, E_X9_goes_57, E_X9_goes_32, E_X9_goes_59, E_X9_goes_41, E_X9_goes_86, E_X9_goes_116, E_X9_goes_130, E_X9_goes_207, E_X9_goes_232, E_X9_goes_223, E_X9_goes_147, E_X9_goes_239, E_X9_goes_165, E_X9_goes_163, E_X9_goes_264, E_X9_goes_249, hwh, N40]
    · rw [q] at N40
      have D := goes_133 hv hm x1 x2 s b n w t F (boolF nw) (fun i => adjB c nw k i || decide (i = k)) 4 0 rfl
      have e1 : boolF (adjB c nw (k + 1)) = boolF (fun i => (adjB c nw k i || decide (i = k)) || nbr c (k % (c (0)).val) (k / (c (0)).val) 4 i) := funext fun i => by unfold boolF; dsimp only; rw [es, q, Bool.true_and, Bool.or_assoc]
      have e2 : upd (boolF (adjB c nw k)) k (nI 1) = boolF (fun i => (adjB c nw k i || decide (i = k)) || nbr c (k % (c (0)).val) (k / (c (0)).val) 0 i) := funext fun i => by
        unfold boolF upd
        dsimp only
        rw [show nbr c (k % (c (0)).val) (k / (c (0)).val) 0 i = false from rfl, Bool.or_false]
        by_cases qi : i = k
        · rw [if_pos qi, decide_eq_true qi, Bool.or_true]; rfl
        · rw [if_neg qi, decide_eq_false qi, Bool.or_false]
      rw [x3] at D
      rw [e1, ← D]
      simp (disch := omega) only [y_0, y_1, y_2, y_3, y_4, y_5, y_6, y_7, y_8, y_9, y_10, y_11, y_12, y_13, y_14, y_15, y_16, y_17, y_18, y_19, y_20, y_21, y_22, y_23, y_24, y_29, y_30, y_31, y_32, y_39, y_40, y_48, y_49, y_50, y_60, y_64, y_69, y_78, y_99, y_100, y_142, y_161, y_600, y_610, y_894, y_999, y_1000, y_1216, y_1276, neg1, neg2, nI_add, nI_mul, nn_sub, nn_lt, nn_le, nn_eq, in_lt, ni_lt, in_le, ni_le, in_eq, ni_eq, iI_lt, iI_le, iI_eq, nn_clamp, inb_n, t_lt, f_lt, t_le, f_le, t_eq, f_eq, ti_lt, fi_lt, ti_le, fi_le, ti_eq, fi_eq, ↓reduceIte, ite_true, ite_false, eq_self, decide_true, decide_false, Bool.true_and, Bool.and_true, Bool.false_and, Bool.and_false, Bool.true_or, Bool.or_true, Bool.false_or, Bool.or_false, bI_t, bI_f, bI_nand, n_mod, an11, an01, negn1, negn2, false_and, and_false, true_and, and_true, not_true_eq_false, not_false_eq_true, bI_n0, bI_n1, Bool.true_eq_false, Bool.false_eq_true, cI_s, cL_s, cV_s, cR_n, pm_bR_self, bI_ite, bL_ite, bV_ite, bR_ite, E_X9_goes_18, E_X9_goes_57, E_X9_goes_32, E_X9_goes_59, E_X9_goes_41, E_X9_goes_86, E_X9_goes_116, E_X9_goes_130, E_X9_goes_207, E_X9_goes_232, E_X9_goes_223, E_X9_goes_147, E_X9_goes_239, E_X9_goes_165, E_X9_goes_163, E_X9_goes_264, E_X9_goes_249, hwh, N40, goH_s41, e2]
theorem stpX_v (x : Nat) : stpX x 0 = x ∧ stpX x 1 = x + 1 ∧ stpX x 2 = x ∧ stpX x 3 = x - 1 := by
  refine ⟨?_, ?_, ?_, ?_⟩ <;> unfold stpX <;> simp <;> omega
theorem stpY_v (y : Nat) : stpY y 0 = y - 1 ∧ stpY y 1 = y ∧ stpY y 2 = y + 1 ∧ stpY y 3 = y := by
  refine ⟨?_, ?_, ?_, ?_⟩ <;> unfold stpY <;> simp <;> omega
theorem nbr_iff {c : AC} (hv : cV c) {x y u v : Nat} (hx : x < (c (0)).val) (hy : y < (c (1)).val) (hu : u < (c (0)).val) (hw : v < (c (1)).val) : nbr c x y 4 ((c (0)).val * v + u) = true ↔ (u = x + 1 ∧ v = y) ∨ (u + 1 = x ∧ v = y) ∨ (u = x ∧ v = y + 1) ∨ (u = x ∧ v + 1 = y) := by
  have key : ∀ X Y, X < (c (0)).val → Y < (c (1)).val → ((c (0)).val * v + u = (c (0)).val * Y + X ↔ u = X ∧ v = Y) := fun X Y h1 h2 => by
    constructor
    · intro e
      have a1 := cell_div (y := v) hu
      have a2 := cell_div (y := Y) h1
      rw [e] at a1
      exact ⟨a1.2.symm.trans a2.2, a1.1.symm.trans a2.1⟩
    · rintro ⟨rfl, rfl⟩; rfl
  have vx := stpX_v x
  have vy := stpY_v y
  unfold nbr
  rw [anyB_iff]
  constructor
  · rintro ⟨d, hd, h⟩
    rw [Bool.and_eq_true] at h
    obtain ⟨h1, h2⟩ := h
    have h2 := of_decide_eq_true h2
    unfold stpOk at h1
    have h1 := of_decide_eq_true h1
    rw [key _ _ (by omega) (by omega)] at h2
    have : d = 0 ∨ d = 1 ∨ d = 2 ∨ d = 3 := by omega
    rcases this with e | e | e | e <;> subst e <;> omega
  · intro h
    have mk : ∀ d, d < 4 → (0 ≤ stpX x d ∧ stpX x d < (c (0)).val ∧ 0 ≤ stpY y d ∧ stpY y d < (c (1)).val) → u = (stpX x d).toNat → v = (stpY y d).toNat → ∃ k, k < 4 ∧ (stpOk c x y k && decide ((c (0)).val * v + u = (c (0)).val * (stpY y k).toNat + (stpX x k).toNat)) = true := fun d hd h1 h2 h3 => ⟨d, hd, by
      rw [Bool.and_eq_true]
      exact ⟨decide_eq_true h1, decide_eq_true (by rw [h2, h3])⟩⟩
    rcases h with h | h | h | h
    · exact mk 1 (by decide) (by omega) (by omega) (by omega)
    · exact mk 3 (by decide) (by omega) (by omega) (by omega)
    · exact mk 2 (by decide) (by omega) (by omega) (by omega)
    · exact mk 0 (by decide) (by omega) (by omega) (by omega)
def cellP (c : AC) (P : Nat → Nat → Bool) (i : Nat) : Bool := decide (i < (c (0)).val * (c (1)).val) && P (i % (c (0)).val) (i / (c (0)).val)
theorem cellP_at {c : AC} (hv : cV c) (P : Nat → Nat → Bool) {x y : Nat} (hx : x < (c (0)).val) (hy : y < (c (1)).val) : cellP c P ((c (0)).val * y + x) = P x y := by
  have h1 := (cell_lt hv hx hy).1
  obtain ⟨d1, d2⟩ := cell_div (y := y) hx
  unfold cellP
  rw [decide_eq_true h1, d1, d2, Bool.true_and]
theorem adj_spr {c : AC} (hv : cV c) {P : Nat → Nat → Bool} (hP : ∀ x y, P x y = true → x < (c (0)).val ∧ y < (c (1)).val) {x y : Nat} (hx : x < (c (0)).val) (hy : y < (c (1)).val) : adjB c (cellP c P) ((c (0)).val * (c (1)).val) ((c (0)).val * y + x) = sprP P x y := by
  have hV1 := hv.1
  rw [Bool.eq_iff_iff]
  unfold adjB
  rw [anyB_iff]
  constructor
  · rintro ⟨k, hk, h⟩
    obtain ⟨x1, x2, x3⟩ := cell_xy (show 0 < (c (0)).val by omega) hk
    rw [Bool.and_eq_true, Bool.or_eq_true] at h
    obtain ⟨h1, h2⟩ := h
    rw [← x3, cellP_at hv P x1 x2] at h1
    unfold sprP
    simp only [Bool.or_eq_true, Bool.and_eq_true, decide_eq_true_eq]
    rcases h2 with h2 | h2
    · have h2 := of_decide_eq_true h2
      have a1 := cell_div (y := y) hx
      rw [h2] at a1
      rw [a1.1, a1.2] at h1
      exact Or.inl (Or.inl (Or.inl (Or.inl h1)))
    · rw [nbr_iff hv x1 x2 hx hy] at h2
      clear x3
      generalize k % (c (0)).val = X at *
      generalize k / (c (0)).val = Y at *
      rcases h2 with h2 | h2 | h2 | h2
      · rw [show X = x - 1 by omega, show Y = y by omega] at h1
        exact Or.inl (Or.inl (Or.inl (Or.inr ⟨by omega, h1⟩)))
      · rw [show X = x + 1 by omega, show Y = y by omega] at h1
        exact Or.inl (Or.inl (Or.inr ⟨by omega, h1⟩))
      · rw [show X = x by omega, show Y = y - 1 by omega] at h1
        exact Or.inl (Or.inr ⟨by omega, h1⟩)
      · rw [show X = x by omega, show Y = y + 1 by omega] at h1
        exact Or.inr ⟨by omega, h1⟩
  · intro h
    unfold sprP at h
    simp only [Bool.or_eq_true, Bool.and_eq_true, decide_eq_true_eq] at h
    have mk : ∀ X Y, P X Y = true → (X = x ∧ Y = y) ∨ ((x = X + 1 ∧ y = Y) ∨ (x + 1 = X ∧ y = Y) ∨ (x = X ∧ y = Y + 1) ∨ (x = X ∧ y + 1 = Y)) → ∃ k, k < (c (0)).val * (c (1)).val ∧ (cellP c P k && (decide ((c (0)).val * y + x = k) || nbr c (k % (c (0)).val) (k / (c (0)).val) 4 ((c (0)).val * y + x))) = true := fun X Y h1 h2 => by
      obtain ⟨hX, hY⟩ := hP X Y h1
      refine ⟨(c (0)).val * Y + X, (cell_lt hv hX hY).1, ?_⟩
      obtain ⟨d1, d2⟩ := cell_div (y := Y) hX
      rw [cellP_at hv P hX hY, h1, Bool.true_and, d1, d2, Bool.or_eq_true]
      rcases h2 with ⟨rfl, rfl⟩ | h2
      · exact Or.inl (decide_eq_true rfl)
      · exact Or.inr ((nbr_iff hv hX hY hx hy).mpr h2)
    rcases h with (((h | h) | h) | h) | h
    · exact mk x y h (Or.inl ⟨rfl, rfl⟩)
    · exact mk _ _ h.2 (Or.inr (by omega))
    · exact mk _ _ h.2 (Or.inr (by omega))
    · exact mk _ _ h.2 (Or.inr (by omega))
    · exact mk _ _ h.2 (Or.inr (by omega))
