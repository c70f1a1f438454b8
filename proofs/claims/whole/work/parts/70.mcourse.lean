/-! ===== nights: the reference ===== -/
def CouM (g : PH) (a : Nat) (σ : CrS) : Prop := ModS g a σ.1 ∧ AliveM g σ.1 ∧ (∀ s, s < (σ.1 6).val → g.1 38 0 s = nI ((σ.1 0).val * (σ.1 (50+s)).val + (σ.1 (40+s)).val)) ∧ g.1 8 0 19 = nI 15 ∧ g.1 8 0 22 = nI σ.2.2.1 ∧ g.1 8 0 23 = nI σ.2.2.2.1 ∧ g.1 8 0 24 = nI σ.2.2.2.2 ∧ g.1 8 0 25 = nI σ.2.1
def kM (g g' : PH) : Prop := Fr scM g g' ∧ ∀ k, (k < 22 ∨ 25 < k) → g'.1 8 0 k = g.1 8 0 k
theorem kM.rf (h : PH) : kM h h := ⟨Fr.rfl', fun _ _ => rfl⟩
theorem kM.tr {a b c : PH} (h1 : kM a b) (h2 : kM b c) : kM a c := ⟨h1.1.tr h2.1, fun k hk => (h2.2 k hk).trans (h1.2 k hk)⟩
theorem btw_side (p q u v x y : Nat) : aBtw p q u v x y = decide (aSide p q x y ≠ -1 ∧ aSide p q u v = aSide p q x y ∧ dst u v p q < dst x y p q) := by
  rw [Bool.eq_iff_iff]
  unfold aBtw
  simp only [Bool.and_eq_true, Bool.or_eq_true, decide_eq_true_eq, sgZ_eq]
  unfold aSide dst
  rcases Nat.lt_trichotomy x p with a | a | a <;> rcases Nat.lt_trichotomy y q with b | b | b <;> rcases Nat.lt_trichotomy u p with e | e | e <;> rcases Nat.lt_trichotomy v q with f | f | f <;> simp (disch := omega) only [t_lt, f_lt, t_eq, f_eq, ti_lt, fi_lt, ti_eq, fi_eq, ↓reduceIte, ite_true, ite_false, if_true, if_false, ne_eq, not_true_eq_false, not_false_eq_true, false_and, and_false, true_and, and_true, or_false, false_or, or_true, true_or, iff_self, iff_false, false_iff, true_iff, iff_true, not_false_iff] <;> (try omega)
theorem lost_M {g : PH} {a : Nat} {c : AC} {hr gn st ca s : Nat} (hV : csV (c, hr, gn, st, ca)) (hM : CouM g a (c, hr, gn, st, ca)) (hs : s < 4) : pm_ev (201, 0, [vr 8 0, vi (nI s)], [], g) = some (some (vi (bI ((st ||| ca).testBit s))), g) := by
  obtain ⟨_, _, _, _, _, h3, h4, _⟩ := hM
  obtain ⟨_, _, _, b3, b4⟩ := hV
  dsimp only at h3 h4 b3 b4
  have hL := or16 b3 b4
  rw [E_X9_isLost]
  cases q : (st ||| ca).testBit s
  · simp (disch := omega) only [y_0, y_1, y_2, y_3, y_4, y_5, y_6, y_7, y_8, y_9, y_10, y_11, y_12, y_13, y_14, y_15, y_16, y_17, y_18, y_19, y_20, y_21, y_22, y_23, y_24, y_29, y_30, y_31, y_32, y_39, y_40, y_48, y_49, y_50, y_60, y_64, y_69, y_78, y_99, y_100, y_142, y_161, y_600, y_610, y_894, y_999, y_1000, y_1216, y_1276, neg1, neg2, nI_add, nI_mul, nn_sub, nn_lt, nn_le, nn_eq, in_lt, ni_lt, in_le, ni_le, in_eq, ni_eq, iI_lt, iI_le, iI_eq, nn_clamp, inb_n, t_lt, f_lt, t_le, f_le, t_eq, f_eq, ti_lt, fi_lt, ti_le, fi_le, ti_eq, fi_eq, ↓reduceIte, ite_true, ite_false, eq_self, decide_true, decide_false, Bool.true_and, Bool.and_true, Bool.false_and, Bool.and_false, Bool.true_or, Bool.or_true, Bool.false_or, Bool.or_false, bI_t, bI_f, bI_nand, n_mod, an11, an01, negn1, negn2, false_and, and_false, true_and, and_true, not_true_eq_false, not_false_eq_true, bI_n0, bI_n1, Bool.true_eq_false, Bool.false_eq_true, cI_s, cL_s, cV_s, cR_n, pm_bR_self, bI_ite, bL_ite, bV_ite, bR_ite, h3, h4, nn_or, nn_and, shr_n, bit_i, q]
  · simp (disch := omega) only [y_0, y_1, y_2, y_3, y_4, y_5, y_6, y_7, y_8, y_9, y_10, y_11, y_12, y_13, y_14, y_15, y_16, y_17, y_18, y_19, y_20, y_21, y_22, y_23, y_24, y_29, y_30, y_31, y_32, y_39, y_40, y_48, y_49, y_50, y_60, y_64, y_69, y_78, y_99, y_100, y_142, y_161, y_600, y_610, y_894, y_999, y_1000, y_1216, y_1276, neg1, neg2, nI_add, nI_mul, nn_sub, nn_lt, nn_le, nn_eq, in_lt, ni_lt, in_le, ni_le, in_eq, ni_eq, iI_lt, iI_le, iI_eq, nn_clamp, inb_n, t_lt, f_lt, t_le, f_le, t_eq, f_eq, ti_lt, fi_lt, ti_le, fi_le, ti_eq, fi_eq, ↓reduceIte, ite_true, ite_false, eq_self, decide_true, decide_false, Bool.true_and, Bool.and_true, Bool.false_and, Bool.and_false, Bool.true_or, Bool.or_true, Bool.false_or, Bool.or_false, bI_t, bI_f, bI_nand, n_mod, an11, an01, negn1, negn2, false_and, and_false, true_and, and_true, not_true_eq_false, not_false_eq_true, bI_n0, bI_n1, Bool.true_eq_false, Bool.false_eq_true, cI_s, cL_s, cV_s, cR_n, pm_bR_self, bI_ite, bL_ite, bV_ite, bR_ite, h3, h4, nn_or, nn_and, shr_n, bit_i, q]
theorem near_M {g : PH} {a : Nat} {c : AC} {hr gn st ca s t : Nat} (hV : csV (c, hr, gn, st, ca)) (hM : CouM g a (c, hr, gn, st, ca)) (hs : s < (c (6)).val) (ht : t < (c (6)).val) : pm_ev (208, 0, [vr 8 0, vi (nI s), vi (nI t)], [], g) = some (some (vi (bI (decide (dst (c (40+s)).val (c (50+s)).val (c (2)).val (c (3)).val < dst (c (40+t)).val (c (50+t)).val (c (2)).val (c (3)).val)))), g) := by
  have hv : cV c := hV.1
  have hm : ModS g a c := hM.1
  have hV1 := hv.1
  obtain ⟨_, _, hc, _⟩ := hM
  dsimp only at hc
  obtain ⟨⟨⟨_, _, m2, _, _, _, ha⟩, _⟩, m13, m14, _⟩ := id hm
  obtain ⟨v1, v2, _⟩ := hv.2.2.1 s hs
  obtain ⟨w1, w2, _⟩ := hv.2.2.1 t ht
  have A1 := apart_M hv hm v1 v2 hV1.2.2.2.2.1 hV1.2.2.2.2.2.1
  have A2 := apart_M hv hm w1 w2 hV1.2.2.2.2.1 hV1.2.2.2.2.2.1
  have c1 := hc s hs
  have c2 := hc t ht
  have d1 := dstS_lt hv hs
  have d2 := dstS_lt hv ht
  generalize dst (c (40+s)).val (c (50+s)).val (c (2)).val (c (3)).val = ds at *
  generalize dst (c (40+t)).val (c (50+t)).val (c (2)).val (c (3)).val = dt at *
  generalize (c (0)).val * (c (50+s)).val + (c (40+s)).val = cs at *
  generalize (c (0)).val * (c (50+t)).val + (c (40+t)).val = ct at *
  generalize (c (0)).val * (c (3)).val + (c (2)).val = cl at *
  rw [E_X9_isNearer]
  by_cases q : ds < dt
  · rw [decide_eq_true q]
    simp (disch := omega) only [y_0, y_1, y_2, y_3, y_4, y_5, y_6, y_7, y_8, y_9, y_10, y_11, y_12, y_13, y_14, y_15, y_16, y_17, y_18, y_19, y_20, y_21, y_22, y_23, y_24, y_29, y_30, y_31, y_32, y_39, y_40, y_48, y_49, y_50, y_60, y_64, y_69, y_78, y_99, y_100, y_142, y_161, y_600, y_610, y_894, y_999, y_1000, y_1216, y_1276, neg1, neg2, nI_add, nI_mul, nn_sub, nn_lt, nn_le, nn_eq, in_lt, ni_lt, in_le, ni_le, in_eq, ni_eq, iI_lt, iI_le, iI_eq, nn_clamp, inb_n, t_lt, f_lt, t_le, f_le, t_eq, f_eq, ti_lt, fi_lt, ti_le, fi_le, ti_eq, fi_eq, ↓reduceIte, ite_true, ite_false, eq_self, decide_true, decide_false, Bool.true_and, Bool.and_true, Bool.false_and, Bool.and_false, Bool.true_or, Bool.or_true, Bool.false_or, Bool.or_false, bI_t, bI_f, bI_nand, n_mod, an11, an01, negn1, negn2, false_and, and_false, true_and, and_true, not_true_eq_false, not_false_eq_true, bI_n0, bI_n1, Bool.true_eq_false, Bool.false_eq_true, cI_s, cL_s, cV_s, cR_n, pm_bR_self, bI_ite, bL_ite, bV_ite, bR_ite, E_X9_isNearer_7, E_X9_isNearer_18, E_X9_isNearer_28, E_X9_isNearer_39, c1, m13, m2, A1, c2, A2]
  · rw [decide_eq_false q]
    simp (disch := omega) only [y_0, y_1, y_2, y_3, y_4, y_5, y_6, y_7, y_8, y_9, y_10, y_11, y_12, y_13, y_14, y_15, y_16, y_17, y_18, y_19, y_20, y_21, y_22, y_23, y_24, y_29, y_30, y_31, y_32, y_39, y_40, y_48, y_49, y_50, y_60, y_64, y_69, y_78, y_99, y_100, y_142, y_161, y_600, y_610, y_894, y_999, y_1000, y_1216, y_1276, neg1, neg2, nI_add, nI_mul, nn_sub, nn_lt, nn_le, nn_eq, in_lt, ni_lt, in_le, ni_le, in_eq, ni_eq, iI_lt, iI_le, iI_eq, nn_clamp, inb_n, t_lt, f_lt, t_le, f_le, t_eq, f_eq, ti_lt, fi_lt, ti_le, fi_le, ti_eq, fi_eq, ↓reduceIte, ite_true, ite_false, eq_self, decide_true, decide_false, Bool.true_and, Bool.and_true, Bool.false_and, Bool.and_false, Bool.true_or, Bool.or_true, Bool.false_or, Bool.or_false, bI_t, bI_f, bI_nand, n_mod, an11, an01, negn1, negn2, false_and, and_false, true_and, and_true, not_true_eq_false, not_false_eq_true, bI_n0, bI_n1, Bool.true_eq_false, Bool.false_eq_true, cI_s, cL_s, cV_s, cR_n, pm_bR_self, bI_ite, bL_ite, bV_ite, bR_ite, E_X9_isNearer_7, E_X9_isNearer_18, E_X9_isNearer_28, E_X9_isNearer_39, c1, m13, m2, A1, c2, A2]
theorem who_d {c : AC} {L s : Nat} : ∀ n, whoF c L s n = s ∨ (aSide (c (2)).val (c (3)).val (c (40+s)).val (c (50+s)).val ≠ -1 ∧ dst (c (40+whoF c L s n)).val (c (50+whoF c L s n)).val (c (2)).val (c (3)).val < dst (c (40+s)).val (c (50+s)).val (c (2)).val (c (3)).val)
  | 0 => Or.inl rfl
  | n + 1 => by
    rw [whoF_s]
    split
    · rename_i q
      refine Or.inr ⟨q.1, ?_⟩
      rcases who_d (c := c) (L := L) (s := s) n with e | e
      · have := q.2.2.2
        rw [e] at this
        exact this
      · exact Nat.lt_trans q.2.2.2 e.2
    · exact who_d n
def bst (c : AC) (L s k : Nat) : Int32 := if whoF c L s k = s then iI (-1) else nI (whoF c L s k)
theorem shadeOf_4 {g : PH} {a : Nat} {c : AC} {hr gn st ca s : Nat} (hV : csV (c, hr, gn, st, ca)) (hM : CouM g a (c, hr, gn, st, ca)) (hs : s < (c (6)).val) : ∀ r k, k + r = (c (6)).val → pm_ev (207, 4, [vr 8 0, vi (nI s), vi (bst c (st ||| ca) s k), vi (nI k)], [], g) = some (some (vi (bst c (st ||| ca) s (c (6)).val)), g) := by
  have hv : cV c := hV.1
  have hm : ModS g a c := hM.1
  have hV1 := hv.1
  have m16 := hm.2.2.2.2
  have hc := hM.2.2.1
  dsimp only at hc
  intro r
  induction r with
  | zero =>
    intro k hk
    have hk : k = (c (6)).val := by omega
    subst hk
    rw [E_X9_shadeOf_4]
    simp (disch := omega) only [y_0, y_1, y_2, y_3, y_4, y_5, y_6, y_7, y_8, y_9, y_10, y_11, y_12, y_13, y_14, y_15, y_16, y_17, y_18, y_19, y_20, y_21, y_22, y_23, y_24, y_29, y_30, y_31, y_32, y_39, y_40, y_48, y_49, y_50, y_60, y_64, y_69, y_78, y_99, y_100, y_142, y_161, y_600, y_610, y_894, y_999, y_1000, y_1216, y_1276, neg1, neg2, nI_add, nI_mul, nn_sub, nn_lt, nn_le, nn_eq, in_lt, ni_lt, in_le, ni_le, in_eq, ni_eq, iI_lt, iI_le, iI_eq, nn_clamp, inb_n, t_lt, f_lt, t_le, f_le, t_eq, f_eq, ti_lt, fi_lt, ti_le, fi_le, ti_eq, fi_eq, ↓reduceIte, ite_true, ite_false, eq_self, decide_true, decide_false, Bool.true_and, Bool.and_true, Bool.false_and, Bool.and_false, Bool.true_or, Bool.or_true, Bool.false_or, Bool.or_false, bI_t, bI_f, bI_nand, n_mod, an11, an01, negn1, negn2, false_and, and_false, true_and, and_true, not_true_eq_false, not_false_eq_true, bI_n0, bI_n1, Bool.true_eq_false, Bool.false_eq_true, cI_s, cL_s, cV_s, cR_n, pm_bR_self, bI_ite, bL_ite, bV_ite, bR_ite, m16]
  | succ r ih =>
    intro k hk
    have hk2 : k < (c (6)).val := by omega
    have e := ih (k + 1) (by omega)
    have wd := who_d (c := c) (L := st ||| ca) (s := s) k
    have hw := whoF_lt (c := c) (L := st ||| ca) hs k (by omega)
    have LO := lost_M hV hM (show k < 4 by omega)
    obtain ⟨v1, v2, _⟩ := hv.2.2.1 s hs
    obtain ⟨w1, w2, _⟩ := hv.2.2.1 k hk2
    have BT := btw_M hv hm w1 w2 v1 v2
    rw [btw_side] at BT
    have NR := near_M hV hM hk2 hw
    have c1 := hc s hs
    have c2 := hc k hk2
    have ew : bst c (st ||| ca) s (k + 1) = if aSide (c (2)).val (c (3)).val (c (40+s)).val (c (50+s)).val ≠ -1 ∧ (st ||| ca).testBit k = false ∧ aSide (c (2)).val (c (3)).val (c (40+k)).val (c (50+k)).val = aSide (c (2)).val (c (3)).val (c (40+s)).val (c (50+s)).val ∧ dst (c (40+k)).val (c (50+k)).val (c (2)).val (c (3)).val < dst (c (40+whoF c (st ||| ca) s k)).val (c (50+whoF c (st ||| ca) s k)).val (c (2)).val (c (3)).val then nI k else bst c (st ||| ca) s k := by
      unfold bst
      rw [whoF_s]
      split
      · rename_i q
        rw [if_neg (fun z => ?_)]
        subst z
        rcases wd with z2 | z2
        · rw [z2] at q; exact Nat.lt_irrefl _ q.2.2.2
        · exact Nat.lt_irrefl _ (Nat.lt_trans q.2.2.2 z2.2)
      · rfl
    have eb : bst c (st ||| ca) s k = if whoF c (st ||| ca) s k = s then iI (-1) else nI (whoF c (st ||| ca) s k) := rfl
    rw [← e]
    clear e ih
    generalize whoF c (st ||| ca) s k = w at *
    generalize (c (0)).val * (c (50+s)).val + (c (40+s)).val = cs at *
    generalize (c (0)).val * (c (50+k)).val + (c (40+k)).val = ck at *
    rw [E_X9_shadeOf_4]
    by_cases q0 : k = s
    · subst q0
      have nq : ¬ (dst (c (40+k)).val (c (50+k)).val (c (2)).val (c (3)).val < dst (c (40+w)).val (c (50+w)).val (c (2)).val (c (3)).val) := fun z => by
        rcases wd with z2 | z2
        · rw [z2] at z; exact Nat.lt_irrefl _ z
        · exact Nat.lt_irrefl _ (Nat.lt_trans z z2.2)
      rw [if_neg (fun z => nq z.2.2.2)] at ew
      rw [ew]
      simp (disch := omega) only [y_0, y_1, y_2, y_3, y_4, y_5, y_6, y_7, y_8, y_9, y_10, y_11, y_12, y_13, y_14, y_15, y_16, y_17, y_18, y_19, y_20, y_21, y_22, y_23, y_24, y_29, y_30, y_31, y_32, y_39, y_40, y_48, y_49, y_50, y_60, y_64, y_69, y_78, y_99, y_100, y_142, y_161, y_600, y_610, y_894, y_999, y_1000, y_1216, y_1276, neg1, neg2, nI_add, nI_mul, nn_sub, nn_lt, nn_le, nn_eq, in_lt, ni_lt, in_le, ni_le, in_eq, ni_eq, iI_lt, iI_le, iI_eq, nn_clamp, inb_n, t_lt, f_lt, t_le, f_le, t_eq, f_eq, ti_lt, fi_lt, ti_le, fi_le, ti_eq, fi_eq, ↓reduceIte, ite_true, ite_false, eq_self, decide_true, decide_false, Bool.true_and, Bool.and_true, Bool.false_and, Bool.and_false, Bool.true_or, Bool.or_true, Bool.false_or, Bool.or_false, bI_t, bI_f, bI_nand, n_mod, an11, an01, negn1, negn2, false_and, and_false, true_and, and_true, not_true_eq_false, not_false_eq_true, bI_n0, bI_n1, Bool.true_eq_false, Bool.false_eq_true, cI_s, cL_s, cV_s, cR_n, pm_bR_self, bI_ite, bL_ite, bV_ite, bR_ite, m16]
    · cases q1 : (st ||| ca).testBit k
      · rw [q1] at LO
        by_cases q2 : aSide (c (2)).val (c (3)).val (c (40+s)).val (c (50+s)).val ≠ -1 ∧ aSide (c (2)).val (c (3)).val (c (40+k)).val (c (50+k)).val = aSide (c (2)).val (c (3)).val (c (40+s)).val (c (50+s)).val ∧ dst (c (40+k)).val (c (50+k)).val (c (2)).val (c (3)).val < dst (c (40+s)).val (c (50+s)).val (c (2)).val (c (3)).val
        · rw [decide_eq_true q2] at BT
          by_cases q3 : w = s
          · subst q3
            rw [if_pos rfl] at eb
            rw [if_pos ⟨q2.1, q1, q2.2⟩] at ew
            rw [ew, eb]
            simp (disch := omega) only [y_0, y_1, y_2, y_3, y_4, y_5, y_6, y_7, y_8, y_9, y_10, y_11, y_12, y_13, y_14, y_15, y_16, y_17, y_18, y_19, y_20, y_21, y_22, y_23, y_24, y_29, y_30, y_31, y_32, y_39, y_40, y_48, y_49, y_50, y_60, y_64, y_69, y_78, y_99, y_100, y_142, y_161, y_600, y_610, y_894, y_999, y_1000, y_1216, y_1276, neg1, neg2, nI_add, nI_mul, nn_sub, nn_lt, nn_le, nn_eq, in_lt, ni_lt, in_le, ni_le, in_eq, ni_eq, iI_lt, iI_le, iI_eq, nn_clamp, inb_n, t_lt, f_lt, t_le, f_le, t_eq, f_eq, ti_lt, fi_lt, ti_le, fi_le, ti_eq, fi_eq, ↓reduceIte, ite_true, ite_false, eq_self, decide_true, decide_false, Bool.true_and, Bool.and_true, Bool.false_and, Bool.and_false, Bool.true_or, Bool.or_true, Bool.false_or, Bool.or_false, bI_t, bI_f, bI_nand, n_mod, an11, an01, negn1, negn2, false_and, and_false, true_and, and_true, not_true_eq_false, not_false_eq_true, bI_n0, bI_n1, Bool.true_eq_false, Bool.false_eq_true, cI_s, cL_s, cV_s, cR_n, pm_bR_self, bI_ite, bL_ite, bV_ite, bR_ite, m16, LO, c2, c1, E_X9_shadeOf_32, E_X9_shadeOf_38, BT]
          · rw [if_neg q3] at eb
            by_cases q4 : dst (c (40+k)).val (c (50+k)).val (c (2)).val (c (3)).val < dst (c (40+w)).val (c (50+w)).val (c (2)).val (c (3)).val
            · rw [if_pos ⟨q2.1, q1, q2.2.1, q4⟩] at ew
              rw [decide_eq_true q4] at NR
              rw [ew, eb]
              simp (disch := omega) only [y_0, y_1, y_2, y_3, y_4, y_5, y_6, y_7, y_8, y_9, y_10, y_11, y_12, y_13, y_14, y_15, y_16, y_17, y_18, y_19, y_20, y_21, y_22, y_23, y_24, y_29, y_30, y_31, y_32, y_39, y_40, y_48, y_49, y_50, y_60, y_64, y_69, y_78, y_99, y_100, y_142, y_161, y_600, y_610, y_894, y_999, y_1000, y_1216, y_1276, neg1, neg2, nI_add, nI_mul, nn_sub, nn_lt, nn_le, nn_eq, in_lt, ni_lt, in_le, ni_le, in_eq, ni_eq, iI_lt, iI_le, iI_eq, nn_clamp, inb_n, t_lt, f_lt, t_le, f_le, t_eq, f_eq, ti_lt, fi_lt, ti_le, fi_le, ti_eq, fi_eq, ↓reduceIte, ite_true, ite_false, eq_self, decide_true, decide_false, Bool.true_and, Bool.and_true, Bool.false_and, Bool.and_false, Bool.true_or, Bool.or_true, Bool.false_or, Bool.or_false, bI_t, bI_f, bI_nand, n_mod, an11, an01, negn1, negn2, false_and, and_false, true_and, and_true, not_true_eq_false, not_false_eq_true, bI_n0, bI_n1, Bool.true_eq_false, Bool.false_eq_true, cI_s, cL_s, cV_s, cR_n, pm_bR_self, bI_ite, bL_ite, bV_ite, bR_ite, m16, LO, c2, c1, E_X9_shadeOf_32, E_X9_shadeOf_38, BT, NR, E_X9_shadeOf_58]
            · rw [if_neg (fun z => q4 z.2.2.2)] at ew
              rw [decide_eq_false q4] at NR
              rw [ew, eb]
              simp (disch := omega) only [y_0, y_1, y_2, y_3, y_4, y_5, y_6, y_7, y_8, y_9, y_10, y_11, y_12, y_13, y_14, y_15, y_16, y_17, y_18, y_19, y_20, y_21, y_22, y_23, y_24, y_29, y_30, y_31, y_32, y_39, y_40, y_48, y_49, y_50, y_60, y_64, y_69, y_78, y_99, y_100, y_142, y_161, y_600, y_610, y_894, y_999, y_1000, y_1216, y_1276, neg1, neg2, nI_add, nI_mul, nn_sub, nn_lt, nn_le, nn_eq, in_lt, ni_lt, in_le, ni_le, in_eq, ni_eq, iI_lt, iI_le, iI_eq, nn_clamp, inb_n, t_lt, f_lt, t_le, f_le, t_eq, f_eq, ti_lt, fi_lt, ti_le, fi_le, ti_eq, fi_eq, ↓reduceIte, ite_true, ite_false, eq_self, decide_true, decide_false, Bool.true_and, Bool.and_true, Bool.false_and, Bool.and_false, Bool.true_or, Bool.or_true, Bool.false_or, Bool.or_false, bI_t, bI_f, bI_nand, n_mod, an11, an01, negn1, negn2, false_and, and_false, true_and, and_true, not_true_eq_false, not_false_eq_true, bI_n0, bI_n1, Bool.true_eq_false, Bool.false_eq_true, cI_s, cL_s, cV_s, cR_n, pm_bR_self, bI_ite, bL_ite, bV_ite, bR_ite, m16, LO, c2, c1, E_X9_shadeOf_32, E_X9_shadeOf_38, BT, NR, E_X9_shadeOf_58]
        · rw [decide_eq_false q2] at BT
          have nq : ¬ (aSide (c (2)).val (c (3)).val (c (40+s)).val (c (50+s)).val ≠ -1 ∧ false = false ∧ aSide (c (2)).val (c (3)).val (c (40+k)).val (c (50+k)).val = aSide (c (2)).val (c (3)).val (c (40+s)).val (c (50+s)).val ∧ dst (c (40+k)).val (c (50+k)).val (c (2)).val (c (3)).val < dst (c (40+w)).val (c (50+w)).val (c (2)).val (c (3)).val) := fun z => q2 ⟨z.1, z.2.2.1, by
            rcases wd with z2 | z2
            · have := z.2.2.2
              rw [z2] at this; exact this
            · exact Nat.lt_trans z.2.2.2 z2.2⟩
          rw [q1, if_neg nq] at ew
          rw [ew]
          simp (disch := omega) only [y_0, y_1, y_2, y_3, y_4, y_5, y_6, y_7, y_8, y_9, y_10, y_11, y_12, y_13, y_14, y_15, y_16, y_17, y_18, y_19, y_20, y_21, y_22, y_23, y_24, y_29, y_30, y_31, y_32, y_39, y_40, y_48, y_49, y_50, y_60, y_64, y_69, y_78, y_99, y_100, y_142, y_161, y_600, y_610, y_894, y_999, y_1000, y_1216, y_1276, neg1, neg2, nI_add, nI_mul, nn_sub, nn_lt, nn_le, nn_eq, in_lt, ni_lt, in_le, ni_le, in_eq, ni_eq, iI_lt, iI_le, iI_eq, nn_clamp, inb_n, t_lt, f_lt, t_le, f_le, t_eq, f_eq, ti_lt, fi_lt, ti_le, fi_le, ti_eq, fi_eq, ↓reduceIte, ite_true, ite_false, eq_self, decide_true, decide_false, Bool.true_and, Bool.and_true, Bool.false_and, Bool.and_false, Bool.true_or, Bool.or_true, Bool.false_or, Bool.or_false, bI_t, bI_f, bI_nand, n_mod, an11, an01, negn1, negn2, false_and, and_false, true_and, and_true, not_true_eq_false, not_false_eq_true, bI_n0, bI_n1, Bool.true_eq_false, Bool.false_eq_true, cI_s, cL_s, cV_s, cR_n, pm_bR_self, bI_ite, bL_ite, bV_ite, bR_ite, m16, LO, c2, c1, E_X9_shadeOf_32, E_X9_shadeOf_38, BT]
      · rw [q1] at LO
        rw [if_neg (fun z => by rw [q1] at z; cases z.2.1)] at ew
        rw [ew]
        simp (disch := omega) only [y_0, y_1, y_2, y_3, y_4, y_5, y_6, y_7, y_8, y_9, y_10, y_11, y_12, y_13, y_14, y_15, y_16, y_17, y_18, y_19, y_20, y_21, y_22, y_23, y_24, y_29, y_30, y_31, y_32, y_39, y_40, y_48, y_49, y_50, y_60, y_64, y_69, y_78, y_99, y_100, y_142, y_161, y_600, y_610, y_894, y_999, y_1000, y_1216, y_1276, neg1, neg2, nI_add, nI_mul, nn_sub, nn_lt, nn_le, nn_eq, in_lt, ni_lt, in_le, ni_le, in_eq, ni_eq, iI_lt, iI_le, iI_eq, nn_clamp, inb_n, t_lt, f_lt, t_le, f_le, t_eq, f_eq, ti_lt, fi_lt, ti_le, fi_le, ti_eq, fi_eq, ↓reduceIte, ite_true, ite_false, eq_self, decide_true, decide_false, Bool.true_and, Bool.and_true, Bool.false_and, Bool.and_false, Bool.true_or, Bool.or_true, Bool.false_or, Bool.or_false, bI_t, bI_f, bI_nand, n_mod, an11, an01, negn1, negn2, false_and, and_false, true_and, and_true, not_true_eq_false, not_false_eq_true, bI_n0, bI_n1, Bool.true_eq_false, Bool.false_eq_true, cI_s, cL_s, cV_s, cR_n, pm_bR_self, bI_ite, bL_ite, bV_ite, bR_ite, m16, LO]
theorem beamed_M {g : PH} {a : Nat} {c : AC} {hr gn st ca s : Nat} (hV : csV (c, hr, gn, st, ca)) (hM : CouM g a (c, hr, gn, st, ca)) (hs : s < (c (6)).val) : pm_ev (209, 0, [vr 8 0, vi (nI s), none], [], g) = some (some (vi (bI (aLit c (whoF c (st ||| ca) s (c (6)).val) hr))), g) := by
  have S := shadeOf_4 hV hM hs _ 0 (Nat.zero_add _)
  have e0 : bst c (st ||| ca) s 0 = iI (-1) := if_pos rfl
  rw [e0] at S
  have hw := whoF_lt (c := c) (L := st ||| ca) hs (c (6)).val (Nat.le_refl _)
  have hV1 := hV.1.1
  have h25 : g.1 8 0 25 = nI hr := hM.2.2.2.2.2.2.2
  have I := fun t (ht : t < (c (6)).val) => isLit_M15 hV.1 hM.1 hM.2.1 hM.2.2.2.1 ht hV.2.1
  dsimp only at I
  rw [E_X9_isBeamed, E_X9_shadeOf, neg1, show (0 : Int32) = nI 0 from rfl, S, cI_s]
  unfold bst
  by_cases q : whoF c (st ||| ca) s (c (6)).val = s
  · rw [if_pos q, q, if_pos (by rfl), h25, I s hs, cI_s, if_pos (bI1 _)]
  · rw [if_neg q, if_neg (fun z => by rw [ni_eq (by omega) (by decide) (by decide)] at z; omega), h25, I _ hw, cI_s, if_pos (bI1 _)]
