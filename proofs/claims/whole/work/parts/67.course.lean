/-! ===== nights: the class ===== -/
theorem y_41 : (41 : Int32) = nI 41 := by decide
abbrev CrS : Type := AC × Nat × Nat × Nat × Nat
def csV (σ : CrS) : Prop := cV σ.1 ∧ σ.2.1 < 24 ∧ σ.2.2.1 < 16 ∧ σ.2.2.2.1 < 16 ∧ σ.2.2.2.2 < 16
def CouC (h : PH) (σ : CrS) : Prop := CoastC h 9 σ.1 ∧ h.1 1 0 1 = nI σ.2.1 ∧ h.1 1 0 2 = nI σ.2.2.1 ∧ h.1 1 0 3 = nI σ.2.2.2.1 ∧ h.1 1 0 4 = nI σ.2.2.2.2
def crT (t i : Nat) : Bool := t == 1 || coT 9 t i
theorem crT_scC {t i : Nat} (h : scC t i = false) : crT t i = false := by
  unfold crT
  rw [coT_scC (by decide) h, Bool.or_false]
  unfold scC at h
  cases q : (t == 1)
  · rfl
  · rw [q] at h; simp at h
def kC (h h' : PH) : Prop := Fr crT h h' ∧ h'.1 1 0 5 = h.1 1 0 5
theorem kC.rf (h : PH) : kC h h := ⟨Fr.rfl', rfl⟩
theorem kC.tr {a b c : PH} (h1 : kC a b) (h2 : kC b c) : kC a c := ⟨h1.1.tr h2.1, h2.2.trans h1.2⟩
def aSide (p q u v : Nat) : Int := if u = p then (if v < q then 0 else if q < v then 2 else -1) else if v = q then (if p < u then 1 else 3) else -1
theorem side_C {h : PH} {j : Nat} {c : AC} (hv : cV c) (hC : CoastC h j c) {s : Nat} (hs : s < (c (6)).val) : pm_ev (24, 0, [vr 0 j, vi (nI s), none, none], [], h) = some (some (vi (iI (aSide (c (2)).val (c (3)).val (c (40+s)).val (c (50+s)).val))), h) := by
  have hV1 := hv.1
  obtain ⟨v1, v2, _⟩ := hv.2.2.1 s hs
  have s1 := (hC.2.2 s hs).1.1
  obtain ⟨c0, c1, c2, _⟩ := hC.1
  rw [E_X0_side]
  generalize (c (40+s)).val = u at *
  generalize (c (50+s)).val = v at *
  generalize (c (2)).val = p at *
  generalize (c (3)).val = q at *
  have e1 : (8 * v + u) / 2 ^ 3 = v := by omega
  have e2 : 8 * v + u &&& 7 = u := by rw [show (7 : Nat) = 2 ^ 3 - 1 from rfl, Nat.and_two_pow_sub_one_eq_mod]; omega
  have e3 : (8 * q + p) / 2 ^ 3 = q := by omega
  have e4 : 8 * q + p &&& 7 = p := by rw [show (7 : Nat) = 2 ^ 3 - 1 from rfl, Nat.and_two_pow_sub_one_eq_mod]; omega
  have h4 : s < 4 := by omega
  unfold aSide
  rcases Nat.lt_trichotomy u p with a | a | a <;> rcases Nat.lt_trichotomy v q with b | b | b <;> (simp (disch := omega) only [y_0, y_1, y_2, y_3, y_4, y_5, y_6, y_7, y_8, y_9, y_10, y_11, y_12, y_13, y_14, y_15, y_16, y_17, y_18, y_19, y_20, y_21, y_22, y_23, y_24, y_29, y_30, y_31, y_32, y_39, y_40, y_48, y_49, y_50, y_60, y_64, y_69, y_78, y_99, y_100, y_142, y_161, y_600, y_610, y_894, y_999, y_1000, y_1216, y_1276, neg1, neg2, nI_add, nI_mul, nn_sub, nn_lt, nn_le, nn_eq, in_lt, ni_lt, in_le, ni_le, in_eq, ni_eq, iI_lt, iI_le, iI_eq, nn_clamp, inb_n, t_lt, f_lt, t_le, f_le, t_eq, f_eq, ti_lt, fi_lt, ti_le, fi_le, ti_eq, fi_eq, ↓reduceIte, ite_true, ite_false, eq_self, decide_true, decide_false, Bool.true_and, Bool.and_true, Bool.false_and, Bool.and_false, Bool.true_or, Bool.or_true, Bool.false_or, Bool.or_false, bI_t, bI_f, bI_nand, n_mod, an11, an01, negn1, negn2, false_and, and_false, true_and, and_true, not_true_eq_false, not_false_eq_true, bI_n0, bI_n1, Bool.true_eq_false, Bool.false_eq_true, cI_s, cL_s, cV_s, cR_n, pm_bR_self, bI_ite, bL_ite, bV_ite, bR_ite, E_X0_side_70, E_X0_side_60, s1, c2, nn_and, shr_n, e1, e2, e3, e4, nI_sub]; try rfl)
theorem abs_sub {u p : Nat} (hu : u < 1000) (hp : p < 1000) : (if nI 0 ≤ iI ((u : Int) - p) then iI ((u : Int) - p) else nI 0 - iI ((u : Int) - p)) = nI (max u p - min u p) := by
  by_cases q : p ≤ u
  · rw [if_pos ((ni_le (by decide) (by omega) (by omega)).mpr (by omega)), iI_toNat (by omega)]
    congr 1
    omega
  · rw [if_neg (fun z => by have := (ni_le (by decide) (by omega) (by omega)).mp z; omega), iI_nsub, iI_toNat (by omega)]
    congr 1
    omega
theorem fromLamp_C {h : PH} {j : Nat} {c : AC} (hv : cV c) (hC : CoastC h j c) {s : Nat} (hs : s < (c (6)).val) : pm_ev (25, 0, [vr 0 j, vi (nI s)], [], h) = some (some (vi (nI (dst (c (40+s)).val (c (50+s)).val (c (2)).val (c (3)).val))), h) := by
  have hV1 := hv.1
  obtain ⟨v1, v2, _⟩ := hv.2.2.1 s hs
  have s1 := (hC.2.2 s hs).1.1
  obtain ⟨c0, c1, c2, _⟩ := hC.1
  rw [E_X0_fromLamp]
  generalize (c (40+s)).val = u at *
  generalize (c (50+s)).val = v at *
  generalize (c (2)).val = p at *
  generalize (c (3)).val = q at *
  have e1 : (8 * v + u) / 2 ^ 3 = v := by omega
  have e2 : 8 * v + u &&& 7 = u := by rw [show (7 : Nat) = 2 ^ 3 - 1 from rfl, Nat.and_two_pow_sub_one_eq_mod]; omega
  have e3 : (8 * q + p) / 2 ^ 3 = q := by omega
  have e4 : 8 * q + p &&& 7 = p := by rw [show (7 : Nat) = 2 ^ 3 - 1 from rfl, Nat.and_two_pow_sub_one_eq_mod]; omega
  have h4 : s < 4 := by omega
  simp (disch := omega) only [y_0, y_7, y_3, y_31, inb_n, nn_clamp, s1, c2, nn_and, show 3 &&& 31 = 3 from rfl]
  rw [show nI (8 * v + u) >>> nI 3 = nI v from by have := shr_n (n := 8 * v + u) (k := 3) (by omega) (by omega); rw [e1] at this; exact this, show nI (8 * q + p) >>> nI 3 = nI q from by have := shr_n (n := 8 * q + p) (k := 3) (by omega) (by omega); rw [e3] at this; exact this, e2, e4, nI_sub, nI_sub, abs_sub (by omega) (by omega), abs_sub (by omega) (by omega), nI_add]
  rfl
theorem or16 {a b : Nat} (ha : a < 16) (hb : b < 16) : a ||| b < 16 := Nat.or_lt_two_pow (n := 4) ha hb
theorem lost_C {h : PH} {c : AC} {hr gn st ca s : Nat} (hV : csV (c, hr, gn, st, ca)) (hC : CouC h (c, hr, gn, st, ca)) (hs : s < 4) : pm_ev (34, 0, [vr 1 0, vi (nI s)], [], h) = some (some (vi (bI ((st ||| ca).testBit s))), h) := by
  obtain ⟨_, _, _, h3, h4⟩ := hC
  obtain ⟨_, _, _, b3, b4⟩ := hV
  dsimp only at h3 h4 b3 b4
  have hL := or16 b3 b4
  rw [E_X1_isLost]
  cases q : (st ||| ca).testBit s
  · simp (disch := omega) only [y_0, y_1, y_2, y_3, y_4, y_5, y_6, y_7, y_8, y_9, y_10, y_11, y_12, y_13, y_14, y_15, y_16, y_17, y_18, y_19, y_20, y_21, y_22, y_23, y_24, y_29, y_30, y_31, y_32, y_39, y_40, y_48, y_49, y_50, y_60, y_64, y_69, y_78, y_99, y_100, y_142, y_161, y_600, y_610, y_894, y_999, y_1000, y_1216, y_1276, neg1, neg2, nI_add, nI_mul, nn_sub, nn_lt, nn_le, nn_eq, in_lt, ni_lt, in_le, ni_le, in_eq, ni_eq, iI_lt, iI_le, iI_eq, nn_clamp, inb_n, t_lt, f_lt, t_le, f_le, t_eq, f_eq, ti_lt, fi_lt, ti_le, fi_le, ti_eq, fi_eq, ↓reduceIte, ite_true, ite_false, eq_self, decide_true, decide_false, Bool.true_and, Bool.and_true, Bool.false_and, Bool.and_false, Bool.true_or, Bool.or_true, Bool.false_or, Bool.or_false, bI_t, bI_f, bI_nand, n_mod, an11, an01, negn1, negn2, false_and, and_false, true_and, and_true, not_true_eq_false, not_false_eq_true, bI_n0, bI_n1, Bool.true_eq_false, Bool.false_eq_true, cI_s, cL_s, cV_s, cR_n, pm_bR_self, bI_ite, bL_ite, bV_ite, bR_ite, h3, h4, nn_or, nn_and, shr_n, bit_i, q]
  · simp (disch := omega) only [y_0, y_1, y_2, y_3, y_4, y_5, y_6, y_7, y_8, y_9, y_10, y_11, y_12, y_13, y_14, y_15, y_16, y_17, y_18, y_19, y_20, y_21, y_22, y_23, y_24, y_29, y_30, y_31, y_32, y_39, y_40, y_48, y_49, y_50, y_60, y_64, y_69, y_78, y_99, y_100, y_142, y_161, y_600, y_610, y_894, y_999, y_1000, y_1216, y_1276, neg1, neg2, nI_add, nI_mul, nn_sub, nn_lt, nn_le, nn_eq, in_lt, ni_lt, in_le, ni_le, in_eq, ni_eq, iI_lt, iI_le, iI_eq, nn_clamp, inb_n, t_lt, f_lt, t_le, f_le, t_eq, f_eq, ti_lt, fi_lt, ti_le, fi_le, ti_eq, fi_eq, ↓reduceIte, ite_true, ite_false, eq_self, decide_true, decide_false, Bool.true_and, Bool.and_true, Bool.false_and, Bool.and_false, Bool.true_or, Bool.or_true, Bool.false_or, Bool.or_false, bI_t, bI_f, bI_nand, n_mod, an11, an01, negn1, negn2, false_and, and_false, true_and, and_true, not_true_eq_false, not_false_eq_true, bI_n0, bI_n1, Bool.true_eq_false, Bool.false_eq_true, cI_s, cL_s, cV_s, cR_n, pm_bR_self, bI_ite, bL_ite, bV_ite, bR_ite, h3, h4, nn_or, nn_and, shr_n, bit_i, q]
/-- whose light falls on a ship -/
def whoF (c : AC) (L s : Nat) : Nat → Nat
  | 0 => s
  | o + 1 => if aSide (c (2)).val (c (3)).val (c (40+s)).val (c (50+s)).val ≠ -1 ∧ L.testBit o = false ∧ aSide (c (2)).val (c (3)).val (c (40+o)).val (c (50+o)).val = aSide (c (2)).val (c (3)).val (c (40+s)).val (c (50+s)).val ∧ dst (c (40+o)).val (c (50+o)).val (c (2)).val (c (3)).val < dst (c (40+whoF c L s o)).val (c (50+whoF c L s o)).val (c (2)).val (c (3)).val then o else whoF c L s o
theorem whoF_s (c : AC) (L s o : Nat) : whoF c L s (o + 1) = if aSide (c (2)).val (c (3)).val (c (40+s)).val (c (50+s)).val ≠ -1 ∧ L.testBit o = false ∧ aSide (c (2)).val (c (3)).val (c (40+o)).val (c (50+o)).val = aSide (c (2)).val (c (3)).val (c (40+s)).val (c (50+s)).val ∧ dst (c (40+o)).val (c (50+o)).val (c (2)).val (c (3)).val < dst (c (40+whoF c L s o)).val (c (50+whoF c L s o)).val (c (2)).val (c (3)).val then o else whoF c L s o := rfl
theorem whoF_none {c : AC} {L s : Nat} (h : aSide (c (2)).val (c (3)).val (c (40+s)).val (c (50+s)).val = -1) : ∀ n, whoF c L s n = s
  | 0 => rfl
  | n + 1 => by rw [whoF_s, if_neg (fun q => q.1 h)]; exact whoF_none h n
theorem whoF_lt {c : AC} {L s N : Nat} (hs : s < N) : ∀ n, n ≤ N → whoF c L s n < N
  | 0, _ => hs
  | n + 1, h => by
    rw [whoF_s]
    split
    · omega
    · exact whoF_lt hs n (by omega)
theorem aSide_b (p q u v : Nat) : -2 < aSide p q u v ∧ aSide p q u v < 4 := by
  unfold aSide
  repeat' split
  all_goals omega
theorem dstS_lt {c : AC} (hv : cV c) {s : Nat} (hs : s < (c (6)).val) : dst (c (40+s)).val (c (50+s)).val (c (2)).val (c (3)).val < 100 := by
  have hV1 := hv.1
  obtain ⟨v1, v2, _⟩ := hv.2.2.1 s hs
  unfold dst
  omega
theorem who_14 {h : PH} {c : AC} {hr gn st ca s : Nat} (hV : csV (c, hr, gn, st, ca)) (hC : CouC h (c, hr, gn, st, ca)) (hs : s < (c (6)).val) : ∀ r k, k + r = (c (6)).val → pm_ev (39, 14, [vr 1 0, none, vi (iI (aSide (c (2)).val (c (3)).val (c (40+s)).val (c (50+s)).val)), vi (nI (whoF c (st ||| ca) s k)), vi (nI k)], [], h) = some (some (vi (nI (whoF c (st ||| ca) s (c (6)).val))), h) := by
  have hv : cV c := hV.1
  have hC9 : CoastC h 9 c := hC.1
  have hV1 := hv.1
  have c8 := hC9.1.2.2.2.2.2.1
  have sb := aSide_b (c (2)).val (c (3)).val (c (40+s)).val (c (50+s)).val
  intro r
  induction r with
  | zero =>
    intro k hk
    have hk : k = (c (6)).val := by omega
    subst hk
    rw [E_X1_whoseLight_14]
    simp (disch := omega) only [y_0, y_1, y_2, y_3, y_4, y_5, y_6, y_7, y_8, y_9, y_10, y_11, y_12, y_13, y_14, y_15, y_16, y_17, y_18, y_19, y_20, y_21, y_22, y_23, y_24, y_29, y_30, y_31, y_32, y_39, y_40, y_48, y_49, y_50, y_60, y_64, y_69, y_78, y_99, y_100, y_142, y_161, y_600, y_610, y_894, y_999, y_1000, y_1216, y_1276, neg1, neg2, nI_add, nI_mul, nn_sub, nn_lt, nn_le, nn_eq, in_lt, ni_lt, in_le, ni_le, in_eq, ni_eq, iI_lt, iI_le, iI_eq, nn_clamp, inb_n, t_lt, f_lt, t_le, f_le, t_eq, f_eq, ti_lt, fi_lt, ti_le, fi_le, ti_eq, fi_eq, ↓reduceIte, ite_true, ite_false, eq_self, decide_true, decide_false, Bool.true_and, Bool.and_true, Bool.false_and, Bool.and_false, Bool.true_or, Bool.or_true, Bool.false_or, Bool.or_false, bI_t, bI_f, bI_nand, n_mod, an11, an01, negn1, negn2, false_and, and_false, true_and, and_true, not_true_eq_false, not_false_eq_true, bI_n0, bI_n1, Bool.true_eq_false, Bool.false_eq_true, cI_s, cL_s, cV_s, cR_n, pm_bR_self, bI_ite, bL_ite, bV_ite, bR_ite, c8]
  | succ r ih =>
    intro k hk
    have hk2 : k < (c (6)).val := by omega
    have e := ih (k + 1) (by omega)
    rw [E_X1_whoseLight_14]
    by_cases q0 : aSide (c (2)).val (c (3)).val (c (40+s)).val (c (50+s)).val = -1
    · rw [whoF_none q0, whoF_none q0, q0]
      simp (disch := omega) only [y_0, y_1, y_2, y_3, y_4, y_5, y_6, y_7, y_8, y_9, y_10, y_11, y_12, y_13, y_14, y_15, y_16, y_17, y_18, y_19, y_20, y_21, y_22, y_23, y_24, y_29, y_30, y_31, y_32, y_39, y_40, y_48, y_49, y_50, y_60, y_64, y_69, y_78, y_99, y_100, y_142, y_161, y_600, y_610, y_894, y_999, y_1000, y_1216, y_1276, neg1, neg2, nI_add, nI_mul, nn_sub, nn_lt, nn_le, nn_eq, in_lt, ni_lt, in_le, ni_le, in_eq, ni_eq, iI_lt, iI_le, iI_eq, nn_clamp, inb_n, t_lt, f_lt, t_le, f_le, t_eq, f_eq, ti_lt, fi_lt, ti_le, fi_le, ti_eq, fi_eq, ↓reduceIte, ite_true, ite_false, eq_self, decide_true, decide_false, Bool.true_and, Bool.and_true, Bool.false_and, Bool.and_false, Bool.true_or, Bool.or_true, Bool.false_or, Bool.or_false, bI_t, bI_f, bI_nand, n_mod, an11, an01, negn1, negn2, false_and, and_false, true_and, and_true, not_true_eq_false, not_false_eq_true, bI_n0, bI_n1, Bool.true_eq_false, Bool.false_eq_true, cI_s, cL_s, cV_s, cR_n, pm_bR_self, bI_ite, bL_ite, bV_ite, bR_ite, c8]
    · have hw := whoF_lt (c := c) (L := st ||| ca) hs k (by omega)
      have LO := lost_C hV hC (show k < 4 by omega)
      have S := side_C hv hC9 hk2
      have F1 := fromLamp_C hv hC9 hk2
      have F2 := fromLamp_C hv hC9 hw
      have d1 := dstS_lt hv hk2
      have d2 := dstS_lt hv hw
      have sb2 := aSide_b (c (2)).val (c (3)).val (c (40+k)).val (c (50+k)).val
      rw [whoF_s] at e
      generalize whoF c (st ||| ca) s k = w at *
      generalize dst (c (40+k)).val (c (50+k)).val (c (2)).val (c (3)).val = dk at *
      generalize dst (c (40+w)).val (c (50+w)).val (c (2)).val (c (3)).val = dw at *
      generalize aSide (c (2)).val (c (3)).val (c (40+s)).val (c (50+s)).val = ss at *
      generalize aSide (c (2)).val (c (3)).val (c (40+k)).val (c (50+k)).val = sk at *
      cases q1 : (st ||| ca).testBit k
      · rw [q1] at LO
        by_cases q2 : sk = ss
        · by_cases q3 : dk < dw
          · rw [if_pos ⟨q0, q1, q2, q3⟩] at e
            rw [← e]
            simp (disch := omega) only [y_0, y_1, y_2, y_3, y_4, y_5, y_6, y_7, y_8, y_9, y_10, y_11, y_12, y_13, y_14, y_15, y_16, y_17, y_18, y_19, y_20, y_21, y_22, y_23, y_24, y_29, y_30, y_31, y_32, y_39, y_40, y_48, y_49, y_50, y_60, y_64, y_69, y_78, y_99, y_100, y_142, y_161, y_600, y_610, y_894, y_999, y_1000, y_1216, y_1276, neg1, neg2, nI_add, nI_mul, nn_sub, nn_lt, nn_le, nn_eq, in_lt, ni_lt, in_le, ni_le, in_eq, ni_eq, iI_lt, iI_le, iI_eq, nn_clamp, inb_n, t_lt, f_lt, t_le, f_le, t_eq, f_eq, ti_lt, fi_lt, ti_le, fi_le, ti_eq, fi_eq, ↓reduceIte, ite_true, ite_false, eq_self, decide_true, decide_false, Bool.true_and, Bool.and_true, Bool.false_and, Bool.and_false, Bool.true_or, Bool.or_true, Bool.false_or, Bool.or_false, bI_t, bI_f, bI_nand, n_mod, an11, an01, negn1, negn2, false_and, and_false, true_and, and_true, not_true_eq_false, not_false_eq_true, bI_n0, bI_n1, Bool.true_eq_false, Bool.false_eq_true, cI_s, cL_s, cV_s, cR_n, pm_bR_self, bI_ite, bL_ite, bV_ite, bR_ite, c8, LO, S, F1, F2, q2]
          · rw [if_neg (fun z => q3 z.2.2.2)] at e
            rw [← e]
            simp (disch := omega) only [y_0, y_1, y_2, y_3, y_4, y_5, y_6, y_7, y_8, y_9, y_10, y_11, y_12, y_13, y_14, y_15, y_16, y_17, y_18, y_19, y_20, y_21, y_22, y_23, y_24, y_29, y_30, y_31, y_32, y_39, y_40, y_48, y_49, y_50, y_60, y_64, y_69, y_78, y_99, y_100, y_142, y_161, y_600, y_610, y_894, y_999, y_1000, y_1216, y_1276, neg1, neg2, nI_add, nI_mul, nn_sub, nn_lt, nn_le, nn_eq, in_lt, ni_lt, in_le, ni_le, in_eq, ni_eq, iI_lt, iI_le, iI_eq, nn_clamp, inb_n, t_lt, f_lt, t_le, f_le, t_eq, f_eq, ti_lt, fi_lt, ti_le, fi_le, ti_eq, fi_eq, ↓reduceIte, ite_true, ite_false, eq_self, decide_true, decide_false, Bool.true_and, Bool.and_true, Bool.false_and, Bool.and_false, Bool.true_or, Bool.or_true, Bool.false_or, Bool.or_false, bI_t, bI_f, bI_nand, n_mod, an11, an01, negn1, negn2, false_and, and_false, true_and, and_true, not_true_eq_false, not_false_eq_true, bI_n0, bI_n1, Bool.true_eq_false, Bool.false_eq_true, cI_s, cL_s, cV_s, cR_n, pm_bR_self, bI_ite, bL_ite, bV_ite, bR_ite, c8, LO, S, F1, F2, q2]
        · rw [if_neg (fun z => q2 z.2.2.1)] at e
          rw [← e]
          simp (disch := omega) only [y_0, y_1, y_2, y_3, y_4, y_5, y_6, y_7, y_8, y_9, y_10, y_11, y_12, y_13, y_14, y_15, y_16, y_17, y_18, y_19, y_20, y_21, y_22, y_23, y_24, y_29, y_30, y_31, y_32, y_39, y_40, y_48, y_49, y_50, y_60, y_64, y_69, y_78, y_99, y_100, y_142, y_161, y_600, y_610, y_894, y_999, y_1000, y_1216, y_1276, neg1, neg2, nI_add, nI_mul, nn_sub, nn_lt, nn_le, nn_eq, in_lt, ni_lt, in_le, ni_le, in_eq, ni_eq, iI_lt, iI_le, iI_eq, nn_clamp, inb_n, t_lt, f_lt, t_le, f_le, t_eq, f_eq, ti_lt, fi_lt, ti_le, fi_le, ti_eq, fi_eq, ↓reduceIte, ite_true, ite_false, eq_self, decide_true, decide_false, Bool.true_and, Bool.and_true, Bool.false_and, Bool.and_false, Bool.true_or, Bool.or_true, Bool.false_or, Bool.or_false, bI_t, bI_f, bI_nand, n_mod, an11, an01, negn1, negn2, false_and, and_false, true_and, and_true, not_true_eq_false, not_false_eq_true, bI_n0, bI_n1, Bool.true_eq_false, Bool.false_eq_true, cI_s, cL_s, cV_s, cR_n, pm_bR_self, bI_ite, bL_ite, bV_ite, bR_ite, c8, LO, S]
      · rw [q1] at LO
        rw [if_neg (fun z => by rw [q1] at z; cases z.2.1)] at e
        rw [← e]
        simp (disch := omega) only [y_0, y_1, y_2, y_3, y_4, y_5, y_6, y_7, y_8, y_9, y_10, y_11, y_12, y_13, y_14, y_15, y_16, y_17, y_18, y_19, y_20, y_21, y_22, y_23, y_24, y_29, y_30, y_31, y_32, y_39, y_40, y_48, y_49, y_50, y_60, y_64, y_69, y_78, y_99, y_100, y_142, y_161, y_600, y_610, y_894, y_999, y_1000, y_1216, y_1276, neg1, neg2, nI_add, nI_mul, nn_sub, nn_lt, nn_le, nn_eq, in_lt, ni_lt, in_le, ni_le, in_eq, ni_eq, iI_lt, iI_le, iI_eq, nn_clamp, inb_n, t_lt, f_lt, t_le, f_le, t_eq, f_eq, ti_lt, fi_lt, ti_le, fi_le, ti_eq, fi_eq, ↓reduceIte, ite_true, ite_false, eq_self, decide_true, decide_false, Bool.true_and, Bool.and_true, Bool.false_and, Bool.and_false, Bool.true_or, Bool.or_true, Bool.false_or, Bool.or_false, bI_t, bI_f, bI_nand, n_mod, an11, an01, negn1, negn2, false_and, and_false, true_and, and_true, not_true_eq_false, not_false_eq_true, bI_n0, bI_n1, Bool.true_eq_false, Bool.false_eq_true, cI_s, cL_s, cV_s, cR_n, pm_bR_self, bI_ite, bL_ite, bV_ite, bR_ite, c8, LO]
theorem who_C {h : PH} {c : AC} {hr gn st ca s : Nat} (hV : csV (c, hr, gn, st, ca)) (hC : CouC h (c, hr, gn, st, ca)) (hs : s < (c (6)).val) : pm_ev (39, 0, [vr 1 0, vi (nI s), none, none, none], [], h) = some (some (vi (nI (whoF c (st ||| ca) s (c (6)).val))), h) := by
  rw [E_X1_whoseLight, side_C hV.1 hC.1 hs, cI_s]
  exact who_14 hV hC hs _ 0 (Nat.zero_add _)
/-- lit by the beam -/
def aBm (c : AC) (L hr s : Nat) : Bool := !L.testBit s && aLit c (whoF c L s (c (6)).val) hr
theorem beam_4 {h : PH} {c : AC} {hr gn st ca : Nat} (hV : csV (c, hr, gn, st, ca)) (hC : CouC h (c, hr, gn, st, ca)) : ∀ r k, k + r = (c (6)).val → pm_ev (38, 4, [vr 1 0, vi (nI (bitsB (aBm c (st ||| ca) hr) k)), vi (nI k)], [], h) = some (some (vi (nI (bitsB (aBm c (st ||| ca) hr) (c (6)).val))), h) := by
  have hv : cV c := hV.1
  have hC9 : CoastC h 9 c := hC.1
  have hV1 := hv.1
  have c8 := hC9.1.2.2.2.2.2.1
  have hh : hr < 24 := hV.2.1
  have h1 : h.1 1 0 1 = nI hr := hC.2.1
  intro r
  induction r with
  | zero =>
    intro k hk
    have hk : k = (c (6)).val := by omega
    subst hk
    rw [E_X1_beam_4]
    simp (disch := omega) only [y_0, y_1, y_2, y_3, y_4, y_5, y_6, y_7, y_8, y_9, y_10, y_11, y_12, y_13, y_14, y_15, y_16, y_17, y_18, y_19, y_20, y_21, y_22, y_23, y_24, y_29, y_30, y_31, y_32, y_39, y_40, y_48, y_49, y_50, y_60, y_64, y_69, y_78, y_99, y_100, y_142, y_161, y_600, y_610, y_894, y_999, y_1000, y_1216, y_1276, neg1, neg2, nI_add, nI_mul, nn_sub, nn_lt, nn_le, nn_eq, in_lt, ni_lt, in_le, ni_le, in_eq, ni_eq, iI_lt, iI_le, iI_eq, nn_clamp, inb_n, t_lt, f_lt, t_le, f_le, t_eq, f_eq, ti_lt, fi_lt, ti_le, fi_le, ti_eq, fi_eq, ↓reduceIte, ite_true, ite_false, eq_self, decide_true, decide_false, Bool.true_and, Bool.and_true, Bool.false_and, Bool.and_false, Bool.true_or, Bool.or_true, Bool.false_or, Bool.or_false, bI_t, bI_f, bI_nand, n_mod, an11, an01, negn1, negn2, false_and, and_false, true_and, and_true, not_true_eq_false, not_false_eq_true, bI_n0, bI_n1, Bool.true_eq_false, Bool.false_eq_true, cI_s, cL_s, cV_s, cR_n, pm_bR_self, bI_ite, bL_ite, bV_ite, bR_ite, c8]
  | succ r ih =>
    intro k hk
    have hk2 : k < (c (6)).val := by omega
    have e := ih (k + 1) (by omega)
    have LO := lost_C hV hC (show k < 4 by omega)
    have hw := whoF_lt (c := c) (L := st ||| ca) hk2 (c (6)).val (Nat.le_refl _)
    have W := who_C hV hC hk2
    have G := glow_C hv hC9 hw hh
    have gl := aGlow_lt c (whoF c (st ||| ca) k (c (6)).val) hr
    have I := isLit_C h gl hh
    change pm_ev _ = some (some (vi (bI (aLit c (whoF c (st ||| ca) k (c (6)).val) hr))), h) at I
    have eb : aBm c (st ||| ca) hr k = (!(st ||| ca).testBit k && aLit c (whoF c (st ||| ca) k (c (6)).val) hr) := rfl
    rw [E_X1_beam_4]
    cases q1 : (st ||| ca).testBit k
    · rw [q1] at LO eb
      cases q2 : aLit c (whoF c (st ||| ca) k (c (6)).val) hr
      · rw [q2] at I eb
        rw [bitsB_succ_f eb] at e
        rw [← e]
        simp (disch := omega) only [y_0, y_1, y_2, y_3, y_4, y_5, y_6, y_7, y_8, y_9, y_10, y_11, y_12, y_13, y_14, y_15, y_16, y_17, y_18, y_19, y_20, y_21, y_22, y_23, y_24, y_29, y_30, y_31, y_32, y_39, y_40, y_48, y_49, y_50, y_60, y_64, y_69, y_78, y_99, y_100, y_142, y_161, y_600, y_610, y_894, y_999, y_1000, y_1216, y_1276, neg1, neg2, nI_add, nI_mul, nn_sub, nn_lt, nn_le, nn_eq, in_lt, ni_lt, in_le, ni_le, in_eq, ni_eq, iI_lt, iI_le, iI_eq, nn_clamp, inb_n, t_lt, f_lt, t_le, f_le, t_eq, f_eq, ti_lt, fi_lt, ti_le, fi_le, ti_eq, fi_eq, ↓reduceIte, ite_true, ite_false, eq_self, decide_true, decide_false, Bool.true_and, Bool.and_true, Bool.false_and, Bool.and_false, Bool.true_or, Bool.or_true, Bool.false_or, Bool.or_false, bI_t, bI_f, bI_nand, n_mod, an11, an01, negn1, negn2, false_and, and_false, true_and, and_true, not_true_eq_false, not_false_eq_true, bI_n0, bI_n1, Bool.true_eq_false, Bool.false_eq_true, cI_s, cL_s, cV_s, cR_n, pm_bR_self, bI_ite, bL_ite, bV_ite, bR_ite, c8, LO, W, h1, G, I]
      · rw [q2] at I eb
        rw [bitsB_succ_t eb] at e
        rw [← e]
        simp (disch := omega) only [y_0, y_1, y_2, y_3, y_4, y_5, y_6, y_7, y_8, y_9, y_10, y_11, y_12, y_13, y_14, y_15, y_16, y_17, y_18, y_19, y_20, y_21, y_22, y_23, y_24, y_29, y_30, y_31, y_32, y_39, y_40, y_48, y_49, y_50, y_60, y_64, y_69, y_78, y_99, y_100, y_142, y_161, y_600, y_610, y_894, y_999, y_1000, y_1216, y_1276, neg1, neg2, nI_add, nI_mul, nn_sub, nn_lt, nn_le, nn_eq, in_lt, ni_lt, in_le, ni_le, in_eq, ni_eq, iI_lt, iI_le, iI_eq, nn_clamp, inb_n, t_lt, f_lt, t_le, f_le, t_eq, f_eq, ti_lt, fi_lt, ti_le, fi_le, ti_eq, fi_eq, ↓reduceIte, ite_true, ite_false, eq_self, decide_true, decide_false, Bool.true_and, Bool.and_true, Bool.false_and, Bool.and_false, Bool.true_or, Bool.or_true, Bool.false_or, Bool.or_false, bI_t, bI_f, bI_nand, n_mod, an11, an01, negn1, negn2, false_and, and_false, true_and, and_true, not_true_eq_false, not_false_eq_true, bI_n0, bI_n1, Bool.true_eq_false, Bool.false_eq_true, cI_s, cL_s, cV_s, cR_n, pm_bR_self, bI_ite, bL_ite, bV_ite, bR_ite, c8, LO, W, h1, G, I, nn_and, shl_1, nn_or]
    · rw [q1] at LO eb
      rw [bitsB_succ_f eb] at e
      rw [← e]
      simp (disch := omega) only [y_0, y_1, y_2, y_3, y_4, y_5, y_6, y_7, y_8, y_9, y_10, y_11, y_12, y_13, y_14, y_15, y_16, y_17, y_18, y_19, y_20, y_21, y_22, y_23, y_24, y_29, y_30, y_31, y_32, y_39, y_40, y_48, y_49, y_50, y_60, y_64, y_69, y_78, y_99, y_100, y_142, y_161, y_600, y_610, y_894, y_999, y_1000, y_1216, y_1276, neg1, neg2, nI_add, nI_mul, nn_sub, nn_lt, nn_le, nn_eq, in_lt, ni_lt, in_le, ni_le, in_eq, ni_eq, iI_lt, iI_le, iI_eq, nn_clamp, inb_n, t_lt, f_lt, t_le, f_le, t_eq, f_eq, ti_lt, fi_lt, ti_le, fi_le, ti_eq, fi_eq, ↓reduceIte, ite_true, ite_false, eq_self, decide_true, decide_false, Bool.true_and, Bool.and_true, Bool.false_and, Bool.and_false, Bool.true_or, Bool.or_true, Bool.false_or, Bool.or_false, bI_t, bI_f, bI_nand, n_mod, an11, an01, negn1, negn2, false_and, and_false, true_and, and_true, not_true_eq_false, not_false_eq_true, bI_n0, bI_n1, Bool.true_eq_false, Bool.false_eq_true, cI_s, cL_s, cV_s, cR_n, pm_bR_self, bI_ite, bL_ite, bV_ite, bR_ite, c8, LO]
theorem beam_C {h : PH} {c : AC} {hr gn st ca : Nat} (hV : csV (c, hr, gn, st, ca)) (hC : CouC h (c, hr, gn, st, ca)) : pm_ev (38, 0, [vr 1 0, none, none], [], h) = some (some (vi (nI (bitsB (aBm c (st ||| ca) hr) (c (6)).val))), h) := by
  rw [E_X1_beam]
  exact beam_4 hV hC _ 0 (Nat.zero_add _)
