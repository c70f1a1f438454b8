def hitB (c : AC) (L hr s : Nat) : Bool := !L.testBit s && (!aBm c L hr s && rockP c (c (40+s)).val (c (50+s)).val)
def gotB (c : AC) (L hr s : Nat) : Bool := !L.testBit s && (aBm c L hr s && aGuard c (c (40+s)).val (c (50+s)).val (c (5)).val)
theorem bitsB_or_tb (a k : Nat) (p : Nat → Bool) : (a ||| bitsB p k).testBit k = a.testBit k := by
  rw [Nat.testBit_or, bitsB_tb, decide_eq_false (Nat.lt_irrefl _), Bool.false_and, Bool.or_false]
theorem lost_k (st ca k : Nat) (p q : Nat → Bool) : ((st ||| bitsB p k) ||| (ca ||| bitsB q k)).testBit k = (st ||| ca).testBit k := by
  rw [Nat.testBit_or, bitsB_or_tb, bitsB_or_tb, Nat.testBit_or]
theorem bitsB16 (p : Nat → Bool) {k : Nat} (hk : k ≤ 4) : bitsB p k < 16 := Nat.lt_of_lt_of_le (bitsB_lt p k) (pow4 k hk).1
theorem bit_at (S : Nat → Bool) {k : Nat} (hk : k < 64) : ((lS S).toUInt64 >>> ((nI k).toInt64.toUInt64 &&& Int64.toUInt64 63)).toInt64 &&& 1 = lb (S k) := by
  rw [lS_shr S hk, lS_and1, Nat.zero_add, decide_eq_true hk, Bool.true_and]
theorem pass_29 {c : AC} {hr gn st ca : Nat} (hV : csV (c, hr, gn, st, ca)) : ∀ r k h, k + r = (c (6)).val → CouC h (c, hr, gn, st ||| bitsB (hitB c (st ||| ca) hr) k, ca ||| bitsB (gotB c (st ||| ca) hr) k) → ∃ h', pm_ev (37, 29, [vr 1 0, vi (nI (bitsB (aBm c (st ||| ca) hr) (c (6)).val)), vl (lS (toS (guardP c))), none, vi (nI k), none, none, none], [], h) = some (some (vi (nI 1)), h') ∧ CouC h' (c, hr + 1, 0, st ||| bitsB (hitB c (st ||| ca) hr) (c (6)).val, ca ||| bitsB (gotB c (st ||| ca) hr) (c (6)).val) ∧ kC h h' := by
  have hv : cV c := hV.1
  have hV1 := hv.1
  have hh : hr < 24 := hV.2.1
  have fI : ∀ (h : PH) k v, Fr crT h (pm_sI h 1 0 k v) := fun h k v => Fr.sI _ _ _ (by simp [crT])
  intro r
  induction r with
  | zero =>
    intro k h hk hC
    have hk : k = (c (6)).val := by omega
    subst hk
    obtain ⟨hC9, h1, h2, h3, h4⟩ := hC
    dsimp only at hC9 h1 h2 h3 h4
    have c8 := hC9.1.2.2.2.2.2.1
    refine ⟨pm_sI (pm_sI h 1 0 1 (nI (hr + 1))) 1 0 2 (nI 0), ?_, ⟨hC9.fr (fun t k' ht _ => ?_) rfl, ?_, ?_, ?_, ?_⟩, (fI _ _ _).tr (fI _ _ _), ?_⟩
    · rw [E_X1_pass_29]
      simp (disch := omega) only [y_0, y_1, y_2, y_3, y_4, y_5, y_6, y_7, y_8, y_9, y_10, y_11, y_12, y_13, y_14, y_15, y_16, y_17, y_18, y_19, y_20, y_21, y_22, y_23, y_24, y_29, y_30, y_31, y_32, y_39, y_40, y_48, y_49, y_50, y_60, y_64, y_69, y_78, y_99, y_100, y_142, y_161, y_600, y_610, y_894, y_999, y_1000, y_1216, y_1276, neg1, neg2, nI_add, nI_mul, nn_sub, nn_lt, nn_le, nn_eq, in_lt, ni_lt, in_le, ni_le, in_eq, ni_eq, iI_lt, iI_le, iI_eq, nn_clamp, inb_n, t_lt, f_lt, t_le, f_le, t_eq, f_eq, ti_lt, fi_lt, ti_le, fi_le, ti_eq, fi_eq, ↓reduceIte, ite_true, ite_false, eq_self, decide_true, decide_false, Bool.true_and, Bool.and_true, Bool.false_and, Bool.and_false, Bool.true_or, Bool.or_true, Bool.false_or, Bool.or_false, bI_t, bI_f, bI_nand, n_mod, an11, an01, negn1, negn2, false_and, and_false, true_and, and_true, not_true_eq_false, not_false_eq_true, bI_n0, bI_n1, Bool.true_eq_false, Bool.false_eq_true, cI_s, cL_s, cV_s, cR_n, pm_bR_self, bI_ite, bL_ite, bV_ite, bR_ite, c8, h1]
    · rw [sI_tag _ _ _ _ _ _ (by omega), sI_tag _ _ _ _ _ _ (by omega)]
    · simp (disch := omega) only [sI_pl, sI_same]
    · simp (disch := omega) only [sI_same]
    · simp (disch := omega) only [sI_pl]; exact h3
    · simp (disch := omega) only [sI_pl]; exact h4
    · simp (disch := omega) only [sI_pl]
  | succ r ih =>
    intro k h hk hC
    have hk2 : k < (c (6)).val := by omega
    have hk4 : k < 4 := by omega
    obtain ⟨_, _, b2, b3, b4⟩ := hV
    dsimp only at b2 b3 b4
    have hV' : csV (c, hr, gn, st ||| bitsB (hitB c (st ||| ca) hr) k, ca ||| bitsB (gotB c (st ||| ca) hr) k) := ⟨hv, hh, b2, or16 b3 (bitsB16 _ (by omega)), or16 b4 (bitsB16 _ (by omega))⟩
    have LO := lost_C hV' hC hk4
    rw [lost_k] at LO
    have hC0 := hC
    obtain ⟨hC9, h1, h2, h3, h4⟩ := hC
    dsimp only at hC9 h1 h2 h3 h4
    have c8 := hC9.1.2.2.2.2.2.1
    have cr := hC9.1.2.2.2.2.2.2
    have s1 := (hC9.2.2 k hk2).1.1
    obtain ⟨v1, v2, _⟩ := hv.2.2.1 k hk2
    have tb : (bitsB (aBm c (st ||| ca) hr) (c (6)).val).testBit k = aBm c (st ||| ca) hr k := by rw [bitsB_tb, decide_eq_true hk2, Bool.true_and]
    have bl : bitsB (aBm c (st ||| ca) hr) (c (6)).val < 2147483648 := by have := bitsB16 (aBm c (st ||| ca) hr) (show (c (6)).val ≤ 4 by omega); omega
    have sp : 8 * (c (50+k)).val + (c (40+k)).val < 64 := by omega
    have gd : toS (guardP c) (8 * (c (50+k)).val + (c (40+k)).val) = aGuard c (c (40+k)).val (c (50+k)).val (c (5)).val := by
      unfold toS guardP inB
      rw [show (8 * (c (50+k)).val + (c (40+k)).val) % 8 = (c (40+k)).val by omega, show (8 * (c (50+k)).val + (c (40+k)).val) / 8 = (c (50+k)).val by omega, decide_eq_true v1, decide_eq_true v2]; rfl
    have B1 := bit_at (fun i => decide ((c (200+i)).val = 1)) sp
    have B2 := bit_at (toS (guardP c)) sp
    change _ = lb (rockP c (c (40+k)).val (c (50+k)).val) at B1
    rw [gd] at B2
    have eh : hitB c (st ||| ca) hr k = (!(st ||| ca).testBit k && (!aBm c (st ||| ca) hr k && rockP c (c (40+k)).val (c (50+k)).val)) := rfl
    have eg : gotB c (st ||| ca) hr k = (!(st ||| ca).testBit k && (aBm c (st ||| ca) hr k && aGuard c (c (40+k)).val (c (50+k)).val (c (5)).val)) := rfl
    generalize 8 * (c (50+k)).val + (c (40+k)).val = spt at *
    -- the state behind this ship
    have nx : ∀ (x y : Nat) (h1' : PH), CouC h1' (c, hr, gn, x, y) → x = st ||| bitsB (hitB c (st ||| ca) hr) (k + 1) → y = ca ||| bitsB (gotB c (st ||| ca) hr) (k + 1) → ∃ h', pm_ev (37, 29, [vr 1 0, vi (nI (bitsB (aBm c (st ||| ca) hr) (c (6)).val)), vl (lS (toS (guardP c))), none, vi (nI (k + 1)), none, none, none], [], h1') = some (some (vi (nI 1)), h') ∧ CouC h' (c, hr + 1, 0, st ||| bitsB (hitB c (st ||| ca) hr) (c (6)).val, ca ||| bitsB (gotB c (st ||| ca) hr) (c (6)).val) ∧ kC h1' h' := fun x y h1' hc e1 e2 => by
      subst e1 e2
      exact ih (k + 1) h1' (by omega) hc
    have up : ∀ (x y : Nat), CouC (pm_sI (pm_sI h 1 0 4 (nI y)) 1 0 3 (nI x)) (c, hr, gn, x, y) := fun x y => ⟨hC9.fr (fun t k' ht _ => by rw [sI_tag _ _ _ _ _ _ (by omega), sI_tag _ _ _ _ _ _ (by omega)]) rfl, by simp (disch := omega) only [sI_pl]; exact h1, by simp (disch := omega) only [sI_pl]; exact h2, by simp (disch := omega) only [sI_same], by simp (disch := omega) only [sI_pl, sI_same]⟩
    have upk : ∀ (x y : Nat), kC h (pm_sI (pm_sI h 1 0 4 (nI y)) 1 0 3 (nI x)) := fun x y => ⟨(fI _ _ _).tr (fI _ _ _), by simp (disch := omega) only [sI_pl]⟩
    rw [E_X1_pass_29]
    cases q1 : (st ||| ca).testBit k
    · rw [q1] at LO eh eg
      cases q2 : aBm c (st ||| ca) hr k
      · rw [q2] at tb eh eg
        rw [bitsB_succ_f eg] at nx
        cases q3 : rockP c (c (40+k)).val (c (50+k)).val
        · rw [q3] at B1 eh
          rw [bitsB_succ_f eh] at nx
          obtain ⟨h', e, c', f⟩ := nx _ _ h hC0 rfl rfl
          refine ⟨h', ?_, c', f⟩
          rw [← e]
          simp (disch := omega) only [y_0, y_1, y_2, y_3, y_4, y_5, y_6, y_7, y_8, y_9, y_10, y_11, y_12, y_13, y_14, y_15, y_16, y_17, y_18, y_19, y_20, y_21, y_22, y_23, y_24, y_29, y_30, y_31, y_32, y_39, y_40, y_48, y_49, y_50, y_60, y_64, y_69, y_78, y_99, y_100, y_142, y_161, y_600, y_610, y_894, y_999, y_1000, y_1216, y_1276, neg1, neg2, nI_add, nI_mul, nn_sub, nn_lt, nn_le, nn_eq, in_lt, ni_lt, in_le, ni_le, in_eq, ni_eq, iI_lt, iI_le, iI_eq, nn_clamp, inb_n, t_lt, f_lt, t_le, f_le, t_eq, f_eq, ti_lt, fi_lt, ti_le, fi_le, ti_eq, fi_eq, ↓reduceIte, ite_true, ite_false, eq_self, decide_true, decide_false, Bool.true_and, Bool.and_true, Bool.false_and, Bool.and_false, Bool.true_or, Bool.or_true, Bool.false_or, Bool.or_false, bI_t, bI_f, bI_nand, n_mod, an11, an01, negn1, negn2, false_and, and_false, true_and, and_true, not_true_eq_false, not_false_eq_true, bI_n0, bI_n1, Bool.true_eq_false, Bool.false_eq_true, cI_s, cL_s, cV_s, cR_n, pm_bR_self, bI_ite, bL_ite, bV_ite, bR_ite, c8, LO, nn_and, shr_n, bit_i, tb, s1, cr, B1, lcmp_lb, E_X1_pass_151]
        · rw [q3] at B1 eh
          rw [bitsB_succ_t eh] at nx
          obtain ⟨h', e, c', f⟩ := nx _ _ _ (up (st ||| bitsB (hitB c (st ||| ca) hr) k ||| 2 ^ k) (ca ||| bitsB (gotB c (st ||| ca) hr) k)) (Nat.or_assoc _ _ _) rfl
          refine ⟨h', ?_, c', (upk _ _).tr f⟩
          rw [← e]
          simp (disch := omega) only [y_0, y_1, y_2, y_3, y_4, y_5, y_6, y_7, y_8, y_9, y_10, y_11, y_12, y_13, y_14, y_15, y_16, y_17, y_18, y_19, y_20, y_21, y_22, y_23, y_24, y_29, y_30, y_31, y_32, y_39, y_40, y_48, y_49, y_50, y_60, y_64, y_69, y_78, y_99, y_100, y_142, y_161, y_600, y_610, y_894, y_999, y_1000, y_1216, y_1276, neg1, neg2, nI_add, nI_mul, nn_sub, nn_lt, nn_le, nn_eq, in_lt, ni_lt, in_le, ni_le, in_eq, ni_eq, iI_lt, iI_le, iI_eq, nn_clamp, inb_n, t_lt, f_lt, t_le, f_le, t_eq, f_eq, ti_lt, fi_lt, ti_le, fi_le, ti_eq, fi_eq, ↓reduceIte, ite_true, ite_false, eq_self, decide_true, decide_false, Bool.true_and, Bool.and_true, Bool.false_and, Bool.and_false, Bool.true_or, Bool.or_true, Bool.false_or, Bool.or_false, bI_t, bI_f, bI_nand, n_mod, an11, an01, negn1, negn2, false_and, and_false, true_and, and_true, not_true_eq_false, not_false_eq_true, bI_n0, bI_n1, Bool.true_eq_false, Bool.false_eq_true, cI_s, cL_s, cV_s, cR_n, pm_bR_self, bI_ite, bL_ite, bV_ite, bR_ite, c8, LO, nn_and, shr_n, bit_i, tb, s1, cr, B1, lcmp_lb, E_X1_pass_107, h4, nn_or, Nat.or_zero, sI_pl, h3, shl_1, E_X1_pass_151]
      · rw [q2] at tb eh eg
        rw [bitsB_succ_f eh] at nx
        cases q3 : aGuard c (c (40+k)).val (c (50+k)).val (c (5)).val
        · rw [q3] at B2 eg
          rw [bitsB_succ_f eg] at nx
          obtain ⟨h', e, c', f⟩ := nx _ _ h hC0 rfl rfl
          refine ⟨h', ?_, c', f⟩
          rw [← e]
          simp (disch := omega) only [y_0, y_1, y_2, y_3, y_4, y_5, y_6, y_7, y_8, y_9, y_10, y_11, y_12, y_13, y_14, y_15, y_16, y_17, y_18, y_19, y_20, y_21, y_22, y_23, y_24, y_29, y_30, y_31, y_32, y_39, y_40, y_48, y_49, y_50, y_60, y_64, y_69, y_78, y_99, y_100, y_142, y_161, y_600, y_610, y_894, y_999, y_1000, y_1216, y_1276, neg1, neg2, nI_add, nI_mul, nn_sub, nn_lt, nn_le, nn_eq, in_lt, ni_lt, in_le, ni_le, in_eq, ni_eq, iI_lt, iI_le, iI_eq, nn_clamp, inb_n, t_lt, f_lt, t_le, f_le, t_eq, f_eq, ti_lt, fi_lt, ti_le, fi_le, ti_eq, fi_eq, ↓reduceIte, ite_true, ite_false, eq_self, decide_true, decide_false, Bool.true_and, Bool.and_true, Bool.false_and, Bool.and_false, Bool.true_or, Bool.or_true, Bool.false_or, Bool.or_false, bI_t, bI_f, bI_nand, n_mod, an11, an01, negn1, negn2, false_and, and_false, true_and, and_true, not_true_eq_false, not_false_eq_true, bI_n0, bI_n1, Bool.true_eq_false, Bool.false_eq_true, cI_s, cL_s, cV_s, cR_n, pm_bR_self, bI_ite, bL_ite, bV_ite, bR_ite, c8, LO, nn_and, shr_n, bit_i, tb, s1, B2, lcmp_lb, E_X1_pass_151]
        · rw [q3] at B2 eg
          rw [bitsB_succ_t eg] at nx
          obtain ⟨h', e, c', f⟩ := nx _ _ _ (up (st ||| bitsB (hitB c (st ||| ca) hr) k) (ca ||| bitsB (gotB c (st ||| ca) hr) k ||| 2 ^ k)) rfl (Nat.or_assoc _ _ _)
          refine ⟨h', ?_, c', (upk _ _).tr f⟩
          rw [← e]
          simp (disch := omega) only [y_0, y_1, y_2, y_3, y_4, y_5, y_6, y_7, y_8, y_9, y_10, y_11, y_12, y_13, y_14, y_15, y_16, y_17, y_18, y_19, y_20, y_21, y_22, y_23, y_24, y_29, y_30, y_31, y_32, y_39, y_40, y_48, y_49, y_50, y_60, y_64, y_69, y_78, y_99, y_100, y_142, y_161, y_600, y_610, y_894, y_999, y_1000, y_1216, y_1276, neg1, neg2, nI_add, nI_mul, nn_sub, nn_lt, nn_le, nn_eq, in_lt, ni_lt, in_le, ni_le, in_eq, ni_eq, iI_lt, iI_le, iI_eq, nn_clamp, inb_n, t_lt, f_lt, t_le, f_le, t_eq, f_eq, ti_lt, fi_lt, ti_le, fi_le, ti_eq, fi_eq, ↓reduceIte, ite_true, ite_false, eq_self, decide_true, decide_false, Bool.true_and, Bool.and_true, Bool.false_and, Bool.and_false, Bool.true_or, Bool.or_true, Bool.false_or, Bool.or_false, bI_t, bI_f, bI_nand, n_mod, an11, an01, negn1, negn2, false_and, and_false, true_and, and_true, not_true_eq_false, not_false_eq_true, bI_n0, bI_n1, Bool.true_eq_false, Bool.false_eq_true, cI_s, cL_s, cV_s, cR_n, pm_bR_self, bI_ite, bL_ite, bV_ite, bR_ite, c8, LO, nn_and, shr_n, bit_i, tb, s1, B2, lcmp_lb, E_X1_pass_107, h4, nn_or, Nat.or_zero, sI_pl, h3, shl_1, E_X1_pass_151]
    · rw [q1] at LO eh eg
      rw [bitsB_succ_f eh, bitsB_succ_f eg] at nx
      obtain ⟨h', e, c', f⟩ := nx _ _ h hC0 rfl rfl
      refine ⟨h', ?_, c', f⟩
      rw [← e]
      simp (disch := omega) only [y_0, y_1, y_2, y_3, y_4, y_5, y_6, y_7, y_8, y_9, y_10, y_11, y_12, y_13, y_14, y_15, y_16, y_17, y_18, y_19, y_20, y_21, y_22, y_23, y_24, y_29, y_30, y_31, y_32, y_39, y_40, y_48, y_49, y_50, y_60, y_64, y_69, y_78, y_99, y_100, y_142, y_161, y_600, y_610, y_894, y_999, y_1000, y_1216, y_1276, neg1, neg2, nI_add, nI_mul, nn_sub, nn_lt, nn_le, nn_eq, in_lt, ni_lt, in_le, ni_le, in_eq, ni_eq, iI_lt, iI_le, iI_eq, nn_clamp, inb_n, t_lt, f_lt, t_le, f_le, t_eq, f_eq, ti_lt, fi_lt, ti_le, fi_le, ti_eq, fi_eq, ↓reduceIte, ite_true, ite_false, eq_self, decide_true, decide_false, Bool.true_and, Bool.and_true, Bool.false_and, Bool.and_false, Bool.true_or, Bool.or_true, Bool.false_or, Bool.or_false, bI_t, bI_f, bI_nand, n_mod, an11, an01, negn1, negn2, false_and, and_false, true_and, and_true, not_true_eq_false, not_false_eq_true, bI_n0, bI_n1, Bool.true_eq_false, Bool.false_eq_true, cI_s, cL_s, cV_s, cR_n, pm_bR_self, bI_ite, bL_ite, bV_ite, bR_ite, c8, LO, E_X1_pass_151]
/-- an hour passes -/
def aPass (σ : CrS) : CrS := (σ.1, σ.2.1 + 1, 0, σ.2.2.2.1 ||| bitsB (hitB σ.1 (σ.2.2.2.1 ||| σ.2.2.2.2) σ.2.1) (σ.1 6).val, σ.2.2.2.2 ||| bitsB (gotB σ.1 (σ.2.2.2.1 ||| σ.2.2.2.2) σ.2.1) (σ.1 6).val)
theorem pass_C {h : PH} {σ : CrS} (hV : csV σ) (hC : CouC h σ) (hh : σ.2.1 < 23) : ∃ h', pm_ev (37, 0, [vr 1 0, none, none, none, none, none, none, none], [], h) = some (some (vi (nI 1)), h') ∧ CouC h' (aPass σ) ∧ kC h h' := by
  obtain ⟨c, hr, gn, st, ca⟩ := σ
  have h1 : h.1 1 0 1 = nI hr := hC.2.1
  have hC9 : CoastC h 9 c := hC.1
  obtain ⟨h', e, c', f⟩ := pass_29 hV _ 0 h (Nat.zero_add _) (by
    show CouC h (c, hr, gn, st ||| 0, ca ||| 0)
    rw [Nat.or_zero, Nat.or_zero]; exact hC)
  refine ⟨h', ?_, c', f⟩
  have B := beam_C hV hC
  have G := guarded_C hV.1 hC9
  dsimp only at hh
  rw [← e, E_X1_pass]
  simp (disch := omega) only [y_0, y_1, y_2, y_3, y_4, y_5, y_6, y_7, y_8, y_9, y_10, y_11, y_12, y_13, y_14, y_15, y_16, y_17, y_18, y_19, y_20, y_21, y_22, y_23, y_24, y_29, y_30, y_31, y_32, y_39, y_40, y_48, y_49, y_50, y_60, y_64, y_69, y_78, y_99, y_100, y_142, y_161, y_600, y_610, y_894, y_999, y_1000, y_1216, y_1276, neg1, neg2, nI_add, nI_mul, nn_sub, nn_lt, nn_le, nn_eq, in_lt, ni_lt, in_le, ni_le, in_eq, ni_eq, iI_lt, iI_le, iI_eq, nn_clamp, inb_n, t_lt, f_lt, t_le, f_le, t_eq, f_eq, ti_lt, fi_lt, ti_le, fi_le, ti_eq, fi_eq, ↓reduceIte, ite_true, ite_false, eq_self, decide_true, decide_false, Bool.true_and, Bool.and_true, Bool.false_and, Bool.and_false, Bool.true_or, Bool.or_true, Bool.false_or, Bool.or_false, bI_t, bI_f, bI_nand, n_mod, an11, an01, negn1, negn2, false_and, and_false, true_and, and_true, not_true_eq_false, not_false_eq_true, bI_n0, bI_n1, Bool.true_eq_false, Bool.false_eq_true, cI_s, cL_s, cV_s, cR_n, pm_bR_self, bI_ite, bL_ite, bV_ite, bR_ite, h1, B, G]
theorem pass_C0 {h : PH} {σ : CrS} (hC : CouC h σ) (hh : σ.2.1 = 23) : pm_ev (37, 0, [vr 1 0, none, none, none, none, none, none, none], [], h) = some (some (vi (nI 0)), h) := by
  have h1 := hC.2.1
  rw [hh] at h1
  rw [E_X1_pass]
  simp (disch := omega) only [y_0, y_1, y_2, y_3, y_4, y_5, y_6, y_7, y_8, y_9, y_10, y_11, y_12, y_13, y_14, y_15, y_16, y_17, y_18, y_19, y_20, y_21, y_22, y_23, y_24, y_29, y_30, y_31, y_32, y_39, y_40, y_48, y_49, y_50, y_60, y_64, y_69, y_78, y_99, y_100, y_142, y_161, y_600, y_610, y_894, y_999, y_1000, y_1216, y_1276, neg1, neg2, nI_add, nI_mul, nn_sub, nn_lt, nn_le, nn_eq, in_lt, ni_lt, in_le, ni_le, in_eq, ni_eq, iI_lt, iI_le, iI_eq, nn_clamp, inb_n, t_lt, f_lt, t_le, f_le, t_eq, f_eq, ti_lt, fi_lt, ti_le, fi_le, ti_eq, fi_eq, ↓reduceIte, ite_true, ite_false, eq_self, decide_true, decide_false, Bool.true_and, Bool.and_true, Bool.false_and, Bool.and_false, Bool.true_or, Bool.or_true, Bool.false_or, Bool.or_false, bI_t, bI_f, bI_nand, n_mod, an11, an01, negn1, negn2, false_and, and_false, true_and, and_true, not_true_eq_false, not_false_eq_true, bI_n0, bI_n1, Bool.true_eq_false, Bool.false_eq_true, cI_s, cL_s, cV_s, cR_n, pm_bR_self, bI_ite, bL_ite, bV_ite, bR_ite, h1]
theorem aPass_V {σ : CrS} (hV : csV σ) (hh : σ.2.1 < 23) : csV (aPass σ) := by
  obtain ⟨hv, _, b2, b3, b4⟩ := hV
  have hV1 := hv.1
  exact ⟨hv, by show σ.2.1 + 1 < 24; omega, by show 0 < 16; decide, or16 b3 (bitsB16 _ (by omega)), or16 b4 (bitsB16 _ (by omega))⟩
