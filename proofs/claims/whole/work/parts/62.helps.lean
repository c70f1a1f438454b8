/-! ===== helps: the class ===== -/
theorem xor15 : ∀ b, b < 16 → ∀ k, k < 4 → (15 ^^^ b).testBit k = !b.testBit k := by decide +kernel
theorem xor15_lt : ∀ b, b < 16 → 15 ^^^ b < 16 := by decide +kernel
theorem andnot : ∀ m, m ≤ 4 → ∀ b, b < 2 ^ m → (nI (2 ^ m - 1) &&& (nI b ^^^ iI (-1))) = nI (2 ^ m - 1 - b) := by decide +kernel
theorem subset_bit : ∀ m, m ≤ 4 → ∀ b, b < 2 ^ m → ∀ k, k < m → (2 ^ m - 1 - b).testBit k = !b.testBit k := by decide +kernel
theorem hasMan_Cn {h : PH} {j : Nat} {c : AC} (hv : cV c) (hC : CoastC h j c) {s k : Nat} (hs : s < (c (6)).val) (hk : k < 2147483648) : pm_ev (6, 0, [vr 0 j, vi (nI s), vi (nI k)], [], h) = some (some (vi (bI (decide (k < (c (80+s)).val)))), h) := by
  have hV1 := hv.1
  have c8 := hC.1.2.2.2.2.2.1
  have s4 := (hC.2.2 s hs).1.2.2.2
  rw [E_X0_hasMan]
  by_cases q : k < (c (80+s)).val
  · rw [decide_eq_true q]; simp (disch := omega) only [y_0, y_1, y_2, y_3, y_4, y_5, y_6, y_7, y_8, y_9, y_10, y_11, y_12, y_13, y_14, y_15, y_16, y_17, y_18, y_19, y_20, y_21, y_22, y_23, y_24, y_29, y_30, y_31, y_32, y_39, y_40, y_48, y_49, y_50, y_60, y_64, y_69, y_78, y_99, y_100, y_142, y_161, y_600, y_610, y_894, y_999, y_1000, y_1216, y_1276, neg1, neg2, nI_add, nI_mul, nn_sub, nn_lt, nn_le, nn_eq, in_lt, ni_lt, in_le, ni_le, in_eq, ni_eq, iI_lt, iI_le, iI_eq, nn_clamp, inb_n, t_lt, f_lt, t_le, f_le, t_eq, f_eq, ti_lt, fi_lt, ti_le, fi_le, ti_eq, fi_eq, ↓reduceIte, ite_true, ite_false, eq_self, decide_true, decide_false, Bool.true_and, Bool.and_true, Bool.false_and, Bool.and_false, Bool.true_or, Bool.or_true, Bool.false_or, Bool.or_false, bI_t, bI_f, bI_nand, n_mod, an11, an01, negn1, negn2, false_and, and_false, true_and, and_true, not_true_eq_false, not_false_eq_true, bI_n0, bI_n1, Bool.true_eq_false, Bool.false_eq_true, cI_s, cL_s, cV_s, cR_n, pm_bR_self, bI_ite, bL_ite, bV_ite, bR_ite, c8, s4]
  · rw [decide_eq_false q]; simp (disch := omega) only [y_0, y_1, y_2, y_3, y_4, y_5, y_6, y_7, y_8, y_9, y_10, y_11, y_12, y_13, y_14, y_15, y_16, y_17, y_18, y_19, y_20, y_21, y_22, y_23, y_24, y_29, y_30, y_31, y_32, y_39, y_40, y_48, y_49, y_50, y_60, y_64, y_69, y_78, y_99, y_100, y_142, y_161, y_600, y_610, y_894, y_999, y_1000, y_1216, y_1276, neg1, neg2, nI_add, nI_mul, nn_sub, nn_lt, nn_le, nn_eq, in_lt, ni_lt, in_le, ni_le, in_eq, ni_eq, iI_lt, iI_le, iI_eq, nn_clamp, inb_n, t_lt, f_lt, t_le, f_le, t_eq, f_eq, ti_lt, fi_lt, ti_le, fi_le, ti_eq, fi_eq, ↓reduceIte, ite_true, ite_false, eq_self, decide_true, decide_false, Bool.true_and, Bool.and_true, Bool.false_and, Bool.and_false, Bool.true_or, Bool.or_true, Bool.false_or, Bool.or_false, bI_t, bI_f, bI_nand, n_mod, an11, an01, negn1, negn2, false_and, and_false, true_and, and_true, not_true_eq_false, not_false_eq_true, bI_n0, bI_n1, Bool.true_eq_false, Bool.false_eq_true, cI_s, cL_s, cV_s, cR_n, pm_bR_self, bI_ite, bL_ite, bV_ite, bR_ite, c8, s4]
/-- the men of ab wake, of those below k -/
theorem lull_2 {j : Nat} {c : AC} (hv : cV c) {s B : Nat} (hs : s < (c (6)).val) (hB : B < 16) : ∀ r k h, k + r = (c (80+s)).val → CoastC h j (lullA c s (15 ^^^ (B % 2 ^ k))) → ∃ h', pm_ev (28, 2, [vr 0 j, vi (nI s), vi (nI B), vi (nI k)], [], h) = some (none, h') ∧ CoastC h' j (lullA c s (15 ^^^ (B % 2 ^ (c (80+s)).val))) ∧ Fr (coT j) h h' := by
  have hV1 := hv.1
  have v5 := (hv.2.2.1 s hs).2.2.2.2.1
  intro r
  induction r with
  | zero =>
    intro k h hk hC
    have hk : k = (c (80+s)).val := by omega
    subst hk
    refine ⟨h, ?_, hC, Fr.rfl'⟩
    have M := hasMan_Cn (lull_cV hv hs _) hC (s := s) (by rw [lullA_o c s _ 6 (by omega)]; exact hs) (show (c (80+s)).val < 2147483648 by omega)
    rw [lullA_o c s _ (80+s) (by omega), decide_eq_false (Nat.lt_irrefl _)] at M
    rw [E_X0_lull_2]
    by_cases q : (c (80+s)).val < 4
    · simp (disch := omega) only [y_0, y_1, y_2, y_3, y_4, y_5, y_6, y_7, y_8, y_9, y_10, y_11, y_12, y_13, y_14, y_15, y_16, y_17, y_18, y_19, y_20, y_21, y_22, y_23, y_24, y_29, y_30, y_31, y_32, y_39, y_40, y_48, y_49, y_50, y_60, y_64, y_69, y_78, y_99, y_100, y_142, y_161, y_600, y_610, y_894, y_999, y_1000, y_1216, y_1276, neg1, neg2, nI_add, nI_mul, nn_sub, nn_lt, nn_le, nn_eq, in_lt, ni_lt, in_le, ni_le, in_eq, ni_eq, iI_lt, iI_le, iI_eq, nn_clamp, inb_n, t_lt, f_lt, t_le, f_le, t_eq, f_eq, ti_lt, fi_lt, ti_le, fi_le, ti_eq, fi_eq, ↓reduceIte, ite_true, ite_false, eq_self, decide_true, decide_false, Bool.true_and, Bool.and_true, Bool.false_and, Bool.and_false, Bool.true_or, Bool.or_true, Bool.false_or, Bool.or_false, bI_t, bI_f, bI_nand, n_mod, an11, an01, negn1, negn2, false_and, and_false, true_and, and_true, not_true_eq_false, not_false_eq_true, bI_n0, bI_n1, Bool.true_eq_false, Bool.false_eq_true, cI_s, cL_s, cV_s, cR_n, pm_bR_self, bI_ite, bL_ite, bV_ite, bR_ite, E_X0_lull_35, M]
    · simp (disch := omega) only [y_0, y_1, y_2, y_3, y_4, y_5, y_6, y_7, y_8, y_9, y_10, y_11, y_12, y_13, y_14, y_15, y_16, y_17, y_18, y_19, y_20, y_21, y_22, y_23, y_24, y_29, y_30, y_31, y_32, y_39, y_40, y_48, y_49, y_50, y_60, y_64, y_69, y_78, y_99, y_100, y_142, y_161, y_600, y_610, y_894, y_999, y_1000, y_1216, y_1276, neg1, neg2, nI_add, nI_mul, nn_sub, nn_lt, nn_le, nn_eq, in_lt, ni_lt, in_le, ni_le, in_eq, ni_eq, iI_lt, iI_le, iI_eq, nn_clamp, inb_n, t_lt, f_lt, t_le, f_le, t_eq, f_eq, ti_lt, fi_lt, ti_le, fi_le, ti_eq, fi_eq, ↓reduceIte, ite_true, ite_false, eq_self, decide_true, decide_false, Bool.true_and, Bool.and_true, Bool.false_and, Bool.and_false, Bool.true_or, Bool.or_true, Bool.false_or, Bool.or_false, bI_t, bI_f, bI_nand, n_mod, an11, an01, negn1, negn2, false_and, and_false, true_and, and_true, not_true_eq_false, not_false_eq_true, bI_n0, bI_n1, Bool.true_eq_false, Bool.false_eq_true, cI_s, cL_s, cV_s, cR_n, pm_bR_self, bI_ite, bL_ite, bV_ite, bR_ite, E_X0_lull_35, ]
  | succ r ih =>
    intro k h hk hC
    have hk2 : k < (c (80+s)).val := by omega
    have hs' : ∀ ab, s < (lullA c s ab 6).val := fun ab => by rw [lullA_o c s _ 6 (by omega)]; exact hs
    have M := hasMan_Cn (lull_cV hv hs _) hC (s := s) (hs' _) (show k < 2147483648 by omega)
    rw [lullA_o c s _ (80+s) (by omega), decide_eq_true hk2] at M
    have m16 : ∀ i, B % 2 ^ i < 16 := fun i => Nat.lt_of_le_of_lt (Nat.mod_le _ _) hB
    have tb : ∀ i l, (B % 2 ^ i).testBit l = (decide (l < i) && B.testBit l) := fun i l => Nat.testBit_mod_two_pow B i l
    have cvt : ∀ h1, (∀ k', h1.1 0 j k' = h.1 0 j k') → (∀ t k', 10 ≤ t → t ≤ 18 → t ≠ 16 → h1.1 t j k' = h.1 t j k') → h1.2 0 j 4 = h.2 0 j 4 → (∀ i, i ≠ 4*s+k → h1.1 16 j i = h.1 16 j i) → h1.1 16 j (4*s+k) = nI (lullA c s (15 ^^^ (B % 2 ^ (k+1))) (100+(4*s+k))).val → CoastC h1 j (lullA c s (15 ^^^ (B % 2 ^ (k + 1)))) := fun h1 e0 e1 e2 e3 e4 => by
      have hvl := lull_cV hv hs (15 ^^^ (B % 2 ^ k))
      refine hC.up hvl (fun i hi => ?_) e0 (fun k' => e1 10 k' (by decide) (by decide) (by decide)) (fun k' => e1 11 k' (by decide) (by decide) (by decide)) (fun k' => e1 14 k' (by decide) (by decide) (by decide)) (fun k' => e1 15 k' (by decide) (by decide) (by decide)) e2 (fun t ht => ?_)
      · rw [lullA_o c s _ i (by omega), lullA_o c s _ i (by omega)]
      · obtain ⟨⟨a1, a2, _, _⟩, a5⟩ := hC.2.2 t ht
        rw [lullA_o c s _ 6 (by omega)] at ht
        rw [lullA_o c s _ (40+t) (by omega), lullA_o c s _ (50+t) (by omega)] at a1 ⊢
        rw [lullA_o c s _ (60+t) (by omega)] at a2 ⊢
        rw [e1 12 _ (by decide) (by decide) (by decide), e1 13 _ (by decide) (by decide) (by decide)]
        refine ⟨a1, a2, fun l hl => ?_⟩
        obtain ⟨b1, b2, b3⟩ := a5 l hl
        rw [lullA_o c s _ (80+t) (by omega)] at hl
        have u5 := (hv.2.2.1 t ht).2.2.2.2.1
        rw [lullA_o c s _ (120+(4*t+l)) (by omega)] at b2 ⊢
        rw [lullA_o c s _ (140+(4*t+l)) (by omega)] at b3 ⊢
        rw [e1 17 _ (by decide) (by decide) (by decide), e1 18 _ (by decide) (by decide) (by decide)]
        refine ⟨?_, b2, b3⟩
        by_cases q : t = s ∧ l = k
        · rw [q.1, q.2]; exact e4
        · rw [e3 _ (by omega), b1]
          congr 2
          rw [(lull_man hv hs ht hl _).1, (lull_man hv hs ht hl _).1]
          by_cases q2 : t = s
          · rw [xor15 _ (m16 _) l (by omega), xor15 _ (m16 _) l (by omega), tb, tb, show decide (l < k) = decide (l < k + 1) from decide_eq_decide.mpr (by omega)]
          · rw [if_neg (fun z => q2 z.1), if_neg (fun z => q2 z.1)]
    have kd : lullA c s (15 ^^^ (B % 2 ^ (k+1))) (100+(4*s+k)) = if B.testBit k then 4 else c (100+(4*s+k)) := by
      rw [lullA_k c s _ k (by omega), xor15 _ (m16 _) k (by omega), tb, decide_eq_true (by omega), Bool.true_and]
      cases B.testBit k <;> rfl
    rw [E_X0_lull_2]
    cases q : B.testBit k
    · rw [q, if_neg (by decide)] at kd
      obtain ⟨h', e, hC', f⟩ := ih (k + 1) h (by omega) (cvt h (fun _ => rfl) (fun _ _ _ _ _ => rfl) rfl (fun _ _ => rfl) (by
        rw [kd]
        have := ((hC.2.2 s (hs' _)).2 k (by rw [lullA_o c s _ (80+s) (by omega)]; exact hk2)).1
        rw [this, (lull_man hv hs hs hk2 _).1, xor15 _ (m16 _) k (by omega), tb, decide_eq_false (Nat.lt_irrefl _), Bool.false_and, if_neg (fun z => by cases z.2)]))
      refine ⟨h', ?_, hC', f⟩
      rw [← e]
      simp (disch := omega) only [y_0, y_1, y_2, y_3, y_4, y_5, y_6, y_7, y_8, y_9, y_10, y_11, y_12, y_13, y_14, y_15, y_16, y_17, y_18, y_19, y_20, y_21, y_22, y_23, y_24, y_29, y_30, y_31, y_32, y_39, y_40, y_48, y_49, y_50, y_60, y_64, y_69, y_78, y_99, y_100, y_142, y_161, y_600, y_610, y_894, y_999, y_1000, y_1216, y_1276, neg1, neg2, nI_add, nI_mul, nn_sub, nn_lt, nn_le, nn_eq, in_lt, ni_lt, in_le, ni_le, in_eq, ni_eq, iI_lt, iI_le, iI_eq, nn_clamp, inb_n, t_lt, f_lt, t_le, f_le, t_eq, f_eq, ti_lt, fi_lt, ti_le, fi_le, ti_eq, fi_eq, ↓reduceIte, ite_true, ite_false, eq_self, decide_true, decide_false, Bool.true_and, Bool.and_true, Bool.false_and, Bool.and_false, Bool.true_or, Bool.or_true, Bool.false_or, Bool.or_false, bI_t, bI_f, bI_nand, n_mod, an11, an01, negn1, negn2, false_and, and_false, true_and, and_true, not_true_eq_false, not_false_eq_true, bI_n0, bI_n1, Bool.true_eq_false, Bool.false_eq_true, cI_s, cL_s, cV_s, cR_n, pm_bR_self, bI_ite, bL_ite, bV_ite, bR_ite, E_X0_lull_35, M, nn_and, shr_n, bit_i, q]
    · rw [q, if_pos rfl] at kd
      obtain ⟨h', e, hC', f⟩ := ih (k + 1) (pm_sI h 16 j (4*s+k) (nI 4)) (by omega) (cvt _ (fun _ => sI_tag _ _ _ _ _ _ (by decide)) (fun t k' _ _ ht => sI_tag _ _ _ _ _ _ ht) rfl (fun i hi => sI_pl _ _ _ _ _ hi) (by rw [sI_same, kd]; rfl))
      refine ⟨h', ?_, hC', (Fr.sI _ _ _ (by simp [coT, show Nat.ble 10 16 = true from rfl, show Nat.ble 16 18 = true from rfl])).tr f⟩
      rw [← e]
      simp (disch := omega) only [y_0, y_1, y_2, y_3, y_4, y_5, y_6, y_7, y_8, y_9, y_10, y_11, y_12, y_13, y_14, y_15, y_16, y_17, y_18, y_19, y_20, y_21, y_22, y_23, y_24, y_29, y_30, y_31, y_32, y_39, y_40, y_48, y_49, y_50, y_60, y_64, y_69, y_78, y_99, y_100, y_142, y_161, y_600, y_610, y_894, y_999, y_1000, y_1216, y_1276, neg1, neg2, nI_add, nI_mul, nn_sub, nn_lt, nn_le, nn_eq, in_lt, ni_lt, in_le, ni_le, in_eq, ni_eq, iI_lt, iI_le, iI_eq, nn_clamp, inb_n, t_lt, f_lt, t_le, f_le, t_eq, f_eq, ti_lt, fi_lt, ti_le, fi_le, ti_eq, fi_eq, ↓reduceIte, ite_true, ite_false, eq_self, decide_true, decide_false, Bool.true_and, Bool.and_true, Bool.false_and, Bool.and_false, Bool.true_or, Bool.or_true, Bool.false_or, Bool.or_false, bI_t, bI_f, bI_nand, n_mod, an11, an01, negn1, negn2, false_and, and_false, true_and, and_true, not_true_eq_false, not_false_eq_true, bI_n0, bI_n1, Bool.true_eq_false, Bool.false_eq_true, cI_s, cL_s, cV_s, cR_n, pm_bR_self, bI_ite, bL_ite, bV_ite, bR_ite, E_X0_lull_35, M, nn_and, shr_n, bit_i, q]
theorem lull_C {h : PH} {j : Nat} {c : AC} (hv : cV c) (hC : CoastC h j c) {s B ab : Nat} (hs : s < (c (6)).val) (hB : B < 16) (hab : ∀ k, k < (c (80+s)).val → ab.testBit k = !B.testBit k) : ∃ h', pm_ev (28, 0, [vr 0 j, vi (nI s), vi (nI B), none], [], h) = some (none, h') ∧ CoastC h' j (lullA c s ab) ∧ Fr (coT j) h h' := by
  have hV1 := hv.1
  have v5 := (hv.2.2.1 s hs).2.2.2.2.1
  have e0 : lullA c s (15 ^^^ (B % 2 ^ 0)) = c := by rw [Nat.pow_zero, Nat.mod_one]; exact lullA_15 c s
  obtain ⟨h', e, hC', f⟩ := lull_2 hv hs hB _ 0 h (Nat.zero_add _) (by rw [e0]; exact hC)
  refine ⟨h', by rw [E_X0_lull]; exact e, ?_, f⟩
  refine hC'.up (lull_cV hv hs _) (fun i hi => ?_) (fun _ => rfl) (fun _ => rfl) (fun _ => rfl) (fun _ => rfl) (fun _ => rfl) rfl (fun t ht => ?_)
  · rw [lullA_o c s _ i (by omega), lullA_o c s _ i (by omega)]
  · obtain ⟨⟨a1, a2, _, _⟩, a5⟩ := hC'.2.2 t ht
    rw [lullA_o c s _ 6 (by omega)] at ht
    rw [lullA_o c s _ (40+t) (by omega), lullA_o c s _ (50+t) (by omega)] at a1 ⊢
    rw [lullA_o c s _ (60+t) (by omega)] at a2 ⊢
    refine ⟨a1, a2, fun l hl => ?_⟩
    obtain ⟨b1, b2, b3⟩ := a5 l hl
    rw [lullA_o c s _ (80+t) (by omega)] at hl
    have u5 := (hv.2.2.1 t ht).2.2.2.2.1
    rw [lullA_o c s _ (120+(4*t+l)) (by omega)] at b2 ⊢
    rw [lullA_o c s _ (140+(4*t+l)) (by omega)] at b3 ⊢
    refine ⟨?_, b2, b3⟩
    rw [b1]
    congr 2
    rw [(lull_man hv hs ht hl _).1, (lull_man hv hs ht hl _).1]
    by_cases q2 : t = s
    · subst q2
      rw [xor15 _ (Nat.lt_of_le_of_lt (Nat.mod_le _ _) hB) l (by omega), Nat.testBit_mod_two_pow, decide_eq_true hl, Bool.true_and, hab l hl]
    · rw [if_neg (fun z => q2 z.1), if_neg (fun z => q2 z.1)]
/-- the first of the least sets that will do -/
def srO (p : Nat → Bool) (N : Nat) : Nat → Nat → Option Nat
  | 0, _ => none
  | r + 1, m => match fstB (fun q => decide (pop6 q = m) && p q) N 0 with
    | some x => some x
    | none => srO p N r (m + 1)
theorem srO_some {p : Nat → Bool} {N r m x : Nat} (h : fstB (fun q => decide (pop6 q = m) && p q) N 0 = some x) : srO p N (r + 1) m = some x := by rw [srO, h]
theorem srO_none {p : Nat → Bool} {N r m : Nat} (h : fstB (fun q => decide (pop6 q = m) && p q) N 0 = none) : srO p N (r + 1) m = srO p N r (m + 1) := by rw [srO, h]
theorem pow4 : ∀ m, m ≤ 4 → 2 ^ m ≤ 16 ∧ 1 ≤ 2 ^ m := by decide
/-- the class's search: aboard or lulled -/
def abW (ab st : Nat) : Nat := if ab = 1 then st else 15 ^^^ st
def aTry (c : AC) (s ab fx fy gx gy n st : Nat) : Bool := aCome c (aLit (lullA c s (abW ab st)) s) 0 fx fy gx gy n
def TrC (h : PH) (j : Nat) (c : AC) (fx fy gx gy : Nat) : Prop := SeaC h c fx fy gx gy ∧ CoastC h j c
theorem TrC.co {h h' : PH} {j : Nat} {c : AC} {fx fy gx gy : Nat} (hj : j < 8) (hf : Fr (coT 10) h h') (hT : TrC h j c fx fy gx gy) : TrC h' j c fx fy gx gy := ⟨hT.1.co hf, hT.2.co hf (by omega)⟩
theorem tryA_C {h : PH} {j : Nat} {c c' : AC} (hv' : cV c') (hC : CoastC h 10 c') {s fx fy gx gy n : Nat} (hS : SeaC h c fx fy gx gy) (hs : s < (c' (6)).val) (hgx : gx < 8) (hgy : gy < 8) (hn : n < 99) : pm_ev (20, 0, [vr 0 10, vi (nI s), none, none], [], h) = some (some (vi (nI (bitsB (aLit c' s) 24))), h) ∧ pm_ev (97, 0, [vr 5 0, vi (nI (bitsB (aLit c' s) 24)), vi (nI 0), vi (nI n)], [], h) = some (some (vi (bI (aCome c (aLit c' s) 0 fx fy gx gy n))), h) := by
  have hbl := bitsB_lt (aLit c' s) 24
  have K := comes_C (b := 0) (mx := n) hS hgx hgy (show bitsB (aLit c' s) 24 < 2147483648 by omega) (by omega) (by omega)
  simp only [rch_bits] at K
  exact ⟨litHours_C hv' hC hs, K⟩
theorem fm_29 {j : Nat} {c : AC} (hv : cV c) {s ab fx fy gx gy n m : Nat} (hj : j < 8) (hs : s < (c (6)).val) (hgx : gx < 8) (hgy : gy < 8) (hn : n < 99) (hab : ab < 2) (hm : m ≤ (c (80+s)).val) : ∀ r st h, st + r = 2 ^ (c (80+s)).val → TrC h j c fx fy gx gy → ∃ h', (∀ x, fstB (fun q => decide (pop6 q = m) && aTry c s ab fx fy gx gy n q) r st = some x → pm_ev (145, 29, [vr 7 0, vr 0 j, vi (nI s), vi (nI n), vi (nI ab), vi (nI (c (80+s)).val), vi (nI (2 ^ (c (80+s)).val - 1)), vi (nI m), vi (nI st)], [], h) = some (some (vi (nI x)), h')) ∧ (fstB (fun q => decide (pop6 q = m) && aTry c s ab fx fy gx gy n q) r st = none → pm_ev (145, 29, [vr 7 0, vr 0 j, vi (nI s), vi (nI n), vi (nI ab), vi (nI (c (80+s)).val), vi (nI (2 ^ (c (80+s)).val - 1)), vi (nI m), vi (nI st)], [], h) = pm_ev (145, 19, [vr 7 0, vr 0 j, vi (nI s), vi (nI n), vi (nI ab), vi (nI (c (80+s)).val), vi (nI (2 ^ (c (80+s)).val - 1)), vi (nI (m + 1)), none], [], h')) ∧ Fr (coT 10) h h' := by
  have hV1 := hv.1
  have v5 := (hv.2.2.1 s hs).2.2.2.2.1
  obtain ⟨p1, p2⟩ := pow4 _ v5
  intro r
  induction r with
  | zero =>
    intro st h hst _
    refine ⟨h, fun x hx => (by cases hx), fun _ => ?_, Fr.rfl'⟩
    rw [E_X8_fewestMen_29]
    generalize 2 ^ (c (80+s)).val = N at *
    simp (disch := omega) only [y_0, y_1, y_2, y_3, y_4, y_5, y_6, y_7, y_8, y_9, y_10, y_11, y_12, y_13, y_14, y_15, y_16, y_17, y_18, y_19, y_20, y_21, y_22, y_23, y_24, y_29, y_30, y_31, y_32, y_39, y_40, y_48, y_49, y_50, y_60, y_64, y_69, y_78, y_99, y_100, y_142, y_161, y_600, y_610, y_894, y_999, y_1000, y_1216, y_1276, neg1, neg2, nI_add, nI_mul, nn_sub, nn_lt, nn_le, nn_eq, in_lt, ni_lt, in_le, ni_le, in_eq, ni_eq, iI_lt, iI_le, iI_eq, nn_clamp, inb_n, t_lt, f_lt, t_le, f_le, t_eq, f_eq, ti_lt, fi_lt, ti_le, fi_le, ti_eq, fi_eq, ↓reduceIte, ite_true, ite_false, eq_self, decide_true, decide_false, Bool.true_and, Bool.and_true, Bool.false_and, Bool.and_false, Bool.true_or, Bool.or_true, Bool.false_or, Bool.or_false, bI_t, bI_f, bI_nand, n_mod, an11, an01, negn1, negn2, false_and, and_false, true_and, and_true, not_true_eq_false, not_false_eq_true, bI_n0, bI_n1, Bool.true_eq_false, Bool.false_eq_true, cI_s, cL_s, cV_s, cR_n, pm_bR_self, bI_ite, bL_ite, bV_ite, bR_ite, E_X8_fewestMen_117, E_X8_fewestMen_111, E_X8_fewestMen_49, E_X8_fewestMen_105, E_X8_fewestMen_77, E_X8_fewestMen_79, ]
  | succ r ih =>
    intro st h hst hT
    have hst2 : st < 2 ^ (c (80+s)).val := by omega
    have P := bc_int st (by omega) h
    rw [pop_32 (show st < 64 by omega)] at P
    have pl := pop6_le st
    by_cases q1 : pop6 st = m
    · obtain ⟨h1, e1, hC1, f1⟩ := copyFrom_C (o := 10) hv hT.2 (by omega)
      -- who is lulled
      obtain ⟨B, hB, eB, hbits⟩ : ∃ B, B < 16 ∧ (∀ h, pm_ev (145, 49, [vr 7 0, vr 0 j, vi (nI s), vi (nI n), vi (nI ab), vi (nI (c (80+s)).val), vi (nI (2 ^ (c (80+s)).val - 1)), vi (nI m), vi (nI st)], [], h) = pm_bV (pm_ev (1, 0, [vr 0 10, vr 0 j], [], h)) fun h3 => pm_ev (145, 79, [vr 7 0, vr 0 j, vi (nI s), vi (nI n), vi (nI ab), vi (nI (c (80+s)).val), vi (nI (2 ^ (c (80+s)).val - 1)), vi (nI m), vi (nI st)], [vi (nI B), vi (nI s), vr 0 10], h3)) ∧ ∀ k, k < (c (80+s)).val → (abW ab st).testBit k = !B.testBit k := by
        have : ab = 0 ∨ ab = 1 := by omega
        rcases this with e | e
        · refine ⟨st, by omega, fun h => ?_, fun k hk => ?_⟩
          · subst e
            rw [E_X8_fewestMen_49]
            congr 1
            funext h3
            rw [if_pos (show nI 0 = 0 from rfl), E_X8_fewestMen_77]
          · unfold abW
            rw [if_neg (by omega), xor15 st (by omega) k (by omega)]
        · refine ⟨2 ^ (c (80+s)).val - 1 - st, by omega, fun h => ?_, fun k hk => ?_⟩
          · subst e
            rw [E_X8_fewestMen_49]
            congr 1
            funext h3
            rw [if_neg (by decide), neg1, andnot _ v5 _ hst2]
          · unfold abW
            rw [if_pos e, subset_bit _ v5 _ hst2 k hk, Bool.not_not]
      obtain ⟨h2, e2, hC2, f2⟩ := lull_C hv hC1 hs hB hbits
      have f12 := f1.tr f2
      have hT2 := hT.co hj f12
      have hv' := lull_cV hv hs (abW ab st)
      obtain ⟨a1, a2⟩ := tryA_C (j := j) hv' hC2 hT2.1 (show s < (lullA c s (abW ab st) 6).val by rw [lullA_o c s _ 6 (by omega)]; exact hs) hgx hgy hn
      change pm_ev _ = some (some (vi (bI (aTry c s ab fx fy gx gy n st))), h2) at a2
      cases q2 : aTry c s ab fx fy gx gy n st
      · rw [q2] at a2
        obtain ⟨h', g1, g2, f3⟩ := ih (st + 1) h2 (by omega) hT2
        have ef : fstB (fun q => decide (pop6 q = m) && aTry c s ab fx fy gx gy n q) (r + 1) st = fstB (fun q => decide (pop6 q = m) && aTry c s ab fx fy gx gy n q) r (st + 1) := fstB_f (by simp only [q2, Bool.and_false])
        have step : pm_ev (145, 29, [vr 7 0, vr 0 j, vi (nI s), vi (nI n), vi (nI ab), vi (nI (c (80+s)).val), vi (nI (2 ^ (c (80+s)).val - 1)), vi (nI m), vi (nI st)], [], h) = pm_ev (145, 29, [vr 7 0, vr 0 j, vi (nI s), vi (nI n), vi (nI ab), vi (nI (c (80+s)).val), vi (nI (2 ^ (c (80+s)).val - 1)), vi (nI m), vi (nI (st + 1))], [], h2) := by
          rw [E_X8_fewestMen_29]
          generalize 2 ^ (c (80+s)).val = N at *
          simp (disch := omega) only [y_0, y_1, y_2, y_3, y_4, y_5, y_6, y_7, y_8, y_9, y_10, y_11, y_12, y_13, y_14, y_15, y_16, y_17, y_18, y_19, y_20, y_21, y_22, y_23, y_24, y_29, y_30, y_31, y_32, y_39, y_40, y_48, y_49, y_50, y_60, y_64, y_69, y_78, y_99, y_100, y_142, y_161, y_600, y_610, y_894, y_999, y_1000, y_1216, y_1276, neg1, neg2, nI_add, nI_mul, nn_sub, nn_lt, nn_le, nn_eq, in_lt, ni_lt, in_le, ni_le, in_eq, ni_eq, iI_lt, iI_le, iI_eq, nn_clamp, inb_n, t_lt, f_lt, t_le, f_le, t_eq, f_eq, ti_lt, fi_lt, ti_le, fi_le, ti_eq, fi_eq, ↓reduceIte, ite_true, ite_false, eq_self, decide_true, decide_false, Bool.true_and, Bool.and_true, Bool.false_and, Bool.and_false, Bool.true_or, Bool.or_true, Bool.false_or, Bool.or_false, bI_t, bI_f, bI_nand, n_mod, an11, an01, negn1, negn2, false_and, and_false, true_and, and_true, not_true_eq_false, not_false_eq_true, bI_n0, bI_n1, Bool.true_eq_false, Bool.false_eq_true, cI_s, cL_s, cV_s, cR_n, pm_bR_self, bI_ite, bL_ite, bV_ite, bR_ite, P, q1, eB, e1, E_X8_fewestMen_79, e2, a1, a2, E_X8_fewestMen_105]
        rw [ef]
        exact ⟨h', fun x hx => step.trans (g1 x hx), fun hx => step.trans (g2 hx), f12.tr f3⟩
      · rw [q2] at a2
        have ef : fstB (fun q => decide (pop6 q = m) && aTry c s ab fx fy gx gy n q) (r + 1) st = some st := fstB_t (by simp only [q2, decide_eq_true q1, Bool.and_true])
        rw [ef]
        refine ⟨h2, fun x hx => ?_, fun hx => (by cases hx), f12⟩
        cases hx
        rw [E_X8_fewestMen_29]
        generalize 2 ^ (c (80+s)).val = N at *
        simp (disch := omega) only [y_0, y_1, y_2, y_3, y_4, y_5, y_6, y_7, y_8, y_9, y_10, y_11, y_12, y_13, y_14, y_15, y_16, y_17, y_18, y_19, y_20, y_21, y_22, y_23, y_24, y_29, y_30, y_31, y_32, y_39, y_40, y_48, y_49, y_50, y_60, y_64, y_69, y_78, y_99, y_100, y_142, y_161, y_600, y_610, y_894, y_999, y_1000, y_1216, y_1276, neg1, neg2, nI_add, nI_mul, nn_sub, nn_lt, nn_le, nn_eq, in_lt, ni_lt, in_le, ni_le, in_eq, ni_eq, iI_lt, iI_le, iI_eq, nn_clamp, inb_n, t_lt, f_lt, t_le, f_le, t_eq, f_eq, ti_lt, fi_lt, ti_le, fi_le, ti_eq, fi_eq, ↓reduceIte, ite_true, ite_false, eq_self, decide_true, decide_false, Bool.true_and, Bool.and_true, Bool.false_and, Bool.and_false, Bool.true_or, Bool.or_true, Bool.false_or, Bool.or_false, bI_t, bI_f, bI_nand, n_mod, an11, an01, negn1, negn2, false_and, and_false, true_and, and_true, not_true_eq_false, not_false_eq_true, bI_n0, bI_n1, Bool.true_eq_false, Bool.false_eq_true, cI_s, cL_s, cV_s, cR_n, pm_bR_self, bI_ite, bL_ite, bV_ite, bR_ite, P, q1, eB, e1, E_X8_fewestMen_79, e2, a1, a2, E_X8_fewestMen_105]
    · obtain ⟨h', g1, g2, f3⟩ := ih (st + 1) h (by omega) hT
      have ef : fstB (fun q => decide (pop6 q = m) && aTry c s ab fx fy gx gy n q) (r + 1) st = fstB (fun q => decide (pop6 q = m) && aTry c s ab fx fy gx gy n q) r (st + 1) := fstB_f (by simp only [decide_eq_false q1, Bool.false_and])
      have step : pm_ev (145, 29, [vr 7 0, vr 0 j, vi (nI s), vi (nI n), vi (nI ab), vi (nI (c (80+s)).val), vi (nI (2 ^ (c (80+s)).val - 1)), vi (nI m), vi (nI st)], [], h) = pm_ev (145, 29, [vr 7 0, vr 0 j, vi (nI s), vi (nI n), vi (nI ab), vi (nI (c (80+s)).val), vi (nI (2 ^ (c (80+s)).val - 1)), vi (nI m), vi (nI (st + 1))], [], h) := by
        rw [E_X8_fewestMen_29]
        generalize 2 ^ (c (80+s)).val = N at *
        simp (disch := omega) only [y_0, y_1, y_2, y_3, y_4, y_5, y_6, y_7, y_8, y_9, y_10, y_11, y_12, y_13, y_14, y_15, y_16, y_17, y_18, y_19, y_20, y_21, y_22, y_23, y_24, y_29, y_30, y_31, y_32, y_39, y_40, y_48, y_49, y_50, y_60, y_64, y_69, y_78, y_99, y_100, y_142, y_161, y_600, y_610, y_894, y_999, y_1000, y_1216, y_1276, neg1, neg2, nI_add, nI_mul, nn_sub, nn_lt, nn_le, nn_eq, in_lt, ni_lt, in_le, ni_le, in_eq, ni_eq, iI_lt, iI_le, iI_eq, nn_clamp, inb_n, t_lt, f_lt, t_le, f_le, t_eq, f_eq, ti_lt, fi_lt, ti_le, fi_le, ti_eq, fi_eq, ↓reduceIte, ite_true, ite_false, eq_self, decide_true, decide_false, Bool.true_and, Bool.and_true, Bool.false_and, Bool.and_false, Bool.true_or, Bool.or_true, Bool.false_or, Bool.or_false, bI_t, bI_f, bI_nand, n_mod, an11, an01, negn1, negn2, false_and, and_false, true_and, and_true, not_true_eq_false, not_false_eq_true, bI_n0, bI_n1, Bool.true_eq_false, Bool.false_eq_true, cI_s, cL_s, cV_s, cR_n, pm_bR_self, bI_ite, bL_ite, bV_ite, bR_ite, P, q1, E_X8_fewestMen_105]
      rw [ef]
      exact ⟨h', fun x hx => step.trans (g1 x hx), fun hx => step.trans (g2 hx), f3⟩
theorem fm_19 {j : Nat} {c : AC} (hv : cV c) {s ab fx fy gx gy n : Nat} (hj : j < 8) (hs : s < (c (6)).val) (hgx : gx < 8) (hgy : gy < 8) (hn : n < 99) (hab : ab < 2) : ∀ r m h, m + r = (c (80+s)).val + 1 → TrC h j c fx fy gx gy → ∃ h', pm_ev (145, 19, [vr 7 0, vr 0 j, vi (nI s), vi (nI n), vi (nI ab), vi (nI (c (80+s)).val), vi (nI (2 ^ (c (80+s)).val - 1)), vi (nI m), none], [], h) = some (some (vi (oN (srO (aTry c s ab fx fy gx gy n) (2 ^ (c (80+s)).val) r m))), h') ∧ Fr (coT 10) h h' := by
  have v5 := (hv.2.2.1 s hs).2.2.2.2.1
  intro r
  induction r with
  | zero =>
    intro m h hm hT
    refine ⟨h, ?_, Fr.rfl'⟩
    rw [E_X8_fewestMen_19]
    generalize 2 ^ (c (80+s)).val - 1 = N1 at *
    simp (disch := omega) only [y_0, y_1, y_2, y_3, y_4, y_5, y_6, y_7, y_8, y_9, y_10, y_11, y_12, y_13, y_14, y_15, y_16, y_17, y_18, y_19, y_20, y_21, y_22, y_23, y_24, y_29, y_30, y_31, y_32, y_39, y_40, y_48, y_49, y_50, y_60, y_64, y_69, y_78, y_99, y_100, y_142, y_161, y_600, y_610, y_894, y_999, y_1000, y_1216, y_1276, neg1, neg2, nI_add, nI_mul, nn_sub, nn_lt, nn_le, nn_eq, in_lt, ni_lt, in_le, ni_le, in_eq, ni_eq, iI_lt, iI_le, iI_eq, nn_clamp, inb_n, t_lt, f_lt, t_le, f_le, t_eq, f_eq, ti_lt, fi_lt, ti_le, fi_le, ti_eq, fi_eq, ↓reduceIte, ite_true, ite_false, eq_self, decide_true, decide_false, Bool.true_and, Bool.and_true, Bool.false_and, Bool.and_false, Bool.true_or, Bool.or_true, Bool.false_or, Bool.or_false, bI_t, bI_f, bI_nand, n_mod, an11, an01, negn1, negn2, false_and, and_false, true_and, and_true, not_true_eq_false, not_false_eq_true, bI_n0, bI_n1, Bool.true_eq_false, Bool.false_eq_true, cI_s, cL_s, cV_s, cR_n, pm_bR_self, bI_ite, bL_ite, bV_ite, bR_ite, E_X8_fewestMen_117, E_X8_fewestMen_111, E_X8_fewestMen_49, E_X8_fewestMen_105, E_X8_fewestMen_77, E_X8_fewestMen_79, ]
    rfl
  | succ r ih =>
    intro m h hm hT
    obtain ⟨h1, g1, g2, f1⟩ := fm_29 (fx := fx) (fy := fy) (ab := ab) (m := m) hv hj hs hgx hgy hn hab (by omega) (2 ^ (c (80+s)).val) 0 h (Nat.zero_add _) hT
    have st : pm_ev (145, 19, [vr 7 0, vr 0 j, vi (nI s), vi (nI n), vi (nI ab), vi (nI (c (80+s)).val), vi (nI (2 ^ (c (80+s)).val - 1)), vi (nI m), none], [], h) = pm_ev (145, 29, [vr 7 0, vr 0 j, vi (nI s), vi (nI n), vi (nI ab), vi (nI (c (80+s)).val), vi (nI (2 ^ (c (80+s)).val - 1)), vi (nI m), vi (nI 0)], [], h) := by
      rw [E_X8_fewestMen_19]
      generalize 2 ^ (c (80+s)).val - 1 = N1 at *
      simp (disch := omega) only [y_0, y_1, y_2, y_3, y_4, y_5, y_6, y_7, y_8, y_9, y_10, y_11, y_12, y_13, y_14, y_15, y_16, y_17, y_18, y_19, y_20, y_21, y_22, y_23, y_24, y_29, y_30, y_31, y_32, y_39, y_40, y_48, y_49, y_50, y_60, y_64, y_69, y_78, y_99, y_100, y_142, y_161, y_600, y_610, y_894, y_999, y_1000, y_1216, y_1276, neg1, neg2, nI_add, nI_mul, nn_sub, nn_lt, nn_le, nn_eq, in_lt, ni_lt, in_le, ni_le, in_eq, ni_eq, iI_lt, iI_le, iI_eq, nn_clamp, inb_n, t_lt, f_lt, t_le, f_le, t_eq, f_eq, ti_lt, fi_lt, ti_le, fi_le, ti_eq, fi_eq, ↓reduceIte, ite_true, ite_false, eq_self, decide_true, decide_false, Bool.true_and, Bool.and_true, Bool.false_and, Bool.and_false, Bool.true_or, Bool.or_true, Bool.false_or, Bool.or_false, bI_t, bI_f, bI_nand, n_mod, an11, an01, negn1, negn2, false_and, and_false, true_and, and_true, not_true_eq_false, not_false_eq_true, bI_n0, bI_n1, Bool.true_eq_false, Bool.false_eq_true, cI_s, cL_s, cV_s, cR_n, pm_bR_self, bI_ite, bL_ite, bV_ite, bR_ite, E_X8_fewestMen_117, E_X8_fewestMen_111, E_X8_fewestMen_49, E_X8_fewestMen_105, E_X8_fewestMen_77, E_X8_fewestMen_79, ]
    cases q : fstB (fun q => decide (pop6 q = m) && aTry c s ab fx fy gx gy n q) (2 ^ (c (80+s)).val) 0 with
    | some x =>
      refine ⟨h1, ?_, f1⟩
      rw [srO_some q, st]
      exact g1 x q
    | none =>
      obtain ⟨h', e, f2⟩ := ih (m + 1) h1 (by omega) (hT.co hj f1)
      refine ⟨h', ?_, f1.tr f2⟩
      rw [srO_none q, st, g2 q]
      exact e
theorem fm_C {h : PH} {j : Nat} {c : AC} (hv : cV c) {s ab fx fy gx gy n : Nat} (hj : j < 8) (hs : s < (c (6)).val) (hgx : gx < 8) (hgy : gy < 8) (hn : n < 99) (hab : ab < 2) (hT : TrC h j c fx fy gx gy) : ∃ h', pm_ev (145, 0, [vr 7 0, vr 0 j, vi (nI s), vi (nI n), vi (nI ab), none, none, none, none], [], h) = some (some (vi (oN (srO (aTry c s ab fx fy gx gy n) (2 ^ (c (80+s)).val) ((c (80+s)).val + 1) 0))), h') ∧ Fr (coT 10) h h' := by
  have hV1 := hv.1
  have v5 := (hv.2.2.1 s hs).2.2.2.2.1
  have s4 := (hT.2.2.2 s hs).1.2.2.2
  obtain ⟨p1, p2⟩ := pow4 _ v5
  obtain ⟨h', e, f⟩ := fm_19 (n := n) hv hj hs hgx hgy hn hab _ 0 h (Nat.zero_add _) hT
  refine ⟨h', ?_, f⟩
  rw [← e, E_X8_fewestMen]
  simp (disch := omega) only [y_0, y_1, y_2, y_3, y_4, y_5, y_6, y_7, y_8, y_9, y_10, y_11, y_12, y_13, y_14, y_15, y_16, y_17, y_18, y_19, y_20, y_21, y_22, y_23, y_24, y_29, y_30, y_31, y_32, y_39, y_40, y_48, y_49, y_50, y_60, y_64, y_69, y_78, y_99, y_100, y_142, y_161, y_600, y_610, y_894, y_999, y_1000, y_1216, y_1276, neg1, neg2, nI_add, nI_mul, nn_sub, nn_lt, nn_le, nn_eq, in_lt, ni_lt, in_le, ni_le, in_eq, ni_eq, iI_lt, iI_le, iI_eq, nn_clamp, inb_n, t_lt, f_lt, t_le, f_le, t_eq, f_eq, ti_lt, fi_lt, ti_le, fi_le, ti_eq, fi_eq, ↓reduceIte, ite_true, ite_false, eq_self, decide_true, decide_false, Bool.true_and, Bool.and_true, Bool.false_and, Bool.and_false, Bool.true_or, Bool.or_true, Bool.false_or, Bool.or_false, bI_t, bI_f, bI_nand, n_mod, an11, an01, negn1, negn2, false_and, and_false, true_and, and_true, not_true_eq_false, not_false_eq_true, bI_n0, bI_n1, Bool.true_eq_false, Bool.false_eq_true, cI_s, cL_s, cV_s, cR_n, pm_bR_self, bI_ite, bL_ite, bV_ite, bR_ite, s4, nn_and, shl_1]
