theorem lu_50 {a : Nat} {c : AC} (hv : cV c) {s st : Nat} (hs : s < (c (6)).val) (hst : st < 16) (k n m : Int32) : ∀ r q g, q + r = (c (80+s)).val → ModS g a c → CoastMd g a c → AliveM g (lullA c s (15 ^^^ (st % 2 ^ q))) → g.1 8 0 19 = nI 15 → ∃ g', pm_ev (225, 50, [vr 8 0, vi (nI s), vi k, vi n, vi m, vi (nI st), vi (nI q)], [], g) = pm_ev (225, 50, [vr 8 0, vi (nI s), vi k, vi n, vi m, vi (nI st), vi (nI (c (80+s)).val)], [], g') ∧ ModS g' a c ∧ CoastMd g' a c ∧ AliveM g' (lullA c s (15 ^^^ (st % 2 ^ (c (80+s)).val))) ∧ g'.1 8 0 19 = nI 15 ∧ Fr scM g g' := by
  have hV1 := hv.1
  have v5 := (hv.2.2.1 s hs).2.2.2.2.1
  intro r
  induction r with
  | zero =>
    intro q g hq hm hd hA h19
    have hq : q = (c (80+s)).val := by omega
    subst hq
    exact ⟨g, rfl, hm, hd, hA, h19, Fr.rfl'⟩
  | succ r ih =>
    intro q g hq hm hd hA h19
    have hq2 : q < (c (80+s)).val := by omega
    have O := of_M3 hv hm hs
    have m16 : ∀ i, st % 2 ^ i < 16 := fun i => Nat.lt_of_le_of_lt (Nat.mod_le _ _) hst
    have tb : ∀ i l, (st % 2 ^ i).testBit l = (decide (l < i) && st.testBit l) := fun i l => Nat.testBit_mod_two_pow st i l
    have hvl := lull_cV hv hs (15 ^^^ (st % 2 ^ q))
    have cvt : ∀ g1 : PH, (∀ i, i ≠ 12*s+3*q → g1.1 36 0 i = g.1 36 0 i) → (∀ i, g1.1 37 0 i = g.1 37 0 i) → g1.1 36 0 (12*s+3*q) = nI (lullA c s (15 ^^^ (st % 2 ^ (q+1))) (100+(4*s+q))).val → AliveM g1 (lullA c s (15 ^^^ (st % 2 ^ (q + 1)))) := fun g1 e3 e7 e4 => by
      refine AliveM.up hvl (c' := lullA c s (15 ^^^ (st % 2 ^ (q + 1)))) (fun i hi => ?_) (fun t ht => ?_)
      · rw [lullA_o c s _ i (by omega), lullA_o c s _ i (by omega)]
      · obtain ⟨a2, a5⟩ := hA t ht
        rw [lullA_o c s _ 6 (by omega)] at ht
        rw [lullA_o c s _ (60+t) (by omega)] at a2 ⊢
        rw [e7]
        refine ⟨a2, fun l hl => ?_⟩
        obtain ⟨b1, b2, b3⟩ := a5 l hl
        rw [lullA_o c s _ (80+t) (by omega)] at hl
        have u5 := (hv.2.2.1 t ht).2.2.2.2.1
        rw [lullA_o c s _ (120+(4*t+l)) (by omega)] at b2 ⊢
        rw [lullA_o c s _ (140+(4*t+l)) (by omega)] at b3 ⊢
        rw [e3 (12*t+3*l+1) (by omega), e3 (12*t+3*l+2) (by omega)]
        refine ⟨?_, b2, b3⟩
        by_cases z : t = s ∧ l = q
        · rw [z.1, z.2]; exact e4
        · rw [e3 _ (by omega), b1]
          congr 2
          rw [(lull_man hv hs ht hl _).1, (lull_man hv hs ht hl _).1]
          by_cases q2 : t = s
          · rw [xor15 _ (m16 _) l (by omega), xor15 _ (m16 _) l (by omega), tb, tb, show decide (l < q) = decide (l < q + 1) from decide_eq_decide.mpr (by omega)]
          · rw [if_neg (fun z => q2 z.1), if_neg (fun z => q2 z.1)]
    have kd : lullA c s (15 ^^^ (st % 2 ^ (q+1))) (100+(4*s+q)) = if st.testBit q then 4 else c (100+(4*s+q)) := by
      rw [lullA_k c s _ q (by omega), xor15 _ (m16 _) q (by omega), tb, decide_eq_true (by omega), Bool.true_and]
      cases st.testBit q <;> rfl
    rw [E_X9_lulledOf_50]
    cases qb : st.testBit q
    · rw [qb, if_neg (by decide)] at kd
      obtain ⟨g', e, b1, b2, b3, b4, b5⟩ := ih (q + 1) g (by omega) hm hd (cvt g (fun _ _ => rfl) (fun _ => rfl) (by
        rw [kd]
        have := ((hA s (by rw [lullA_o c s _ 6 (by omega)]; exact hs)).2 q (by rw [lullA_o c s _ (80+s) (by omega)]; exact hq2)).1
        rw [this, (lull_man hv hs hs hq2 _).1, xor15 _ (m16 _) q (by omega), tb, decide_eq_false (Nat.lt_irrefl _), Bool.false_and, if_neg (fun z => by cases z.2)])) h19
      refine ⟨g', ?_, b1, b2, b3, b4, b5⟩
      rw [← e]
      simp (disch := omega) only [y_0, y_1, y_2, y_3, y_4, y_5, y_6, y_7, y_8, y_9, y_10, y_11, y_12, y_13, y_14, y_15, y_16, y_17, y_18, y_19, y_20, y_21, y_22, y_23, y_24, y_29, y_30, y_31, y_32, y_39, y_40, y_48, y_49, y_50, y_60, y_64, y_69, y_78, y_99, y_100, y_142, y_161, y_600, y_610, y_894, y_999, y_1000, y_1216, y_1276, neg1, neg2, nI_add, nI_mul, nn_sub, nn_lt, nn_le, nn_eq, in_lt, ni_lt, in_le, ni_le, in_eq, ni_eq, iI_lt, iI_le, iI_eq, nn_clamp, inb_n, t_lt, f_lt, t_le, f_le, t_eq, f_eq, ti_lt, fi_lt, ti_le, fi_le, ti_eq, fi_eq, ↓reduceIte, ite_true, ite_false, eq_self, decide_true, decide_false, Bool.true_and, Bool.and_true, Bool.false_and, Bool.and_false, Bool.true_or, Bool.or_true, Bool.false_or, Bool.or_false, bI_t, bI_f, bI_nand, n_mod, an11, an01, negn1, negn2, false_and, and_false, true_and, and_true, not_true_eq_false, not_false_eq_true, bI_n0, bI_n1, Bool.true_eq_false, Bool.false_eq_true, cI_s, cL_s, cV_s, cR_n, pm_bR_self, bI_ite, bL_ite, bV_ite, bR_ite, O, nn_and, shr_n, bit_i, qb, E_X9_lulledOf_87]
    · rw [qb, if_pos (by rfl)] at kd
      obtain ⟨g', e, b1, b2, b3, b4, b5⟩ := ih (q + 1) (pm_sI g 36 0 (12*s+3*q) (nI 4)) (by omega) (hm.fr (fun _ => sI_tag _ _ _ _ _ _ (by decide)) (fun _ _ _ => sI_tag _ _ _ _ _ _ (by decide))) (hd.fr (fun _ => sI_tag _ _ _ _ _ _ (by decide))) (cvt _ (fun i hi => sI_pl _ _ _ _ _ hi) (fun _ => sI_tag _ _ _ _ _ _ (by decide)) (by rw [sI_same, kd]; rfl)) (by rw [sI_tag _ _ _ _ _ _ (by decide)]; exact h19)
      refine ⟨g', ?_, b1, b2, b3, b4, (Fr.sI _ _ _ rfl).tr b5⟩
      rw [← e]
      simp (disch := omega) only [y_0, y_1, y_2, y_3, y_4, y_5, y_6, y_7, y_8, y_9, y_10, y_11, y_12, y_13, y_14, y_15, y_16, y_17, y_18, y_19, y_20, y_21, y_22, y_23, y_24, y_29, y_30, y_31, y_32, y_39, y_40, y_48, y_49, y_50, y_60, y_64, y_69, y_78, y_99, y_100, y_142, y_161, y_600, y_610, y_894, y_999, y_1000, y_1216, y_1276, neg1, neg2, nI_add, nI_mul, nn_sub, nn_lt, nn_le, nn_eq, in_lt, ni_lt, in_le, ni_le, in_eq, ni_eq, iI_lt, iI_le, iI_eq, nn_clamp, inb_n, t_lt, f_lt, t_le, f_le, t_eq, f_eq, ti_lt, fi_lt, ti_le, fi_le, ti_eq, fi_eq, ↓reduceIte, ite_true, ite_false, eq_self, decide_true, decide_false, Bool.true_and, Bool.and_true, Bool.false_and, Bool.and_false, Bool.true_or, Bool.or_true, Bool.false_or, Bool.or_false, bI_t, bI_f, bI_nand, n_mod, an11, an01, negn1, negn2, false_and, and_false, true_and, and_true, not_true_eq_false, not_false_eq_true, bI_n0, bI_n1, Bool.true_eq_false, Bool.false_eq_true, cI_s, cL_s, cV_s, cR_n, pm_bR_self, bI_ite, bL_ite, bV_ite, bR_ite, O, nn_and, shr_n, bit_i, qb, E_X9_lulledOf_87]
theorem lu_17 {a : Nat} {c : AC} (hv : cV c) {s n k m : Nat} (hs : s < (c (6)).val) (hn : n < 99) (hk : k < (c (0)).val * (c (1)).val) (hm : m ≤ (c (80+s)).val) : ∀ r st g, st + r = 2 ^ (c (80+s)).val → ModS g a c → CoastMd g a c → ∃ g', (∀ x, fstB (fun q => decide (pop6 q = m) && aTry c s 0 (c (40+s)).val (c (50+s)).val (k % (c (0)).val) (k / (c (0)).val) n q) r st = some x → pm_ev (225, 17, [vr 8 0, vi (nI s), vi (nI k), vi (nI n), vi (nI m), vi (nI st), none], [], g) = some (some (vi (nI x)), g')) ∧ (fstB (fun q => decide (pop6 q = m) && aTry c s 0 (c (40+s)).val (c (50+s)).val (k % (c (0)).val) (k / (c (0)).val) n q) r st = none → pm_ev (225, 17, [vr 8 0, vi (nI s), vi (nI k), vi (nI n), vi (nI m), vi (nI st), none], [], g) = pm_ev (225, 3, [vr 8 0, vi (nI s), vi (nI k), vi (nI n), vi (nI (m + 1)), none, none], [], g')) ∧ ModS g' a c ∧ CoastMd g' a c ∧ Fr scM g g' := by
  have hV1 := hv.1
  have v5 := (hv.2.2.1 s hs).2.2.2.2.1
  have hWb := WH_le hv
  obtain ⟨p1, p2⟩ := pow4 _ v5
  have k64 : k < 64 := by omega
  intro r
  induction r with
  | zero =>
    intro st g hst hM hd
    refine ⟨g, fun x hx => (by cases hx), fun _ => ?_, hM, hd, Fr.rfl'⟩
    rw [E_X9_lulledOf_17]
    have O := of_M3 hv hM hs
    simp (disch := omega) only [y_1, y_3, y_31, O, cI_s, nn_and, shl_1]
    generalize 2 ^ (c (80+s)).val = N at *
    simp (disch := omega) only [y_0, y_1, y_2, y_3, y_4, y_5, y_6, y_7, y_8, y_9, y_10, y_11, y_12, y_13, y_14, y_15, y_16, y_17, y_18, y_19, y_20, y_21, y_22, y_23, y_24, y_29, y_30, y_31, y_32, y_39, y_40, y_48, y_49, y_50, y_60, y_64, y_69, y_78, y_99, y_100, y_142, y_161, y_600, y_610, y_894, y_999, y_1000, y_1216, y_1276, neg1, neg2, nI_add, nI_mul, nn_sub, nn_lt, nn_le, nn_eq, in_lt, ni_lt, in_le, ni_le, in_eq, ni_eq, iI_lt, iI_le, iI_eq, nn_clamp, inb_n, t_lt, f_lt, t_le, f_le, t_eq, f_eq, ti_lt, fi_lt, ti_le, fi_le, ti_eq, fi_eq, ↓reduceIte, ite_true, ite_false, eq_self, decide_true, decide_false, Bool.true_and, Bool.and_true, Bool.false_and, Bool.and_false, Bool.true_or, Bool.or_true, Bool.false_or, Bool.or_false, bI_t, bI_f, bI_nand, n_mod, an11, an01, negn1, negn2, false_and, and_false, true_and, and_true, not_true_eq_false, not_false_eq_true, bI_n0, bI_n1, Bool.true_eq_false, Bool.false_eq_true, cI_s, cL_s, cV_s, cR_n, pm_bR_self, bI_ite, bL_ite, bV_ite, bR_ite]
  | succ r ih =>
    intro st g hst hM hd
    have O := of_M3 hv hM hs
    have hst2 : st < 2 ^ (c (80+s)).val := by omega
    have P := bitsOf_M0 g (show st < 64 by omega)
    have pl := pop6_le st
    have go : pm_ev (225, 17, [vr 8 0, vi (nI s), vi (nI k), vi (nI n), vi (nI m), vi (nI st), none], [], g) = pm_ev (225, 35, [vr 8 0, vi (nI s), vi (nI k), vi (nI n), vi (nI m), vi (nI st), none], [vi (nI (pop6 st))], g) := by
      rw [E_X9_lulledOf_17]
      simp (disch := omega) only [y_1, y_3, y_31, O, cI_s, nn_and, shl_1]
      generalize 2 ^ (c (80+s)).val = N at *
      simp (disch := omega) only [y_0, y_1, y_2, y_3, y_4, y_5, y_6, y_7, y_8, y_9, y_10, y_11, y_12, y_13, y_14, y_15, y_16, y_17, y_18, y_19, y_20, y_21, y_22, y_23, y_24, y_29, y_30, y_31, y_32, y_39, y_40, y_48, y_49, y_50, y_60, y_64, y_69, y_78, y_99, y_100, y_142, y_161, y_600, y_610, y_894, y_999, y_1000, y_1216, y_1276, neg1, neg2, nI_add, nI_mul, nn_sub, nn_lt, nn_le, nn_eq, in_lt, ni_lt, in_le, ni_le, in_eq, ni_eq, iI_lt, iI_le, iI_eq, nn_clamp, inb_n, t_lt, f_lt, t_le, f_le, t_eq, f_eq, ti_lt, fi_lt, ti_le, fi_le, ti_eq, fi_eq, ↓reduceIte, ite_true, ite_false, eq_self, decide_true, decide_false, Bool.true_and, Bool.and_true, Bool.false_and, Bool.and_false, Bool.true_or, Bool.or_true, Bool.false_or, Bool.or_false, bI_t, bI_f, bI_nand, n_mod, an11, an01, negn1, negn2, false_and, and_false, true_and, and_true, not_true_eq_false, not_false_eq_true, bI_n0, bI_n1, Bool.true_eq_false, Bool.false_eq_true, cI_s, cL_s, cV_s, cR_n, pm_bR_self, bI_ite, bL_ite, bV_ite, bR_ite, P]
    rw [go]
    by_cases q1 : pop6 st = m
    · obtain ⟨g1, T, hm1, hd1, hA1, h19, f1, _⟩ := asTold_pack hv hM hd
      obtain ⟨g2, e2, hm2, hd2, hA2, h192, f2⟩ := lu_50 hv hs (show st < 16 by omega) (nI k) (nI n) (nI m) _ 0 g1 (Nat.zero_add _) hm1 hd1 (by rw [Nat.pow_zero, Nat.mod_one]; exact (lullA_15 c s).symm ▸ hA1) h19
      rw [Nat.mod_eq_of_lt hst2] at hA2
      have O2 := of_M3 hv hm2 hs
      have x40 : lullA c s (15 ^^^ st) (40+s) = c (40+s) := lullA_o c s _ _ (by omega)
      have x50 : lullA c s (15 ^^^ st) (50+s) = c (50+s) := lullA_o c s _ _ (by omega)
      obtain ⟨F, N, TT, e3⟩ := comes_Mb hv (lull_sim (by omega) _) (lull_cV hv hs (15 ^^^ st)) hm2 hA2 h192 (by decide) hs x40 x50 (hd2 s hs).1.1 (b := 0) (by omega) hn hk
      rw [lullA_15] at e3
      have et : aCome c (aLit (lullA c s (15 ^^^ st)) s) 0 (c (40+s)).val (c (50+s)).val (k % (c (0)).val) (k / (c (0)).val) n = aTry c s 0 (c (40+s)).val (c (50+s)).val (k % (c (0)).val) (k / (c (0)).val) n st := by unfold aTry abW; rw [if_neg (by decide)]
      rw [et] at e3
      have hm3 := goH_M hm2 F N TT
      have hd3 := goH_d hd2 F N TT
      have f3 := (f1.tr f2).tr (goH_fr g2 F N TT)
      have step : pm_ev (225, 35, [vr 8 0, vi (nI s), vi (nI k), vi (nI n), vi (nI m), vi (nI st), none], [vi (nI (pop6 st))], g) = pm_ev (225, 101, [vr 8 0, vi (nI s), vi (nI k), vi (nI n), vi (nI m), vi (nI st), none], [vi (bI (aTry c s 0 (c (40+s)).val (c (50+s)).val (k % (c (0)).val) (k / (c (0)).val) n st))], goH g2 F N TT) := by
        rw [E_X9_lulledOf_35, if_pos (by rw [q1]), T, cV_s, show (0 : Int32) = nI 0 from rfl, e2, E_X9_lulledOf_50, show (3 : Int32) = nI 3 from rfl, O2, cI_s, if_neg (fun z => Nat.lt_irrefl _ ((nn_lt (by omega) (by omega)).mp z)), show (0 : Int32) = nI 0 from rfl, e3, cI_s]
      rw [step]
      cases q2 : aTry c s 0 (c (40+s)).val (c (50+s)).val (k % (c (0)).val) (k / (c (0)).val) n st
      · obtain ⟨g', a1, a2, a3, a4, a5⟩ := ih (st + 1) (goH g2 F N TT) (by omega) hm3 hd3
        rw [fstB_f (p := fun q => decide (pop6 q = m) && aTry c s 0 (c (40+s)).val (c (50+s)).val (k % (c (0)).val) (k / (c (0)).val) n q) (by simp only [q2, Bool.and_false]), E_X9_lulledOf_101, if_pos (by rfl), show (1 : Int32) = nI 1 from rfl, nI_add]
        exact ⟨g', a1, a2, a3, a4, f3.tr a5⟩
      · rw [fstB_t (p := fun q => decide (pop6 q = m) && aTry c s 0 (c (40+s)).val (c (50+s)).val (k % (c (0)).val) (k / (c (0)).val) n q) (by simp only [q2, decide_eq_true q1, Bool.and_true])]
        refine ⟨_, fun x hx => ?_, fun hx => (by cases hx), hm3, hd3, f3⟩
        cases hx
        rw [E_X9_lulledOf_101, if_neg (by decide)]
    · obtain ⟨g', a1, a2, a3, a4, a5⟩ := ih (st + 1) g (by omega) hM hd
      rw [fstB_f (p := fun q => decide (pop6 q = m) && aTry c s 0 (c (40+s)).val (c (50+s)).val (k % (c (0)).val) (k / (c (0)).val) n q) (by simp only [decide_eq_false q1, Bool.false_and]), E_X9_lulledOf_35, if_neg (fun e => q1 ((nn_eq (by omega) (by omega)).mp e)), show (1 : Int32) = nI 1 from rfl, nI_add]
      exact ⟨g', a1, a2, a3, a4, a5⟩
theorem lu_3 {a : Nat} {c : AC} (hv : cV c) {s n k : Nat} (hs : s < (c (6)).val) (hn : n < 99) (hk : k < (c (0)).val * (c (1)).val) : ∀ r m g, m + r = (c (80+s)).val + 1 → ModS g a c → CoastMd g a c → ∃ g', pm_ev (225, 3, [vr 8 0, vi (nI s), vi (nI k), vi (nI n), vi (nI m), none, none], [], g) = some (some (vi (oN (srO (aTry c s 0 (c (40+s)).val (c (50+s)).val (k % (c (0)).val) (k / (c (0)).val) n) (2 ^ (c (80+s)).val) r m))), g') ∧ Fr scM g g' := by
  have hV1 := hv.1
  have v5 := (hv.2.2.1 s hs).2.2.2.2.1
  intro r
  induction r with
  | zero =>
    intro m g hm hM hd
    refine ⟨g, ?_, Fr.rfl'⟩
    have O := of_M3 hv hM hs
    rw [E_X9_lulledOf_3]
    simp (disch := omega) only [y_0, y_1, y_2, y_3, y_4, y_5, y_6, y_7, y_8, y_9, y_10, y_11, y_12, y_13, y_14, y_15, y_16, y_17, y_18, y_19, y_20, y_21, y_22, y_23, y_24, y_29, y_30, y_31, y_32, y_39, y_40, y_48, y_49, y_50, y_60, y_64, y_69, y_78, y_99, y_100, y_142, y_161, y_600, y_610, y_894, y_999, y_1000, y_1216, y_1276, neg1, neg2, nI_add, nI_mul, nn_sub, nn_lt, nn_le, nn_eq, in_lt, ni_lt, in_le, ni_le, in_eq, ni_eq, iI_lt, iI_le, iI_eq, nn_clamp, inb_n, t_lt, f_lt, t_le, f_le, t_eq, f_eq, ti_lt, fi_lt, ti_le, fi_le, ti_eq, fi_eq, ↓reduceIte, ite_true, ite_false, eq_self, decide_true, decide_false, Bool.true_and, Bool.and_true, Bool.false_and, Bool.and_false, Bool.true_or, Bool.or_true, Bool.false_or, Bool.or_false, bI_t, bI_f, bI_nand, n_mod, an11, an01, negn1, negn2, false_and, and_false, true_and, and_true, not_true_eq_false, not_false_eq_true, bI_n0, bI_n1, Bool.true_eq_false, Bool.false_eq_true, cI_s, cL_s, cV_s, cR_n, pm_bR_self, bI_ite, bL_ite, bV_ite, bR_ite, O]
    rfl
  | succ r ih =>
    intro m g hm hM hd
    have O := of_M3 hv hM hs
    obtain ⟨g1, a1, a2, a3, a4, a5⟩ := lu_17 (m := m) hv hs hn hk (by omega) (2 ^ (c (80+s)).val) 0 g (Nat.zero_add _) hM hd
    have st : pm_ev (225, 3, [vr 8 0, vi (nI s), vi (nI k), vi (nI n), vi (nI m), none, none], [], g) = pm_ev (225, 17, [vr 8 0, vi (nI s), vi (nI k), vi (nI n), vi (nI m), vi (nI 0), none], [], g) := by
      rw [E_X9_lulledOf_3]
      simp (disch := omega) only [y_0, y_1, y_2, y_3, y_4, y_5, y_6, y_7, y_8, y_9, y_10, y_11, y_12, y_13, y_14, y_15, y_16, y_17, y_18, y_19, y_20, y_21, y_22, y_23, y_24, y_29, y_30, y_31, y_32, y_39, y_40, y_48, y_49, y_50, y_60, y_64, y_69, y_78, y_99, y_100, y_142, y_161, y_600, y_610, y_894, y_999, y_1000, y_1216, y_1276, neg1, neg2, nI_add, nI_mul, nn_sub, nn_lt, nn_le, nn_eq, in_lt, ni_lt, in_le, ni_le, in_eq, ni_eq, iI_lt, iI_le, iI_eq, nn_clamp, inb_n, t_lt, f_lt, t_le, f_le, t_eq, f_eq, ti_lt, fi_lt, ti_le, fi_le, ti_eq, fi_eq, ↓reduceIte, ite_true, ite_false, eq_self, decide_true, decide_false, Bool.true_and, Bool.and_true, Bool.false_and, Bool.and_false, Bool.true_or, Bool.or_true, Bool.false_or, Bool.or_false, bI_t, bI_f, bI_nand, n_mod, an11, an01, negn1, negn2, false_and, and_false, true_and, and_true, not_true_eq_false, not_false_eq_true, bI_n0, bI_n1, Bool.true_eq_false, Bool.false_eq_true, cI_s, cL_s, cV_s, cR_n, pm_bR_self, bI_ite, bL_ite, bV_ite, bR_ite, O]
    cases q : fstB (fun q => decide (pop6 q = m) && aTry c s 0 (c (40+s)).val (c (50+s)).val (k % (c (0)).val) (k / (c (0)).val) n q) (2 ^ (c (80+s)).val) 0 with
    | some x =>
      refine ⟨g1, ?_, a5⟩
      rw [srO_some q, st]
      exact a1 x q
    | none =>
      obtain ⟨g', e, f2⟩ := ih (m + 1) g1 (by omega) a3 a4
      refine ⟨g', ?_, a5.tr f2⟩
      rw [srO_none q, st, a2 q]
      exact e
theorem il_24 {a : Nat} {c : AC} (hv : cV c) {s n k : Nat} (hs : s < (c (6)).val) (h0 : 0 < (c (80+s)).val) (hn : n < 99) (hk : k < (c (0)).val * (c (1)).val) : ∀ r m g, m + r = 10 → ModS g a c → CoastMd g a c → (∀ m, AliveM (pm_sI g 36 0 (12*s+1) (nI m.val)) (plainA c s 0 m)) → g.1 8 0 19 = nI 15 → ∃ g', pm_ev (226, 24, [vr 8 0, vi (nI s), vi (nI k), vi (nI n), vi (nI m)], [], g) = some (some (vi (oN (fstB (aIll c s (c (40+s)).val (c (50+s)).val (k % (c (0)).val) (k / (c (0)).val) n) r m))), g') ∧ Fr scM g g' := by
  have hV1 := hv.1
  have v5 := (hv.2.2.1 s hs).2.2.2.2.1
  have hWb := WH_le hv
  have k64 : k < 64 := by omega
  intro r
  induction r with
  | zero =>
    intro m g hm hM hd hA h19
    refine ⟨g, ?_, Fr.rfl'⟩
    rw [E_X9_illOf_24]
    simp (disch := omega) only [y_0, y_1, y_2, y_3, y_4, y_5, y_6, y_7, y_8, y_9, y_10, y_11, y_12, y_13, y_14, y_15, y_16, y_17, y_18, y_19, y_20, y_21, y_22, y_23, y_24, y_29, y_30, y_31, y_32, y_39, y_40, y_48, y_49, y_50, y_60, y_64, y_69, y_78, y_99, y_100, y_142, y_161, y_600, y_610, y_894, y_999, y_1000, y_1216, y_1276, neg1, neg2, nI_add, nI_mul, nn_sub, nn_lt, nn_le, nn_eq, in_lt, ni_lt, in_le, ni_le, in_eq, ni_eq, iI_lt, iI_le, iI_eq, nn_clamp, inb_n, t_lt, f_lt, t_le, f_le, t_eq, f_eq, ti_lt, fi_lt, ti_le, fi_le, ti_eq, fi_eq, ↓reduceIte, ite_true, ite_false, eq_self, decide_true, decide_false, Bool.true_and, Bool.and_true, Bool.false_and, Bool.and_false, Bool.true_or, Bool.or_true, Bool.false_or, Bool.or_false, bI_t, bI_f, bI_nand, n_mod, an11, an01, negn1, negn2, false_and, and_false, true_and, and_true, not_true_eq_false, not_false_eq_true, bI_n0, bI_n1, Bool.true_eq_false, Bool.false_eq_true, cI_s, cL_s, cV_s, cR_n, pm_bR_self, bI_ite, bL_ite, bV_ite, bR_ite, E_X9_illOf_21, E_X9_illOf_44, ]
    rfl
  | succ r ih =>
    intro m g hm hM hd hA h19
    have fv : (f64 m).val = m := f64_v (by omega)
    have hA1 := hA (f64 m)
    rw [fv] at hA1
    have hm1 : ModS (pm_sI g 36 0 (12*s+1) (nI m)) a c := hM.fr (fun _ => sI_tag _ _ _ _ _ _ (by decide)) (fun _ _ _ => sI_tag _ _ _ _ _ _ (by decide))
    have hd1 : CoastMd (pm_sI g 36 0 (12*s+1) (nI m)) a c := hd.fr (fun _ => sI_tag _ _ _ _ _ _ (by decide))
    have h191 : (pm_sI g 36 0 (12*s+1) (nI m)).1 8 0 19 = nI 15 := by rw [sI_tag _ _ _ _ _ _ (by decide)]; exact h19
    have f1 : Fr scM g (pm_sI g 36 0 (12*s+1) (nI m)) := Fr.sI _ _ _ rfl
    obtain ⟨F, N, TT, e3⟩ := comes_Mb hv (plain_sim (by omega) (by omega) (f64 m)) (plain_cV hv hs h0 (m := f64 m) (by omega)) hm1 hA1 h191 (by decide) hs (plain_o c _ (by omega) (by omega)) (plain_o c _ (by omega) (by omega)) (hd1 s hs).1.1 (b := 0) (by omega) hn hk
    rw [lullA_15] at e3
    change pm_ev _ = some (some (vi (bI (aIll c s (c (40+s)).val (c (50+s)).val (k % (c (0)).val) (k / (c (0)).val) n m))), _) at e3
    have st : pm_ev (226, 24, [vr 8 0, vi (nI s), vi (nI k), vi (nI n), vi (nI m)], [], g) = pm_ev (226, 44, [vr 8 0, vi (nI s), vi (nI k), vi (nI n), vi (nI m)], [], pm_sI g 36 0 (12*s+1) (nI m)) := by
      rw [E_X9_illOf_24]
      simp (disch := omega) only [y_0, y_1, y_2, y_3, y_4, y_5, y_6, y_7, y_8, y_9, y_10, y_11, y_12, y_13, y_14, y_15, y_16, y_17, y_18, y_19, y_20, y_21, y_22, y_23, y_24, y_29, y_30, y_31, y_32, y_39, y_40, y_48, y_49, y_50, y_60, y_64, y_69, y_78, y_99, y_100, y_142, y_161, y_600, y_610, y_894, y_999, y_1000, y_1216, y_1276, neg1, neg2, nI_add, nI_mul, nn_sub, nn_lt, nn_le, nn_eq, in_lt, ni_lt, in_le, ni_le, in_eq, ni_eq, iI_lt, iI_le, iI_eq, nn_clamp, inb_n, t_lt, f_lt, t_le, f_le, t_eq, f_eq, ti_lt, fi_lt, ti_le, fi_le, ti_eq, fi_eq, ↓reduceIte, ite_true, ite_false, eq_self, decide_true, decide_false, Bool.true_and, Bool.and_true, Bool.false_and, Bool.and_false, Bool.true_or, Bool.or_true, Bool.false_or, Bool.or_false, bI_t, bI_f, bI_nand, n_mod, an11, an01, negn1, negn2, false_and, and_false, true_and, and_true, not_true_eq_false, not_false_eq_true, bI_n0, bI_n1, Bool.true_eq_false, Bool.false_eq_true, cI_s, cL_s, cV_s, cR_n, pm_bR_self, bI_ite, bL_ite, bV_ite, bR_ite]
    rw [st, E_X9_illOf_44, show (0 : Int32) = nI 0 from rfl, e3, cI_s]
    cases q : aIll c s (c (40+s)).val (c (50+s)).val (k % (c (0)).val) (k / (c (0)).val) n m
    · obtain ⟨g', e, f⟩ := ih (m + 1) (goH (pm_sI g 36 0 (12*s+1) (nI m)) F N TT) (by omega) (goH_M hm1 F N TT) (goH_d hd1 F N TT) (fun m' => by
        refine (hA m').fr (fun i => ?_) (fun i => ?_)
        · by_cases z : i = 12*s+1
          · subst z; rw [sI_same, sI_same]
          · rw [sI_pl _ _ _ _ _ z, sI_pl _ _ _ _ _ z, goH_o _ _ _ _ _ _ (by decide) (by decide) (by decide), sI_pl _ _ _ _ _ z]
        · rw [sI_tag _ _ _ _ _ _ (by decide), sI_tag _ _ _ _ _ _ (by decide), goH_o _ _ _ _ _ _ (by decide) (by decide) (by decide), sI_tag _ _ _ _ _ _ (by decide)]) (by rw [goH_8]; exact h191)
      refine ⟨g', ?_, (f1.tr (goH_fr _ F N TT)).tr f⟩
      rw [fstB_f q, if_pos (by rfl), show (1 : Int32) = nI 1 from rfl, nI_add]
      exact e
    · refine ⟨_, ?_, f1.tr (goH_fr _ F N TT)⟩
      rw [fstB_t q, if_neg (by decide)]
      rfl
theorem il_M {g : PH} {a : Nat} {c : AC} (hv : cV c) {s n k : Nat} (hs : s < (c (6)).val) (hn : n < 99) (hk : k < (c (0)).val * (c (1)).val) (hI : MI g a c 15) : ∃ g', pm_ev (226, 0, [vr 8 0, vi (nI s), vi (nI k), vi (nI n), none], [], g) = some (some (vi (if (c (80+s)).val = 0 then iI (-1) else oN (fstB (aIll c s (c (40+s)).val (c (50+s)).val (k % (c (0)).val) (k / (c (0)).val) n) 10 0))), g') ∧ Fr scM g g' := by
  have hV1 := hv.1
  have v5 := (hv.2.2.1 s hs).2.2.2.2.1
  have hWb := WH_le hv
  have k64 : k < 64 := by omega
  obtain ⟨hm, hd, hA, h19⟩ := hI
  have O := of_M3 hv hm hs
  by_cases q : (c (80+s)).val = 0
  · refine ⟨g, ?_, Fr.rfl'⟩
    rw [if_pos q, E_X9_illOf]
    simp (disch := omega) only [y_0, y_1, y_2, y_3, y_4, y_5, y_6, y_7, y_8, y_9, y_10, y_11, y_12, y_13, y_14, y_15, y_16, y_17, y_18, y_19, y_20, y_21, y_22, y_23, y_24, y_29, y_30, y_31, y_32, y_39, y_40, y_48, y_49, y_50, y_60, y_64, y_69, y_78, y_99, y_100, y_142, y_161, y_600, y_610, y_894, y_999, y_1000, y_1216, y_1276, neg1, neg2, nI_add, nI_mul, nn_sub, nn_lt, nn_le, nn_eq, in_lt, ni_lt, in_le, ni_le, in_eq, ni_eq, iI_lt, iI_le, iI_eq, nn_clamp, inb_n, t_lt, f_lt, t_le, f_le, t_eq, f_eq, ti_lt, fi_lt, ti_le, fi_le, ti_eq, fi_eq, ↓reduceIte, ite_true, ite_false, eq_self, decide_true, decide_false, Bool.true_and, Bool.and_true, Bool.false_and, Bool.and_false, Bool.true_or, Bool.or_true, Bool.false_or, Bool.or_false, bI_t, bI_f, bI_nand, n_mod, an11, an01, negn1, negn2, false_and, and_false, true_and, and_true, not_true_eq_false, not_false_eq_true, bI_n0, bI_n1, Bool.true_eq_false, Bool.false_eq_true, cI_s, cL_s, cV_s, cR_n, pm_bR_self, bI_ite, bL_ite, bV_ite, bR_ite, O]
  · have h0 : 0 < (c (80+s)).val := by omega
    have P := fun m => plain_A hv hA hs h0 m
    rw [Nat.mul_zero, Nat.add_zero] at P
    obtain ⟨g', e, f⟩ := il_24 hv hs h0 hn hk 10 0 (pm_sI g 36 0 (12*s) (nI 0)) rfl (hm.fr (fun _ => sI_tag _ _ _ _ _ _ (by decide)) (fun _ _ _ => sI_tag _ _ _ _ _ _ (by decide))) (hd.fr (fun _ => sI_tag _ _ _ _ _ _ (by decide))) P (by rw [sI_tag _ _ _ _ _ _ (by decide)]; exact h19)
    refine ⟨g', ?_, (Fr.sI _ _ _ rfl).tr f⟩
    rw [if_neg q, ← e, E_X9_illOf]
    simp (disch := omega) only [y_0, y_1, y_2, y_3, y_4, y_5, y_6, y_7, y_8, y_9, y_10, y_11, y_12, y_13, y_14, y_15, y_16, y_17, y_18, y_19, y_20, y_21, y_22, y_23, y_24, y_29, y_30, y_31, y_32, y_39, y_40, y_48, y_49, y_50, y_60, y_64, y_69, y_78, y_99, y_100, y_142, y_161, y_600, y_610, y_894, y_999, y_1000, y_1216, y_1276, neg1, neg2, nI_add, nI_mul, nn_sub, nn_lt, nn_le, nn_eq, in_lt, ni_lt, in_le, ni_le, in_eq, ni_eq, iI_lt, iI_le, iI_eq, nn_clamp, inb_n, t_lt, f_lt, t_le, f_le, t_eq, f_eq, ti_lt, fi_lt, ti_le, fi_le, ti_eq, fi_eq, ↓reduceIte, ite_true, ite_false, eq_self, decide_true, decide_false, Bool.true_and, Bool.and_true, Bool.false_and, Bool.and_false, Bool.true_or, Bool.or_true, Bool.false_or, Bool.or_false, bI_t, bI_f, bI_nand, n_mod, an11, an01, negn1, negn2, false_and, and_false, true_and, and_true, not_true_eq_false, not_false_eq_true, bI_n0, bI_n1, Bool.true_eq_false, Bool.false_eq_true, cI_s, cL_s, cV_s, cR_n, pm_bR_self, bI_ite, bL_ite, bV_ite, bR_ite, O, E_X9_illOf_21]
theorem th_11 {a : Nat} {c : AC} (hv : cV c) {s n k : Nat} (hs : s < (c (6)).val) (hn : n < 99) (hk : k < (c (0)).val * (c (1)).val) : ∀ r m g, m + r = (c (60+s)).val + 1 → ModS g a c → CoastMd g a c → (∀ m, AliveM (pm_sI g 37 0 s (nI m.val)) (cargoA c s m)) → g.1 8 0 19 = nI 15 → ∃ g', pm_ev (227, 11, [vr 8 0, vi (nI s), vi (nI k), vi (nI n), vi (nI (c (60+s)).val), vi (nI m)], [], g) = some (some (vi (oN (fstB (aThr c s (c (40+s)).val (c (50+s)).val (k % (c (0)).val) (k / (c (0)).val) n) r m))), g') ∧ Fr scM g g' := by
  have hV1 := hv.1
  have v3 := (hv.2.2.1 s hs).2.2.1
  have hWb := WH_le hv
  have k64 : k < 64 := by omega
  intro r
  induction r with
  | zero =>
    intro m g hm hM hd hA h19
    refine ⟨g, ?_, Fr.rfl'⟩
    rw [E_X9_thrownOf_11]
    simp (disch := omega) only [y_0, y_1, y_2, y_3, y_4, y_5, y_6, y_7, y_8, y_9, y_10, y_11, y_12, y_13, y_14, y_15, y_16, y_17, y_18, y_19, y_20, y_21, y_22, y_23, y_24, y_29, y_30, y_31, y_32, y_39, y_40, y_48, y_49, y_50, y_60, y_64, y_69, y_78, y_99, y_100, y_142, y_161, y_600, y_610, y_894, y_999, y_1000, y_1216, y_1276, neg1, neg2, nI_add, nI_mul, nn_sub, nn_lt, nn_le, nn_eq, in_lt, ni_lt, in_le, ni_le, in_eq, ni_eq, iI_lt, iI_le, iI_eq, nn_clamp, inb_n, t_lt, f_lt, t_le, f_le, t_eq, f_eq, ti_lt, fi_lt, ti_le, fi_le, ti_eq, fi_eq, ↓reduceIte, ite_true, ite_false, eq_self, decide_true, decide_false, Bool.true_and, Bool.and_true, Bool.false_and, Bool.and_false, Bool.true_or, Bool.or_true, Bool.false_or, Bool.or_false, bI_t, bI_f, bI_nand, n_mod, an11, an01, negn1, negn2, false_and, and_false, true_and, and_true, not_true_eq_false, not_false_eq_true, bI_n0, bI_n1, Bool.true_eq_false, Bool.false_eq_true, cI_s, cL_s, cV_s, cR_n, pm_bR_self, bI_ite, bL_ite, bV_ite, bR_ite, E_X9_thrownOf_6, E_X9_thrownOf_29, ]
    rfl
  | succ r ih =>
    intro m g hm hM hd hA h19
    have fv : (f64 ((c (60+s)).val - m)).val = (c (60+s)).val - m := f64_v (by omega)
    have hA1 := hA (f64 ((c (60+s)).val - m))
    rw [fv] at hA1
    have hm1 : ModS (pm_sI g 37 0 s (nI ((c (60+s)).val - m))) a c := hM.fr (fun _ => sI_tag _ _ _ _ _ _ (by decide)) (fun _ _ _ => sI_tag _ _ _ _ _ _ (by decide))
    have hd1 : CoastMd (pm_sI g 37 0 s (nI ((c (60+s)).val - m))) a c := hd.fr (fun _ => sI_tag _ _ _ _ _ _ (by decide))
    have h191 : (pm_sI g 37 0 s (nI ((c (60+s)).val - m))).1 8 0 19 = nI 15 := by rw [sI_tag _ _ _ _ _ _ (by decide)]; exact h19
    have f1 : Fr scM g (pm_sI g 37 0 s (nI ((c (60+s)).val - m))) := Fr.sI _ _ _ rfl
    obtain ⟨F, N, TT, e3⟩ := comes_Mb hv (cargo_sim (by omega) (f64 ((c (60+s)).val - m))) (cargo_cV hv hs (m := f64 ((c (60+s)).val - m)) (by omega)) hm1 hA1 h191 (by decide) hs (cU_ne c _ (by omega)) (cU_ne c _ (by omega)) (hd1 s hs).1.1 (b := 0) (by omega) hn hk
    rw [lullA_15] at e3
    change pm_ev _ = some (some (vi (bI (aThr c s (c (40+s)).val (c (50+s)).val (k % (c (0)).val) (k / (c (0)).val) n m))), _) at e3
    have st : pm_ev (227, 11, [vr 8 0, vi (nI s), vi (nI k), vi (nI n), vi (nI (c (60+s)).val), vi (nI m)], [], g) = pm_ev (227, 29, [vr 8 0, vi (nI s), vi (nI k), vi (nI n), vi (nI (c (60+s)).val), vi (nI m)], [], pm_sI g 37 0 s (nI ((c (60+s)).val - m))) := by
      rw [E_X9_thrownOf_11]
      simp (disch := omega) only [y_0, y_1, y_2, y_3, y_4, y_5, y_6, y_7, y_8, y_9, y_10, y_11, y_12, y_13, y_14, y_15, y_16, y_17, y_18, y_19, y_20, y_21, y_22, y_23, y_24, y_29, y_30, y_31, y_32, y_39, y_40, y_48, y_49, y_50, y_60, y_64, y_69, y_78, y_99, y_100, y_142, y_161, y_600, y_610, y_894, y_999, y_1000, y_1216, y_1276, neg1, neg2, nI_add, nI_mul, nn_sub, nn_lt, nn_le, nn_eq, in_lt, ni_lt, in_le, ni_le, in_eq, ni_eq, iI_lt, iI_le, iI_eq, nn_clamp, inb_n, t_lt, f_lt, t_le, f_le, t_eq, f_eq, ti_lt, fi_lt, ti_le, fi_le, ti_eq, fi_eq, ↓reduceIte, ite_true, ite_false, eq_self, decide_true, decide_false, Bool.true_and, Bool.and_true, Bool.false_and, Bool.and_false, Bool.true_or, Bool.or_true, Bool.false_or, Bool.or_false, bI_t, bI_f, bI_nand, n_mod, an11, an01, negn1, negn2, false_and, and_false, true_and, and_true, not_true_eq_false, not_false_eq_true, bI_n0, bI_n1, Bool.true_eq_false, Bool.false_eq_true, cI_s, cL_s, cV_s, cR_n, pm_bR_self, bI_ite, bL_ite, bV_ite, bR_ite]
    rw [st, E_X9_thrownOf_29, show (0 : Int32) = nI 0 from rfl, e3, cI_s]
    cases q : aThr c s (c (40+s)).val (c (50+s)).val (k % (c (0)).val) (k / (c (0)).val) n m
    · obtain ⟨g', e, f⟩ := ih (m + 1) (goH (pm_sI g 37 0 s (nI ((c (60+s)).val - m))) F N TT) (by omega) (goH_M hm1 F N TT) (goH_d hd1 F N TT) (fun m' => by
        refine (hA m').fr (fun i => ?_) (fun i => ?_)
        · rw [sI_tag _ _ _ _ _ _ (by decide), sI_tag _ _ _ _ _ _ (by decide), goH_o _ _ _ _ _ _ (by decide) (by decide) (by decide), sI_tag _ _ _ _ _ _ (by decide)]
        · by_cases z : i = s
          · subst z; rw [sI_same, sI_same]
          · rw [sI_pl _ _ _ _ _ z, sI_pl _ _ _ _ _ z, goH_o _ _ _ _ _ _ (by decide) (by decide) (by decide), sI_pl _ _ _ _ _ z]) (by rw [goH_8]; exact h191)
      refine ⟨g', ?_, (f1.tr (goH_fr _ F N TT)).tr f⟩
      rw [fstB_f q, if_pos (by rfl), show (1 : Int32) = nI 1 from rfl, nI_add]
      exact e
    · refine ⟨_, ?_, f1.tr (goH_fr _ F N TT)⟩
      rw [fstB_t q, if_neg (by decide)]
      rfl
theorem th_M {g : PH} {a : Nat} {c : AC} (hv : cV c) {s n k : Nat} (hs : s < (c (6)).val) (hn : n < 99) (hk : k < (c (0)).val * (c (1)).val) (hI : MI g a c 15) : ∃ g', pm_ev (227, 0, [vr 8 0, vi (nI s), vi (nI k), vi (nI n), none, none], [], g) = some (some (vi (oN (fstB (aThr c s (c (40+s)).val (c (50+s)).val (k % (c (0)).val) (k / (c (0)).val) n) ((c (60+s)).val + 1) 0))), g') ∧ Fr scM g g' := by
  have hV1 := hv.1
  obtain ⟨hm, hd, hA, h19⟩ := hI
  have s2 := (hA s hs).1
  obtain ⟨g', e, f⟩ := th_11 hv hs hn hk _ 0 g (Nat.zero_add _) hm hd (fun m => cargo_Al hv hA hs m) h19
  refine ⟨g', ?_, f⟩
  rw [← e, E_X9_thrownOf]
  simp (disch := omega) only [y_0, y_1, y_2, y_3, y_4, y_5, y_6, y_7, y_8, y_9, y_10, y_11, y_12, y_13, y_14, y_15, y_16, y_17, y_18, y_19, y_20, y_21, y_22, y_23, y_24, y_29, y_30, y_31, y_32, y_39, y_40, y_48, y_49, y_50, y_60, y_64, y_69, y_78, y_99, y_100, y_142, y_161, y_600, y_610, y_894, y_999, y_1000, y_1216, y_1276, neg1, neg2, nI_add, nI_mul, nn_sub, nn_lt, nn_le, nn_eq, in_lt, ni_lt, in_le, ni_le, in_eq, ni_eq, iI_lt, iI_le, iI_eq, nn_clamp, inb_n, t_lt, f_lt, t_le, f_le, t_eq, f_eq, ti_lt, fi_lt, ti_le, fi_le, ti_eq, fi_eq, ↓reduceIte, ite_true, ite_false, eq_self, decide_true, decide_false, Bool.true_and, Bool.and_true, Bool.false_and, Bool.and_false, Bool.true_or, Bool.or_true, Bool.false_or, Bool.or_false, bI_t, bI_f, bI_nand, n_mod, an11, an01, negn1, negn2, false_and, and_false, true_and, and_true, not_true_eq_false, not_false_eq_true, bI_n0, bI_n1, Bool.true_eq_false, Bool.false_eq_true, cI_s, cL_s, cV_s, cR_n, pm_bR_self, bI_ite, bL_ite, bV_ite, bR_ite, s2, E_X9_thrownOf_6]
theorem le_3 {a : Nat} {c : AC} (hv : cV c) {s : Nat} (hs : s < (c (6)).val) {n k : Nat} (hn : n < 99) (hk : k < (c (0)).val * (c (1)).val) : ∀ r q g, q + r = 24 → MI g a c 15 → ∃ g', pm_ev (228, 3, [vr 8 0, vi (nI s), vi (nI k), vi (nI n), vi (nI q)], [], g) = some (some (vi (oN (fstB (fun b => aCome c (aLit c s) b (c (40+s)).val (c (50+s)).val (k % (c (0)).val) (k / (c (0)).val) n) r q))), g') ∧ Fr scM g g' := by
  intro r
  induction r with
  | zero =>
    intro q g hq _
    refine ⟨g, ?_, Fr.rfl'⟩
    rw [E_X9_leaveOf_3]
    simp (disch := omega) only [y_0, y_1, y_2, y_3, y_4, y_5, y_6, y_7, y_8, y_9, y_10, y_11, y_12, y_13, y_14, y_15, y_16, y_17, y_18, y_19, y_20, y_21, y_22, y_23, y_24, y_29, y_30, y_31, y_32, y_39, y_40, y_48, y_49, y_50, y_60, y_64, y_69, y_78, y_99, y_100, y_142, y_161, y_600, y_610, y_894, y_999, y_1000, y_1216, y_1276, neg1, neg2, nI_add, nI_mul, nn_sub, nn_lt, nn_le, nn_eq, in_lt, ni_lt, in_le, ni_le, in_eq, ni_eq, iI_lt, iI_le, iI_eq, nn_clamp, inb_n, t_lt, f_lt, t_le, f_le, t_eq, f_eq, ti_lt, fi_lt, ti_le, fi_le, ti_eq, fi_eq, ↓reduceIte, ite_true, ite_false, eq_self, decide_true, decide_false, Bool.true_and, Bool.and_true, Bool.false_and, Bool.and_false, Bool.true_or, Bool.or_true, Bool.false_or, Bool.or_false, bI_t, bI_f, bI_nand, n_mod, an11, an01, negn1, negn2, false_and, and_false, true_and, and_true, not_true_eq_false, not_false_eq_true, bI_n0, bI_n1, Bool.true_eq_false, Bool.false_eq_true, cI_s, cL_s, cV_s, cR_n, pm_bR_self, bI_ite, bL_ite, bV_ite, bR_ite, ]
    rfl
  | succ r ih =>
    intro q g hq hI
    obtain ⟨g1, e1, hI1, f1⟩ := comes_M hv hI (by decide) hs (b := q) (by omega) hn hk
    rw [lullA_15] at e1
    rw [E_X9_leaveOf_3, show (24 : Int32) = nI 24 from rfl, if_pos (show nI q < nI 24 from (nn_lt (by omega) (by omega)).mpr (by omega)), e1, cI_s]
    cases qa : aCome c (aLit c s) q (c (40+s)).val (c (50+s)).val (k % (c (0)).val) (k / (c (0)).val) n
    · obtain ⟨g2, e2, f2⟩ := ih (q + 1) g1 (by omega) hI1
      refine ⟨g2, ?_, f1.tr f2⟩
      rw [fstB_f (p := fun b => aCome c (aLit c s) b (c (40+s)).val (c (50+s)).val (k % (c (0)).val) (k / (c (0)).val) n) qa, if_pos (by rfl), show (1 : Int32) = nI 1 from rfl, nI_add]
      exact e2
    · refine ⟨g1, ?_, f1⟩
      rw [fstB_t (p := fun b => aCome c (aLit c s) b (c (40+s)).val (c (50+s)).val (k % (c (0)).val) (k / (c (0)).val) n) qa, if_neg (by decide)]
      rfl
