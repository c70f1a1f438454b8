/-! ===== helps: the reference ===== -/
theorem goes_3b {h : PH} {a : Nat} {c : AC} (hv : cV c) (hm : ModS h a c) {s : Nat} (hs : s < (c (6)).val) (ho : h.1 33 0 (a+14+4*s+0) = nI ((c (0)).val * (c (50+s)).val + (c (40+s)).val)) (b n w : Int32) (F N T : Nat → Int32) : ∀ r k, k + r = 64 → pm_ev (219, 3, [vr 8 0, vi (nI s), vi b, vi n, vi w, vi (nI k), none, none], [], goH h (cutF noneF F k) (cutF (ownF ((c (0)).val * (c (50+s)).val + (c (40+s)).val)) N k) T) = pm_ev (219, 62, [vr 8 0, vi (nI s), vi b, vi n, vi w, vi (nI 0), none, none], [], goH h (upd noneF ((c (0)).val * (c (50+s)).val + (c (40+s)).val) (nI 0)) (ownF ((c (0)).val * (c (50+s)).val + (c (40+s)).val)) T) := by
  have hV1 := hv.1
  obtain ⟨v1, v2, _⟩ := hv.2.2.1 s hs
  obtain ⟨l1, l2⟩ := cell_lt hv v1 v2
  have O : ∀ F N T, pm_ev (188, 0, [vr 8 0, vi (nI s), vi (nI 0)], [], goH h F N T) = some (some (vi (nI ((c (0)).val * (c (50+s)).val + (c (40+s)).val))), goH h F N T) := fun F N T => by
    rw [of_M (goH_M hm F N T) (show s < 4 by omega) (by decide), goH_o h F N T 0 _ (by decide) (by decide) (by decide), ho]
  generalize (c (0)).val * (c (50+s)).val + (c (40+s)).val = own at *
  intro r
  induction r with
  | zero =>
    intro k hk
    have hk : k = 64 := by omega
    subst hk
    rw [E_X9_goes_3]
    simp (disch := omega) only [y_0, y_1, y_2, y_3, y_4, y_5, y_6, y_7, y_8, y_9, y_10, y_11, y_12, y_13, y_14, y_15, y_16, y_17, y_18, y_19, y_20, y_21, y_22, y_23, y_24, y_29, y_30, y_31, y_32, y_39, y_40, y_48, y_49, y_50, y_60, y_64, y_69, y_78, y_99, y_100, y_142, y_161, y_600, y_610, y_894, y_999, y_1000, y_1216, y_1276, neg1, neg2, nI_add, nI_mul, nn_sub, nn_lt, nn_le, nn_eq, in_lt, ni_lt, in_le, ni_le, in_eq, ni_eq, iI_lt, iI_le, iI_eq, nn_clamp, inb_n, t_lt, f_lt, t_le, f_le, t_eq, f_eq, ti_lt, fi_lt, ti_le, fi_le, ti_eq, fi_eq, ↓reduceIte, ite_true, ite_false, eq_self, decide_true, decide_false, Bool.true_and, Bool.and_true, Bool.false_and, Bool.and_false, Bool.true_or, Bool.or_true, Bool.false_or, Bool.or_false, bI_t, bI_f, bI_nand, n_mod, an11, an01, negn1, negn2, false_and, and_false, true_and, and_true, not_true_eq_false, not_false_eq_true, bI_n0, bI_n1, Bool.true_eq_false, Bool.false_eq_true, cI_s, cL_s, cV_s, cR_n, pm_bR_self, bI_ite, bL_ite, bV_ite, bR_ite, E_X9_goes_18, E_X9_goes_57, E_X9_goes_32, E_X9_goes_59, E_X9_goes_41, E_X9_goes_86, E_X9_goes_116, E_X9_goes_130, E_X9_goes_207, E_X9_goes_232, E_X9_goes_223, E_X9_goes_147, E_X9_goes_239, E_X9_goes_165, E_X9_goes_163, E_X9_goes_264, E_X9_goes_249, O, goH_s39]
    exact congrArg (fun g => pm_ev (219, 62, [vr 8 0, vi (nI s), vi b, vi n, vi w, vi (nI 0), none, none], [], g)) (goH_cong h (fun k hk => by unfold upd; rw [cutF_lt hk]) (fun k hk => cutF_lt hk) (fun k hk => rfl))
  | succ r ih =>
    intro k hk
    rw [← ih (k + 1) (by omega), E_X9_goes_3]
    have e1 := cutF_s noneF F k (v := iI (-1)) rfl
    by_cases q : k = own
    · have e2 := cutF_s (ownF own) N k (v := nI 1) (by unfold ownF; rw [decide_eq_true q]; rfl)
      simp (disch := omega) only [y_0, y_1, y_2, y_3, y_4, y_5, y_6, y_7, y_8, y_9, y_10, y_11, y_12, y_13, y_14, y_15, y_16, y_17, y_18, y_19, y_20, y_21, y_22, y_23, y_24, y_29, y_30, y_31, y_32, y_39, y_40, y_48, y_49, y_50, y_60, y_64, y_69, y_78, y_99, y_100, y_142, y_161, y_600, y_610, y_894, y_999, y_1000, y_1216, y_1276, neg1, neg2, nI_add, nI_mul, nn_sub, nn_lt, nn_le, nn_eq, in_lt, ni_lt, in_le, ni_le, in_eq, ni_eq, iI_lt, iI_le, iI_eq, nn_clamp, inb_n, t_lt, f_lt, t_le, f_le, t_eq, f_eq, ti_lt, fi_lt, ti_le, fi_le, ti_eq, fi_eq, ↓reduceIte, ite_true, ite_false, eq_self, decide_true, decide_false, Bool.true_and, Bool.and_true, Bool.false_and, Bool.and_false, Bool.true_or, Bool.or_true, Bool.false_or, Bool.or_false, bI_t, bI_f, bI_nand, n_mod, an11, an01, negn1, negn2, false_and, and_false, true_and, and_true, not_true_eq_false, not_false_eq_true, bI_n0, bI_n1, Bool.true_eq_false, Bool.false_eq_true, cI_s, cL_s, cV_s, cR_n, pm_bR_self, bI_ite, bL_ite, bV_ite, bR_ite, E_X9_goes_18, E_X9_goes_57, E_X9_goes_32, E_X9_goes_59, E_X9_goes_41, E_X9_goes_86, E_X9_goes_116, E_X9_goes_130, E_X9_goes_207, E_X9_goes_232, E_X9_goes_223, E_X9_goes_147, E_X9_goes_239, E_X9_goes_165, E_X9_goes_163, E_X9_goes_264, E_X9_goes_249, goH_s39, O, goH_s40, e1, e2]
    · have e2 := cutF_s (ownF own) N k (v := nI 0) (by unfold ownF; rw [decide_eq_false q]; rfl)
      simp (disch := omega) only [y_0, y_1, y_2, y_3, y_4, y_5, y_6, y_7, y_8, y_9, y_10, y_11, y_12, y_13, y_14, y_15, y_16, y_17, y_18, y_19, y_20, y_21, y_22, y_23, y_24, y_29, y_30, y_31, y_32, y_39, y_40, y_48, y_49, y_50, y_60, y_64, y_69, y_78, y_99, y_100, y_142, y_161, y_600, y_610, y_894, y_999, y_1000, y_1216, y_1276, neg1, neg2, nI_add, nI_mul, nn_sub, nn_lt, nn_le, nn_eq, in_lt, ni_lt, in_le, ni_le, in_eq, ni_eq, iI_lt, iI_le, iI_eq, nn_clamp, inb_n, t_lt, f_lt, t_le, f_le, t_eq, f_eq, ti_lt, fi_lt, ti_le, fi_le, ti_eq, fi_eq, ↓reduceIte, ite_true, ite_false, eq_self, decide_true, decide_false, Bool.true_and, Bool.and_true, Bool.false_and, Bool.and_false, Bool.true_or, Bool.or_true, Bool.false_or, Bool.or_false, bI_t, bI_f, bI_nand, n_mod, an11, an01, negn1, negn2, false_and, and_false, true_and, and_true, not_true_eq_false, not_false_eq_true, bI_n0, bI_n1, Bool.true_eq_false, Bool.false_eq_true, cI_s, cL_s, cV_s, cR_n, pm_bR_self, bI_ite, bL_ite, bV_ite, bR_ite, E_X9_goes_18, E_X9_goes_57, E_X9_goes_32, E_X9_goes_59, E_X9_goes_41, E_X9_goes_86, E_X9_goes_116, E_X9_goes_130, E_X9_goes_207, E_X9_goes_232, E_X9_goes_223, E_X9_goes_147, E_X9_goes_239, E_X9_goes_165, E_X9_goes_163, E_X9_goes_264, E_X9_goes_249, goH_s39, O, goH_s40, e1, e2]
theorem goes_Mb {h : PH} {a : Nat} {c : AC} (hv : cV c) (hm : ModS h a c) (hA : AliveM h c) {s ab : Nat} (hab : h.1 8 0 19 = nI ab) (hab2 : ab < 16) (hs : s < (c (6)).val) (ho : h.1 33 0 (a+14+4*s+0) = nI ((c (0)).val * (c (50+s)).val + (c (40+s)).val)) {b n w : Nat} (hb : b < 100) (hn : n < 99) (hw : w < 3) : ∃ N T, pm_ev (219, 0, [vr 8 0, vi (nI s), vi (nI b), vi (nI n), vi (nI w), none, none, none], [], h) = some (none, goH h (fstC c (howL c s ab w) b (c (40+s)).val (c (50+s)).val n) N T) := by
  have hV1 := hv.1
  obtain ⟨v1, v2, _⟩ := hv.2.2.1 s hs
  have hWb := WH_le hv
  have A := goes_3b hv hm hs ho (nI b) (nI n) (nI w) (h.1 39 0) (h.1 40 0) (h.1 41 0) 64 0 rfl
  rw [cutF_0, cutF_0, goH_self] at A
  obtain ⟨T, B⟩ := goes_62 hv hm hA hab hab2 hs hb hn hw n 0 (h.1 41 0) (Nat.zero_add _)
  refine ⟨boolF (cellP c (rch c (howL c s ab w) b (c (40+s)).val (c (50+s)).val n)), T, ?_⟩
  rw [E_X9_goes, show (0 : Int32) = nI 0 from rfl, A]
  refine Eq.trans (congrArg (fun g => pm_ev (219, 62, [vr 8 0, vi (nI s), vi (nI b), vi (nI n), vi (nI w), vi (nI 0), none, none], [], g)) (goH_cong h (fun i hi => ?_) (fun i hi => ?_) (fun i hi => rfl))) B
  · unfold fstC upd noneF
    by_cases q : i < (c (0)).val * (c (1)).val
    · obtain ⟨x1, x2, x3⟩ := cell_xy (show 0 < (c (0)).val by omega) q
      rw [if_pos q]
      by_cases e : i = (c (0)).val * (c (50+s)).val + (c (40+s)).val
      · obtain ⟨d1, d2⟩ := cell_div (y := (c (50+s)).val) v1
        rw [if_pos e, fstB_t (by show oneP _ _ _ _ = true; unfold oneP; rw [e, d1, d2]; simp)]
        rfl
      · rw [if_neg e, fstB_f (by
          show oneP _ _ _ _ = false
          unfold oneP
          by_cases e1 : i % (c (0)).val = (c (40+s)).val
          · rw [decide_eq_false (fun e2 : i / (c (0)).val = (c (50+s)).val => e (by rw [← x3, e1, e2])), Bool.and_false]
          · rw [decide_eq_false e1, Bool.false_and])]
        rfl
    · rw [if_neg q]
      by_cases e : i = (c (0)).val * (c (50+s)).val + (c (40+s)).val
      · have := (cell_lt hv v1 v2).1
        omega
      · rw [if_neg e]
  · unfold ownF boolF cellP
    congr 1
    show _ = (decide (i < (c (0)).val * (c (1)).val) && oneP (c (40+s)).val (c (50+s)).val (i % (c (0)).val) (i / (c (0)).val))
    unfold oneP
    obtain ⟨d1, d2⟩ := cell_div (y := (c (50+s)).val) v1
    by_cases e : i = (c (0)).val * (c (50+s)).val + (c (40+s)).val
    · have := (cell_lt hv v1 v2).1
      rw [decide_eq_true e, decide_eq_true (by omega : i < (c (0)).val * (c (1)).val), e, d1, d2]
      simp
    · rw [decide_eq_false e]
      by_cases q : i < (c (0)).val * (c (1)).val
      · obtain ⟨x1, x2, x3⟩ := cell_xy (show 0 < (c (0)).val by omega) q
        by_cases e1 : i % (c (0)).val = (c (40+s)).val
        · rw [decide_eq_false (fun e2 : i / (c (0)).val = (c (50+s)).val => e (by rw [← x3, e1, e2]))]; simp
        · rw [decide_eq_false e1]; simp
      · rw [decide_eq_false q, Bool.false_and]
theorem comes_Mb {g : PH} {a : Nat} {c c' : AC} (hv : cV c) (hsim : simC c c') (hv' : cV c') (hm : ModS g a c) (hA : AliveM g c') {s ab : Nat} (h19 : g.1 8 0 19 = nI ab) (hab2 : ab < 16) (hs : s < (c (6)).val) (h40 : c' (40+s) = c (40+s)) (h50 : c' (50+s) = c (50+s)) (ho : g.1 33 0 (a+14+4*s+0) = nI ((c (0)).val * (c (50+s)).val + (c (40+s)).val)) {b n k : Nat} (hb : b < 100) (hn : n < 99) (hk : k < (c (0)).val * (c (1)).val) : ∃ F N T, pm_ev (222, 0, [vr 8 0, vi (nI s), vi (nI k), vi (nI n), vi (nI b)], [], g) = some (some (vi (bI (aCome c (aLit (lullA c' s ab) s) b (c (40+s)).val (c (50+s)).val (k % (c (0)).val) (k / (c (0)).val) n))), goH g F N T) := by
  have hWb := WH_le hv
  have hm' := simC.S hv hsim hm
  have hs' : s < (c' (6)).val := by rw [hsim 6 (by omega)]; exact hs
  have ho' : g.1 33 0 (a+14+4*s+0) = nI ((c' (0)).val * (c' (50+s)).val + (c' (40+s)).val) := by rw [hsim 0 (by omega), h40, h50]; exact ho
  obtain ⟨N, T, G⟩ := goes_Mb hv' hm' hA h19 hab2 hs' ho' (w := 0) hb hn (by decide)
  have hL : howL c' s ab 0 = aLit (lullA c' s ab) s := funext fun i => by unfold howL; rw [if_neg (by decide), if_pos (by rfl)]
  rw [hL, h40, h50] at G
  have hk' : k < (c' (0)).val * (c' (1)).val := by rw [hsim 0 (by omega), hsim 1 (by omega)]; exact hk
  refine ⟨fstC c' (aLit (lullA c' s ab) s) b (c (40+s)).val (c (50+s)).val n, N, T, ?_⟩
  have r39 := goH_39 g (fstC c' (aLit (lullA c' s ab) s) b (c (40+s)).val (c (50+s)).val n) N T (show k < 64 by omega)
  rw [fst_cell hk'] at r39
  rw [← simC.come hv hsim, E_X9_comes]
  unfold aCome
  rw [hsim 0 (by omega)] at r39
  cases q : fstB (fun t => rch c' (aLit (lullA c' s ab) s) b (c (40+s)).val (c (50+s)).val t (k % (c (0)).val) (k / (c (0)).val)) (n + 1) 0 with
  | none =>
    rw [q] at r39
    simp (disch := omega) only [y_0, y_1, y_2, y_3, y_4, y_5, y_6, y_7, y_8, y_9, y_10, y_11, y_12, y_13, y_14, y_15, y_16, y_17, y_18, y_19, y_20, y_21, y_22, y_23, y_24, y_29, y_30, y_31, y_32, y_39, y_40, y_48, y_49, y_50, y_60, y_64, y_69, y_78, y_99, y_100, y_142, y_161, y_600, y_610, y_894, y_999, y_1000, y_1216, y_1276, neg1, neg2, nI_add, nI_mul, nn_sub, nn_lt, nn_le, nn_eq, in_lt, ni_lt, in_le, ni_le, in_eq, ni_eq, iI_lt, iI_le, iI_eq, nn_clamp, inb_n, t_lt, f_lt, t_le, f_le, t_eq, f_eq, ti_lt, fi_lt, ti_le, fi_le, ti_eq, fi_eq, ↓reduceIte, ite_true, ite_false, eq_self, decide_true, decide_false, Bool.true_and, Bool.and_true, Bool.false_and, Bool.and_false, Bool.true_or, Bool.or_true, Bool.false_or, Bool.or_false, bI_t, bI_f, bI_nand, n_mod, an11, an01, negn1, negn2, false_and, and_false, true_and, and_true, not_true_eq_false, not_false_eq_true, bI_n0, bI_n1, Bool.true_eq_false, Bool.false_eq_true, cI_s, cL_s, cV_s, cR_n, pm_bR_self, bI_ite, bL_ite, bV_ite, bR_ite, E_X9_comes_15, G, r39, show oN none = iI (-1) from rfl]
    rfl
  | some x =>
    have hx := fstB_lt _ _ _ q
    rw [q] at r39
    simp (disch := omega) only [y_0, y_1, y_2, y_3, y_4, y_5, y_6, y_7, y_8, y_9, y_10, y_11, y_12, y_13, y_14, y_15, y_16, y_17, y_18, y_19, y_20, y_21, y_22, y_23, y_24, y_29, y_30, y_31, y_32, y_39, y_40, y_48, y_49, y_50, y_60, y_64, y_69, y_78, y_99, y_100, y_142, y_161, y_600, y_610, y_894, y_999, y_1000, y_1216, y_1276, neg1, neg2, nI_add, nI_mul, nn_sub, nn_lt, nn_le, nn_eq, in_lt, ni_lt, in_le, ni_le, in_eq, ni_eq, iI_lt, iI_le, iI_eq, nn_clamp, inb_n, t_lt, f_lt, t_le, f_le, t_eq, f_eq, ti_lt, fi_lt, ti_le, fi_le, ti_eq, fi_eq, ↓reduceIte, ite_true, ite_false, eq_self, decide_true, decide_false, Bool.true_and, Bool.and_true, Bool.false_and, Bool.and_false, Bool.true_or, Bool.or_true, Bool.false_or, Bool.or_false, bI_t, bI_f, bI_nand, n_mod, an11, an01, negn1, negn2, false_and, and_false, true_and, and_true, not_true_eq_false, not_false_eq_true, bI_n0, bI_n1, Bool.true_eq_false, Bool.false_eq_true, cI_s, cL_s, cV_s, cR_n, pm_bR_self, bI_ite, bL_ite, bV_ite, bR_ite, E_X9_comes_15, G, r39, show oN (some x) = nI x from rfl]
    rfl
theorem tk_17 {a : Nat} {c : AC} (hv : cV c) {s n k m : Nat} (hs : s < (c (6)).val) (hn : n < 99) (hk : k < (c (0)).val * (c (1)).val) (hm : m ≤ (c (80+s)).val) : ∀ r st g ab0, st + r = 2 ^ (c (80+s)).val → MI g a c ab0 → ∃ g' ab', (∀ x, fstB (fun q => decide (pop6 q = m) && aTry c s 1 (c (40+s)).val (c (50+s)).val (k % (c (0)).val) (k / (c (0)).val) n q) r st = some x → pm_ev (224, 17, [vr 8 0, vi (nI s), vi (nI k), vi (nI n), vi (nI m), vi (nI st)], [], g) = some (some (vi (nI x)), g')) ∧ (fstB (fun q => decide (pop6 q = m) && aTry c s 1 (c (40+s)).val (c (50+s)).val (k % (c (0)).val) (k / (c (0)).val) n q) r st = none → pm_ev (224, 17, [vr 8 0, vi (nI s), vi (nI k), vi (nI n), vi (nI m), vi (nI st)], [], g) = pm_ev (224, 3, [vr 8 0, vi (nI s), vi (nI k), vi (nI n), vi (nI (m + 1)), none], [], g')) ∧ MI g' a c ab' ∧ Fr scM g g' := by
  have hV1 := hv.1
  have v5 := (hv.2.2.1 s hs).2.2.2.2.1
  have hWb := WH_le hv
  obtain ⟨p1, p2⟩ := pow4 _ v5
  have k64 : k < 64 := by omega
  intro r
  induction r with
  | zero =>
    intro st g ab0 hst hI
    refine ⟨g, ab0, fun x hx => (by cases hx), fun _ => ?_, hI, Fr.rfl'⟩
    rw [E_X9_takenOf_17]
    have O := of_M3 hv hI.1 hs
    simp (disch := omega) only [y_1, y_3, y_31, O, cI_s, nn_and, shl_1]
    generalize 2 ^ (c (80+s)).val = N at *
    simp (disch := omega) only [y_0, y_1, y_2, y_3, y_4, y_5, y_6, y_7, y_8, y_9, y_10, y_11, y_12, y_13, y_14, y_15, y_16, y_17, y_18, y_19, y_20, y_21, y_22, y_23, y_24, y_29, y_30, y_31, y_32, y_39, y_40, y_48, y_49, y_50, y_60, y_64, y_69, y_78, y_99, y_100, y_142, y_161, y_600, y_610, y_894, y_999, y_1000, y_1216, y_1276, neg1, neg2, nI_add, nI_mul, nn_sub, nn_lt, nn_le, nn_eq, in_lt, ni_lt, in_le, ni_le, in_eq, ni_eq, iI_lt, iI_le, iI_eq, nn_clamp, inb_n, t_lt, f_lt, t_le, f_le, t_eq, f_eq, ti_lt, fi_lt, ti_le, fi_le, ti_eq, fi_eq, ↓reduceIte, ite_true, ite_false, eq_self, decide_true, decide_false, Bool.true_and, Bool.and_true, Bool.false_and, Bool.and_false, Bool.true_or, Bool.or_true, Bool.false_or, Bool.or_false, bI_t, bI_f, bI_nand, n_mod, an11, an01, negn1, negn2, false_and, and_false, true_and, and_true, not_true_eq_false, not_false_eq_true, bI_n0, bI_n1, Bool.true_eq_false, Bool.false_eq_true, cI_s, cL_s, cV_s, cR_n, pm_bR_self, bI_ite, bL_ite, bV_ite, bR_ite]
  | succ r ih =>
    intro st g ab0 hst hI
    have O := of_M3 hv hI.1 hs
    have hst2 : st < 2 ^ (c (80+s)).val := by omega
    have P := bitsOf_M0 g (show st < 64 by omega)
    have pl := pop6_le st
    have go : pm_ev (224, 17, [vr 8 0, vi (nI s), vi (nI k), vi (nI n), vi (nI m), vi (nI st)], [], g) = pm_ev (224, 35, [vr 8 0, vi (nI s), vi (nI k), vi (nI n), vi (nI m), vi (nI st)], [vi (nI (pop6 st))], g) := by
      rw [E_X9_takenOf_17]
      simp (disch := omega) only [y_1, y_3, y_31, O, cI_s, nn_and, shl_1]
      generalize 2 ^ (c (80+s)).val = N at *
      simp (disch := omega) only [y_0, y_1, y_2, y_3, y_4, y_5, y_6, y_7, y_8, y_9, y_10, y_11, y_12, y_13, y_14, y_15, y_16, y_17, y_18, y_19, y_20, y_21, y_22, y_23, y_24, y_29, y_30, y_31, y_32, y_39, y_40, y_48, y_49, y_50, y_60, y_64, y_69, y_78, y_99, y_100, y_142, y_161, y_600, y_610, y_894, y_999, y_1000, y_1216, y_1276, neg1, neg2, nI_add, nI_mul, nn_sub, nn_lt, nn_le, nn_eq, in_lt, ni_lt, in_le, ni_le, in_eq, ni_eq, iI_lt, iI_le, iI_eq, nn_clamp, inb_n, t_lt, f_lt, t_le, f_le, t_eq, f_eq, ti_lt, fi_lt, ti_le, fi_le, ti_eq, fi_eq, ↓reduceIte, ite_true, ite_false, eq_self, decide_true, decide_false, Bool.true_and, Bool.and_true, Bool.false_and, Bool.and_false, Bool.true_or, Bool.or_true, Bool.false_or, Bool.or_false, bI_t, bI_f, bI_nand, n_mod, an11, an01, negn1, negn2, false_and, and_false, true_and, and_true, not_true_eq_false, not_false_eq_true, bI_n0, bI_n1, Bool.true_eq_false, Bool.false_eq_true, cI_s, cL_s, cV_s, cR_n, pm_bR_self, bI_ite, bL_ite, bV_ite, bR_ite, P]
    rw [go]
    by_cases q1 : pop6 st = m
    · have hI1 : MI (pm_sI g 8 0 19 (nI st)) a c st := ⟨hI.1.fr (fun _ => sI_tag _ _ _ _ _ _ (by decide)) (fun _ _ _ => sI_pl _ _ _ _ _ (by omega)), hI.2.1.fr (fun _ => sI_tag _ _ _ _ _ _ (by decide)), hI.2.2.1.fr (fun _ => sI_tag _ _ _ _ _ _ (by decide)) (fun _ => sI_tag _ _ _ _ _ _ (by decide)), sI_same _ _ _ _ _⟩
      have f0 : Fr scM g (pm_sI g 8 0 19 (nI st)) := Fr.sI _ _ _ rfl
      obtain ⟨g1, e1, hI2, f1⟩ := comes_M hv hI1 (by omega) hs (b := 0) (by omega) hn hk
      have et : aCome c (aLit (lullA c s st) s) 0 (c (40+s)).val (c (50+s)).val (k % (c (0)).val) (k / (c (0)).val) n = aTry c s 1 (c (40+s)).val (c (50+s)).val (k % (c (0)).val) (k / (c (0)).val) n st := by unfold aTry abW; rw [if_pos (by rfl)]
      rw [et] at e1
      cases q2 : aTry c s 1 (c (40+s)).val (c (50+s)).val (k % (c (0)).val) (k / (c (0)).val) n st
      · rw [q2] at e1
        obtain ⟨g', ab', a1, a2, a3, a4⟩ := ih (st + 1) g1 st (by omega) hI2
        have step : pm_ev (224, 35, [vr 8 0, vi (nI s), vi (nI k), vi (nI n), vi (nI m), vi (nI st)], [vi (nI (pop6 st))], g) = pm_ev (224, 17, [vr 8 0, vi (nI s), vi (nI k), vi (nI n), vi (nI m), vi (nI (st + 1))], [], g1) := by
          rw [E_X9_takenOf_35, if_pos (by rw [q1]), show (0 : Int32) = nI 0 from rfl, e1, cI_s, if_pos (by rfl), show (1 : Int32) = nI 1 from rfl, nI_add]
        rw [fstB_f (p := fun q => decide (pop6 q = m) && aTry c s 1 (c (40+s)).val (c (50+s)).val (k % (c (0)).val) (k / (c (0)).val) n q) (by simp only [q2, Bool.and_false]), step]
        exact ⟨g', ab', a1, a2, a3, (f0.tr f1).tr a4⟩
      · rw [q2] at e1
        rw [fstB_t (p := fun q => decide (pop6 q = m) && aTry c s 1 (c (40+s)).val (c (50+s)).val (k % (c (0)).val) (k / (c (0)).val) n q) (by simp only [q2, decide_eq_true q1, Bool.and_true])]
        refine ⟨g1, st, fun x hx => ?_, fun hx => (by cases hx), hI2, f0.tr f1⟩
        cases hx
        rw [E_X9_takenOf_35, if_pos (by rw [q1]), show (0 : Int32) = nI 0 from rfl, e1, cI_s, if_neg (by decide)]
    · obtain ⟨g', ab', a1, a2, a3, a4⟩ := ih (st + 1) g ab0 (by omega) hI
      have step : pm_ev (224, 35, [vr 8 0, vi (nI s), vi (nI k), vi (nI n), vi (nI m), vi (nI st)], [vi (nI (pop6 st))], g) = pm_ev (224, 17, [vr 8 0, vi (nI s), vi (nI k), vi (nI n), vi (nI m), vi (nI (st + 1))], [], g) := by
        rw [E_X9_takenOf_35, if_neg (fun e => q1 ((nn_eq (by omega) (by omega)).mp e)), show (1 : Int32) = nI 1 from rfl, nI_add]
      rw [fstB_f (p := fun q => decide (pop6 q = m) && aTry c s 1 (c (40+s)).val (c (50+s)).val (k % (c (0)).val) (k / (c (0)).val) n q) (by simp only [decide_eq_false q1, Bool.false_and]), step]
      exact ⟨g', ab', a1, a2, a3, a4⟩
theorem tk_3 {a : Nat} {c : AC} (hv : cV c) {s n k : Nat} (hs : s < (c (6)).val) (hn : n < 99) (hk : k < (c (0)).val * (c (1)).val) : ∀ r m g ab0, m + r = (c (80+s)).val + 1 → MI g a c ab0 → ∃ g', pm_ev (224, 3, [vr 8 0, vi (nI s), vi (nI k), vi (nI n), vi (nI m), none], [], g) = some (some (vi (oN (srO (aTry c s 1 (c (40+s)).val (c (50+s)).val (k % (c (0)).val) (k / (c (0)).val) n) (2 ^ (c (80+s)).val) r m))), g') ∧ Fr scM g g' := by
  have hV1 := hv.1
  have v5 := (hv.2.2.1 s hs).2.2.2.2.1
  intro r
  induction r with
  | zero =>
    intro m g ab0 hm hI
    refine ⟨g, ?_, Fr.rfl'⟩
    have O := of_M3 hv hI.1 hs
    rw [E_X9_takenOf_3]
    simp (disch := omega) only [y_0, y_1, y_2, y_3, y_4, y_5, y_6, y_7, y_8, y_9, y_10, y_11, y_12, y_13, y_14, y_15, y_16, y_17, y_18, y_19, y_20, y_21, y_22, y_23, y_24, y_29, y_30, y_31, y_32, y_39, y_40, y_48, y_49, y_50, y_60, y_64, y_69, y_78, y_99, y_100, y_142, y_161, y_600, y_610, y_894, y_999, y_1000, y_1216, y_1276, neg1, neg2, nI_add, nI_mul, nn_sub, nn_lt, nn_le, nn_eq, in_lt, ni_lt, in_le, ni_le, in_eq, ni_eq, iI_lt, iI_le, iI_eq, nn_clamp, inb_n, t_lt, f_lt, t_le, f_le, t_eq, f_eq, ti_lt, fi_lt, ti_le, fi_le, ti_eq, fi_eq, ↓reduceIte, ite_true, ite_false, eq_self, decide_true, decide_false, Bool.true_and, Bool.and_true, Bool.false_and, Bool.and_false, Bool.true_or, Bool.or_true, Bool.false_or, Bool.or_false, bI_t, bI_f, bI_nand, n_mod, an11, an01, negn1, negn2, false_and, and_false, true_and, and_true, not_true_eq_false, not_false_eq_true, bI_n0, bI_n1, Bool.true_eq_false, Bool.false_eq_true, cI_s, cL_s, cV_s, cR_n, pm_bR_self, bI_ite, bL_ite, bV_ite, bR_ite, O]
    rfl
  | succ r ih =>
    intro m g ab0 hm hI
    have O := of_M3 hv hI.1 hs
    obtain ⟨g1, ab', a1, a2, a3, a4⟩ := tk_17 (m := m) hv hs hn hk (by omega) (2 ^ (c (80+s)).val) 0 g ab0 (Nat.zero_add _) hI
    have st : pm_ev (224, 3, [vr 8 0, vi (nI s), vi (nI k), vi (nI n), vi (nI m), none], [], g) = pm_ev (224, 17, [vr 8 0, vi (nI s), vi (nI k), vi (nI n), vi (nI m), vi (nI 0)], [], g) := by
      rw [E_X9_takenOf_3]
      simp (disch := omega) only [y_0, y_1, y_2, y_3, y_4, y_5, y_6, y_7, y_8, y_9, y_10, y_11, y_12, y_13, y_14, y_15, y_16, y_17, y_18, y_19, y_20, y_21, y_22, y_23, y_24, y_29, y_30, y_31, y_32, y_39, y_40, y_48, y_49, y_50, y_60, y_64, y_69, y_78, y_99, y_100, y_142, y_161, y_600, y_610, y_894, y_999, y_1000, y_1216, y_1276, neg1, neg2, nI_add, nI_mul, nn_sub, nn_lt, nn_le, nn_eq, in_lt, ni_lt, in_le, ni_le, in_eq, ni_eq, iI_lt, iI_le, iI_eq, nn_clamp, inb_n, t_lt, f_lt, t_le, f_le, t_eq, f_eq, ti_lt, fi_lt, ti_le, fi_le, ti_eq, fi_eq, ↓reduceIte, ite_true, ite_false, eq_self, decide_true, decide_false, Bool.true_and, Bool.and_true, Bool.false_and, Bool.and_false, Bool.true_or, Bool.or_true, Bool.false_or, Bool.or_false, bI_t, bI_f, bI_nand, n_mod, an11, an01, negn1, negn2, false_and, and_false, true_and, and_true, not_true_eq_false, not_false_eq_true, bI_n0, bI_n1, Bool.true_eq_false, Bool.false_eq_true, cI_s, cL_s, cV_s, cR_n, pm_bR_self, bI_ite, bL_ite, bV_ite, bR_ite, O]
    cases q : fstB (fun q => decide (pop6 q = m) && aTry c s 1 (c (40+s)).val (c (50+s)).val (k % (c (0)).val) (k / (c (0)).val) n q) (2 ^ (c (80+s)).val) 0 with
    | some x =>
      refine ⟨g1, ?_, a4⟩
      rw [srO_some q, st]
      exact a1 x q
    | none =>
      obtain ⟨g', e, f2⟩ := ih (m + 1) g1 ab' (by omega) a3
      refine ⟨g', ?_, a4.tr f2⟩
      rw [srO_none q, st, a2 q]
      exact e
