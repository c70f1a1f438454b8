theorem hour_6 {g : PH} {a : Nat} {c : AC} {hr gn st ca : Nat} (hV : csV (c, hr, gn, st, ca)) (hM : CouM g a (c, hr, gn, st, ca)) : ∀ r k, k + r = (c (6)).val → pm_ev (212, 6, [vr 8 0, vi (nI (bitsB (hitB c (st ||| ca) hr) k)), vi (nI (bitsB (gotB c (st ||| ca) hr) k)), vi (nI k), none], [], g) = some (none, pm_sI (pm_sI (pm_sI (pm_sI g 8 0 23 (nI (st ||| bitsB (hitB c (st ||| ca) hr) (c (6)).val))) 8 0 24 (nI (ca ||| bitsB (gotB c (st ||| ca) hr) (c (6)).val))) 8 0 22 (nI 0)) 8 0 25 (nI (hr + 1))) := by
  have hv : cV c := hV.1
  have hm : ModS g a c := hM.1
  have hV1 := hv.1
  have m16 := hm.2.2.2.2
  have hh : hr < 24 := hV.2.1
  obtain ⟨_, _, hc, _, h22, h23, h24, h25⟩ := id hM
  dsimp only at hc h22 h23 h24 h25
  intro r
  induction r with
  | zero =>
    intro k hk
    have hk : k = (c (6)).val := by omega
    subst hk
    rw [E_X9_passesHour_6]
    simp (disch := omega) only [y_0, y_1, y_2, y_3, y_4, y_5, y_6, y_7, y_8, y_9, y_10, y_11, y_12, y_13, y_14, y_15, y_16, y_17, y_18, y_19, y_20, y_21, y_22, y_23, y_24, y_29, y_30, y_31, y_32, y_39, y_40, y_48, y_49, y_50, y_60, y_64, y_69, y_78, y_99, y_100, y_142, y_161, y_600, y_610, y_894, y_999, y_1000, y_1216, y_1276, neg1, neg2, nI_add, nI_mul, nn_sub, nn_lt, nn_le, nn_eq, in_lt, ni_lt, in_le, ni_le, in_eq, ni_eq, iI_lt, iI_le, iI_eq, nn_clamp, inb_n, t_lt, f_lt, t_le, f_le, t_eq, f_eq, ti_lt, fi_lt, ti_le, fi_le, ti_eq, fi_eq, ↓reduceIte, ite_true, ite_false, eq_self, decide_true, decide_false, Bool.true_and, Bool.and_true, Bool.false_and, Bool.and_false, Bool.true_or, Bool.or_true, Bool.false_or, Bool.or_false, bI_t, bI_f, bI_nand, n_mod, an11, an01, negn1, negn2, false_and, and_false, true_and, and_true, not_true_eq_false, not_false_eq_true, bI_n0, bI_n1, Bool.true_eq_false, Bool.false_eq_true, cI_s, cL_s, cV_s, cR_n, pm_bR_self, bI_ite, bL_ite, bV_ite, bR_ite, m16, h23, h24, h25, nn_or, sI_pl]
  | succ r ih =>
    intro k hk
    have hk2 : k < (c (6)).val := by omega
    have e := ih (k + 1) (by omega)
    have LO := lost_M hV hM (show k < 4 by omega)
    have BM := beamed_M hV hM hk2
    obtain ⟨v1, v2, _⟩ := hv.2.2.1 k hk2
    have RK := isRock_M hv hm v1 v2
    change pm_ev _ = some (some (vi (bI (rockP c (c (40+k)).val (c (50+k)).val))), g) at RK
    have GD := isGuarded_M hv hm v1 v2
    have ck := hc k hk2
    have eb : aBm c (st ||| ca) hr k = (!(st ||| ca).testBit k && aLit c (whoF c (st ||| ca) k (c (6)).val) hr) := rfl
    have eh : hitB c (st ||| ca) hr k = (!(st ||| ca).testBit k && (!aBm c (st ||| ca) hr k && rockP c (c (40+k)).val (c (50+k)).val)) := rfl
    have eg : gotB c (st ||| ca) hr k = (!(st ||| ca).testBit k && (aBm c (st ||| ca) hr k && aGuard c (c (40+k)).val (c (50+k)).val (c (5)).val)) := rfl
    rw [← e]
    clear e ih
    generalize (c (0)).val * (c (50+k)).val + (c (40+k)).val = cell at *
    rw [E_X9_passesHour_6]
    cases q1 : (st ||| ca).testBit k
    · rw [q1] at LO eh eg eb
      cases q2 : aLit c (whoF c (st ||| ca) k (c (6)).val) hr
      · rw [q2] at BM eb
        rw [eb] at eh eg
        rw [bitsB_succ_f eg]
        cases q3 : rockP c (c (40+k)).val (c (50+k)).val
        · rw [q3] at RK eh
          rw [bitsB_succ_f eh]
          simp (disch := omega) only [y_0, y_1, y_2, y_3, y_4, y_5, y_6, y_7, y_8, y_9, y_10, y_11, y_12, y_13, y_14, y_15, y_16, y_17, y_18, y_19, y_20, y_21, y_22, y_23, y_24, y_29, y_30, y_31, y_32, y_39, y_40, y_48, y_49, y_50, y_60, y_64, y_69, y_78, y_99, y_100, y_142, y_161, y_600, y_610, y_894, y_999, y_1000, y_1216, y_1276, neg1, neg2, nI_add, nI_mul, nn_sub, nn_lt, nn_le, nn_eq, in_lt, ni_lt, in_le, ni_le, in_eq, ni_eq, iI_lt, iI_le, iI_eq, nn_clamp, inb_n, t_lt, f_lt, t_le, f_le, t_eq, f_eq, ti_lt, fi_lt, ti_le, fi_le, ti_eq, fi_eq, ↓reduceIte, ite_true, ite_false, eq_self, decide_true, decide_false, Bool.true_and, Bool.and_true, Bool.false_and, Bool.and_false, Bool.true_or, Bool.or_true, Bool.false_or, Bool.or_false, bI_t, bI_f, bI_nand, n_mod, an11, an01, negn1, negn2, false_and, and_false, true_and, and_true, not_true_eq_false, not_false_eq_true, bI_n0, bI_n1, Bool.true_eq_false, Bool.false_eq_true, cI_s, cL_s, cV_s, cR_n, pm_bR_self, bI_ite, bL_ite, bV_ite, bR_ite, m16, LO, BM, E_X9_passesHour_30, ck, E_X9_passesHour_45, RK, nn_or, Nat.or_zero]
        · rw [q3] at RK eh
          rw [bitsB_succ_t eh]
          simp (disch := omega) only [y_0, y_1, y_2, y_3, y_4, y_5, y_6, y_7, y_8, y_9, y_10, y_11, y_12, y_13, y_14, y_15, y_16, y_17, y_18, y_19, y_20, y_21, y_22, y_23, y_24, y_29, y_30, y_31, y_32, y_39, y_40, y_48, y_49, y_50, y_60, y_64, y_69, y_78, y_99, y_100, y_142, y_161, y_600, y_610, y_894, y_999, y_1000, y_1216, y_1276, neg1, neg2, nI_add, nI_mul, nn_sub, nn_lt, nn_le, nn_eq, in_lt, ni_lt, in_le, ni_le, in_eq, ni_eq, iI_lt, iI_le, iI_eq, nn_clamp, inb_n, t_lt, f_lt, t_le, f_le, t_eq, f_eq, ti_lt, fi_lt, ti_le, fi_le, ti_eq, fi_eq, ↓reduceIte, ite_true, ite_false, eq_self, decide_true, decide_false, Bool.true_and, Bool.and_true, Bool.false_and, Bool.and_false, Bool.true_or, Bool.or_true, Bool.false_or, Bool.or_false, bI_t, bI_f, bI_nand, n_mod, an11, an01, negn1, negn2, false_and, and_false, true_and, and_true, not_true_eq_false, not_false_eq_true, bI_n0, bI_n1, Bool.true_eq_false, Bool.false_eq_true, cI_s, cL_s, cV_s, cR_n, pm_bR_self, bI_ite, bL_ite, bV_ite, bR_ite, m16, LO, BM, E_X9_passesHour_30, ck, E_X9_passesHour_45, RK, nn_or, Nat.or_zero, nn_and, shl_1]
      · rw [q2] at BM eb
        rw [eb] at eh eg
        rw [bitsB_succ_f eh]
        cases q3 : aGuard c (c (40+k)).val (c (50+k)).val (c (5)).val
        · rw [q3] at GD eg
          rw [bitsB_succ_f eg]
          simp (disch := omega) only [y_0, y_1, y_2, y_3, y_4, y_5, y_6, y_7, y_8, y_9, y_10, y_11, y_12, y_13, y_14, y_15, y_16, y_17, y_18, y_19, y_20, y_21, y_22, y_23, y_24, y_29, y_30, y_31, y_32, y_39, y_40, y_48, y_49, y_50, y_60, y_64, y_69, y_78, y_99, y_100, y_142, y_161, y_600, y_610, y_894, y_999, y_1000, y_1216, y_1276, neg1, neg2, nI_add, nI_mul, nn_sub, nn_lt, nn_le, nn_eq, in_lt, ni_lt, in_le, ni_le, in_eq, ni_eq, iI_lt, iI_le, iI_eq, nn_clamp, inb_n, t_lt, f_lt, t_le, f_le, t_eq, f_eq, ti_lt, fi_lt, ti_le, fi_le, ti_eq, fi_eq, ↓reduceIte, ite_true, ite_false, eq_self, decide_true, decide_false, Bool.true_and, Bool.and_true, Bool.false_and, Bool.and_false, Bool.true_or, Bool.or_true, Bool.false_or, Bool.or_false, bI_t, bI_f, bI_nand, n_mod, an11, an01, negn1, negn2, false_and, and_false, true_and, and_true, not_true_eq_false, not_false_eq_true, bI_n0, bI_n1, Bool.true_eq_false, Bool.false_eq_true, cI_s, cL_s, cV_s, cR_n, pm_bR_self, bI_ite, bL_ite, bV_ite, bR_ite, m16, LO, BM, E_X9_passesHour_30, ck, E_X9_passesHour_73, GD, nn_or, Nat.or_zero]
        · rw [q3] at GD eg
          rw [bitsB_succ_t eg]
          simp (disch := omega) only [y_0, y_1, y_2, y_3, y_4, y_5, y_6, y_7, y_8, y_9, y_10, y_11, y_12, y_13, y_14, y_15, y_16, y_17, y_18, y_19, y_20, y_21, y_22, y_23, y_24, y_29, y_30, y_31, y_32, y_39, y_40, y_48, y_49, y_50, y_60, y_64, y_69, y_78, y_99, y_100, y_142, y_161, y_600, y_610, y_894, y_999, y_1000, y_1216, y_1276, neg1, neg2, nI_add, nI_mul, nn_sub, nn_lt, nn_le, nn_eq, in_lt, ni_lt, in_le, ni_le, in_eq, ni_eq, iI_lt, iI_le, iI_eq, nn_clamp, inb_n, t_lt, f_lt, t_le, f_le, t_eq, f_eq, ti_lt, fi_lt, ti_le, fi_le, ti_eq, fi_eq, ↓reduceIte, ite_true, ite_false, eq_self, decide_true, decide_false, Bool.true_and, Bool.and_true, Bool.false_and, Bool.and_false, Bool.true_or, Bool.or_true, Bool.false_or, Bool.or_false, bI_t, bI_f, bI_nand, n_mod, an11, an01, negn1, negn2, false_and, and_false, true_and, and_true, not_true_eq_false, not_false_eq_true, bI_n0, bI_n1, Bool.true_eq_false, Bool.false_eq_true, cI_s, cL_s, cV_s, cR_n, pm_bR_self, bI_ite, bL_ite, bV_ite, bR_ite, m16, LO, BM, E_X9_passesHour_30, ck, E_X9_passesHour_73, GD, nn_or, Nat.or_zero, nn_and, shl_1]
    · rw [q1] at LO eh eg
      rw [bitsB_succ_f eh, bitsB_succ_f eg]
      simp (disch := omega) only [y_0, y_1, y_2, y_3, y_4, y_5, y_6, y_7, y_8, y_9, y_10, y_11, y_12, y_13, y_14, y_15, y_16, y_17, y_18, y_19, y_20, y_21, y_22, y_23, y_24, y_29, y_30, y_31, y_32, y_39, y_40, y_48, y_49, y_50, y_60, y_64, y_69, y_78, y_99, y_100, y_142, y_161, y_600, y_610, y_894, y_999, y_1000, y_1216, y_1276, neg1, neg2, nI_add, nI_mul, nn_sub, nn_lt, nn_le, nn_eq, in_lt, ni_lt, in_le, ni_le, in_eq, ni_eq, iI_lt, iI_le, iI_eq, nn_clamp, inb_n, t_lt, f_lt, t_le, f_le, t_eq, f_eq, ti_lt, fi_lt, ti_le, fi_le, ti_eq, fi_eq, ↓reduceIte, ite_true, ite_false, eq_self, decide_true, decide_false, Bool.true_and, Bool.and_true, Bool.false_and, Bool.and_false, Bool.true_or, Bool.or_true, Bool.false_or, Bool.or_false, bI_t, bI_f, bI_nand, n_mod, an11, an01, negn1, negn2, false_and, and_false, true_and, and_true, not_true_eq_false, not_false_eq_true, bI_n0, bI_n1, Bool.true_eq_false, Bool.false_eq_true, cI_s, cL_s, cV_s, cR_n, pm_bR_self, bI_ite, bL_ite, bV_ite, bR_ite, m16, LO]
theorem hour_M {g : PH} {a : Nat} {σ : CrS} (hV : csV σ) (hM : CouM g a σ) : ∃ g', pm_ev (212, 0, [vr 8 0, none, none, none, none], [], g) = some (none, g') ∧ CouM g' a (aPass σ) ∧ kM g g' := by
  obtain ⟨c, hr, gn, st, ca⟩ := σ
  refine ⟨_, by rw [E_X9_passesHour]; exact hour_6 hV hM _ 0 (Nat.zero_add _), ?_, ?_, fun k hk => ?_⟩
  · obtain ⟨m1, m2, m3, m4, _, _, _, _⟩ := hM
    dsimp only at m1 m2 m3 m4
    have t33 : ∀ t k, t ≠ 8 → (pm_sI (pm_sI (pm_sI (pm_sI g 8 0 23 (nI (st ||| bitsB (hitB c (st ||| ca) hr) (c (6)).val))) 8 0 24 (nI (ca ||| bitsB (gotB c (st ||| ca) hr) (c (6)).val))) 8 0 22 (nI 0)) 8 0 25 (nI (hr + 1))).1 t 0 k = g.1 t 0 k := fun t k ht => by simp (disch := omega) only [sI_tag]
    refine ⟨m1.fr (fun k => t33 33 k (by decide)) (fun k _ _ => ?_), m2.fr (fun k => t33 36 k (by decide)) (fun k => t33 37 k (by decide)), fun s hs => (t33 38 s (by decide)).trans (m3 s hs), ?_, ?_, ?_, ?_, ?_⟩
    · simp (disch := omega) only [sI_pl]
    · simp (disch := omega) only [sI_pl]; exact m4
    · simp (disch := omega) only [sI_pl, sI_same]; rfl
    · simp (disch := omega) only [sI_pl, sI_same]; rfl
    · simp (disch := omega) only [sI_pl, sI_same]; rfl
    · simp (disch := omega) only [sI_same]; rfl
  · exact ((Fr.sI _ _ _ rfl).tr (Fr.sI _ _ _ rfl)).tr ((Fr.sI _ _ _ rfl).tr (Fr.sI _ _ _ rfl))
  · simp (disch := omega) only [sI_pl]
/-- any deed -/
def aDo (σ : CrS) (kd s b m : Nat) : Bool × CrS := if kd = 3 then (if σ.2.1 < 23 then (true, aPass σ) else (false, σ)) else aAct σ kd s b m
theorem aDo_V {σ : CrS} (hV : csV σ) {kd s b m : Nat} (hb : kd ≤ 1 → b < 4) (hm : m ≤ 9) : csV (aDo σ kd s b m).2 := by
  unfold aDo
  split
  · split
    · rename_i q; exact aPass_V hV q
    · exact hV
  · exact aAct_V hV hb hm
theorem CouM.fr {g g' : PH} {a : Nat} {σ : CrS} (hM : CouM g a σ) (h1 : ∀ t k, t ≠ 8 → g'.1 t 0 k = g.1 t 0 k) (h2 : ∀ k, k ≤ 25 → g'.1 8 0 k = g.1 8 0 k) : CouM g' a σ := by
  obtain ⟨m1, m2, m3, m4, m5, m6, m7, m8⟩ := hM
  exact ⟨m1.fr (fun k => h1 33 k (by decide)) (fun k _ _ => h2 k (by omega)), m2.fr (fun k => h1 36 k (by decide)) (fun k => h1 37 k (by decide)), fun s hs => (h1 38 s (by decide)).trans (m3 s hs), (h2 19 (by decide)).trans m4, (h2 22 (by decide)).trans m5, (h2 23 (by decide)).trans m6, (h2 24 (by decide)).trans m7, (h2 25 (by decide)).trans m8⟩
theorem does_M {g : PH} {a : Nat} {σ : CrS} (hV : csV σ) (hM : CouM g a σ) {kd s b m : Nat} (hk : kd < 4) (hs4 : s < 4) (S B C : Int32) (hs : kd ≠ 3 → S = nI s) (hb : kd ≤ 1 → B = nI b ∧ b < 4) (hm : kd = 1 → C = nI m ∧ m ≤ 9) : ∃ g', pm_ev (213, 0, [vr 8 0, vi (nI kd), vi S, vi B, vi C, none], [], g) = some (some (vi (bI (aDo σ kd s b m).1)), g') ∧ CouM g' a (aDo σ kd s b m).2 ∧ kM g g' := by
  unfold aDo
  by_cases k3 : kd = 3
  · subst k3
    rw [if_pos rfl, E_X9_does, if_pos (by rfl)]
    have h25 := hM.2.2.2.2.2.2.2
    have hh := hV.2.1
    by_cases q : σ.2.1 < 23
    · obtain ⟨g', e, hM', f⟩ := hour_M hV hM
      rw [if_pos q, h25, show (23 : Int32) = nI 23 from rfl, if_pos ((nn_lt (by omega) (by omega)).mpr q), e, cV_s, E_X9_does_20]
      exact ⟨g', rfl, hM', f⟩
    · rw [if_neg q, h25, show (23 : Int32) = nI 23 from rfl, if_neg (fun z => q ((nn_lt (by omega) (by omega)).mp z))]
      exact ⟨g, rfl, hM, kM.rf g⟩
  · rw [if_neg k3]
    have hsS := hs k3
    subst hsS
    obtain ⟨c, hr, gn, st, ca⟩ := σ
    have hv : cV c := hV.1
    have hm0 : ModS g a c := hM.1
    have hV1 := hv.1
    have IS := isShip_Mn hm0 (show s < 2147483648 by omega)
    have go : pm_ev (213, 0, [vr 8 0, vi (nI kd), vi (nI s), vi B, vi C, none], [], g) = pm_ev (213, 27, [vr 8 0, vi (nI kd), vi (nI s), vi B, vi C, none], [vi (bI (decide (s < (c (6)).val)))], g) := by
      rw [E_X9_does, show (3 : Int32) = nI 3 from rfl, if_neg (fun z => k3 ((nn_eq (by omega) (by omega)).mp z)), IS, cI_s]
    rw [go, E_X9_does_27]
    unfold aAct
    dsimp only
    by_cases q0 : s < (c (6)).val
    · rw [decide_eq_true q0, if_neg (by decide)]
      have LO := lost_M hV hM hs4
      rw [LO, cI_s, E_X9_does_35]
      cases q1 : (st ||| ca).testBit s
      · rw [if_pos (show bI false = (0 : Int32) from rfl), if_pos (show s < (c (6)).val ∧ false = false from ⟨q0, rfl⟩)]
        obtain ⟨_, hA, hc, h19, h22, h23, h24, h25⟩ := id hM
        dsimp only at hA hc h19 h22 h23 h24 h25
        obtain ⟨v1, v2, v3, _, v5, _⟩ := hv.2.2.1 s q0
        have : kd = 0 ∨ kd = 1 ∨ kd = 2 := by omega
        rcases this with e | e | e <;> subst e
        · obtain ⟨rfl, hb4⟩ := hb (by decide)
          have ST := stepTo_M hv hm0 v1 v2 hb4
          have ck := hc s q0
          rw [if_pos (show nI 0 = (0 : Int32) from rfl), if_pos (show (0 : Nat) = 0 from rfl)]
          have gb : gn < 16 := hV.2.2.1
          have st1 : pm_ev (213, 79, [vr 8 0, none, vi (nI s), vi (nI b), none, none], [vi (if stpOk c (c (40+s)).val (c (50+s)).val b = true then nI ((c (0)).val * (stpY (c (50+s)).val b).toNat + (stpX (c (40+s)).val b).toNat) else iI (-1))], g) = if gn.testBit s = false ∧ stpOk c (c (40+s)).val (c (50+s)).val b = true then some (some (vi (nI 1)), pm_sI (pm_sI g 8 0 22 (nI (gn ||| 2 ^ s))) 38 0 s (nI ((c (0)).val * (stpY (c (50+s)).val b).toNat + (stpX (c (40+s)).val b).toNat))) else some (some (vi (nI 0)), g) := by
            rw [E_X9_does_79]
            cases q2 : gn.testBit s
            · cases q3 : stpOk c (c (40+s)).val (c (50+s)).val b
              · rw [if_neg (show ¬ (false = true) by decide), if_neg (show ¬ (false = false ∧ false = true) by decide)]
                simp (disch := omega) only [y_0, y_1, y_2, y_3, y_4, y_5, y_6, y_7, y_8, y_9, y_10, y_11, y_12, y_13, y_14, y_15, y_16, y_17, y_18, y_19, y_20, y_21, y_22, y_23, y_24, y_29, y_30, y_31, y_32, y_39, y_40, y_48, y_49, y_50, y_60, y_64, y_69, y_78, y_99, y_100, y_142, y_161, y_600, y_610, y_894, y_999, y_1000, y_1216, y_1276, neg1, neg2, nI_add, nI_mul, nn_sub, nn_lt, nn_le, nn_eq, in_lt, ni_lt, in_le, ni_le, in_eq, ni_eq, iI_lt, iI_le, iI_eq, nn_clamp, inb_n, t_lt, f_lt, t_le, f_le, t_eq, f_eq, ti_lt, fi_lt, ti_le, fi_le, ti_eq, fi_eq, ↓reduceIte, ite_true, ite_false, eq_self, decide_true, decide_false, Bool.true_and, Bool.and_true, Bool.false_and, Bool.and_false, Bool.true_or, Bool.or_true, Bool.false_or, Bool.or_false, bI_t, bI_f, bI_nand, n_mod, an11, an01, negn1, negn2, false_and, and_false, true_and, and_true, not_true_eq_false, not_false_eq_true, bI_n0, bI_n1, Bool.true_eq_false, Bool.false_eq_true, cI_s, cL_s, cV_s, cR_n, pm_bR_self, bI_ite, bL_ite, bV_ite, bR_ite, h22, nn_and, shr_n, bit_i, q2, E_X9_does_93, E_X9_does_99]
              · have sl := stp_lt hv q3
                rw [if_pos (show (true = true) from rfl), if_pos (show (false = false ∧ true = true) from ⟨rfl, rfl⟩)]
                generalize (c (0)).val * (stpY (c (50+s)).val b).toNat + (stpX (c (40+s)).val b).toNat = to at *
                simp (disch := omega) only [y_0, y_1, y_2, y_3, y_4, y_5, y_6, y_7, y_8, y_9, y_10, y_11, y_12, y_13, y_14, y_15, y_16, y_17, y_18, y_19, y_20, y_21, y_22, y_23, y_24, y_29, y_30, y_31, y_32, y_39, y_40, y_48, y_49, y_50, y_60, y_64, y_69, y_78, y_99, y_100, y_142, y_161, y_600, y_610, y_894, y_999, y_1000, y_1216, y_1276, neg1, neg2, nI_add, nI_mul, nn_sub, nn_lt, nn_le, nn_eq, in_lt, ni_lt, in_le, ni_le, in_eq, ni_eq, iI_lt, iI_le, iI_eq, nn_clamp, inb_n, t_lt, f_lt, t_le, f_le, t_eq, f_eq, ti_lt, fi_lt, ti_le, fi_le, ti_eq, fi_eq, ↓reduceIte, ite_true, ite_false, eq_self, decide_true, decide_false, Bool.true_and, Bool.and_true, Bool.false_and, Bool.and_false, Bool.true_or, Bool.or_true, Bool.false_or, Bool.or_false, bI_t, bI_f, bI_nand, n_mod, an11, an01, negn1, negn2, false_and, and_false, true_and, and_true, not_true_eq_false, not_false_eq_true, bI_n0, bI_n1, Bool.true_eq_false, Bool.false_eq_true, cI_s, cL_s, cV_s, cR_n, pm_bR_self, bI_ite, bL_ite, bV_ite, bR_ite, h22, nn_and, shr_n, bit_i, q2, E_X9_does_93, E_X9_does_113, E_X9_does_121, shl_1, nn_or]
            · rw [if_neg (show ¬ (true = false ∧ stpOk c (c (40+s)).val (c (50+s)).val b = true) from fun z => by cases z.1)]
              generalize (if stpOk c (c (40+s)).val (c (50+s)).val b = true then nI ((c (0)).val * (stpY (c (50+s)).val b).toNat + (stpX (c (40+s)).val b).toNat) else iI (-1)) = to
              simp (disch := omega) only [y_0, y_1, y_2, y_3, y_4, y_5, y_6, y_7, y_8, y_9, y_10, y_11, y_12, y_13, y_14, y_15, y_16, y_17, y_18, y_19, y_20, y_21, y_22, y_23, y_24, y_29, y_30, y_31, y_32, y_39, y_40, y_48, y_49, y_50, y_60, y_64, y_69, y_78, y_99, y_100, y_142, y_161, y_600, y_610, y_894, y_999, y_1000, y_1216, y_1276, neg1, neg2, nI_add, nI_mul, nn_sub, nn_lt, nn_le, nn_eq, in_lt, ni_lt, in_le, ni_le, in_eq, ni_eq, iI_lt, iI_le, iI_eq, nn_clamp, inb_n, t_lt, f_lt, t_le, f_le, t_eq, f_eq, ti_lt, fi_lt, ti_le, fi_le, ti_eq, fi_eq, ↓reduceIte, ite_true, ite_false, eq_self, decide_true, decide_false, Bool.true_and, Bool.and_true, Bool.false_and, Bool.and_false, Bool.true_or, Bool.or_true, Bool.false_or, Bool.or_false, bI_t, bI_f, bI_nand, n_mod, an11, an01, negn1, negn2, false_and, and_false, true_and, and_true, not_true_eq_false, not_false_eq_true, bI_n0, bI_n1, Bool.true_eq_false, Bool.false_eq_true, cI_s, cL_s, cV_s, cR_n, pm_bR_self, bI_ite, bL_ite, bV_ite, bR_ite, h22, nn_and, shr_n, bit_i, q2, E_X9_does_99]
          have run : (if pm_inb (nI s) 4 = true then pm_ev (213, 75, [vr 8 0, none, vi (nI s), vi (nI b), none, none], [vi (g.1 38 0 (nI s).toNatClampNeg), vr 8 0], g) else none) = pm_ev (213, 79, [vr 8 0, none, vi (nI s), vi (nI b), none, none], [vi (if stpOk c (c (40+s)).val (c (50+s)).val b = true then nI ((c (0)).val * (stpY (c (50+s)).val b).toNat + (stpX (c (40+s)).val b).toNat) else iI (-1))], g) := by
            rw [if_pos (inb_n hs4 (by omega)), nn_clamp (by omega), ck, E_X9_does_75, ST, cI_s]
          rw [run, st1]
          by_cases q2 : gn.testBit s = false ∧ stpOk c (c (40+s)).val (c (50+s)).val b = true
          · rw [if_pos q2, if_pos q2]
            have ok := of_decide_eq_true q2.2
            have xv : (f64 (stpX (c (40+s)).val b).toNat).val = (stpX (c (40+s)).val b).toNat := f64_v (by omega)
            have yv : (f64 (stpY (c (50+s)).val b).toNat).val = (stpY (c (50+s)).val b).toNat := f64_v (by omega)
            refine ⟨_, rfl, ?_, (Fr.sI _ _ _ rfl).tr (Fr.sI _ _ _ rfl), fun k hk => ?_⟩
            · have M1 := simC.S hv (go_sim (show s < 4 by omega) (f64 (stpX (c (40+s)).val b).toNat) (f64 (stpY (c (50+s)).val b).toNat)) hm0
              refine ⟨M1.fr (fun k => ?_) (fun k _ _ => ?_), ?_, fun t ht => ?_, ?_, ?_, ?_, ?_, ?_⟩
              · simp (disch := omega) only [sI_tag]
              · simp (disch := omega) only [sI_tag, sI_pl]
              · refine AliveM.up hv (go_sim (show s < 4 by omega) _ _) (fun t ht => ?_)
                simp (disch := omega) only [sI_tag]
                obtain ⟨a1, a2⟩ := hA t ht
                rw [go_o c _ _ (i := 60+t) (by omega) (by omega)]
                refine ⟨a1, fun l hl => ?_⟩
                rw [go_o c _ _ (i := 100+(4*t+l)) (by omega) (by omega), go_o c _ _ (i := 120+(4*t+l)) (by omega) (by omega), go_o c _ _ (i := 140+(4*t+l)) (by omega) (by omega)]
                exact a2 l hl
              · dsimp only at ht ⊢
                rw [go_o c _ _ (i := 6) (by omega) (by omega)] at ht
                rw [go_o c _ _ (i := 0) (by omega) (by omega)]
                by_cases e : t = s
                · subst e; rw [sI_same, go_x, go_y, xv, yv]
                · rw [sI_pl _ _ _ _ _ e, sI_tag _ _ _ _ _ _ (by decide), go_o c _ _ (by omega) (by omega), go_o c _ _ (by omega) (by omega)]; exact hc t ht
              · simp (disch := omega) only [sI_tag, sI_pl]; exact h19
              · simp (disch := omega) only [sI_tag, sI_same]
              · simp (disch := omega) only [sI_tag, sI_pl]; exact h23
              · simp (disch := omega) only [sI_tag, sI_pl]; exact h24
              · simp (disch := omega) only [sI_tag, sI_pl]; exact h25
            · simp (disch := omega) only [sI_tag, sI_pl]
          · rw [if_neg q2, if_neg q2]
            exact ⟨g, rfl, hM, kM.rf g⟩
        · obtain ⟨rfl, hb4⟩ := hb (by decide)
          obtain ⟨rfl, hm9⟩ := hm rfl
          have O := of_M3 hv hm0 q0
          have fv : (f64 m).val = m := f64_v (by omega)
          rw [if_neg (show ¬ nI 1 = (0 : Int32) by decide), if_pos (show nI 1 = (1 : Int32) from rfl), if_neg (show ¬ (1 : Nat) = 0 by decide), if_pos (show (1 : Nat) = 1 from rfl), show (3 : Int32) = nI 3 from rfl, O, cI_s, E_X9_does_130]
          by_cases q2 : b < (c (80+s)).val
          · rw [if_pos q2, if_pos (show nI b < nI (c (80+s)).val from (nn_lt (by omega) (by omega)).mpr q2)]
            have run : (if pm_inb (12 * nI s + 3 * nI b) 48 = true then pm_ev (213, 149, [vr 8 0, none, vi (nI s), vi (nI b), vi (nI m), none], [], pm_sI g 36 0 (12 * nI s + 3 * nI b).toNatClampNeg 0) else none) = some (some (vi (nI 1)), pm_sI (pm_sI g 36 0 (12*s+3*b) (nI 0)) 36 0 (12*s+3*b+1) (nI m)) := by
              simp (disch := omega) only [y_0, y_1, y_2, y_3, y_4, y_5, y_6, y_7, y_8, y_9, y_10, y_11, y_12, y_13, y_14, y_15, y_16, y_17, y_18, y_19, y_20, y_21, y_22, y_23, y_24, y_29, y_30, y_31, y_32, y_39, y_40, y_48, y_49, y_50, y_60, y_64, y_69, y_78, y_99, y_100, y_142, y_161, y_600, y_610, y_894, y_999, y_1000, y_1216, y_1276, neg1, neg2, nI_add, nI_mul, nn_sub, nn_lt, nn_le, nn_eq, in_lt, ni_lt, in_le, ni_le, in_eq, ni_eq, iI_lt, iI_le, iI_eq, nn_clamp, inb_n, t_lt, f_lt, t_le, f_le, t_eq, f_eq, ti_lt, fi_lt, ti_le, fi_le, ti_eq, fi_eq, ↓reduceIte, ite_true, ite_false, eq_self, decide_true, decide_false, Bool.true_and, Bool.and_true, Bool.false_and, Bool.and_false, Bool.true_or, Bool.or_true, Bool.false_or, Bool.or_false, bI_t, bI_f, bI_nand, n_mod, an11, an01, negn1, negn2, false_and, and_false, true_and, and_true, not_true_eq_false, not_false_eq_true, bI_n0, bI_n1, Bool.true_eq_false, Bool.false_eq_true, cI_s, cL_s, cV_s, cR_n, pm_bR_self, bI_ite, bL_ite, bV_ite, bR_ite, E_X9_does_149, E_X9_does_166]
            rw [run]
            have PA := plain_A hv hA q0 q2 (f64 m)
            rw [fv] at PA
            refine ⟨_, rfl, ⟨(simC.S hv (plain_sim (show s < 4 by omega) hb4 (f64 m)) hm0).fr (fun k => ?_) (fun k _ _ => ?_), PA, fun t ht => ?_, ?_, ?_, ?_, ?_, ?_⟩, (Fr.sI _ _ _ rfl).tr (Fr.sI _ _ _ rfl), fun k hk => ?_⟩
            · simp (disch := omega) only [sI_tag]
            · simp (disch := omega) only [sI_tag]
            · dsimp only at ht ⊢
              rw [plain_o c _ (i := 6) (by omega) (by omega)] at ht
              rw [plain_o c _ (i := 0) (by omega) (by omega), plain_o c _ (i := 40+t) (by omega) (by omega), plain_o c _ (i := 50+t) (by omega) (by omega)]
              simp (disch := omega) only [sI_tag]; exact hc t ht
            · simp (disch := omega) only [sI_tag]; exact h19
            · simp (disch := omega) only [sI_tag]; exact h22
            · simp (disch := omega) only [sI_tag]; exact h23
            · simp (disch := omega) only [sI_tag]; exact h24
            · simp (disch := omega) only [sI_tag]; exact h25
            · simp (disch := omega) only [sI_tag]
          · rw [if_neg q2, if_neg (show ¬ nI b < nI (c (80+s)).val from fun z => q2 ((nn_lt (by omega) (by omega)).mp z))]
            exact ⟨g, rfl, hM, kM.rf g⟩
        · rw [if_neg (show ¬ nI 2 = (0 : Int32) by decide), if_neg (show ¬ nI 2 = (1 : Int32) by decide), if_neg (show ¬ (2 : Nat) = 0 by decide), if_neg (show ¬ (2 : Nat) = 1 by decide)]
          have s2 := (hA s q0).1
          by_cases q2 : (c (60+s)).val = 0
          · have T : (if pm_inb (nI s) 4 = true then pm_ev (213, 174, [vr 8 0, none, vi (nI s), none, none, none], [vi (g.1 37 0 (nI s).toNatClampNeg)], g) else none) = some (some (vi (nI 0)), g) := by
              simp (disch := omega) only [y_0, y_1, y_2, y_3, y_4, y_5, y_6, y_7, y_8, y_9, y_10, y_11, y_12, y_13, y_14, y_15, y_16, y_17, y_18, y_19, y_20, y_21, y_22, y_23, y_24, y_29, y_30, y_31, y_32, y_39, y_40, y_48, y_49, y_50, y_60, y_64, y_69, y_78, y_99, y_100, y_142, y_161, y_600, y_610, y_894, y_999, y_1000, y_1216, y_1276, neg1, neg2, nI_add, nI_mul, nn_sub, nn_lt, nn_le, nn_eq, in_lt, ni_lt, in_le, ni_le, in_eq, ni_eq, iI_lt, iI_le, iI_eq, nn_clamp, inb_n, t_lt, f_lt, t_le, f_le, t_eq, f_eq, ti_lt, fi_lt, ti_le, fi_le, ti_eq, fi_eq, ↓reduceIte, ite_true, ite_false, eq_self, decide_true, decide_false, Bool.true_and, Bool.and_true, Bool.false_and, Bool.and_false, Bool.true_or, Bool.or_true, Bool.false_or, Bool.or_false, bI_t, bI_f, bI_nand, n_mod, an11, an01, negn1, negn2, false_and, and_false, true_and, and_true, not_true_eq_false, not_false_eq_true, bI_n0, bI_n1, Bool.true_eq_false, Bool.false_eq_true, cI_s, cL_s, cV_s, cR_n, pm_bR_self, bI_ite, bL_ite, bV_ite, bR_ite, s2, E_X9_does_174]
            rw [if_pos q2, T]
            exact ⟨g, rfl, hM, kM.rf g⟩
          · have T : (if pm_inb (nI s) 4 = true then pm_ev (213, 174, [vr 8 0, none, vi (nI s), none, none, none], [vi (g.1 37 0 (nI s).toNatClampNeg)], g) else none) = some (some (vi (nI 1)), pm_sI g 37 0 s (nI ((c (60+s)).val - 1))) := by
              simp (disch := omega) only [y_0, y_1, y_2, y_3, y_4, y_5, y_6, y_7, y_8, y_9, y_10, y_11, y_12, y_13, y_14, y_15, y_16, y_17, y_18, y_19, y_20, y_21, y_22, y_23, y_24, y_29, y_30, y_31, y_32, y_39, y_40, y_48, y_49, y_50, y_60, y_64, y_69, y_78, y_99, y_100, y_142, y_161, y_600, y_610, y_894, y_999, y_1000, y_1216, y_1276, neg1, neg2, nI_add, nI_mul, nn_sub, nn_lt, nn_le, nn_eq, in_lt, ni_lt, in_le, ni_le, in_eq, ni_eq, iI_lt, iI_le, iI_eq, nn_clamp, inb_n, t_lt, f_lt, t_le, f_le, t_eq, f_eq, ti_lt, fi_lt, ti_le, fi_le, ti_eq, fi_eq, ↓reduceIte, ite_true, ite_false, eq_self, decide_true, decide_false, Bool.true_and, Bool.and_true, Bool.false_and, Bool.and_false, Bool.true_or, Bool.or_true, Bool.false_or, Bool.or_false, bI_t, bI_f, bI_nand, n_mod, an11, an01, negn1, negn2, false_and, and_false, true_and, and_true, not_true_eq_false, not_false_eq_true, bI_n0, bI_n1, Bool.true_eq_false, Bool.false_eq_true, cI_s, cL_s, cV_s, cR_n, pm_bR_self, bI_ite, bL_ite, bV_ite, bR_ite, s2, E_X9_does_174, E_X9_does_186, E_X9_does_189]
            rw [if_neg q2, T]
            have CA := cargo_Al hv hA q0 (f64 ((c (60+s)).val - 1))
            rw [f64_v (by omega)] at CA
            refine ⟨_, rfl, ⟨(simC.S hv (cargo_sim (show s < 4 by omega) (f64 ((c (60+s)).val - 1))) hm0).fr (fun k => ?_) (fun k _ _ => ?_), CA, fun t ht => ?_, ?_, ?_, ?_, ?_, ?_⟩, Fr.sI _ _ _ rfl, fun k hk => ?_⟩
            · simp (disch := omega) only [sI_tag]
            · simp (disch := omega) only [sI_tag]
            · dsimp only at ht ⊢
              unfold cargoA at ht ⊢
              rw [cU_ne c _ (show 6 ≠ 60+s by omega)] at ht
              rw [cU_ne c _ (show 0 ≠ 60+s by omega), cU_ne c _ (show 40+t ≠ 60+s by omega), cU_ne c _ (show 50+t ≠ 60+s by omega)]
              simp (disch := omega) only [sI_tag]; exact hc t ht
            · simp (disch := omega) only [sI_tag]; exact h19
            · simp (disch := omega) only [sI_tag]; exact h22
            · simp (disch := omega) only [sI_tag]; exact h23
            · simp (disch := omega) only [sI_tag]; exact h24
            · simp (disch := omega) only [sI_tag]; exact h25
            · simp (disch := omega) only [sI_tag]
      · rw [if_neg (show ¬ bI true = (0 : Int32) by decide), E_X9_does_38, if_neg (show ¬ (s < (c (6)).val ∧ true = false) from fun z => by cases z.2)]
        exact ⟨g, rfl, hM, kM.rf g⟩
    · rw [decide_eq_false q0, if_pos (by rfl), E_X9_does_38, if_neg (fun z => q0 z.1)]
      exact ⟨g, rfl, hM, kM.rf g⟩
