/-! ===== images ===== -/
def pT (p t i : Nat) : Bool := i == p && (t == 0 || t == 2 || t == 3 || (Nat.ble 10 t && Nat.ble t 23))
theorem pT_t {p t : Nat} (h : t = 0 ∨ t = 2 ∨ t = 3 ∨ (10 ≤ t ∧ t ≤ 23)) : pT p t p = true := by
  unfold pT
  rcases h with e | e | e | e
  · subst e; simp
  · subst e; simp
  · subst e; simp
  · rw [Nat.ble_eq_true_of_le e.1, Nat.ble_eq_true_of_le e.2]; simp
theorem pT_n {p t i : Nat} (h : i ≠ p) : pT p t i = false := by
  unfold pT
  rw [beq_eq_false_iff_ne.mpr h, Bool.false_and]
theorem coCopy (h : PH) {j o : Nat} (hne : j ≠ o) : ∃ h', pm_ev (1, 0, [vr 0 o, vr 0 j], [], h) = some (none, h') ∧ Fr (coT o) h h' ∧ ∀ c, cV c → CoastC h j c → CoastC h' o c := by
  have ex : ∃ h', pm_ev (1, 0, [vr 0 o, vr 0 j], [], h) = some (none, h') ∧ Fr (coT o) h h' := by
    have fI : ∀ (h : PH) k v, Fr (coT o) h (pm_sI h 0 o k v) := fun h k v => Fr.sI _ _ _ (by simp [coT])
    have fL : ∀ (h : PH) k v, Fr (coT o) h (pm_sL h 0 o k v) := fun h k v => Fr.sL _ _ _ (by simp [coT])
    have fC : ∀ (h : PH) t a b n, 10 ≤ t → t ≤ 18 → Fr (coT o) h (pm_cp h t j a t o b n) := fun h t a b n h1 h2 => Fr.cp _ _ _ _ _ _ (by
      unfold coT
      rw [Nat.ble_eq_true_of_le h1, Nat.ble_eq_true_of_le h2]; simp)
    refine ⟨_, by rw [E_X0_copyFrom, E_X0_copyFrom_56, E_X0_copyFrom_70, E_X0_copyFrom_84, E_X0_copyFrom_98, E_X0_copyFrom_112, E_X0_copyFrom_126, E_X0_copyFrom_140, E_X0_copyFrom_155, E_X0_copyFrom_170], ?_⟩
    exact (((((((fI _ _ _).tr (fI _ _ _)).tr (fI _ _ _)).tr (fI _ _ _)).tr (fL _ _ _)).tr (fI _ _ _)).tr (fI _ _ _)).tr (((((((((fC _ 10 _ _ _ (by decide) (by decide)).tr (fC _ 11 _ _ _ (by decide) (by decide))).tr (fC _ 12 _ _ _ (by decide) (by decide))).tr (fC _ 13 _ _ _ (by decide) (by decide))).tr (fC _ 14 _ _ _ (by decide) (by decide))).tr (fC _ 15 _ _ _ (by decide) (by decide))).tr (fC _ 16 _ _ _ (by decide) (by decide))).tr (fC _ 17 _ _ _ (by decide) (by decide))).tr (fC _ 18 _ _ _ (by decide) (by decide)))
  obtain ⟨h', e, f⟩ := ex
  refine ⟨h', e, f, fun c hv hC => ?_⟩
  obtain ⟨h2, e2, c2, _⟩ := copyFrom_C (o := o) hv hC hne
  rw [e] at e2
  injection e2 with e3
  injection e3 with _ e4
  rw [e4]; exact c2
theorem coT_pT {o t i : Nat} (h : pT o t i = false) : coT o t i = false := by
  unfold pT at h
  unfold coT
  cases q : (i == o)
  · rfl
  · rw [q, Bool.true_and] at h
    simp only [Bool.or_eq_false_iff] at h
    obtain ⟨⟨⟨h0, _⟩, _⟩, h1⟩ := h
    rw [h0]
    cases q1 : Nat.ble 10 t
    · rfl
    · cases q2 : Nat.ble t 18
      · rfl
      · have := Nat.le_of_ble_eq_true q2
        rw [q1, Nat.ble_eq_true_of_le (show t ≤ 23 by omega)] at h1
        cases h1
theorem niCopy (h : PH) {j o : Nat} (hne : j ≠ o) : ∃ h', pm_ev (62, 0, [vr 3 o, vr 3 j], [], h) = some (none, h') ∧ Fr (fun t i => i == o && (t == 3 || t == 22 || t == 23)) h h' ∧ ∀ n, nV n → NightC h j n → NightC h' o n := by
  refine ⟨pm_cp (pm_cp (pm_sI h 3 o 0 (h.1 3 j 0)) 22 j 0 22 o 0 40) 23 j 0 23 o 0 120, ?_, ((Fr.sI _ _ _ (by simp)).tr (Fr.cp _ _ _ _ _ _ (by simp))).tr (Fr.cp _ _ _ _ _ _ (by simp)), fun n hv hN => ?_⟩
  · rw [E_X3_copyFrom, E_X3_copyFrom_23]; rfl
  · obtain ⟨n0, nk⟩ := hN
    have hv0 := hv.1
    refine ⟨?_, fun k hk => ?_⟩
    · simp (disch := omega) only [sI_same, sI_tag, sI_num, sI_pl, sI_2, sL_1, sL_same, sL_tag, sL_num, sL_pl, cp_in, cp_tag, cp_num, cp_2]; exact n0
    · simp (disch := omega) only [sI_same, sI_tag, sI_num, sI_pl, sI_2, sL_1, sL_same, sL_tag, sL_num, sL_pl, cp_in, cp_tag, cp_num, cp_2, Nat.zero_add, Nat.sub_zero]; exact nk k hk
theorem loCopy (h : PH) {j o : Nat} (hne : j ≠ o) : ∃ h', pm_ev (44, 0, [vr 2 o, vr 2 j], [], h) = some (none, h') ∧ Fr (fun t i => i == o && (t == 2 || t == 19 || t == 20 || t == 21)) h h' ∧ ∀ l, lV l → LogC h j l → LogC h' o l := by
  refine ⟨pm_cp (pm_cp (pm_cp (pm_sI (pm_sI (pm_sI (pm_sI h 2 o 0 (h.1 2 j 0)) 2 o 2 (h.1 2 j 2)) 2 o 3 (h.1 2 j 3)) 2 o 4 (h.1 2 j 4)) 19 j 0 19 o 0 6) 20 j 0 20 o 0 10) 21 j 0 21 o 0 10, ?_, ((((((Fr.sI _ _ _ (by simp)).tr (Fr.sI _ _ _ (by simp))).tr (Fr.sI _ _ _ (by simp))).tr (Fr.sI _ _ _ (by simp))).tr (Fr.cp _ _ _ _ _ _ (by simp))).tr (Fr.cp _ _ _ _ _ _ (by simp))).tr (Fr.cp _ _ _ _ _ _ (by simp)), fun l hv hL => ?_⟩
  · rw [E_X2_copyFrom, E_X2_copyFrom_47, E_X2_copyFrom_62]
    rfl
  · obtain ⟨⟨l0, l1, l2, l3⟩, lm, lf⟩ := hL
    have hV1 := hv.1
    refine ⟨⟨?_, ?_, ?_, ?_⟩, fun k hk => ?_, fun k hk => ?_⟩
    · simp (disch := omega) only [sI_same, sI_tag, sI_num, sI_pl, sI_2, sL_1, sL_same, sL_tag, sL_num, sL_pl, cp_in, cp_tag, cp_num, cp_2]; exact l0
    · simp (disch := omega) only [sI_same, sI_tag, sI_num, sI_pl, sI_2, sL_1, sL_same, sL_tag, sL_num, sL_pl, cp_in, cp_tag, cp_num, cp_2]; exact l1
    · simp (disch := omega) only [sI_same, sI_tag, sI_num, sI_pl, sI_2, sL_1, sL_same, sL_tag, sL_num, sL_pl, cp_in, cp_tag, cp_num, cp_2]; exact l2
    · simp (disch := omega) only [sI_same, sI_tag, sI_num, sI_pl, sI_2, sL_1, sL_same, sL_tag, sL_num, sL_pl, cp_in, cp_tag, cp_num, cp_2]; exact l3
    · simp (disch := omega) only [sI_same, sI_tag, sI_num, sI_pl, sI_2, sL_1, sL_same, sL_tag, sL_num, sL_pl, cp_in, cp_tag, cp_num, cp_2, Nat.zero_add, Nat.sub_zero]; exact lm k hk
    · simp (disch := omega) only [sI_same, sI_tag, sI_num, sI_pl, sI_2, sL_1, sL_same, sL_tag, sL_num, sL_pl, cp_in, cp_tag, cp_num, cp_2, Nat.zero_add, Nat.sub_zero]; exact lf k hk
theorem tStep (h : PH) {o a k : Nat} (hne : o ≠ a) (hk : k < 2) : ∃ h', pm_ev (107, 60, [vr 6 o, vr 6 a, vi (nI k)], [], h) = pm_ev (107, 60, [vr 6 o, vr 6 a, vi (nI (k + 1))], [], h') ∧ Fr (pT (k + (2*o+0))) h h' ∧ (∀ c, cV c → CoastC h (k + (2*a+0)) c → CoastC h' (k + (2*o+0)) c) ∧ (∀ n, nV n → NightC h (k + (2*a+0)) n → NightC h' (k + (2*o+0)) n) ∧ ∀ l, lV l → LogC h (k + (2*a+0)) l → LogC h' (k + (2*o+0)) l := by
  have ne : k + (2*a+0) ≠ k + (2*o+0) := by omega
  obtain ⟨h1, e1, f1, c1⟩ := coCopy h ne
  obtain ⟨h2, e2, f2, c2⟩ := niCopy h1 ne
  obtain ⟨h3, e3, f3, c3⟩ := loCopy h2 ne
  have e60 := E_X7_copyFrom_60 h o a (nI k)
  generalize hp : k + (2*o+0) = p at *
  generalize hq : k + (2*a+0) = q at *
  have g2 : Fr (pT p) h1 h2 := f2.mono (fun t i z => by
    cases q1 : (i == p)
    · rfl
    · have e : i = p := eq_of_beq q1
      subst e
      rw [Bool.true_and]
      cases q2 : (t == 3 || t == 22 || t == 23)
      · rfl
      · simp only [Bool.or_eq_true, beq_iff_eq] at q2
        rw [pT_t (by omega)] at z; cases z)
  have g3 : Fr (pT p) h2 h3 := f3.mono (fun t i z => by
    cases q1 : (i == p)
    · rfl
    · have e : i = p := eq_of_beq q1
      subst e
      rw [Bool.true_and]
      cases q2 : (t == 2 || t == 19 || t == 20 || t == 21)
      · rfl
      · simp only [Bool.or_eq_true, beq_iff_eq] at q2
        rw [pT_t (by omega)] at z; cases z)
  refine ⟨h3, ?_, ((f1.mono (fun _ _ => coT_pT)).tr g2).tr g3, fun c hv x => ?_, fun n hv x => ?_, fun l hv x => ?_⟩
  · have i2 : pm_inb (nI k) 2 = true := inb_n hk (by omega)
    rw [nn_clamp (by omega), hp, hq] at e60
    rw [e60, show (2 : Int32) = nI 2 from rfl, if_pos ((nn_lt (by omega) (by decide)).mpr hk), if_pos i2, if_pos i2, e1, cV_s, if_pos i2, if_pos i2, e2, cV_s, if_pos i2, if_pos i2, e3, cV_s, show (1 : Int32) = nI 1 from rfl, nI_add]
  · have x1 := c1 c hv x
    refine x1.fr (fun t i h1 h2 => ?_) ?_
    · rw [(f3 t p (by
        have : (t == 2 || t == 19 || t == 20 || t == 21) = false := by simp only [Bool.or_eq_false_iff, beq_eq_false_iff_ne]; omega
        dsimp only; rw [this, Bool.and_false]) i).1, (f2 t p (by
        have : (t == 3 || t == 22 || t == 23) = false := by simp only [Bool.or_eq_false_iff, beq_eq_false_iff_ne]; omega
        dsimp only; rw [this, Bool.and_false]) i).1]
    · rw [(f3 0 p (by simp) 4).2, (f2 0 p (by simp) 4).2]
  · have nc : ∀ t, (t = 3 ∨ t = 22 ∨ t = 23) → coT p t q = false := fun t _ => by unfold coT; rw [beq_eq_false_iff_ne.mpr ne, Bool.false_and]
    have x1 : NightC h1 q n := x.fr (fun i => (f1 3 q (nc 3 (by omega)) i).1) (fun i => (f1 22 q (nc 22 (by omega)) i).1) (fun i => (f1 23 q (nc 23 (by omega)) i).1)
    exact (c2 n hv x1).fr (fun i => (f3 3 p (by simp) i).1) (fun i => (f3 22 p (by simp) i).1) (fun i => (f3 23 p (by simp) i).1)
  · have n0 : (q == p) = false := beq_eq_false_iff_ne.mpr ne
    have nc : ∀ t, coT p t q = false := fun t => by unfold coT; rw [n0, Bool.false_and]
    have x1 : LogC h1 q l := x.fr (fun i => (f1 2 q (nc 2) i).1) (fun i => (f1 19 q (nc 19) i).1) (fun i => (f1 20 q (nc 20) i).1) (fun i => (f1 21 q (nc 21) i).1)
    have x2 : LogC h2 q l := x1.fr (fun i => (f2 2 q (by dsimp only; rw [n0]; rfl) i).1) (fun i => (f2 19 q (by dsimp only; rw [n0]; rfl) i).1) (fun i => (f2 20 q (by dsimp only; rw [n0]; rfl) i).1) (fun i => (f2 21 q (by dsimp only; rw [n0]; rfl) i).1)
    exact c3 l hv x2
theorem pT_toT {o k t i : Nat} (hk : k < 2) (h : toT o t i = false) : pT (k + (2*o+0)) t i = false := by
  cases q : pT (k + (2*o+0)) t i
  · rfl
  · unfold pT at q
    rw [Bool.and_eq_true] at q
    have e : i = k + (2*o+0) := eq_of_beq q.1
    unfold toT at h
    rw [Bool.or_eq_false_iff] at h
    have h2 := h.2
    have e1 : (i == 2*o || i == 2*o+1) = true := by
      have : k = 0 ∨ k = 1 := by omega
      rcases this with z | z <;> subst z <;> subst e <;> simp <;> omega
    rw [e1, q.2] at h2
    cases h2
theorem tCopy (h : PH) {o a : Nat} (hne : o ≠ a) : ∃ h', pm_ev (107, 0, [vr 6 o, vr 6 a, none], [], h) = some (none, h') ∧ Fr (toT o) h h' ∧ ∀ g g' : PH, (∀ k, k < 1276 → g'.1 33 0 k = g.1 33 0 k) → RR h a g → RR h' o g' := by
  -- tape, numbers, counts
  generalize hH : pm_cp (pm_sI (pm_sI (pm_sI (pm_cp h 26 a 0 26 o 0 600) 6 o 1 (h.1 6 a 1)) 6 o 2 (h.1 6 a 2)) 6 o 3 (h.1 6 a 3)) 27 a 0 27 o 0 3 = h0
  have e0 : pm_ev (107, 0, [vr 6 o, vr 6 a, none], [], h) = pm_ev (107, 60, [vr 6 o, vr 6 a, vi (nI 0)], [], h0) := by
    rw [E_X7_copyFrom, E_X7_copyFrom_16, E_X7_copyFrom_58, ← hH]
    have na : a ≠ o := fun z => hne z.symm
    simp (disch := omega) only [y_0, y_1, y_2, y_3, y_4, y_5, y_6, y_7, y_8, y_9, y_10, y_11, y_12, y_13, y_14, y_15, y_16, y_17, y_18, y_19, y_20, y_21, y_22, y_23, y_24, y_29, y_30, y_31, y_32, y_39, y_40, y_48, y_49, y_50, y_60, y_64, y_69, y_78, y_99, y_100, y_142, y_161, y_600, y_610, y_894, y_999, y_1000, y_1216, y_1276, neg1, neg2, nI_add, nI_mul, nn_sub, nn_lt, nn_le, nn_eq, in_lt, ni_lt, in_le, ni_le, in_eq, ni_eq, iI_lt, iI_le, iI_eq, nn_clamp, inb_n, t_lt, f_lt, t_le, f_le, t_eq, f_eq, ti_lt, fi_lt, ti_le, fi_le, ti_eq, fi_eq, ↓reduceIte, ite_true, ite_false, eq_self, decide_true, decide_false, Bool.true_and, Bool.and_true, Bool.false_and, Bool.and_false, Bool.true_or, Bool.or_true, Bool.false_or, Bool.or_false, bI_t, bI_f, bI_nand, n_mod, an11, an01, negn1, negn2, false_and, and_false, true_and, and_true, not_true_eq_false, not_false_eq_true, bI_n0, bI_n1, Bool.true_eq_false, Bool.false_eq_true, cI_s, cL_s, cV_s, cR_n, pm_bR_self, bI_ite, bL_ite, bV_ite, bR_ite, sI_same, sI_tag, sI_num, sI_pl, sI_2, sL_1, sL_same, sL_tag, sL_num, sL_pl, cp_in, cp_tag, cp_num, cp_2]
  have f0 : Fr (fun t i => i == o && (t == 6 || t == 26 || t == 27)) h h0 := by
    rw [← hH]
    exact ((((Fr.cp _ _ _ _ _ _ (by simp)).tr (Fr.sI _ _ _ (by simp))).tr (Fr.sI _ _ _ (by simp))).tr (Fr.sI _ _ _ (by simp))).tr (Fr.cp _ _ _ _ _ _ (by simp))
  obtain ⟨h1, e1, f1, c1, n1, l1⟩ := tStep h0 (k := 0) hne (by decide)
  obtain ⟨h2, e2, f2, c2, n2, l2⟩ := tStep h1 (k := 1) hne (by decide)
  have F0 : Fr (toT o) h h0 := f0.mono (fun t i z => by unfold toT at z; rw [Bool.or_eq_false_iff] at z; exact z.1)
  have F1 : Fr (toT o) h0 h1 := f1.mono (fun t i z => pT_toT (by decide) z)
  have F2 : Fr (toT o) h1 h2 := f2.mono (fun t i z => pT_toT (by decide) z)
  refine ⟨h2, ?_, (F0.tr F1).tr F2, fun g g' g33 r => ?_⟩
  · rw [e0, e1, e2, E_X7_copyFrom_60, if_neg (by decide)]
  · have z0 : ∀ t i, (t = 0 ∨ t = 2 ∨ t = 3 ∨ (10 ≤ t ∧ t ≤ 23)) → (i == o && (t == 6 || t == 26 || t == 27)) = false := fun t i ht => by
      have : (t == 6 || t == 26 || t == 27) = false := by simp only [Bool.or_eq_false_iff, beq_eq_false_iff_ne]; omega
      rw [this, Bool.and_false]
    have C0 : ∀ j c, CoastC h j c → CoastC h0 j c := fun j c x => x.fr (fun t i h1 h2 => (f0 t j (z0 t j (by omega)) i).1) (f0 0 j (z0 0 j (by omega)) 4).2
    have N0 : ∀ j n, NightC h j n → NightC h0 j n := fun j n x => x.fr (fun i => (f0 3 j (z0 3 j (by omega)) i).1) (fun i => (f0 22 j (z0 22 j (by omega)) i).1) (fun i => (f0 23 j (z0 23 j (by omega)) i).1)
    have L0 : ∀ j l, LogC h j l → LogC h0 j l := fun j l x => x.fr (fun i => (f0 2 j (z0 2 j (by omega)) i).1) (fun i => (f0 19 j (z0 19 j (by omega)) i).1) (fun i => (f0 20 j (z0 20 j (by omega)) i).1) (fun i => (f0 21 j (z0 21 j (by omega)) i).1)
    have C1 : ∀ j c, j ≠ 0 + (2*o+0) → CoastC h0 j c → CoastC h1 j c := fun j c hj x => x.fr (fun t i _ _ => (f1 t j (pT_n hj) i).1) (f1 0 j (pT_n hj) 4).2
    have N1 : ∀ j n, j ≠ 0 + (2*o+0) → NightC h0 j n → NightC h1 j n := fun j n hj x => x.fr (fun i => (f1 3 j (pT_n hj) i).1) (fun i => (f1 22 j (pT_n hj) i).1) (fun i => (f1 23 j (pT_n hj) i).1)
    have L1 : ∀ j l, j ≠ 0 + (2*o+0) → LogC h0 j l → LogC h1 j l := fun j l hj x => x.fr (fun i => (f1 2 j (pT_n hj) i).1) (fun i => (f1 19 j (pT_n hj) i).1) (fun i => (f1 20 j (pT_n hj) i).1) (fun i => (f1 21 j (pT_n hj) i).1)
    have C2 : ∀ j c, j ≠ 1 + (2*o+0) → CoastC h1 j c → CoastC h2 j c := fun j c hj x => x.fr (fun t i _ _ => (f2 t j (pT_n hj) i).1) (f2 0 j (pT_n hj) 4).2
    have N2 : ∀ j n, j ≠ 1 + (2*o+0) → NightC h1 j n → NightC h2 j n := fun j n hj x => x.fr (fun i => (f2 3 j (pT_n hj) i).1) (fun i => (f2 22 j (pT_n hj) i).1) (fun i => (f2 23 j (pT_n hj) i).1)
    have L2 : ∀ j l, j ≠ 1 + (2*o+0) → LogC h1 j l → LogC h2 j l := fun j l hj x => x.fr (fun i => (f2 2 j (pT_n hj) i).1) (fun i => (f2 19 j (pT_n hj) i).1) (fun i => (f2 20 j (pT_n hj) i).1) (fun i => (f2 21 j (pT_n hj) i).1)
    have p6 : ∀ p t i, (t = 6 ∨ t = 26 ∨ t = 27) → pT p t i = false := fun p t i ht => by
      unfold pT
      rcases ht with z | z | z <;> subst z <;> simp [show Nat.ble 10 6 = false from rfl, show Nat.ble 26 23 = false from rfl, show Nat.ble 27 23 = false from rfl]
    have k6 : ∀ t i, (t = 6 ∨ t = 26 ∨ t = 27) → h2.1 t o i = h0.1 t o i := fun t i ht => ((f2 t o (p6 _ t o ht) i).1).trans (f1 t o (p6 _ t o ht) i).1
    have na : a ≠ o := fun z => hne z.symm
    refine r.mv (fun k hk c hv x => ?_) (fun k hk n hv x => ?_) (fun k hk l hv x => ?_) (fun k hk => ?_) (fun k h1 h2 => ?_) (fun k hk => ?_) g33
    · have : k = 0 ∨ k = 1 := by omega
      rcases this with e | e <;> subst e
      · exact C2 _ c (by omega) (c1 c hv (C0 _ c x))
      · exact c2 c hv (C1 _ c (by omega) (C0 _ c x))
    · have : k = 0 ∨ k = 1 := by omega
      rcases this with e | e <;> subst e
      · exact N2 _ n (by omega) (n1 n hv (N0 _ n x))
      · exact n2 n hv (N1 _ n (by omega) (N0 _ n x))
    · have : k = 0 ∨ k = 1 := by omega
      rcases this with e | e <;> subst e
      · exact L2 _ l (by omega) (l1 l hv (L0 _ l x))
      · exact l2 l hv (L1 _ l (by omega) (L0 _ l x))
    · rw [k6 27 k (by omega), ← hH]
      simp (disch := omega) only [sI_same, sI_tag, sI_num, sI_pl, sI_2, sL_1, sL_same, sL_tag, sL_num, sL_pl, cp_in, cp_tag, cp_num, cp_2, Nat.zero_add, Nat.sub_zero]
    · rw [k6 6 k (by omega), ← hH]
      have : k = 1 ∨ k = 2 ∨ k = 3 := by omega
      rcases this with e | e | e <;> subst e <;> simp (disch := omega) only [sI_same, sI_tag, sI_num, sI_pl, sI_2, sL_1, sL_same, sL_tag, sL_num, sL_pl, cp_in, cp_tag, cp_num, cp_2]
    · rw [k6 26 k (by omega), ← hH]
      simp (disch := omega) only [sI_same, sI_tag, sI_num, sI_pl, sI_2, sL_1, sL_same, sL_tag, sL_num, sL_pl, cp_in, cp_tag, cp_num, cp_2, Nat.zero_add, Nat.sub_zero]
