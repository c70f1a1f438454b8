/-! ===== lines: the class ===== -/
def nN (q : Nat) : Nat := [2, 2, 2, 3, 4, 1, 1, 0, 2, 1, 0, 1, 2, 3, 1, 0, 1, 1, 1, 1, 1].getD q 0
def mO (q k : Nat) : Nat := [8, 8, 0, 0, 7, 7, 0, 0, 7, 7, 0, 0, 7, 7, 7, 0, 7, 7, 9, 9, 20, 0, 0, 0, 9, 0, 0, 0, 0, 0, 0, 0, 9, 23, 0, 0, 9, 0, 0, 0, 0, 0, 0, 0, 3, 0, 0, 0, 3, 3, 0, 0, 3, 3, 9, 0, 3, 0, 0, 0, 0, 0, 0, 0, 10, 0, 0, 0, 6, 0, 0, 0, 9, 0, 0, 0, 23, 0, 0, 0, 23, 0, 0, 0].getD (4*q+k) 0
def lO (q : Nat) : Nat := if q = 0 then 2 else if q = 5 ∨ q = 17 then 1 else 0
theorem t63_v : ∀ q, q < 21 → st_t63.getD q 0 = nI (nN q) ∧ nN q ≤ 4 := by decide +kernel
theorem t64_v : ∀ q, q < 21 → ∀ k, k < 4 → st_t64.getD (4*q+k) 0 = nI (mO q k) ∧ mO q k ≤ 23 := by decide +kernel
theorem lO_le (q : Nat) : lO q ≤ 2 := by
  unfold lO
  repeat' split
  all_goals omega
theorem least_C (h : PH) {q : Nat} (hq : q < 21) : pm_ev (75, 0, [vi (nI q)], [], h) = some (some (vi (nI (lO q))), h) := by
  rw [E_X4_least]
  unfold lO
  by_cases q0 : q = 0
  · rw [if_pos q0]; simp (disch := omega) only [y_0, y_1, y_2, y_3, y_4, y_5, y_6, y_7, y_8, y_9, y_10, y_11, y_12, y_13, y_14, y_15, y_16, y_17, y_18, y_19, y_20, y_21, y_22, y_23, y_24, y_29, y_30, y_31, y_32, y_39, y_40, y_48, y_49, y_50, y_60, y_64, y_69, y_78, y_99, y_100, y_142, y_161, y_600, y_610, y_894, y_999, y_1000, y_1216, y_1276, neg1, neg2, nI_add, nI_mul, nn_sub, nn_lt, nn_le, nn_eq, in_lt, ni_lt, in_le, ni_le, in_eq, ni_eq, iI_lt, iI_le, iI_eq, nn_clamp, inb_n, t_lt, f_lt, t_le, f_le, t_eq, f_eq, ti_lt, fi_lt, ti_le, fi_le, ti_eq, fi_eq, ↓reduceIte, ite_true, ite_false, eq_self, decide_true, decide_false, Bool.true_and, Bool.and_true, Bool.false_and, Bool.and_false, Bool.true_or, Bool.or_true, Bool.false_or, Bool.or_false, bI_t, bI_f, bI_nand, n_mod, an11, an01, negn1, negn2, false_and, and_false, true_and, and_true, not_true_eq_false, not_false_eq_true, bI_n0, bI_n1, Bool.true_eq_false, Bool.false_eq_true, cI_s, cL_s, cV_s, cR_n, pm_bR_self, bI_ite, bL_ite, bV_ite, bR_ite]
  · rw [if_neg q0]
    by_cases q1 : q = 5
    · rw [if_pos (Or.inl q1)]; simp (disch := omega) only [y_0, y_1, y_2, y_3, y_4, y_5, y_6, y_7, y_8, y_9, y_10, y_11, y_12, y_13, y_14, y_15, y_16, y_17, y_18, y_19, y_20, y_21, y_22, y_23, y_24, y_29, y_30, y_31, y_32, y_39, y_40, y_48, y_49, y_50, y_60, y_64, y_69, y_78, y_99, y_100, y_142, y_161, y_600, y_610, y_894, y_999, y_1000, y_1216, y_1276, neg1, neg2, nI_add, nI_mul, nn_sub, nn_lt, nn_le, nn_eq, in_lt, ni_lt, in_le, ni_le, in_eq, ni_eq, iI_lt, iI_le, iI_eq, nn_clamp, inb_n, t_lt, f_lt, t_le, f_le, t_eq, f_eq, ti_lt, fi_lt, ti_le, fi_le, ti_eq, fi_eq, ↓reduceIte, ite_true, ite_false, eq_self, decide_true, decide_false, Bool.true_and, Bool.and_true, Bool.false_and, Bool.and_false, Bool.true_or, Bool.or_true, Bool.false_or, Bool.or_false, bI_t, bI_f, bI_nand, n_mod, an11, an01, negn1, negn2, false_and, and_false, true_and, and_true, not_true_eq_false, not_false_eq_true, bI_n0, bI_n1, Bool.true_eq_false, Bool.false_eq_true, cI_s, cL_s, cV_s, cR_n, pm_bR_self, bI_ite, bL_ite, bV_ite, bR_ite]
    · by_cases q2 : q = 17
      · rw [if_pos (Or.inr q2)]; simp (disch := omega) only [y_0, y_1, y_2, y_3, y_4, y_5, y_6, y_7, y_8, y_9, y_10, y_11, y_12, y_13, y_14, y_15, y_16, y_17, y_18, y_19, y_20, y_21, y_22, y_23, y_24, y_29, y_30, y_31, y_32, y_39, y_40, y_48, y_49, y_50, y_60, y_64, y_69, y_78, y_99, y_100, y_142, y_161, y_600, y_610, y_894, y_999, y_1000, y_1216, y_1276, neg1, neg2, nI_add, nI_mul, nn_sub, nn_lt, nn_le, nn_eq, in_lt, ni_lt, in_le, ni_le, in_eq, ni_eq, iI_lt, iI_le, iI_eq, nn_clamp, inb_n, t_lt, f_lt, t_le, f_le, t_eq, f_eq, ti_lt, fi_lt, ti_le, fi_le, ti_eq, fi_eq, ↓reduceIte, ite_true, ite_false, eq_self, decide_true, decide_false, Bool.true_and, Bool.and_true, Bool.false_and, Bool.and_false, Bool.true_or, Bool.or_true, Bool.false_or, Bool.or_false, bI_t, bI_f, bI_nand, n_mod, an11, an01, negn1, negn2, false_and, and_false, true_and, and_true, not_true_eq_false, not_false_eq_true, bI_n0, bI_n1, Bool.true_eq_false, Bool.false_eq_true, cI_s, cL_s, cV_s, cR_n, pm_bR_self, bI_ite, bL_ite, bV_ite, bR_ite]
      · rw [if_neg (show ¬ (q = 5 ∨ q = 17) by omega)]; simp (disch := omega) only [y_0, y_1, y_2, y_3, y_4, y_5, y_6, y_7, y_8, y_9, y_10, y_11, y_12, y_13, y_14, y_15, y_16, y_17, y_18, y_19, y_20, y_21, y_22, y_23, y_24, y_29, y_30, y_31, y_32, y_39, y_40, y_48, y_49, y_50, y_60, y_64, y_69, y_78, y_99, y_100, y_142, y_161, y_600, y_610, y_894, y_999, y_1000, y_1216, y_1276, neg1, neg2, nI_add, nI_mul, nn_sub, nn_lt, nn_le, nn_eq, in_lt, ni_lt, in_le, ni_le, in_eq, ni_eq, iI_lt, iI_le, iI_eq, nn_clamp, inb_n, t_lt, f_lt, t_le, f_le, t_eq, f_eq, ti_lt, fi_lt, ti_le, fi_le, ti_eq, fi_eq, ↓reduceIte, ite_true, ite_false, eq_self, decide_true, decide_false, Bool.true_and, Bool.and_true, Bool.false_and, Bool.and_false, Bool.true_or, Bool.or_true, Bool.false_or, Bool.or_false, bI_t, bI_f, bI_nand, n_mod, an11, an01, negn1, negn2, false_and, and_false, true_and, and_true, not_true_eq_false, not_false_eq_true, bI_n0, bI_n1, Bool.true_eq_false, Bool.false_eq_true, cI_s, cL_s, cV_s, cR_n, pm_bR_self, bI_ite, bL_ite, bV_ite, bR_ite]
/-- how the class's reader shows it -/
def PCt (h : PH) (n : Nat) (x : Nat × Nat × Nat) : Prop := h.1 4 0 8 = nI x.1 ∧ h.1 4 0 3 = nI x.2.1 ∧ h.1 4 0 4 = plI x.2.1 x.2.2 ∧ x.1 ≤ n ∧ x.2.1 ≤ 6 ∧ (x.2.1 ≠ 0 → x.2.2 < x.1)
/-- only the reader's fields and numbers change -/
def frR (h h' : PH) : Prop := (∀ t i x, ¬ (t = 4 ∧ i = 0 ∧ (x = 3 ∨ x = 4 ∨ x = 6 ∨ x = 7 ∨ x = 8)) → ¬ (t = 24 ∧ i = 0) → h'.1 t i x = h.1 t i x) ∧ h'.2 = h.2
theorem frR.rf (h : PH) : frR h h := ⟨fun _ _ _ _ _ => rfl, rfl⟩
theorem frR.tr {a b c : PH} (h1 : frR a b) (h2 : frR b c) : frR a c := ⟨fun t i x h h' => (h2.1 t i x h h').trans (h1.1 t i x h h'), h2.2.trans h1.2⟩
theorem frR.s4 (h : PH) {x : Nat} (hx : x = 3 ∨ x = 4 ∨ x = 6 ∨ x = 7 ∨ x = 8) (v : Int32) : frR h (pm_sI h 4 0 x v) := ⟨fun t i y hh _ => by rw [pm_sI_at, if_neg (fun q => hh ⟨q.1, q.2.1, by omega⟩)], rfl⟩
theorem frR.s24 (h : PH) (x : Nat) (v : Int32) : frR h (pm_sI h 24 0 x v) := ⟨fun t i y _ hh => by rw [pm_sI_at, if_neg (fun q => hh ⟨q.1, q.2.1⟩)], rfl⟩
theorem frR.ad (h : PH) (k w e : Nat) : frR h (adC h k w e) := ((frR.s4 _ (by omega) _).tr (frR.s4 _ (by omega) _)).tr (frR.s4 _ (by omega) _)
theorem TapC.frR {h h' : PH} {n : Nat} {T : Nat → Nat} (hf : frR h h') (hT : TapC h n T) : TapC h' n T := fun k hk => ⟨(hT k hk).1, (hf.1 26 0 k (by omega) (by omega)).trans (hT k hk).2⟩
theorem StC.frR {h h' : PH} (hf : frR h h') (hS : StC h) : StC h' := ⟨fun i k => (hf.1 61 i k (by omega) (by omega)).trans (hS.1 i k), fun k => (hf.1 62 0 k (by omega) (by omega)).trans (hS.2.1 k), fun k => (hf.1 63 0 k (by omega) (by omega)).trans (hS.2.2.1 k), fun k => (hf.1 64 0 k (by omega) (by omega)).trans (hS.2.2.2 k)⟩
theorem note_C {h : PH} {f pl k w : Nat} (h3 : h.1 4 0 3 = nI f) (h4 : h.1 4 0 4 = plI f pl) (hf : f ≤ 6) (hk : 2 ≤ k) (hk6 : k ≤ 6) : ∃ h', pm_ev (66, 0, [vr 4 0, vi (nI k), vi (nI w)], [], h) = some (none, h') ∧ h'.1 4 0 3 = nI (nt1 f pl k w).1 ∧ h'.1 4 0 4 = plI (nt1 f pl k w).1 (nt1 f pl k w).2 ∧ (nt1 f pl k w).1 ≤ 6 ∧ (∀ t i x, ¬ (t = 4 ∧ i = 0 ∧ (x = 3 ∨ x = 4)) → h'.1 t i x = h.1 t i x) ∧ h'.2 = h.2 := by
  rw [E_X4_note, h3]
  unfold nt1
  by_cases q : f = 0
  · subst q
    rw [if_pos (show (0 = 0 ∧ k ≠ 0) from ⟨rfl, by omega⟩), if_pos (show nI 0 = (0 : Int32) from rfl)]
    refine ⟨_, rfl, ?_, ?_, hk6, fun t i x hx => ?_, rfl⟩
    · rw [sI_pl _ _ _ _ _ (by decide), sI_same]
    · rw [sI_same]
      show nI w = plI k w
      unfold plI
      rw [if_neg (by omega)]
    · rw [pm_sI_at, if_neg (fun z => hx ⟨z.1, z.2.1, by omega⟩), pm_sI_at, if_neg (fun z => hx ⟨z.1, z.2.1, by omega⟩)]
  · rw [if_neg (show ¬ (f = 0 ∧ k ≠ 0) from fun z => q z.1), if_neg (show ¬ nI f = 0 from fun z => q ((nn_eq (by omega) (by decide)).mp (z.trans (show (0 : Int32) = nI 0 from rfl))))]
    exact ⟨h, rfl, h3, h4, hf, fun _ _ _ _ => rfl, rfl⟩
theorem numHere_7 {h : PH} {n w e : Nat} {T : Nat → Nat} (hT : TapC h n T) (hn : n ≤ 600) (he : e ≤ n) (h8 : h.1 4 0 8 = nI e) (hl : e - w ≤ 2) (hd : ∀ i, w ≤ i → i < e → isD (T i) = true) : ∀ r k, k + r = e - w → w ≤ e → pm_ev (74, 7, [vr 4 0, vr 26 0, vi (nI (nuF T w k)), vi (nI (w + k))], [], h) = some (some (vi (nI (nuF T w (e - w)))), h) := by
  intro r
  induction r with
  | zero =>
    intro k hk hw
    have hk : k = e - w := by omega
    rw [E_X4_numberHere_7, h8, if_neg (fun z => by have := (nn_lt (by omega) (by omega)).mp z; omega), hk]
  | succ r ih =>
    intro k hk hw
    have ek := ih (k + 1) (by omega) hw
    obtain ⟨b1, b2⟩ := hT (w + k) (by omega)
    have dg := hd (w + k) (by omega) (by omega)
    unfold isD at dg
    have dg := of_decide_eq_true dg
    have nl := nuF_lt (T := T) (w := w) (m := k) (by omega) (fun i hi => (hT _ (by omega)).1)
    rw [← ek, E_X4_numberHere_7]
    have es : nuF T w (k + 1) = 10 * nuF T w k + (T (w + k) - 48) := rfl
    rw [es, show 10 * nuF T w k + (T (w + k) - 48) = 10 * nuF T w k + T (w + k) - 48 by omega, ← Nat.add_assoc]
    generalize hwk : w + k = wk at *
    generalize nuF T w k = v at *
    simp (disch := omega) only [y_0, y_1, y_2, y_3, y_4, y_5, y_6, y_7, y_8, y_9, y_10, y_11, y_12, y_13, y_14, y_15, y_16, y_17, y_18, y_19, y_20, y_21, y_22, y_23, y_24, y_29, y_30, y_31, y_32, y_39, y_40, y_48, y_49, y_50, y_60, y_64, y_69, y_78, y_99, y_100, y_142, y_161, y_600, y_610, y_894, y_999, y_1000, y_1216, y_1276, neg1, neg2, nI_add, nI_mul, nn_sub, nn_lt, nn_le, nn_eq, in_lt, ni_lt, in_le, ni_le, in_eq, ni_eq, iI_lt, iI_le, iI_eq, nn_clamp, inb_n, t_lt, f_lt, t_le, f_le, t_eq, f_eq, ti_lt, fi_lt, ti_le, fi_le, ti_eq, fi_eq, ↓reduceIte, ite_true, ite_false, eq_self, decide_true, decide_false, Bool.true_and, Bool.and_true, Bool.false_and, Bool.and_false, Bool.true_or, Bool.or_true, Bool.false_or, Bool.or_false, bI_t, bI_f, bI_nand, n_mod, an11, an01, negn1, negn2, false_and, and_false, true_and, and_true, not_true_eq_false, not_false_eq_true, bI_n0, bI_n1, Bool.true_eq_false, Bool.false_eq_true, cI_s, cL_s, cV_s, cR_n, pm_bR_self, bI_ite, bL_ite, bV_ite, bR_ite, h8, b2]
theorem numHere_C {h : PH} {n w e : Nat} {T : Nat → Nat} (hT : TapC h n T) (hn : n ≤ 600) (he : e ≤ n) (hw : w ≤ e) (h7 : h.1 4 0 7 = nI w) (h8 : h.1 4 0 8 = nI e) (hl : e - w ≤ 2) (hd : ∀ i, w ≤ i → i < e → isD (T i) = true) : pm_ev (74, 0, [vr 4 0, vr 26 0, none, none], [], h) = some (some (vi (nI (nuF T w (e - w)))), h) := by
  rw [E_X4_numberHere, h7]
  exact numHere_7 hT hn he h8 hl hd _ 0 (Nat.zero_add _) hw
theorem tK_2d {T : Nat → Nat} {n w : Nat} (h : tK T n w = 2) : ∀ i, w ≤ i → i < tE T n w → isD (T i) = true := fun i h1 h2 => by
  unfold tK at h
  split at h
  · rename_i q
    split at h
    · omega
    · rename_i q1
      split at h
      · rename_i q2
        unfold tE at h2
        rw [if_pos q, if_neg q1, if_pos q2] at h2
        exact run_in (P := fun i => isD (T i)) (n := n) _ _ rfl i h1 h2
      · split at h <;> omega
  · omega
/-- one number of a line -/
theorem num_37 {h : PH} {T : Nat → Nat} {n q k : Nat} {x : Nat × Nat × Nat} (hS : StC h) (hT : TapC h n T) (hn : n ≤ 600) (hq : q < 21) (hk : k < nN q) (hP : PCt h n x) :
    (tK T n (tS T n x.1) = 2 → ∃ h' y, aNum T n (lO q) (mO q k) (.inr x) = ((aNum T n (lO q) (mO q k) (.inr x)).1, .inr y) ∧ pm_ev (70, 37, [vr 4 0, vr 26 0, vi (nI n), none, vi (nI q), vi (nI k)], [], h) = pm_ev (70, 37, [vr 4 0, vr 26 0, vi (nI n), none, vi (nI q), vi (nI (k + 1))], [], h') ∧ PCt h' n y ∧ frR h h' ∧ (∀ j, j ≠ k → h'.1 24 0 j = h.1 24 0 j) ∧ (y.2.1 = 0 → h'.1 24 0 k = nI (aNum T n (lO q) (mO q k) (.inr x)).1)) ∧
    (tK T n (tS T n x.1) ≠ 2 → ∃ h', aNum T n (lO q) (mO q k) (.inr x) = (lO q, .inl (tS T n x.1)) ∧ pm_ev (70, 37, [vr 4 0, vr 26 0, vi (nI n), none, vi (nI q), vi (nI k)], [], h) = some (some (vi (nI 0)), h') ∧ h'.1 4 0 7 = nI (tS T n x.1) ∧ frR h h') := by
  obtain ⟨p, f, pl⟩ := x
  obtain ⟨h8, h3, h4, hp, hf, h7⟩ := hP
  dsimp only at h8 h3 h4 hp hf h7 ⊢
  obtain ⟨c1, c2⟩ := t63_v q hq
  have hk4 : k < 4 := by omega
  obtain ⟨m1, m2⟩ := t64_v q hq k hk4
  have lo2 := lO_le q
  have hw := tS_le (T := T) hp
  have he := tE_le (T := T) hw.2
  have f1 : frR h (pm_sI h 24 0 k (-1)) := frR.s24 _ _ _
  have AD := advance_C (h := pm_sI h 24 0 k (-1)) (hT.frR f1) hn hp (by rw [sI_tag _ _ _ _ _ _ (by decide)]; exact h8)
  have f2 := f1.tr (frR.ad (pm_sI h 24 0 k (-1)) (tK T n (tS T n p)) (tS T n p) (tE T n (tS T n p)))
  have st : pm_ev (70, 37, [vr 4 0, vr 26 0, vi (nI n), none, vi (nI q), vi (nI k)], [], h) = (if (adC (pm_sI h 24 0 k (-1)) (tK T n (tS T n p)) (tS T n p) (tE T n (tS T n p))).1 4 0 6 = 2 then (pm_bI (pm_ev (74, 0, [vr 4 0, vr 26 0, none, none], [], adC (pm_sI h 24 0 k (-1)) (tK T n (tS T n p)) (tS T n p) (tE T n (tS T n p)))) fun r8 h7 => (if pm_inb (nI k) 4 = true then pm_ev (70, 97, [vr 4 0, vr 26 0, vi (nI n), none, vi (nI q), vi (nI k)], [], (pm_sI h7 24 0 k r8)) else none)) else some (some (vi 0), adC (pm_sI h 24 0 k (-1)) (tK T n (tS T n p)) (tS T n p) (tE T n (tS T n p)))) := by
    rw [E_X4_readLine_37, show (4 : Int32) = nI 4 from rfl, if_pos ((nn_lt (by omega) (by decide)).mpr hk4), if_pos (inb_n hk4 (by omega)), nn_clamp (by omega), E_X4_readLine_55, if_pos (inb_n hq (by omega)), nn_clamp (by omega), sI_tag _ _ _ _ _ _ (by decide), (hS.2.2.1 q).trans c1, E_X4_readLine_63, if_pos ((nn_lt (by omega) (by omega)).mpr hk), AD, cV_s]
    simp only [nn_clamp (show k < 2147483648 by omega)]
  have v6 : ∀ H k w e, (adC H k w e).1 4 0 6 = nI k := fun H k w e => sI_same _ _ _ _ _
  have v8 : ∀ H k w e, (adC H k w e).1 4 0 8 = nI e := fun H k w e => by unfold adC; rw [sI_pl _ _ _ _ _ (by decide), sI_same]
  have v7 : ∀ H k w e, (adC H k w e).1 4 0 7 = nI w := fun H k w e => by unfold adC; rw [sI_pl _ _ _ _ _ (by decide), sI_pl _ _ _ _ _ (by decide), sI_same]
  constructor
  · intro k2
    obtain ⟨wn, wl⟩ := tK_2 k2
    have wg := tE_gt (T := T) wn
    have nl := nuF_lt (T := T) (w := tS T n p) wl (fun i hi => (hT _ (by omega)).1)
    have NH := numHere_C (hT.frR f2) hn he.2 he.1 (v7 _ _ _ _) (v8 _ _ _ _) wl (tK_2d k2)
    generalize hA : adC (pm_sI h 24 0 k (-1)) (tK T n (tS T n p)) (tS T n p) (tE T n (tS T n p)) = h1 at *
    have x8 : h1.1 4 0 8 = nI (tE T n (tS T n p)) := by rw [← hA]; exact v8 _ _ _ _
    have x7 : h1.1 4 0 7 = nI (tS T n p) := by rw [← hA]; exact v7 _ _ _ _
    have x6 : h1.1 4 0 6 = nI 2 := by rw [← hA, v6, k2]
    have x3 : h1.1 4 0 3 = nI f := by
      rw [← hA]; unfold adC
      rw [sI_pl _ _ _ _ _ (by decide), sI_pl _ _ _ _ _ (by decide), sI_pl _ _ _ _ _ (by decide), sI_tag _ _ _ _ _ _ (by decide)]; exact h3
    have x4 : h1.1 4 0 4 = plI f pl := by
      rw [← hA]; unfold adC
      rw [sI_pl _ _ _ _ _ (by decide), sI_pl _ _ _ _ _ (by decide), sI_pl _ _ _ _ _ (by decide), sI_tag _ _ _ _ _ _ (by decide)]; exact h4
    have x24 : ∀ j, j ≠ k → h1.1 24 0 j = h.1 24 0 j := fun j hj => by
      rw [← hA]; unfold adC
      rw [sI_tag _ _ _ _ _ _ (by decide), sI_tag _ _ _ _ _ _ (by decide), sI_tag _ _ _ _ _ _ (by decide), sI_pl _ _ _ _ _ hj]
    have t64 : ∀ H : PH, frR h H → H.1 64 0 (4*q+k) = nI (mO q k) := fun H hH => ((hS.frR hH).2.2.2 _).trans m1
    have an : aNum T n (lO q) (mO q k) (.inr (p, f, pl)) = (if lO q ≤ nuF T (tS T n p) (tE T n (tS T n p) - tS T n p) ∧ nuF T (tS T n p) (tE T n (tS T n p) - tS T n p) ≤ mO q k then (nuF T (tS T n p) (tE T n (tS T n p) - tS T n p), .inr (tE T n (tS T n p), f, pl)) else (lO q, .inr (tE T n (tS T n p), (nt1 f pl 2 (tS T n p)).1, (nt1 f pl 2 (tS T n p)).2))) := if_pos k2
    generalize hv : nuF T (tS T n p) (tE T n (tS T n p) - tS T n p) = v at *
    have f3 : frR h (pm_sI h1 24 0 k (nI v)) := f2.tr (frR.s24 _ _ _)
    have go : pm_ev (70, 37, [vr 4 0, vr 26 0, vi (nI n), none, vi (nI q), vi (nI k)], [], h) = pm_ev (70, 104, [vr 4 0, vr 26 0, vi (nI n), none, vi (nI q), vi (nI k)], [vi (nI v)], pm_sI h1 24 0 k (nI v)) := by
      rw [st, x6, if_pos (by rfl), NH, cI_s, if_pos (inb_n hk4 (by omega)), E_X4_readLine_97, if_pos (inb_n hk4 (by omega)), nn_clamp (by omega), sI_same]
    have LE := least_C (pm_sI h1 24 0 k (nI v)) hq
    rw [go, E_X4_readLine_104, LE, cI_s, sI_tag _ _ _ _ _ _ (show (4 : Nat) ≠ 24 by decide), x7]
    by_cases q2 : lO q ≤ v ∧ v ≤ mO q k
    · rw [if_pos q2] at an
      refine ⟨pm_sI h1 24 0 k (nI v), (tE T n (tS T n p), f, pl), by rw [an], ?_, ⟨?_, ?_, ?_, he.2, hf, fun z => by have := h7 z; dsimp only; omega⟩, f3, fun j hj => (sI_pl _ _ _ _ _ hj).trans (x24 j hj), fun _ => by rw [an, sI_same]⟩
      · rw [if_neg (fun z => by have := (nn_lt (by omega) (by omega)).mp z; omega), if_pos (inb_n hk4 (by omega)), nn_clamp (by omega), sI_same, E_X4_readLine_119, show (4 : Int32) = nI 4 from rfl, nI_mul, nI_add, if_pos (inb_n (by omega) (by omega)), nn_clamp (by omega), t64 _ f3, E_X4_readLine_130, if_neg (fun z => by have := (nn_lt (by omega) (by omega)).mp z; omega), show (1 : Int32) = nI 1 from rfl, nI_add]
      · exact (sI_tag _ _ _ _ _ _ (by decide)).trans x8
      · exact (sI_tag _ _ _ _ _ _ (by decide)).trans x3
      · exact (sI_tag _ _ _ _ _ _ (by decide)).trans x4
    · rw [if_neg q2] at an
      obtain ⟨h2, e2, y3, y4, y6, yf, y2⟩ := note_C (h := pm_sI h1 24 0 k (nI v)) (k := 2) (w := tS T n p) ((sI_tag _ _ _ _ _ _ (by decide)).trans x3) ((sI_tag _ _ _ _ _ _ (by decide)).trans x4) hf (by decide) (by decide)
      have f4 : frR (pm_sI h1 24 0 k (nI v)) h2 := ⟨fun t i x hx _ => yf t i x (fun z => hx ⟨z.1, z.2.1, by omega⟩), y2⟩
      refine ⟨h2, (tE T n (tS T n p), (nt1 f pl 2 (tS T n p)).1, (nt1 f pl 2 (tS T n p)).2), by rw [an], ?_, ⟨?_, y3, y4, he.2, y6, fun z => ?_⟩, f3.tr f4, fun j hj => ?_, fun z => ?_⟩
      · by_cases q3 : v < lO q
        · rw [if_pos ((nn_lt (by omega) (by omega)).mpr q3), show (2 : Int32) = nI 2 from rfl, e2, cV_s, show (1 : Int32) = nI 1 from rfl, nI_add]
        · rw [if_neg (fun z => q3 ((nn_lt (by omega) (by omega)).mp z)), if_pos (inb_n hk4 (by omega)), nn_clamp (by omega), sI_same, E_X4_readLine_119, show (4 : Int32) = nI 4 from rfl, nI_mul, nI_add, if_pos (inb_n (by omega) (by omega)), nn_clamp (by omega), t64 _ f3, E_X4_readLine_130, if_pos ((nn_lt (by omega) (by omega)).mpr (by omega)), sI_tag _ _ _ _ _ _ (show (4 : Nat) ≠ 24 by decide), x7, show (2 : Int32) = nI 2 from rfl, e2, cV_s, show (1 : Int32) = nI 1 from rfl, nI_add]
      · rw [yf 4 0 8 (by omega), sI_tag _ _ _ _ _ _ (by decide)]; exact x8
      · dsimp only at z ⊢
        unfold nt1 at z ⊢
        split
        · exact wg
        · rename_i q3
          rw [if_neg q3] at z
          have := h7 z
          dsimp only
          omega
      · rw [yf 24 0 j (by omega), sI_pl _ _ _ _ _ hj]; exact x24 j hj
      · exfalso
        dsimp only at z
        unfold nt1 at z
        split at z
        · cases z
        · rename_i q3
          exact q3 ⟨z, by decide⟩
  · intro k2
    have an : aNum T n (lO q) (mO q k) (.inr (p, f, pl)) = (lO q, .inl (tS T n p)) := if_neg k2
    have k4 : tK T n (tS T n p) ≤ 4 := by
      unfold tK
      repeat' split
      all_goals omega
    refine ⟨_, an, ?_, v7 _ _ _ _, f2⟩
    rw [st, v6, if_neg (show ¬ nI (tK T n (tS T n p)) = 2 from fun z => k2 ((nn_eq (by omega) (by decide)).mp (z.trans (show (2 : Int32) = nI 2 from rfl))))]
    rfl
