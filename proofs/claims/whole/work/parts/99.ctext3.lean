/-- the cells of one told thing of sort s and number k -/
def kT (s k t i : Nat) : Bool := i == k && (if s = 0 then (t == 0 || (Nat.ble 10 t && Nat.ble t 18)) else if s = 1 then (t == 3 || t == 22 || t == 23) else (t == 2 || t == 19 || t == 20 || t == 21))
def gdC (s : Nat) (h : PH) (k : Nat) (c : AC) : Prop := if s = 0 then CoastC h k c else if s = 1 then NightC h k c else LogC h k c
theorem take_74 {h : PH} {s k m : Nat} (hs : s < 3) (hk : k < 2) (hm : m ≤ 2) (h27 : h.1 27 0 s = nI m) : pm_ev (106, 74, [vr 6 0, none, vi (nI s), vi (nI k)], [], h) = some (none, pm_sI h 27 0 s (nI (max m (k + 1)))) := by
  have i3 : pm_inb (nI s) 3 = true := inb_n hs (by omega)
  have e1 : nI k + 1 = nI (k + 1) := by rw [show (1 : Int32) = nI 1 from rfl, nI_add]
  rw [E_X7_take_74, if_pos i3, if_pos i3, nn_clamp (by omega), h27, e1, max_v (by omega) (by omega)]
theorem take_C {h : PH} {s k m : Nat} (hs : s < 3) (hk : k < 2) (hm : m ≤ 2) (h27 : h.1 27 0 s = nI m) : ∃ h1, pm_ev (106, 0, [vr 6 0, vr 4 0, vi (nI s), vi (nI k)], [], h) = some (none, pm_sI h1 27 0 s (nI (max m (k + 1)))) ∧ Fr (kT s k) h h1 ∧ ∀ c, gdV s c → gdC s h 8 c → gdC s h1 k c := by
  have st : pm_ev (106, 0, [vr 6 0, vr 4 0, vi (nI s), vi (nI k)], [], h) = pm_ev (106, 20, [vr 6 0, vr 4 0, vi (nI s), vi (nI k)], [], h) := by
    rw [E_X7_take, E_X7_held]
    simp (disch := omega) only [y_0, y_1, y_2, y_3, y_4, y_5, y_6, y_7, y_8, y_9, y_10, y_11, y_12, y_13, y_14, y_15, y_16, y_17, y_18, y_19, y_20, y_21, y_22, y_23, y_24, y_29, y_30, y_31, y_32, y_39, y_40, y_48, y_49, y_50, y_60, y_64, y_69, y_78, y_99, y_100, y_142, y_161, y_600, y_610, y_894, y_999, y_1000, y_1216, y_1276, neg1, neg2, nI_add, nI_mul, nn_sub, nn_lt, nn_le, nn_eq, in_lt, ni_lt, in_le, ni_le, in_eq, ni_eq, iI_lt, iI_le, iI_eq, nn_clamp, inb_n, t_lt, f_lt, t_le, f_le, t_eq, f_eq, ti_lt, fi_lt, ti_le, fi_le, ti_eq, fi_eq, ↓reduceIte, ite_true, ite_false, eq_self, decide_true, decide_false, Bool.true_and, Bool.and_true, Bool.false_and, Bool.and_false, Bool.true_or, Bool.or_true, Bool.false_or, Bool.or_false, bI_t, bI_f, bI_nand, n_mod, an11, an01, negn1, negn2, false_and, and_false, true_and, and_true, not_true_eq_false, not_false_eq_true, bI_n0, bI_n1, Bool.true_eq_false, Bool.false_eq_true, cI_s, cL_s, cV_s, cR_n, pm_bR_self, bI_ite, bL_ite, bV_ite, bR_ite, h27]
  have i2 : pm_inb (nI k) 2 = true := inb_n hk (by omega)
  have ck : (nI k).toNatClampNeg + (2 * 0 + 0) = k := by rw [nn_clamp (by omega)]; rfl
  have ne : 8 ≠ k := by omega
  have k27 : ∀ (h' : PH), Fr (kT s k) h h' → h'.1 27 0 s = nI m := fun h' f => by
    rw [(f 27 0 (by
      unfold kT
      have : s = 0 ∨ s = 1 ∨ s = 2 := by omega
      rcases this with e | e | e <;> subst e <;> simp [show Nat.ble 27 18 = false from rfl]) s).1]; exact h27
  rw [st]
  have : s = 0 ∨ s = 1 ∨ s = 2 := by omega
  rcases this with e | e | e <;> subst e
  · obtain ⟨h1, e1, f1, c1⟩ := coCopy h ne
    have f1 : Fr (kT 0 k) h h1 := f1
    refine ⟨h1, ?_, f1, c1⟩
    rw [E_X7_take_20, if_pos (by decide), if_pos i2, ck, e1, cV_s, take_74 (by decide) hk hm (k27 h1 f1)]
  · obtain ⟨h1, e1, f1, c1⟩ := niCopy h ne
    have f1 : Fr (kT 1 k) h h1 := f1
    refine ⟨h1, ?_, f1, c1⟩
    rw [E_X7_take_20, if_neg (by decide), E_X7_take_40, if_pos (by decide), if_pos i2, ck, e1, cV_s, take_74 (by decide) hk hm (k27 h1 f1)]
  · obtain ⟨h1, e1, f1, c1⟩ := loCopy h ne
    have f1 : Fr (kT 2 k) h h1 := f1
    refine ⟨h1, ?_, f1, c1⟩
    rw [E_X7_take_20, if_neg (by decide), E_X7_take_40, if_neg (by decide), E_X7_take_61, if_pos i2, ck, e1, cV_s, take_74 (by decide) hk hm (k27 h1 f1)]
