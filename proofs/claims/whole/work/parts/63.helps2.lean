def f64 (n : Nat) : Fin 64 := ⟨n % 64, Nat.mod_lt _ (by decide)⟩
theorem f64_v {n : Nat} (h : n < 64) : (f64 n).val = n := Nat.mod_eq_of_lt h
theorem plain_C {h : PH} {j : Nat} {c : AC} (hv : cV c) (hC : CoastC h j c) {s k : Nat} (hs : s < (c (6)).val) (hk : k < (c (80+s)).val) (m : Fin 64) : CoastC (pm_sI (pm_sI h 16 j (4*s+k) (nI 0)) 17 j (4*s+k) (nI m.val)) j (plainA c s k m) := by
  have hV1 := hv.1
  have v5 := (hv.2.2.1 s hs).2.2.2.2.1
  refine hC.up hv (plain_sim (by omega) (by omega) m) (fun _ => ?_) (fun _ => ?_) (fun _ => ?_) (fun _ => ?_) (fun _ => ?_) rfl (fun t ht => ?_)
  · simp (disch := omega) only [sI_tag]
  · simp (disch := omega) only [sI_tag]
  · simp (disch := omega) only [sI_tag]
  · simp (disch := omega) only [sI_tag]
  · simp (disch := omega) only [sI_tag]
  · obtain ⟨⟨a1, a2, _, _⟩, a5⟩ := hC.2.2 t ht
    have u5 := (hv.2.2.1 t ht).2.2.2.2.1
    rw [plain_o c m (i := 40+t) (by omega) (by omega), plain_o c m (i := 50+t) (by omega) (by omega), plain_o c m (i := 60+t) (by omega) (by omega)]
    refine ⟨?_, ?_, fun l hl => ?_⟩
    · simp (disch := omega) only [sI_tag]; exact a1
    · simp (disch := omega) only [sI_tag]; exact a2
    · obtain ⟨b1, b2, b3⟩ := a5 l hl
      rw [plain_o c m (i := 140+(4*t+l)) (by omega) (by omega)]
      by_cases e : t = s ∧ l = k
      · obtain ⟨rfl, rfl⟩ := e
        rw [plain_kind, plain_first]
        refine ⟨?_, ?_, ?_⟩
        · simp (disch := omega) only [sI_tag, sI_same]; rfl
        · simp (disch := omega) only [sI_same]
        · simp (disch := omega) only [sI_tag]; exact b3
      · rw [plain_o c m (i := 100+(4*t+l)) (by omega) (by omega), plain_o c m (i := 120+(4*t+l)) (by omega) (by omega)]
        refine ⟨?_, ?_, ?_⟩
        · rw [sI_tag _ _ _ _ _ _ (by decide), sI_pl _ _ _ _ _ (by omega)]; exact b1
        · rw [sI_pl _ _ _ _ _ (by omega), sI_tag _ _ _ _ _ _ (by decide)]; exact b2
        · simp (disch := omega) only [sI_tag]; exact b3
theorem plain_A {h : PH} {c : AC} (hv : cV c) (hA : AliveM h c) {s k : Nat} (hs : s < (c (6)).val) (hk : k < (c (80+s)).val) (m : Fin 64) : AliveM (pm_sI (pm_sI h 36 0 (12*s+3*k) (nI 0)) 36 0 (12*s+3*k+1) (nI m.val)) (plainA c s k m) := by
  have hV1 := hv.1
  have v5 := (hv.2.2.1 s hs).2.2.2.2.1
  refine AliveM.up hv (plain_sim (by omega) (by omega) m) (fun t ht => ?_)
  obtain ⟨a1, a5⟩ := hA t ht
  have u5 := (hv.2.2.1 t ht).2.2.2.2.1
  rw [plain_o c m (i := 60+t) (by omega) (by omega)]
  refine ⟨?_, fun l hl => ?_⟩
  · simp (disch := omega) only [sI_tag]; exact a1
  · obtain ⟨b1, b2, b3⟩ := a5 l hl
    rw [plain_o c m (i := 140+(4*t+l)) (by omega) (by omega)]
    by_cases e : t = s ∧ l = k
    · obtain ⟨rfl, rfl⟩ := e
      rw [plain_kind, plain_first]
      refine ⟨?_, ?_, ?_⟩
      · rw [sI_pl _ _ _ _ _ (by omega), sI_same]; rfl
      · rw [sI_same]
      · rw [sI_pl _ _ _ _ _ (by omega), sI_pl _ _ _ _ _ (by omega)]; exact b3
    · rw [plain_o c m (i := 100+(4*t+l)) (by omega) (by omega), plain_o c m (i := 120+(4*t+l)) (by omega) (by omega)]
      refine ⟨?_, ?_, ?_⟩
      · rw [sI_pl _ _ _ _ _ (by omega), sI_pl _ _ _ _ _ (by omega)]; exact b1
      · rw [sI_pl _ _ _ _ _ (by omega), sI_pl _ _ _ _ _ (by omega)]; exact b2
      · rw [sI_pl _ _ _ _ _ (by omega), sI_pl _ _ _ _ _ (by omega)]; exact b3
theorem cargo_C {h : PH} {j : Nat} {c : AC} (hv : cV c) (hC : CoastC h j c) {s : Nat} (hs : s < (c (6)).val) (m : Fin 64) : CoastC (pm_sI h 13 j s (nI m.val)) j (cargoA c s m) := by
  have hV1 := hv.1
  refine hC.up hv (cargo_sim (by omega) m) (fun _ => ?_) (fun _ => ?_) (fun _ => ?_) (fun _ => ?_) (fun _ => ?_) rfl (fun t ht => ?_)
  · simp (disch := omega) only [sI_tag]
  · simp (disch := omega) only [sI_tag]
  · simp (disch := omega) only [sI_tag]
  · simp (disch := omega) only [sI_tag]
  · simp (disch := omega) only [sI_tag]
  · obtain ⟨⟨a1, a2, _, _⟩, a5⟩ := hC.2.2 t ht
    unfold cargoA
    rw [cU_ne c m (show 40+t ≠ 60+s by omega), cU_ne c m (show 50+t ≠ 60+s by omega)]
    refine ⟨?_, ?_, fun l hl => ?_⟩
    · simp (disch := omega) only [sI_tag]; exact a1
    · by_cases e : t = s
      · subst e; rw [sI_same, cU_eq]
      · rw [sI_pl _ _ _ _ _ e, cU_ne c m (by omega)]; exact a2
    · rw [cU_ne c m (show 100+(4*t+l) ≠ 60+s by omega), cU_ne c m (show 120+(4*t+l) ≠ 60+s by omega), cU_ne c m (show 140+(4*t+l) ≠ 60+s by omega)]
      simp (disch := omega) only [sI_tag]
      exact a5 l hl
theorem cargo_Al {h : PH} {c : AC} (hv : cV c) (hA : AliveM h c) {s : Nat} (hs : s < (c (6)).val) (m : Fin 64) : AliveM (pm_sI h 37 0 s (nI m.val)) (cargoA c s m) := by
  have hV1 := hv.1
  refine AliveM.up hv (cargo_sim (by omega) m) (fun t ht => ?_)
  obtain ⟨a1, a5⟩ := hA t ht
  unfold cargoA
  refine ⟨?_, fun l hl => ?_⟩
  · by_cases e : t = s
    · subst e; rw [sI_same, cU_eq]
    · rw [sI_pl _ _ _ _ _ e, cU_ne c m (by omega)]; exact a1
  · rw [cU_ne c m (show 100+(4*t+l) ≠ 60+s by omega), cU_ne c m (show 120+(4*t+l) ≠ 60+s by omega), cU_ne c m (show 140+(4*t+l) ≠ 60+s by omega)]
    simp (disch := omega) only [sI_tag]
    exact a5 l hl
theorem goTo_C {h : PH} {j : Nat} {c : AC} (hv : cV c) (hC : CoastC h j c) {s : Nat} (hs : s < (c (6)).val) (x y : Fin 64) : CoastC (pm_sI h 12 j s (nI (8 * y.val + x.val))) j (goA c s x y) := by
  have hV1 := hv.1
  refine hC.up hv (go_sim (by omega) x y) (fun _ => ?_) (fun _ => ?_) (fun _ => ?_) (fun _ => ?_) (fun _ => ?_) rfl (fun t ht => ?_)
  · simp (disch := omega) only [sI_tag]
  · simp (disch := omega) only [sI_tag]
  · simp (disch := omega) only [sI_tag]
  · simp (disch := omega) only [sI_tag]
  · simp (disch := omega) only [sI_tag]
  · obtain ⟨⟨a1, a2, _, _⟩, a5⟩ := hC.2.2 t ht
    rw [go_o c x y (i := 60+t) (by omega) (by omega)]
    refine ⟨?_, ?_, fun l hl => ?_⟩
    · by_cases e : t = s
      · subst e; rw [sI_same, go_x, go_y]
      · rw [sI_pl _ _ _ _ _ e, go_o c x y (by omega) (by omega), go_o c x y (by omega) (by omega)]; exact a1
    · simp (disch := omega) only [sI_tag]; exact a2
    · rw [go_o c x y (i := 100+(4*t+l)) (by omega) (by omega), go_o c x y (i := 120+(4*t+l)) (by omega) (by omega), go_o c x y (i := 140+(4*t+l)) (by omega) (by omega)]
      simp (disch := omega) only [sI_tag]
      exact a5 l hl
theorem makePlain_C {h : PH} {j : Nat} {c : AC} (hv : cV c) (hC : CoastC h j c) {s k : Nat} (hs : s < (c (6)).val) (hk : k < (c (80+s)).val) (m : Fin 64) : pm_ev (27, 0, [vr 0 j, vi (nI s), vi (nI k), vi (nI m.val)], [], h) = some (none, pm_sI (pm_sI h 16 j (4*s+k) (nI 0)) 17 j (4*s+k) (nI m.val)) := by
  have hV1 := hv.1
  have v5 := (hv.2.2.1 s hs).2.2.2.2.1
  have M := hasMan_Cn hv hC hs (show k < 2147483648 by omega)
  rw [decide_eq_true hk] at M
  rw [E_X0_makePlain]
  simp (disch := omega) only [y_0, y_1, y_2, y_3, y_4, y_5, y_6, y_7, y_8, y_9, y_10, y_11, y_12, y_13, y_14, y_15, y_16, y_17, y_18, y_19, y_20, y_21, y_22, y_23, y_24, y_29, y_30, y_31, y_32, y_39, y_40, y_48, y_49, y_50, y_60, y_64, y_69, y_78, y_99, y_100, y_142, y_161, y_600, y_610, y_894, y_999, y_1000, y_1216, y_1276, neg1, neg2, nI_add, nI_mul, nn_sub, nn_lt, nn_le, nn_eq, in_lt, ni_lt, in_le, ni_le, in_eq, ni_eq, iI_lt, iI_le, iI_eq, nn_clamp, inb_n, t_lt, f_lt, t_le, f_le, t_eq, f_eq, ti_lt, fi_lt, ti_le, fi_le, ti_eq, fi_eq, ↓reduceIte, ite_true, ite_false, eq_self, decide_true, decide_false, Bool.true_and, Bool.and_true, Bool.false_and, Bool.and_false, Bool.true_or, Bool.or_true, Bool.false_or, Bool.or_false, bI_t, bI_f, bI_nand, n_mod, an11, an01, negn1, negn2, false_and, and_false, true_and, and_true, not_true_eq_false, not_false_eq_true, bI_n0, bI_n1, Bool.true_eq_false, Bool.false_eq_true, cI_s, cL_s, cV_s, cR_n, pm_bR_self, bI_ite, bL_ite, bV_ite, bR_ite, E_X0_makePlain_20, M]
theorem plain_plain (c : AC) (s k : Nat) (a b : Fin 64) : plainA (plainA c s k a) s k b = plainA c s k b := funext fun i => by
  unfold plainA cU
  repeat' split
  all_goals rfl
theorem cargo_cargo (c : AC) (s : Nat) (a b : Fin 64) : cargoA (cargoA c s a) s b = cargoA c s b := funext fun i => by
  unfold cargoA cU
  repeat' split
  all_goals rfl
theorem cargo_self (c : AC) (s : Nat) : cargoA c s (c (60+s)) = c := funext fun i => by
  unfold cargoA cU
  split
  · rename_i e; rw [e]
  · rfl
theorem plain_co (j k : Nat) (v w : Int32) (i : Nat) (h : PH) : Fr (coT j) h (pm_sI (pm_sI h 16 j k v) 17 j i w) := (Fr.sI _ _ _ (by simp [coT, show Nat.ble 10 16 = true from rfl, show Nat.ble 16 18 = true from rfl])).tr (Fr.sI _ _ _ (by simp [coT, show Nat.ble 10 17 = true from rfl, show Nat.ble 17 18 = true from rfl]))
def aIll (c : AC) (s fx fy gx gy n m : Nat) : Bool := aCome c (aLit (plainA c s 0 (f64 m)) s) 0 fx fy gx gy n
theorem ill_22 {c : AC} (hv : cV c) {s fx fy gx gy n : Nat} (hs : s < (c (6)).val) (hk : 0 < (c (80+s)).val) (hgx : gx < 8) (hgy : gy < 8) (hn : n < 99) : ∀ r m h c2, m + r = 10 → SeaC h c fx fy gx gy → cV c2 → simC c c2 → (∀ m, plainA c2 s 0 m = plainA c s 0 m) → CoastC h 10 c2 → ∃ h', pm_ev (146, 22, [vr 7 0, none, vi (nI s), vi (nI n), vi (nI m)], [], h) = some (some (vi (oN (fstB (aIll c s fx fy gx gy n) r m))), h') ∧ Fr (coT 10) h h' := by
  have hV1 := hv.1
  intro r
  induction r with
  | zero =>
    intro m h c2 hm _ _ _ _ _
    refine ⟨h, ?_, Fr.rfl'⟩
    rw [E_X8_leastIll_22]
    simp (disch := omega) only [y_0, y_1, y_2, y_3, y_4, y_5, y_6, y_7, y_8, y_9, y_10, y_11, y_12, y_13, y_14, y_15, y_16, y_17, y_18, y_19, y_20, y_21, y_22, y_23, y_24, y_29, y_30, y_31, y_32, y_39, y_40, y_48, y_49, y_50, y_60, y_64, y_69, y_78, y_99, y_100, y_142, y_161, y_600, y_610, y_894, y_999, y_1000, y_1216, y_1276, neg1, neg2, nI_add, nI_mul, nn_sub, nn_lt, nn_le, nn_eq, in_lt, ni_lt, in_le, ni_le, in_eq, ni_eq, iI_lt, iI_le, iI_eq, nn_clamp, inb_n, t_lt, f_lt, t_le, f_le, t_eq, f_eq, ti_lt, fi_lt, ti_le, fi_le, ti_eq, fi_eq, ↓reduceIte, ite_true, ite_false, eq_self, decide_true, decide_false, Bool.true_and, Bool.and_true, Bool.false_and, Bool.and_false, Bool.true_or, Bool.or_true, Bool.false_or, Bool.or_false, bI_t, bI_f, bI_nand, n_mod, an11, an01, negn1, negn2, false_and, and_false, true_and, and_true, not_true_eq_false, not_false_eq_true, bI_n0, bI_n1, Bool.true_eq_false, Bool.false_eq_true, cI_s, cL_s, cV_s, cR_n, pm_bR_self, bI_ite, bL_ite, bV_ite, bR_ite, ]
    rfl
  | succ r ih =>
    intro m h c2 hm hS hv2 hsim hpl hC
    have hs2 : s < (c2 (6)).val := by rw [hsim 6 (by omega)]; exact hs
    have hk2 : 0 < (c2 (80+s)).val := by rw [hsim (80+s) (by omega)]; exact hk
    have fv : (f64 m).val = m := f64_v (by omega)
    have e1 := makePlain_C hv2 hC hs2 hk2 (f64 m)
    have hC1 := plain_C hv2 hC hs2 hk2 (f64 m)
    have f1 := plain_co 10 (4*s+0) (nI 0) (nI (f64 m).val) (4*s+0) h
    have hv1 := plain_cV hv2 hs2 hk2 (m := f64 m) (by omega)
    rw [hpl (f64 m)] at hC1 hv1
    have hs1 : s < (plainA c s 0 (f64 m) 6).val := by rw [plain_o c _ (by omega) (by omega)]; exact hs
    have hS1 := hS.co f1
    obtain ⟨a1, a2⟩ := tryA_C (j := 0) hv1 hC1 hS1 hs1 hgx hgy hn
    change pm_ev _ = some (some (vi (bI (aIll c s fx fy gx gy n m))), _) at a2
    rw [fv] at e1 a1 a2 f1 hC1 hS1
    cases q : aIll c s fx fy gx gy n m
    · rw [q] at a2
      have hsim1 : simC c (plainA c s 0 (f64 m)) := plain_sim (by omega) (by omega) _
      obtain ⟨h', e, f⟩ := ih (m + 1) _ (plainA c s 0 (f64 m)) (by omega) hS1 hv1 hsim1 (fun m' => plain_plain c s 0 _ m') hC1
      refine ⟨h', ?_, f1.tr f⟩
      rw [fstB_f q, ← e, E_X8_leastIll_22]
      simp (disch := omega) only [y_0, y_1, y_2, y_3, y_4, y_5, y_6, y_7, y_8, y_9, y_10, y_11, y_12, y_13, y_14, y_15, y_16, y_17, y_18, y_19, y_20, y_21, y_22, y_23, y_24, y_29, y_30, y_31, y_32, y_39, y_40, y_48, y_49, y_50, y_60, y_64, y_69, y_78, y_99, y_100, y_142, y_161, y_600, y_610, y_894, y_999, y_1000, y_1216, y_1276, neg1, neg2, nI_add, nI_mul, nn_sub, nn_lt, nn_le, nn_eq, in_lt, ni_lt, in_le, ni_le, in_eq, ni_eq, iI_lt, iI_le, iI_eq, nn_clamp, inb_n, t_lt, f_lt, t_le, f_le, t_eq, f_eq, ti_lt, fi_lt, ti_le, fi_le, ti_eq, fi_eq, ↓reduceIte, ite_true, ite_false, eq_self, decide_true, decide_false, Bool.true_and, Bool.and_true, Bool.false_and, Bool.and_false, Bool.true_or, Bool.or_true, Bool.false_or, Bool.or_false, bI_t, bI_f, bI_nand, n_mod, an11, an01, negn1, negn2, false_and, and_false, true_and, and_true, not_true_eq_false, not_false_eq_true, bI_n0, bI_n1, Bool.true_eq_false, Bool.false_eq_true, cI_s, cL_s, cV_s, cR_n, pm_bR_self, bI_ite, bL_ite, bV_ite, bR_ite, e1, a1, a2]
    · rw [q] at a2
      refine ⟨_, ?_, f1⟩
      rw [fstB_t q, E_X8_leastIll_22]
      simp (disch := omega) only [y_0, y_1, y_2, y_3, y_4, y_5, y_6, y_7, y_8, y_9, y_10, y_11, y_12, y_13, y_14, y_15, y_16, y_17, y_18, y_19, y_20, y_21, y_22, y_23, y_24, y_29, y_30, y_31, y_32, y_39, y_40, y_48, y_49, y_50, y_60, y_64, y_69, y_78, y_99, y_100, y_142, y_161, y_600, y_610, y_894, y_999, y_1000, y_1216, y_1276, neg1, neg2, nI_add, nI_mul, nn_sub, nn_lt, nn_le, nn_eq, in_lt, ni_lt, in_le, ni_le, in_eq, ni_eq, iI_lt, iI_le, iI_eq, nn_clamp, inb_n, t_lt, f_lt, t_le, f_le, t_eq, f_eq, ti_lt, fi_lt, ti_le, fi_le, ti_eq, fi_eq, ↓reduceIte, ite_true, ite_false, eq_self, decide_true, decide_false, Bool.true_and, Bool.and_true, Bool.false_and, Bool.and_false, Bool.true_or, Bool.or_true, Bool.false_or, Bool.or_false, bI_t, bI_f, bI_nand, n_mod, an11, an01, negn1, negn2, false_and, and_false, true_and, and_true, not_true_eq_false, not_false_eq_true, bI_n0, bI_n1, Bool.true_eq_false, Bool.false_eq_true, cI_s, cL_s, cV_s, cR_n, pm_bR_self, bI_ite, bL_ite, bV_ite, bR_ite, e1, a1, a2]
      rfl
theorem ill_C {h : PH} {j : Nat} {c : AC} (hv : cV c) {s fx fy gx gy n : Nat} (hj : j < 8) (hs : s < (c (6)).val) (hk : 0 < (c (80+s)).val) (hgx : gx < 8) (hgy : gy < 8) (hn : n < 99) (hT : TrC h j c fx fy gx gy) : ∃ h', pm_ev (146, 0, [vr 7 0, vr 0 j, vi (nI s), vi (nI n), none], [], h) = some (some (vi (oN (fstB (aIll c s fx fy gx gy n) 10 0))), h') ∧ Fr (coT 10) h h' := by
  have M := hasMan_Cn hv hT.2 hs (show 0 < 2147483648 by decide)
  rw [decide_eq_true hk] at M
  obtain ⟨h1, e1, hC1, f1⟩ := copyFrom_C (o := 10) hv hT.2 (by omega)
  obtain ⟨h', e, f⟩ := ill_22 (n := n) hv hs hk hgx hgy hn 10 0 h1 c rfl (hT.1.co f1) hv (simC.rf c) (fun _ => rfl) hC1
  refine ⟨h', ?_, f1.tr f⟩
  rw [← e, E_X8_leastIll]
  simp (disch := omega) only [y_0, y_1, y_2, y_3, y_4, y_5, y_6, y_7, y_8, y_9, y_10, y_11, y_12, y_13, y_14, y_15, y_16, y_17, y_18, y_19, y_20, y_21, y_22, y_23, y_24, y_29, y_30, y_31, y_32, y_39, y_40, y_48, y_49, y_50, y_60, y_64, y_69, y_78, y_99, y_100, y_142, y_161, y_600, y_610, y_894, y_999, y_1000, y_1216, y_1276, neg1, neg2, nI_add, nI_mul, nn_sub, nn_lt, nn_le, nn_eq, in_lt, ni_lt, in_le, ni_le, in_eq, ni_eq, iI_lt, iI_le, iI_eq, nn_clamp, inb_n, t_lt, f_lt, t_le, f_le, t_eq, f_eq, ti_lt, fi_lt, ti_le, fi_le, ti_eq, fi_eq, ↓reduceIte, ite_true, ite_false, eq_self, decide_true, decide_false, Bool.true_and, Bool.and_true, Bool.false_and, Bool.and_false, Bool.true_or, Bool.or_true, Bool.false_or, Bool.or_false, bI_t, bI_f, bI_nand, n_mod, an11, an01, negn1, negn2, false_and, and_false, true_and, and_true, not_true_eq_false, not_false_eq_true, bI_n0, bI_n1, Bool.true_eq_false, Bool.false_eq_true, cI_s, cL_s, cV_s, cR_n, pm_bR_self, bI_ite, bL_ite, bV_ite, bR_ite, M, e1]
def aThr (c : AC) (s fx fy gx gy n m : Nat) : Bool := aCome c (aLit (cargoA c s (f64 ((c (60+s)).val - m))) s) 0 fx fy gx gy n
theorem thr_11 {j : Nat} {c : AC} (hv : cV c) {s fx fy gx gy n : Nat} (hj : j < 8) (hs : s < (c (6)).val) (hgx : gx < 8) (hgy : gy < 8) (hn : n < 99) : ∀ r m h c2, m + r = (c (60+s)).val + 1 → TrC h j c fx fy gx gy → cV c2 → simC c c2 → (∀ m, cargoA c2 s m = cargoA c s m) → CoastC h 10 c2 → ∃ h', pm_ev (147, 11, [vr 7 0, vr 0 j, vi (nI s), vi (nI n), vi (nI m)], [], h) = some (some (vi (oN (fstB (aThr c s fx fy gx gy n) r m))), h') ∧ Fr (coT 10) h h' := by
  have hV1 := hv.1
  have v3 := (hv.2.2.1 s hs).2.2.1
  intro r
  induction r with
  | zero =>
    intro m h c2 hm hT _ _ _ _
    have s2 := (hT.2.2.2 s hs).1.2.1
    refine ⟨h, ?_, Fr.rfl'⟩
    rw [E_X8_leastThrown_11]
    simp (disch := omega) only [y_0, y_1, y_2, y_3, y_4, y_5, y_6, y_7, y_8, y_9, y_10, y_11, y_12, y_13, y_14, y_15, y_16, y_17, y_18, y_19, y_20, y_21, y_22, y_23, y_24, y_29, y_30, y_31, y_32, y_39, y_40, y_48, y_49, y_50, y_60, y_64, y_69, y_78, y_99, y_100, y_142, y_161, y_600, y_610, y_894, y_999, y_1000, y_1216, y_1276, neg1, neg2, nI_add, nI_mul, nn_sub, nn_lt, nn_le, nn_eq, in_lt, ni_lt, in_le, ni_le, in_eq, ni_eq, iI_lt, iI_le, iI_eq, nn_clamp, inb_n, t_lt, f_lt, t_le, f_le, t_eq, f_eq, ti_lt, fi_lt, ti_le, fi_le, ti_eq, fi_eq, ↓reduceIte, ite_true, ite_false, eq_self, decide_true, decide_false, Bool.true_and, Bool.and_true, Bool.false_and, Bool.and_false, Bool.true_or, Bool.or_true, Bool.false_or, Bool.or_false, bI_t, bI_f, bI_nand, n_mod, an11, an01, negn1, negn2, false_and, and_false, true_and, and_true, not_true_eq_false, not_false_eq_true, bI_n0, bI_n1, Bool.true_eq_false, Bool.false_eq_true, cI_s, cL_s, cV_s, cR_n, pm_bR_self, bI_ite, bL_ite, bV_ite, bR_ite, E_X8_leastThrown_40, s2]
    rfl
  | succ r ih =>
    intro m h c2 hm hT hv2 hsim hpl hC
    have s2 := (hT.2.2.2 s hs).1.2.1
    have hs2 : s < (c2 (6)).val := by rw [hsim 6 (by omega)]; exact hs
    have fv : (f64 ((c (60+s)).val - m)).val = (c (60+s)).val - m := f64_v (by omega)
    have hC1 := cargo_C hv2 hC hs2 (f64 ((c (60+s)).val - m))
    have f1 : Fr (coT 10) h (pm_sI h 13 10 s (nI (f64 ((c (60+s)).val - m)).val)) := Fr.sI _ _ _ (by decide)
    have hv1 := cargo_cV hv2 hs2 (m := f64 ((c (60+s)).val - m)) (by omega)
    rw [hpl] at hC1 hv1
    have hs1 : s < (cargoA c s (f64 ((c (60+s)).val - m)) 6).val := by unfold cargoA; rw [cU_ne _ _ (by omega)]; exact hs
    have hT1 := hT.co hj f1
    obtain ⟨a1, a2⟩ := tryA_C (j := 0) hv1 hC1 hT1.1 hs1 hgx hgy hn
    change pm_ev _ = some (some (vi (bI (aThr c s fx fy gx gy n m))), _) at a2
    rw [fv] at a1 a2 f1 hC1 hT1
    cases q : aThr c s fx fy gx gy n m
    · rw [q] at a2
      have hsim1 : simC c (cargoA c s (f64 ((c (60+s)).val - m))) := cargo_sim (by omega) _
      obtain ⟨h', e, f⟩ := ih (m + 1) _ (cargoA c s (f64 ((c (60+s)).val - m))) (by omega) hT1 hv1 hsim1 (fun m' => cargo_cargo c s _ m') hC1
      refine ⟨h', ?_, f1.tr f⟩
      rw [fstB_f q, ← e, E_X8_leastThrown_11]
      simp (disch := omega) only [y_0, y_1, y_2, y_3, y_4, y_5, y_6, y_7, y_8, y_9, y_10, y_11, y_12, y_13, y_14, y_15, y_16, y_17, y_18, y_19, y_20, y_21, y_22, y_23, y_24, y_29, y_30, y_31, y_32, y_39, y_40, y_48, y_49, y_50, y_60, y_64, y_69, y_78, y_99, y_100, y_142, y_161, y_600, y_610, y_894, y_999, y_1000, y_1216, y_1276, neg1, neg2, nI_add, nI_mul, nn_sub, nn_lt, nn_le, nn_eq, in_lt, ni_lt, in_le, ni_le, in_eq, ni_eq, iI_lt, iI_le, iI_eq, nn_clamp, inb_n, t_lt, f_lt, t_le, f_le, t_eq, f_eq, ti_lt, fi_lt, ti_le, fi_le, ti_eq, fi_eq, ↓reduceIte, ite_true, ite_false, eq_self, decide_true, decide_false, Bool.true_and, Bool.and_true, Bool.false_and, Bool.and_false, Bool.true_or, Bool.or_true, Bool.false_or, Bool.or_false, bI_t, bI_f, bI_nand, n_mod, an11, an01, negn1, negn2, false_and, and_false, true_and, and_true, not_true_eq_false, not_false_eq_true, bI_n0, bI_n1, Bool.true_eq_false, Bool.false_eq_true, cI_s, cL_s, cV_s, cR_n, pm_bR_self, bI_ite, bL_ite, bV_ite, bR_ite, E_X8_leastThrown_40, s2, a1, a2]
    · rw [q] at a2
      refine ⟨_, ?_, f1⟩
      rw [fstB_t q, E_X8_leastThrown_11]
      simp (disch := omega) only [y_0, y_1, y_2, y_3, y_4, y_5, y_6, y_7, y_8, y_9, y_10, y_11, y_12, y_13, y_14, y_15, y_16, y_17, y_18, y_19, y_20, y_21, y_22, y_23, y_24, y_29, y_30, y_31, y_32, y_39, y_40, y_48, y_49, y_50, y_60, y_64, y_69, y_78, y_99, y_100, y_142, y_161, y_600, y_610, y_894, y_999, y_1000, y_1216, y_1276, neg1, neg2, nI_add, nI_mul, nn_sub, nn_lt, nn_le, nn_eq, in_lt, ni_lt, in_le, ni_le, in_eq, ni_eq, iI_lt, iI_le, iI_eq, nn_clamp, inb_n, t_lt, f_lt, t_le, f_le, t_eq, f_eq, ti_lt, fi_lt, ti_le, fi_le, ti_eq, fi_eq, ↓reduceIte, ite_true, ite_false, eq_self, decide_true, decide_false, Bool.true_and, Bool.and_true, Bool.false_and, Bool.and_false, Bool.true_or, Bool.or_true, Bool.false_or, Bool.or_false, bI_t, bI_f, bI_nand, n_mod, an11, an01, negn1, negn2, false_and, and_false, true_and, and_true, not_true_eq_false, not_false_eq_true, bI_n0, bI_n1, Bool.true_eq_false, Bool.false_eq_true, cI_s, cL_s, cV_s, cR_n, pm_bR_self, bI_ite, bL_ite, bV_ite, bR_ite, E_X8_leastThrown_40, s2, a1, a2]
      rfl
theorem thr_C {h : PH} {j : Nat} {c : AC} (hv : cV c) {s fx fy gx gy n : Nat} (hj : j < 8) (hs : s < (c (6)).val) (hgx : gx < 8) (hgy : gy < 8) (hn : n < 99) (hT : TrC h j c fx fy gx gy) : ∃ h', pm_ev (147, 0, [vr 7 0, vr 0 j, vi (nI s), vi (nI n), none], [], h) = some (some (vi (oN (fstB (aThr c s fx fy gx gy n) ((c (60+s)).val + 1) 0))), h') ∧ Fr (coT 10) h h' := by
  obtain ⟨h1, e1, hC1, f1⟩ := copyFrom_C (o := 10) hv hT.2 (by omega)
  obtain ⟨h', e, f⟩ := thr_11 (n := n) hv hj hs hgx hgy hn _ 0 h1 c (Nat.zero_add _) (hT.co hj f1) hv (simC.rf c) (fun _ => rfl) hC1
  refine ⟨h', ?_, f1.tr f⟩
  rw [← e, E_X8_leastThrown]
  simp (disch := omega) only [y_0, y_1, y_2, y_3, y_4, y_5, y_6, y_7, y_8, y_9, y_10, y_11, y_12, y_13, y_14, y_15, y_16, y_17, y_18, y_19, y_20, y_21, y_22, y_23, y_24, y_29, y_30, y_31, y_32, y_39, y_40, y_48, y_49, y_50, y_60, y_64, y_69, y_78, y_99, y_100, y_142, y_161, y_600, y_610, y_894, y_999, y_1000, y_1216, y_1276, neg1, neg2, nI_add, nI_mul, nn_sub, nn_lt, nn_le, nn_eq, in_lt, ni_lt, in_le, ni_le, in_eq, ni_eq, iI_lt, iI_le, iI_eq, nn_clamp, inb_n, t_lt, f_lt, t_le, f_le, t_eq, f_eq, ti_lt, fi_lt, ti_le, fi_le, ti_eq, fi_eq, ↓reduceIte, ite_true, ite_false, eq_self, decide_true, decide_false, Bool.true_and, Bool.and_true, Bool.false_and, Bool.and_false, Bool.true_or, Bool.or_true, Bool.false_or, Bool.or_false, bI_t, bI_f, bI_nand, n_mod, an11, an01, negn1, negn2, false_and, and_false, true_and, and_true, not_true_eq_false, not_false_eq_true, bI_n0, bI_n1, Bool.true_eq_false, Bool.false_eq_true, cI_s, cL_s, cV_s, cR_n, pm_bR_self, bI_ite, bL_ite, bV_ite, bR_ite, E_X8_leastThrown_40, e1]
theorem first_2 (h : PH) (p : Nat → Bool) : ∀ r k, k + r = 24 → pm_ev (149, 2, [vi (nI (bitsB p 24)), vi (nI k)], [], h) = some (some (vi (oN (fstB p r k))), h) := by
  have hbl := bitsB_lt p 24
  intro r
  induction r with
  | zero =>
    intro k hk
    rw [E_X8_firstOf_2]
    simp (disch := omega) only [y_0, y_1, y_2, y_3, y_4, y_5, y_6, y_7, y_8, y_9, y_10, y_11, y_12, y_13, y_14, y_15, y_16, y_17, y_18, y_19, y_20, y_21, y_22, y_23, y_24, y_29, y_30, y_31, y_32, y_39, y_40, y_48, y_49, y_50, y_60, y_64, y_69, y_78, y_99, y_100, y_142, y_161, y_600, y_610, y_894, y_999, y_1000, y_1216, y_1276, neg1, neg2, nI_add, nI_mul, nn_sub, nn_lt, nn_le, nn_eq, in_lt, ni_lt, in_le, ni_le, in_eq, ni_eq, iI_lt, iI_le, iI_eq, nn_clamp, inb_n, t_lt, f_lt, t_le, f_le, t_eq, f_eq, ti_lt, fi_lt, ti_le, fi_le, ti_eq, fi_eq, ↓reduceIte, ite_true, ite_false, eq_self, decide_true, decide_false, Bool.true_and, Bool.and_true, Bool.false_and, Bool.and_false, Bool.true_or, Bool.or_true, Bool.false_or, Bool.or_false, bI_t, bI_f, bI_nand, n_mod, an11, an01, negn1, negn2, false_and, and_false, true_and, and_true, not_true_eq_false, not_false_eq_true, bI_n0, bI_n1, Bool.true_eq_false, Bool.false_eq_true, cI_s, cL_s, cV_s, cR_n, pm_bR_self, bI_ite, bL_ite, bV_ite, bR_ite, ]
    rfl
  | succ r ih =>
    intro k hk
    have e := ih (k + 1) (by omega)
    have tb : (bitsB p 24).testBit k = p k := by rw [bitsB_tb, decide_eq_true (by omega), Bool.true_and]
    rw [E_X8_firstOf_2]
    cases q : p k
    · rw [q] at tb
      rw [fstB_f q, ← e]
      simp (disch := omega) only [y_0, y_1, y_2, y_3, y_4, y_5, y_6, y_7, y_8, y_9, y_10, y_11, y_12, y_13, y_14, y_15, y_16, y_17, y_18, y_19, y_20, y_21, y_22, y_23, y_24, y_29, y_30, y_31, y_32, y_39, y_40, y_48, y_49, y_50, y_60, y_64, y_69, y_78, y_99, y_100, y_142, y_161, y_600, y_610, y_894, y_999, y_1000, y_1216, y_1276, neg1, neg2, nI_add, nI_mul, nn_sub, nn_lt, nn_le, nn_eq, in_lt, ni_lt, in_le, ni_le, in_eq, ni_eq, iI_lt, iI_le, iI_eq, nn_clamp, inb_n, t_lt, f_lt, t_le, f_le, t_eq, f_eq, ti_lt, fi_lt, ti_le, fi_le, ti_eq, fi_eq, ↓reduceIte, ite_true, ite_false, eq_self, decide_true, decide_false, Bool.true_and, Bool.and_true, Bool.false_and, Bool.and_false, Bool.true_or, Bool.or_true, Bool.false_or, Bool.or_false, bI_t, bI_f, bI_nand, n_mod, an11, an01, negn1, negn2, false_and, and_false, true_and, and_true, not_true_eq_false, not_false_eq_true, bI_n0, bI_n1, Bool.true_eq_false, Bool.false_eq_true, cI_s, cL_s, cV_s, cR_n, pm_bR_self, bI_ite, bL_ite, bV_ite, bR_ite, nn_and, shr_n, bit_i, tb]
    · rw [q] at tb
      rw [fstB_t q]
      simp (disch := omega) only [y_0, y_1, y_2, y_3, y_4, y_5, y_6, y_7, y_8, y_9, y_10, y_11, y_12, y_13, y_14, y_15, y_16, y_17, y_18, y_19, y_20, y_21, y_22, y_23, y_24, y_29, y_30, y_31, y_32, y_39, y_40, y_48, y_49, y_50, y_60, y_64, y_69, y_78, y_99, y_100, y_142, y_161, y_600, y_610, y_894, y_999, y_1000, y_1216, y_1276, neg1, neg2, nI_add, nI_mul, nn_sub, nn_lt, nn_le, nn_eq, in_lt, ni_lt, in_le, ni_le, in_eq, ni_eq, iI_lt, iI_le, iI_eq, nn_clamp, inb_n, t_lt, f_lt, t_le, f_le, t_eq, f_eq, ti_lt, fi_lt, ti_le, fi_le, ti_eq, fi_eq, ↓reduceIte, ite_true, ite_false, eq_self, decide_true, decide_false, Bool.true_and, Bool.and_true, Bool.false_and, Bool.and_false, Bool.true_or, Bool.or_true, Bool.false_or, Bool.or_false, bI_t, bI_f, bI_nand, n_mod, an11, an01, negn1, negn2, false_and, and_false, true_and, and_true, not_true_eq_false, not_false_eq_true, bI_n0, bI_n1, Bool.true_eq_false, Bool.false_eq_true, cI_s, cL_s, cV_s, cR_n, pm_bR_self, bI_ite, bL_ite, bV_ite, bR_ite, nn_and, shr_n, bit_i, tb]
      rfl
theorem first_C (h : PH) (p : Nat → Bool) : pm_ev (149, 0, [vi (nI (bitsB p 24)), none], [], h) = some (some (vi (oN (fstB p 24 0))), h) := by
  rw [E_X8_firstOf]
  exact first_2 h p 24 0 rfl
