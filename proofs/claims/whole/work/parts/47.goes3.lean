theorem cutF_id {G F : Nat → Int32} {k : Nat} (h : G k = F k) : cutF G F (k + 1) = cutF G F k := funext fun i => by
  unfold cutF
  by_cases q : i = k
  · subst q; rw [if_pos (by omega), if_neg (by omega), h]
  · by_cases q2 : i < k
    · rw [if_pos q2, if_pos (by omega)]
    · rw [if_neg q2, if_neg (by omega)]
def safeI (c : AC) (lit : Bool) (i : Nat) : Bool := if lit then !aGuard c (i % (c (0)).val) (i / (c (0)).val) (c (5)).val else !rockP c (i % (c (0)).val) (i / (c (0)).val)
def fstF (t : Nat) (nw : Nat → Bool) (F : Nat → Int32) (i : Nat) : Int32 := if nw i then (if F i = iI (-1) then nI (t + 1) else F i) else F i
theorem goes_180 {h : PH} {a : Nat} {c : AC} (hv : cV c) (hm : ModS h a c) (hA : AliveM h c) {s ab : Nat} (hab : h.1 8 0 19 = nI ab) (hab2 : ab < 16) (hs : s < (c (6)).val) {b n w t : Nat} (hb : b < 100) (hn : n < 100) (hw : w < 3) (ht : t < 100) (F N : Nat → Int32) (th : Nat → Bool) : ∀ r k, k + r = (c (0)).val * (c (1)).val → pm_ev (219, 180, [vr 8 0, vi (nI s), vi (nI b), vi (nI n), vi (nI w), vi (nI t), vi (nI k), none], [], goH h (cutF (fstF t (fun i => th i && safeI c (howL c s ab w ((b + t) % 24)) i) F) F k) (cutF (boolF (fun i => th i && safeI c (howL c s ab w ((b + t) % 24)) i)) N k) (boolF th)) = pm_ev (219, 62, [vr 8 0, vi (nI s), vi (nI b), vi (nI n), vi (nI w), vi (nI (t + 1)), none, none], [], goH h (cutF (fstF t (fun i => th i && safeI c (howL c s ab w ((b + t) % 24)) i) F) F ((c (0)).val * (c (1)).val)) (cutF (boolF (fun i => th i && safeI c (howL c s ab w ((b + t) % 24)) i)) N ((c (0)).val * (c (1)).val)) (boolF th)) := by
  have hV1 := hv.1
  have hWb := WH_le hv
  obtain ⟨WH, hWH⟩ : ∃ n, n = (c (0)).val * (c (1)).val := ⟨_, rfl⟩
  rw [← hWH] at hWb ⊢
  have hwh : ∀ F N T, (goH h F N T).1 8 0 14 * (goH h F N T).1 8 0 15 = nI WH := fun F N T => by rw [goH_8, goH_8, hm.2.2.1, hm.2.2.2.1, nI_mul, hWH]
  generalize hnw : (fun i => th i && safeI c (howL c s ab w ((b + t) % 24)) i) = nw
  intro r
  induction r with
  | zero =>
    intro k hk
    have hk : k = WH := by omega
    subst hk
    rw [E_X9_goes_180]
    simp (disch := omega) only [y_0, y_1, y_2, y_3, y_4, y_5, y_6, y_7, y_8, y_9, y_10, y_11, y_12, y_13, y_14, y_15, y_16, y_17, y_18, y_19, y_20, y_21, y_22, y_23, y_24, y_29, y_30, y_31, y_32, y_39, y_40, y_48, y_49, y_50, y_60, y_64, y_69, y_78, y_99, y_100, y_142, y_161, y_600, y_610, y_894, y_999, y_1000, y_1216, y_1276, neg1, neg2, nI_add, nI_mul, nn_sub, nn_lt, nn_le, nn_eq, in_lt, ni_lt, in_le, ni_le, in_eq, ni_eq, iI_lt, iI_le, iI_eq, nn_clamp, inb_n, t_lt, f_lt, t_le, f_le, t_eq, f_eq, ti_lt, fi_lt, ti_le, fi_le, ti_eq, fi_eq, ↓reduceIte, ite_true, ite_false, eq_self, decide_true, decide_false, Bool.true_and, Bool.and_true, Bool.false_and, Bool.and_false, Bool.true_or, Bool.or_true, Bool.false_or, Bool.or_false, bI_t, bI_f, bI_nand, n_mod, an11, an01, negn1, negn2, false_and, and_false, true_and, and_true, not_true_eq_false, not_false_eq_true, bI_n0, bI_n1, Bool.true_eq_false, Bool.false_eq_true, cI_s, cL_s, cV_s, cR_n, pm_bR_self, bI_ite, bL_ite, bV_ite, bR_ite, E_X9_goes_18, E_X9_goes_57, E_X9_goes_32, E_X9_goes_59, E_X9_goes_41, E_X9_goes_86, E_X9_goes_116, E_X9_goes_130, E_X9_goes_207, E_X9_goes_232, E_X9_goes_223, E_X9_goes_147, E_X9_goes_239, E_X9_goes_165, E_X9_goes_163, E_X9_goes_264, E_X9_goes_249, hwh]
  | succ r ih =>
    intro k hk
    have hk2 : k < (c (0)).val * (c (1)).val := by omega
    obtain ⟨x1, x2, x3⟩ := cell_xy (show 0 < (c (0)).val by omega) hk2
    have S := fun F N T => isSafe_M hv (goH_M hm F N T) (goH_A hA F N T) (by rw [goH_8]; exact hab) hab2 hs x1 x2 (show b + t < 100000 by omega) hw
    rw [x3] at S
    have R41 : ∀ F N, (goH h F N (boolF th)).1 41 0 k = bI (th k) := fun F N => goH_41 h F N (boolF th) (by omega)
    have hnk : nw k = (th k && safeI c (howL c s ab w ((b + t) % 24)) k) := by rw [← hnw]
    have e39 : cutF (fstF t nw F) F k k = F k := cutF_ge (Nat.le_refl _)
    have eK : cutF (boolF nw) N (k + 1) k = bI (nw k) := cutF_lt (by omega)
    rw [← ih (k + 1) (by omega), E_X9_goes_180]
    cases q : nw k
    · have e1 : cutF (fstF t nw F) F (k + 1) = cutF (fstF t nw F) F k := cutF_id (by unfold fstF; rw [q, if_neg (by decide)])
      have e2 : upd (cutF (boolF nw) N k) k (nI 0) = cutF (boolF nw) N (k + 1) := cutF_s _ _ _ (by unfold boolF; rw [q]; rfl)
      rw [e1]
      cases q2 : th k
      · rw [q2] at R41
        simp (disch := omega) only [y_0, y_1, y_2, y_3, y_4, y_5, y_6, y_7, y_8, y_9, y_10, y_11, y_12, y_13, y_14, y_15, y_16, y_17, y_18, y_19, y_20, y_21, y_22, y_23, y_24, y_29, y_30, y_31, y_32, y_39, y_40, y_48, y_49, y_50, y_60, y_64, y_69, y_78, y_99, y_100, y_142, y_161, y_600, y_610, y_894, y_999, y_1000, y_1216, y_1276, neg1, neg2, nI_add, nI_mul, nn_sub, nn_lt, nn_le, nn_eq, in_lt, ni_lt, in_le, ni_le, in_eq, ni_eq, iI_lt, iI_le, iI_eq, nn_clamp, inb_n, t_lt, f_lt, t_le, f_le, t_eq, f_eq, ti_lt, fi_lt, ti_le, fi_le, ti_eq, fi_eq, ↓reduceIte, ite_true, ite_false, eq_self, decide_true, decide_false, Bool.true_and, Bool.and_true, Bool.false_and, Bool.and_false, Bool.true_or, Bool.or_true, Bool.false_or, Bool.or_false, bI_t, bI_f, bI_nand, n_mod, an11, an01, negn1, negn2, false_and, and_false, true_and, and_true, not_true_eq_false, not_false_eq_true, bI_n0, bI_n1, Bool.true_eq_false, Bool.false_eq_true, cI_s, cL_s, cV_s, cR_n, pm_bR_self, bI_ite, bL_ite, bV_ite, bR_ite, E_X9_goes_18, E_X9_goes_57, E_X9_goes_32, E_X9_goes_59, E_X9_goes_41, E_X9_goes_86, E_X9_goes_116, E_X9_goes_130, E_X9_goes_207, E_X9_goes_232, E_X9_goes_223, E_X9_goes_147, E_X9_goes_239, E_X9_goes_165, E_X9_goes_163, E_X9_goes_264, E_X9_goes_249, hwh, R41, goH_s40, goH_40, eK, q, e2]
      · rw [q2] at R41 hnk
        rw [q, Bool.true_and] at hnk
        unfold safeI at hnk
        rw [← hnk] at S
        simp (disch := omega) only [y_0, y_1, y_2, y_3, y_4, y_5, y_6, y_7, y_8, y_9, y_10, y_11, y_12, y_13, y_14, y_15, y_16, y_17, y_18, y_19, y_20, y_21, y_22, y_23, y_24, y_29, y_30, y_31, y_32, y_39, y_40, y_48, y_49, y_50, y_60, y_64, y_69, y_78, y_99, y_100, y_142, y_161, y_600, y_610, y_894, y_999, y_1000, y_1216, y_1276, neg1, neg2, nI_add, nI_mul, nn_sub, nn_lt, nn_le, nn_eq, in_lt, ni_lt, in_le, ni_le, in_eq, ni_eq, iI_lt, iI_le, iI_eq, nn_clamp, inb_n, t_lt, f_lt, t_le, f_le, t_eq, f_eq, ti_lt, fi_lt, ti_le, fi_le, ti_eq, fi_eq, ↓reduceIte, ite_true, ite_false, eq_self, decide_true, decide_false, Bool.true_and, Bool.and_true, Bool.false_and, Bool.and_false, Bool.true_or, Bool.or_true, Bool.false_or, Bool.or_false, bI_t, bI_f, bI_nand, n_mod, an11, an01, negn1, negn2, false_and, and_false, true_and, and_true, not_true_eq_false, not_false_eq_true, bI_n0, bI_n1, Bool.true_eq_false, Bool.false_eq_true, cI_s, cL_s, cV_s, cR_n, pm_bR_self, bI_ite, bL_ite, bV_ite, bR_ite, E_X9_goes_18, E_X9_goes_57, E_X9_goes_32, E_X9_goes_59, E_X9_goes_41, E_X9_goes_86, E_X9_goes_116, E_X9_goes_130, E_X9_goes_207, E_X9_goes_232, E_X9_goes_223, E_X9_goes_147, E_X9_goes_239, E_X9_goes_165, E_X9_goes_163, E_X9_goes_264, E_X9_goes_249, hwh, R41, S, goH_s40, goH_40, eK, q, e2]
    · have e2 : upd (cutF (boolF nw) N k) k (nI 1) = cutF (boolF nw) N (k + 1) := cutF_s _ _ _ (by unfold boolF; rw [q]; rfl)
      have hq := hnk.symm.trans q
      rw [Bool.and_eq_true] at hq
      have hs2 := hq.2
      unfold safeI at hs2
      rw [hs2] at S
      rw [hq.1] at R41
      by_cases q3 : F k = iI (-1)
      · have e1 : upd (cutF (fstF t nw F) F k) k (nI (t + 1)) = cutF (fstF t nw F) F (k + 1) := cutF_s _ _ _ (by unfold fstF; rw [q, if_pos rfl, if_pos q3])
        simp (disch := omega) only [y_0, y_1, y_2, y_3, y_4, y_5, y_6, y_7, y_8, y_9, y_10, y_11, y_12, y_13, y_14, y_15, y_16, y_17, y_18, y_19, y_20, y_21, y_22, y_23, y_24, y_29, y_30, y_31, y_32, y_39, y_40, y_48, y_49, y_50, y_60, y_64, y_69, y_78, y_99, y_100, y_142, y_161, y_600, y_610, y_894, y_999, y_1000, y_1216, y_1276, neg1, neg2, nI_add, nI_mul, nn_sub, nn_lt, nn_le, nn_eq, in_lt, ni_lt, in_le, ni_le, in_eq, ni_eq, iI_lt, iI_le, iI_eq, nn_clamp, inb_n, t_lt, f_lt, t_le, f_le, t_eq, f_eq, ti_lt, fi_lt, ti_le, fi_le, ti_eq, fi_eq, ↓reduceIte, ite_true, ite_false, eq_self, decide_true, decide_false, Bool.true_and, Bool.and_true, Bool.false_and, Bool.and_false, Bool.true_or, Bool.or_true, Bool.false_or, Bool.or_false, bI_t, bI_f, bI_nand, n_mod, an11, an01, negn1, negn2, false_and, and_false, true_and, and_true, not_true_eq_false, not_false_eq_true, bI_n0, bI_n1, Bool.true_eq_false, Bool.false_eq_true, cI_s, cL_s, cV_s, cR_n, pm_bR_self, bI_ite, bL_ite, bV_ite, bR_ite, E_X9_goes_18, E_X9_goes_57, E_X9_goes_32, E_X9_goes_59, E_X9_goes_41, E_X9_goes_86, E_X9_goes_116, E_X9_goes_130, E_X9_goes_207, E_X9_goes_232, E_X9_goes_223, E_X9_goes_147, E_X9_goes_239, E_X9_goes_165, E_X9_goes_163, E_X9_goes_264, E_X9_goes_249, hwh, R41, S, goH_s40, goH_40, eK, q, e2, goH_39, e39, q3, goH_s39, e1]
      · have e1 : cutF (fstF t nw F) F (k + 1) = cutF (fstF t nw F) F k := cutF_id (by unfold fstF; rw [q, if_pos rfl, if_neg q3])
        rw [e1]
        simp (disch := omega) only [y_0, y_1, y_2, y_3, y_4, y_5, y_6, y_7, y_8, y_9, y_10, y_11, y_12, y_13, y_14, y_15, y_16, y_17, y_18, y_19, y_20, y_21, y_22, y_23, y_24, y_29, y_30, y_31, y_32, y_39, y_40, y_48, y_49, y_50, y_60, y_64, y_69, y_78, y_99, y_100, y_142, y_161, y_600, y_610, y_894, y_999, y_1000, y_1216, y_1276, neg1, neg2, nI_add, nI_mul, nn_sub, nn_lt, nn_le, nn_eq, in_lt, ni_lt, in_le, ni_le, in_eq, ni_eq, iI_lt, iI_le, iI_eq, nn_clamp, inb_n, t_lt, f_lt, t_le, f_le, t_eq, f_eq, ti_lt, fi_lt, ti_le, fi_le, ti_eq, fi_eq, ↓reduceIte, ite_true, ite_false, eq_self, decide_true, decide_false, Bool.true_and, Bool.and_true, Bool.false_and, Bool.and_false, Bool.true_or, Bool.or_true, Bool.false_or, Bool.or_false, bI_t, bI_f, bI_nand, n_mod, an11, an01, negn1, negn2, false_and, and_false, true_and, and_true, not_true_eq_false, not_false_eq_true, bI_n0, bI_n1, Bool.true_eq_false, Bool.false_eq_true, cI_s, cL_s, cV_s, cR_n, pm_bR_self, bI_ite, bL_ite, bV_ite, bR_ite, E_X9_goes_18, E_X9_goes_57, E_X9_goes_32, E_X9_goes_59, E_X9_goes_41, E_X9_goes_86, E_X9_goes_116, E_X9_goes_130, E_X9_goes_207, E_X9_goes_232, E_X9_goes_223, E_X9_goes_147, E_X9_goes_239, E_X9_goes_165, E_X9_goes_163, E_X9_goes_264, E_X9_goes_249, hwh, R41, S, goH_s40, goH_40, eK, q, e2, goH_39, e39, q3]
theorem fstB_snoc {p : Nat → Bool} : ∀ r q, fstB p (r + 1) q = match fstB p r q with | some x => some x | none => if p (q + r) then some (q + r) else none
  | 0, q => by
    rw [Nat.add_zero]
    rfl
  | r + 1, q => by
    cases h : p q
    · rw [fstB_f h, fstB_f h, fstB_snoc r (q + 1), show q + 1 + r = q + (r + 1) by omega]
    · rw [fstB_t h, fstB_t h]
theorem rch_in {c : AC} {L : Nat → Bool} {b fx fy : Nat} (hx : fx < (c (0)).val) (hy : fy < (c (1)).val) : ∀ t x y, rch c L b fx fy t x y = true → x < (c (0)).val ∧ y < (c (1)).val
  | 0, x, y, h => by
    have h : oneP fx fy x y = true := h
    unfold oneP at h
    rw [Bool.and_eq_true] at h
    have h1 := of_decide_eq_true h.1
    have h2 := of_decide_eq_true h.2
    omega
  | t + 1, x, y, h => by
    have h : stepP c _ _ x y = true := h
    unfold stepP inB at h
    simp only [Bool.and_eq_true, decide_eq_true_eq] at h
    exact h.1.2
/-- when a cell was first come to -/
def fstC (c : AC) (L : Nat → Bool) (b fx fy t i : Nat) : Int32 := if i < (c (0)).val * (c (1)).val then oN (fstB (fun q => rch c L b fx fy q (i % (c (0)).val) (i / (c (0)).val)) (t + 1) 0) else iI (-1)
theorem oN_none {o : Option Nat} {n : Nat} (hn : n < 2147483648) (h : ∀ x, o = some x → x < n) : (oN o = iI (-1)) = (o = none) := by
  cases o with
  | none => exact (eq_true rfl).trans (eq_true rfl).symm
  | some x =>
    have := h x rfl
    refine (eq_false (fun e => ?_)).trans (eq_false (by simp)).symm
    have e : nI x = iI (-1) := e
    rw [ni_eq (by omega) (by decide) (by decide)] at e
    omega
theorem goes_62 {h : PH} {a : Nat} {c : AC} (hv : cV c) (hm : ModS h a c) (hA : AliveM h c) {s ab : Nat} (hab : h.1 8 0 19 = nI ab) (hab2 : ab < 16) (hs : s < (c (6)).val) {b n w : Nat} (hb : b < 100) (hn : n < 99) (hw : w < 3) : ∀ r t T, t + r = n → ∃ T', pm_ev (219, 62, [vr 8 0, vi (nI s), vi (nI b), vi (nI n), vi (nI w), vi (nI t), none, none], [], goH h (fstC c (howL c s ab w) b (c (40+s)).val (c (50+s)).val t) (boolF (cellP c (rch c (howL c s ab w) b (c (40+s)).val (c (50+s)).val t))) T) = some (none, goH h (fstC c (howL c s ab w) b (c (40+s)).val (c (50+s)).val n) (boolF (cellP c (rch c (howL c s ab w) b (c (40+s)).val (c (50+s)).val n))) T') := by
  have hV1 := hv.1
  obtain ⟨v1, v2, _⟩ := hv.2.2.1 s hs
  intro r
  induction r with
  | zero =>
    intro t T ht
    have ht : t = n := by omega
    subst ht
    refine ⟨T, ?_⟩
    rw [E_X9_goes_62]
    simp (disch := omega) only [y_0, y_1, y_2, y_3, y_4, y_5, y_6, y_7, y_8, y_9, y_10, y_11, y_12, y_13, y_14, y_15, y_16, y_17, y_18, y_19, y_20, y_21, y_22, y_23, y_24, y_29, y_30, y_31, y_32, y_39, y_40, y_48, y_49, y_50, y_60, y_64, y_69, y_78, y_99, y_100, y_142, y_161, y_600, y_610, y_894, y_999, y_1000, y_1216, y_1276, neg1, neg2, nI_add, nI_mul, nn_sub, nn_lt, nn_le, nn_eq, in_lt, ni_lt, in_le, ni_le, in_eq, ni_eq, iI_lt, iI_le, iI_eq, nn_clamp, inb_n, t_lt, f_lt, t_le, f_le, t_eq, f_eq, ti_lt, fi_lt, ti_le, fi_le, ti_eq, fi_eq, ↓reduceIte, ite_true, ite_false, eq_self, decide_true, decide_false, Bool.true_and, Bool.and_true, Bool.false_and, Bool.and_false, Bool.true_or, Bool.or_true, Bool.false_or, Bool.or_false, bI_t, bI_f, bI_nand, n_mod, an11, an01, negn1, negn2, false_and, and_false, true_and, and_true, not_true_eq_false, not_false_eq_true, bI_n0, bI_n1, Bool.true_eq_false, Bool.false_eq_true, cI_s, cL_s, cV_s, cR_n, pm_bR_self, bI_ite, bL_ite, bV_ite, bR_ite, E_X9_goes_18, E_X9_goes_57, E_X9_goes_32, E_X9_goes_59, E_X9_goes_41, E_X9_goes_86, E_X9_goes_116, E_X9_goes_130, E_X9_goes_207, E_X9_goes_232, E_X9_goes_223, E_X9_goes_147, E_X9_goes_239, E_X9_goes_165, E_X9_goes_163, E_X9_goes_264, E_X9_goes_249, ]
  | succ r ih =>
    intro t T ht
    generalize hL : howL c s ab w = L
    generalize hfx : (c (40+s)).val = fx at v1
    generalize hfy : (c (50+s)).val = fy at v2
    rw [hL, hfx, hfy] at ih
    have A1 := goes_71 (h := h) (nI s) (nI b) (nI n) (nI w) (nI t) (fstC c L b fx fy t) (boolF (cellP c (rch c L b fx fy t))) T 64 0 rfl
    rw [cutF_0] at A1
    have A2 := goes_95 hv hm (nI s) (nI b) (nI n) (nI w) (nI t) (fstC c L b fx fy t) (cellP c (rch c L b fx fy t)) _ 0 (Nat.zero_add _)
    rw [show boolF (adjB c (cellP c (rch c L b fx fy t)) 0) = zeroF from rfl] at A2
    have A3 := goes_180 hv hm hA hab hab2 hs hb (show n < 100 by omega) hw (show t < 100 by omega) (fstC c L b fx fy t) (boolF (cellP c (rch c L b fx fy t))) (adjB c (cellP c (rch c L b fx fy t)) ((c (0)).val * (c (1)).val)) _ 0 (Nat.zero_add _)
    rw [cutF_0, cutF_0, hL] at A3
    have key : ∀ i, i < (c (0)).val * (c (1)).val → (adjB c (cellP c (rch c L b fx fy t)) ((c (0)).val * (c (1)).val) i && safeI c (L ((b + t) % 24)) i) = rch c L b fx fy (t + 1) (i % (c (0)).val) (i / (c (0)).val) := fun i hi => by
      obtain ⟨x1, x2, x3⟩ := cell_xy (show 0 < (c (0)).val by omega) hi
      have e := adj_spr hv (rch_in (L := L) (b := b) v1 v2 t) x1 x2
      rw [x3] at e
      rw [e]
      show _ = stepP c (L ((b + t) % 24)) (rch c L b fx fy t) (i % (c (0)).val) (i / (c (0)).val)
      unfold stepP safeI inB
      rw [decide_eq_true x1, decide_eq_true x2, Bool.and_true, Bool.and_true]
    have hWb := WH_le hv
    obtain ⟨T', e⟩ := ih (t + 1) (boolF (adjB c (cellP c (rch c L b fx fy t)) ((c (0)).val * (c (1)).val))) (by omega)
    refine ⟨T', ?_⟩
    rw [E_X9_goes_62]
    have tn : nI t < nI n := (nn_lt (by omega) (by omega)).mpr (by omega)
    rw [if_pos tn, show (0 : Int32) = nI 0 from rfl, A1, A2, A3, ← e]
    refine congrArg (fun g => pm_ev (219, 62, [vr 8 0, vi (nI s), vi (nI b), vi (nI n), vi (nI w), vi (nI (t + 1)), none, none], [], g)) (goH_cong h (fun i hi => ?_) (fun i hi => ?_) (fun i hi => rfl))
    · by_cases q : i < (c (0)).val * (c (1)).val
      · rw [cutF_lt q]
        unfold fstF
        dsimp only
        simp only [key i q]
        unfold fstC
        have hno := oN_none (n := t + 1) (by omega) (o := fstB (fun q => rch c L b fx fy q (i % (c (0)).val) (i / (c (0)).val)) (t + 1) 0) (fun x hx => by have := fstB_lt _ _ _ hx; omega)
        simp only [if_pos q, hno]
        rw [fstB_snoc (t + 1) 0, Nat.zero_add]
        cases q1 : fstB (fun q => rch c L b fx fy q (i % (c (0)).val) (i / (c (0)).val)) (t + 1) 0 with
        | some x => simp
        | none => cases q2 : rch c L b fx fy (t + 1) (i % (c (0)).val) (i / (c (0)).val) <;> rfl
      · rw [cutF_ge (by omega)]
        unfold fstC
        rw [if_neg q, if_neg q]
    · by_cases q : i < (c (0)).val * (c (1)).val
      · rw [cutF_lt q]
        show bI (adjB c (cellP c (rch c L b fx fy t)) ((c (0)).val * (c (1)).val) i && safeI c (L ((b + t) % 24)) i) = bI (cellP c (rch c L b fx fy (t + 1)) i)
        rw [key i q]
        unfold cellP
        rw [decide_eq_true q, Bool.true_and]
      · rw [cutF_ge (by omega)]
        unfold boolF cellP
        rw [decide_eq_false q, Bool.false_and, Bool.false_and]
theorem goes_M {h : PH} {a : Nat} {c : AC} (hv : cV c) (hm : ModS h a c) (hd : CoastMd h a c) (hA : AliveM h c) {s ab : Nat} (hab : h.1 8 0 19 = nI ab) (hab2 : ab < 16) (hs : s < (c (6)).val) {b n w : Nat} (hb : b < 100) (hn : n < 99) (hw : w < 3) : ∃ N T, pm_ev (219, 0, [vr 8 0, vi (nI s), vi (nI b), vi (nI n), vi (nI w), none, none, none], [], h) = some (none, goH h (fstC c (howL c s ab w) b (c (40+s)).val (c (50+s)).val n) N T) := by
  have hV1 := hv.1
  obtain ⟨v1, v2, _⟩ := hv.2.2.1 s hs
  have hWb := WH_le hv
  have A := goes_3 hv hm hd hs (nI b) (nI n) (nI w) (h.1 39 0) (h.1 40 0) (h.1 41 0) 64 0 rfl
  rw [cutF_0, cutF_0, goH_self] at A
  obtain ⟨T, B⟩ := goes_62 hv hm hA hab hab2 hs hb hn hw n 0 (h.1 41 0) (Nat.zero_add _)
  refine ⟨boolF (cellP c (rch c (howL c s ab w) b (c (40+s)).val (c (50+s)).val n)), T, ?_⟩
  rw [E_X9_goes, show (0 : Int32) = nI 0 from rfl, A]
  refine Eq.trans (congrArg (fun g => pm_ev (219, 62, [vr 8 0, vi (nI s), vi (nI b), vi (nI n), vi (nI w), vi (nI 0), none, none], [], g)) (goH_cong h (fun i hi => ?_) (fun i hi => ?_) (fun i hi => rfl))) B
  · unfold fstC upd noneF
    by_cases q : i < (c (0)).val * (c (1)).val
    · obtain ⟨x1, x2, x3⟩ := cell_xy (show 0 < (c (0)).val by omega) q
      rw [if_pos q]
      by_cases e : i = (c (0)).val * (c (50+s)).val + (c (40+s)).val
      · obtain ⟨d1, d2⟩ := cell_div (y := (c (50+s)).val) v1
        rw [if_pos e, fstB_t (by show oneP _ _ _ _ = true; unfold oneP; rw [e, d1, d2]; simp)]
        rfl
      · rw [if_neg e, fstB_f (by
          show oneP _ _ _ _ = false
          unfold oneP
          by_cases e1 : i % (c (0)).val = (c (40+s)).val
          · rw [decide_eq_false (fun e2 : i / (c (0)).val = (c (50+s)).val => e (by rw [← x3, e1, e2])), Bool.and_false]
          · rw [decide_eq_false e1, Bool.false_and])]
        rfl
    · rw [if_neg q]
      by_cases e : i = (c (0)).val * (c (50+s)).val + (c (40+s)).val
      · have := (cell_lt hv v1 v2).1
        omega
      · rw [if_neg e]
  · unfold ownF boolF cellP
    congr 1
    show _ = (decide (i < (c (0)).val * (c (1)).val) && oneP (c (40+s)).val (c (50+s)).val (i % (c (0)).val) (i / (c (0)).val))
    unfold oneP
    obtain ⟨d1, d2⟩ := cell_div (y := (c (50+s)).val) v1
    by_cases e : i = (c (0)).val * (c (50+s)).val + (c (40+s)).val
    · have := (cell_lt hv v1 v2).1
      rw [decide_eq_true e, decide_eq_true (by omega : i < (c (0)).val * (c (1)).val), e, d1, d2]
      simp
    · rw [decide_eq_false e]
      by_cases q : i < (c (0)).val * (c (1)).val
      · obtain ⟨x1, x2, x3⟩ := cell_xy (show 0 < (c (0)).val by omega) q
        by_cases e1 : i % (c (0)).val = (c (40+s)).val
        · rw [decide_eq_false (fun e2 : i / (c (0)).val = (c (50+s)).val => e (by rw [← x3, e1, e2]))]; simp
        · rw [decide_eq_false e1]; simp
      · rw [decide_eq_false q, Bool.false_and]
