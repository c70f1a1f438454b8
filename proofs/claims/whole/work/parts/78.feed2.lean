theorem y_255 : (255 : Int32) = nI 255 := by decide
theorem y_16' : (16 : Int32) = nI 16 := by decide
def byt (x : Int32) (s : Nat) : Nat := x.toBitVec.toNat / 2 ^ s % 256
theorem byt_lt (x : Int32) (s : Nat) : byt x s < 256 := Nat.mod_lt _ (by decide)
theorem byt_u (x : Int32) {s : Nat} (hs : s < 32) : ((x.toUInt32 >>> ((nI s).toUInt32 &&& Int32.toUInt32 31)).toInt32) &&& nI 255 = nI (byt x s) := by
  have h := nn_ushr (n := x.toBitVec.toNat) (k := s) x.toBitVec.isLt hs
  rw [← i32_nat x] at h
  rw [h, nn_and]
  unfold byt
  rw [show (255 : Nat) = 2 ^ 8 - 1 from rfl, Nat.and_two_pow_sub_one_eq_mod]
theorem byt_s (x : Int32) {s : Nat} (hs : s ≤ 24) : (x >>> (nI s &&& nI 31)) &&& nI 255 = nI (byt x s) := by
  rw [← byt_u x (show s < 32 by omega), nn_and]
  apply Int32.toBitVec_inj.mp
  have e1 : (x >>> nI (s &&& 31)).toBitVec = x.toBitVec.sshiftRight s := by
    show BitVec.sshiftRight' x.toBitVec ((nI (s &&& 31)).toBitVec.smod 32) = _
    rw [BitVec.sshiftRight', s_ll s (by omega)]
  have e2 : ((x.toUInt32 >>> ((nI s).toUInt32 &&& Int32.toUInt32 31)).toInt32).toBitVec = x.toBitVec >>> s := by
    have h := nn_ushr (n := x.toBitVec.toNat) (k := s) x.toBitVec.isLt (show s < 32 by omega)
    rw [← i32_nat x] at h
    rw [h]
    apply BitVec.eq_of_toNat_eq
    show (BitVec.ofNat 32 (x.toBitVec.toNat / 2 ^ s)).toNat = _
    rw [BitVec.toNat_ofNat, BitVec.toNat_ushiftRight, Nat.shiftRight_eq_div_pow, Nat.mod_eq_of_lt]
    exact Nat.lt_of_le_of_lt (Nat.div_le_self _ _) x.toBitVec.isLt
  show (x >>> nI (s &&& 31)).toBitVec &&& (nI 255).toBitVec = ((x.toUInt32 >>> ((nI s).toUInt32 &&& Int32.toUInt32 31)).toInt32).toBitVec &&& (nI 255).toBitVec
  rw [e1, e2]
  apply BitVec.eq_of_getLsbD_eq
  intro i hi
  rw [BitVec.getLsbD_and, BitVec.getLsbD_and]
  have m : (nI 255).toBitVec.getLsbD i = decide (i < 8) := by
    have : ∀ i, i < 32 → (nI 255).toBitVec.getLsbD i = decide (i < 8) := by decide +kernel
    exact this i hi
  rw [m]
  by_cases q : i < 8
  · rw [BitVec.getLsbD_sshiftRight, BitVec.getLsbD_ushiftRight]
    simp [show ¬ 32 ≤ i by omega, show s + i < 32 by omega]
  · rw [decide_eq_false q, Bool.and_false, Bool.and_false]
/-- a byte more: class and reference -/
def w1 (h : PH) (len : Nat) (v : Int32) : PH := pm_sI (pm_sI h 26 0 len v) 6 0 1 (nI (len + 1))
def m1 (h : PH) (len : Nat) (v : Int32) : PH := pm_sI (pm_sI h 33 0 (10 + len) v) 33 0 4 (nI (len + 1))
def wN (f : Nat → Int32) (h : PH) (len : Nat) : Nat → PH
  | 0 => h
  | n + 1 => w1 (wN f h len n) (len + n) (f n)
def mN (f : Nat → Int32) (h : PH) (len : Nat) : Nat → PH
  | 0 => h
  | n + 1 => m1 (mN f h len n) (len + n) (f n)
theorem wN_len {f : Nat → Int32} {h : PH} {len : Nat} (h0 : h.1 6 0 1 = nI len) : ∀ n, (wN f h len n).1 6 0 1 = nI (len + n)
  | 0 => h0
  | n + 1 => by show (w1 _ _ _).1 6 0 1 = _; unfold w1; rw [sI_same]; rfl
theorem mN_len {f : Nat → Int32} {h : PH} {len : Nat} (h0 : h.1 33 0 4 = nI len) : ∀ n, (mN f h len n).1 33 0 4 = nI (len + n)
  | 0 => h0
  | n + 1 => by show (m1 _ _ _).1 33 0 4 = _; unfold m1; rw [sI_same]; rfl
theorem wN_fr (f : Nat → Int32) (h : PH) (len : Nat) : ∀ n, Fr (fun a i => i == 0 && (a == 6 || a == 26)) h (wN f h len n)
  | 0 => Fr.rfl'
  | n + 1 => (wN_fr f h len n).tr ((Fr.sI _ _ _ rfl).tr (Fr.sI _ _ _ rfl))
theorem mN_fr (f : Nat → Int32) (h : PH) (len : Nat) : ∀ n, Fr (fun a i => i == 0 && a == 33) h (mN f h len n)
  | 0 => Fr.rfl'
  | n + 1 => (mN_fr f h len n).tr ((Fr.sI _ _ _ rfl).tr (Fr.sI _ _ _ rfl))
theorem wN_6 (f : Nat → Int32) (h : PH) (len : Nat) {k : Nat} (hk : k ≠ 1) : ∀ n, (wN f h len n).1 6 0 k = h.1 6 0 k
  | 0 => rfl
  | n + 1 => by
    show (w1 _ _ _).1 6 0 k = _
    unfold w1
    rw [sI_pl _ _ _ _ _ hk, sI_tag _ _ _ _ _ _ (by decide), wN_6 f h len hk n]
theorem wN_26 (f : Nat → Int32) (h : PH) (len k : Nat) : ∀ n, (wN f h len n).1 26 0 k = if len ≤ k ∧ k < len + n then f (k - len) else h.1 26 0 k
  | 0 => by rw [if_neg (by omega)]; rfl
  | n + 1 => by
    show (w1 _ _ _).1 26 0 k = _
    unfold w1
    rw [sI_tag _ _ _ _ _ _ (by decide)]
    by_cases q : k = len + n
    · subst q; rw [sI_same, if_pos (by omega), show len + n - len = n by omega]
    · rw [sI_pl _ _ _ _ _ q, wN_26 f h len k n]
      by_cases q2 : len ≤ k ∧ k < len + n
      · rw [if_pos q2, if_pos (by omega)]
      · rw [if_neg q2, if_neg (by omega)]
theorem mN_33 (f : Nat → Int32) (h : PH) (len k : Nat) (h4 : k ≠ 4) : ∀ n, (mN f h len n).1 33 0 k = if 10 + len ≤ k ∧ k < 10 + len + n then f (k - (10 + len)) else h.1 33 0 k
  | 0 => by rw [if_neg (by omega)]; rfl
  | n + 1 => by
    show (m1 _ _ _).1 33 0 k = _
    unfold m1
    rw [sI_pl _ _ _ _ _ h4]
    by_cases q : k = 10 + (len + n)
    · subst q; rw [sI_same, if_pos (by omega), show 10 + (len + n) - (10 + len) = n by omega]
    · rw [sI_pl _ _ _ _ _ q, mN_33 f h len k h4 n]
      by_cases q2 : 10 + len ≤ k ∧ k < 10 + len + n
      · rw [if_pos q2, if_pos (by omega)]
      · rw [if_neg q2, if_neg (by omega)]
def fdW (a b c d e : Int32) (i : Nat) : Int32 := if i < 4 then a else if i < 8 then b else if i < 12 then c else if i < 16 then d else e
def fdF (a b c d e : Int32) (i : Nat) : Int32 := nI (byt (fdW a b c d e i) (24 - 8 * (i % 4)))
theorem put_3 {f : Nat → Int32} {h : PH} {len : Nat} (h0 : h.1 6 0 1 = nI len) (x : Int32) {n s : Nat} (hl : len + n < 600) (hs : s ≤ 24) (ef : f n = nI (byt x s)) : pm_ev (105, 3, [vr 6 0, vi x, vi (nI s)], [], wN f h len n) = pm_ev (105, 3, [vr 6 0, vi x, vi (iI ((s : Int) - 8))], [], wN f h len (n + 1)) := by
  have e := wN_len (f := f) h0 n
  have B := byt_u x (show s < 32 by omega)
  change (x.toUInt32 >>> ((nI s).toUInt32 &&& (nI 31).toUInt32)).toInt32 &&& nI 255 = nI (byt x s) at B
  rw [E_X7_put_3]
  simp (disch := omega) only [y_0, y_1, y_2, y_3, y_4, y_5, y_6, y_7, y_8, y_9, y_10, y_11, y_12, y_13, y_14, y_15, y_16, y_17, y_18, y_19, y_20, y_21, y_22, y_23, y_24, y_29, y_30, y_31, y_32, y_39, y_40, y_48, y_49, y_50, y_60, y_64, y_69, y_78, y_99, y_100, y_142, y_161, y_600, y_610, y_894, y_999, y_1000, y_1216, y_1276, neg1, neg2, nI_add, nI_mul, nn_sub, nn_lt, nn_le, nn_eq, in_lt, ni_lt, in_le, ni_le, in_eq, ni_eq, iI_lt, iI_le, iI_eq, nn_clamp, inb_n, t_lt, f_lt, t_le, f_le, t_eq, f_eq, ti_lt, fi_lt, ti_le, fi_le, ti_eq, fi_eq, ↓reduceIte, ite_true, ite_false, eq_self, decide_true, decide_false, Bool.true_and, Bool.and_true, Bool.false_and, Bool.and_false, Bool.true_or, Bool.or_true, Bool.false_or, Bool.or_false, bI_t, bI_f, bI_nand, n_mod, an11, an01, negn1, negn2, false_and, and_false, true_and, and_true, not_true_eq_false, not_false_eq_true, bI_n0, bI_n1, Bool.true_eq_false, Bool.false_eq_true, cI_s, cL_s, cV_s, cR_n, pm_bR_self, bI_ite, bL_ite, bV_ite, bR_ite, e, y_255, B, E_X7_put_33, sI_tag, show -nI 8 = iI (-8) from rfl, iI_nadd]
  rw [show (s : Int) + -8 = (s : Int) - 8 by omega]
  show _ = pm_ev (105, 3, [vr 6 0, vi x, vi (iI ((s : Int) - 8))], [], w1 (wN f h len n) (len + n) (f n))
  unfold w1
  rw [ef]
theorem put_C {f : Nat → Int32} {h : PH} {len : Nat} (h0 : h.1 6 0 1 = nI len) (x : Int32) {n : Nat} (hl : len + n + 4 ≤ 600) (ef : ∀ i, i < 4 → f (n + i) = nI (byt x (24 - 8 * i))) : pm_ev (105, 0, [vr 6 0, vi x, none], [], wN f h len n) = some (none, wN f h len (n + 4)) := by
  have c : ∀ (s : Nat), 8 ≤ s → iI ((s : Int) - 8) = nI (s - 8) := fun s hs => by rw [iI_toNat (by omega)]; congr 1; omega
  rw [E_X7_put, show (24 : Int32) = nI 24 from rfl, put_3 h0 x (n := n) (s := 24) (by omega) (by decide) (ef 0 (by decide)), c 24 (by decide), put_3 h0 x (n := n + 1) (s := 16) (by omega) (by decide) (ef 1 (by decide)), c 16 (by decide), put_3 h0 x (n := n + 1 + 1) (s := 8) (by omega) (by decide) (ef 2 (by decide)), c 8 (by decide), put_3 h0 x (n := n + 1 + 1 + 1) (s := 0) (by omega) (by decide) (ef 3 (by decide)), E_X7_put_3, if_pos (by decide)]
theorem feed_20 (a b c d e : Int32) {h : PH} {len : Nat} (h0 : h.1 33 0 4 = nI len) (hl : len + 20 ≤ 600) : ∀ r i, i + r = 20 → pm_ev (154, 20, [vr 8 0, vi a, vi b, vi c, vi d, vi e, vi (nI i), none], [], mN (fdF a b c d e) h len i) = some (some (vi (nI (len + 20))), mN (fdF a b c d e) h len 20) := by
  intro r
  induction r with
  | zero =>
    intro i hi
    have hi : i = 20 := by omega
    subst hi
    have e0 := mN_len (f := fdF a b c d e) h0 20
    rw [E_X9_feed_20]
    simp (disch := omega) only [y_0, y_1, y_2, y_3, y_4, y_5, y_6, y_7, y_8, y_9, y_10, y_11, y_12, y_13, y_14, y_15, y_16, y_17, y_18, y_19, y_20, y_21, y_22, y_23, y_24, y_29, y_30, y_31, y_32, y_39, y_40, y_48, y_49, y_50, y_60, y_64, y_69, y_78, y_99, y_100, y_142, y_161, y_600, y_610, y_894, y_999, y_1000, y_1216, y_1276, neg1, neg2, nI_add, nI_mul, nn_sub, nn_lt, nn_le, nn_eq, in_lt, ni_lt, in_le, ni_le, in_eq, ni_eq, iI_lt, iI_le, iI_eq, nn_clamp, inb_n, t_lt, f_lt, t_le, f_le, t_eq, f_eq, ti_lt, fi_lt, ti_le, fi_le, ti_eq, fi_eq, ↓reduceIte, ite_true, ite_false, eq_self, decide_true, decide_false, Bool.true_and, Bool.and_true, Bool.false_and, Bool.and_false, Bool.true_or, Bool.or_true, Bool.false_or, Bool.or_false, bI_t, bI_f, bI_nand, n_mod, an11, an01, negn1, negn2, false_and, and_false, true_and, and_true, not_true_eq_false, not_false_eq_true, bI_n0, bI_n1, Bool.true_eq_false, Bool.false_eq_true, cI_s, cL_s, cV_s, cR_n, pm_bR_self, bI_ite, bL_ite, bV_ite, bR_ite, e0, E_X9_feed_128]
  | succ r ih =>
    intro i hi
    have e0 := mN_len (f := fdF a b c d e) h0 i
    have st : ∀ w : Int32, w = fdW a b c d e i → pm_ev (154, 87, [vr 8 0, vi a, vi b, vi c, vi d, vi e, vi (nI i), vi w], [vi (nI (len + i)), vi (nI 10), vr 33 0], mN (fdF a b c d e) h len i) = pm_ev (154, 20, [vr 8 0, vi a, vi b, vi c, vi d, vi e, vi (nI (i + 1)), none], [], mN (fdF a b c d e) h len (i + 1)) := fun w hw => by
      have i4 : 8 * (i % 4) ≤ 24 := by omega
      have B := byt_s w (s := 24 - 8 * (i % 4)) (by omega)
      rw [hw] at B
      have eF : nI (byt (fdW a b c d e i) (24 - 8 * (i % 4))) = fdF a b c d e i := rfl
      rw [eF] at B
      rw [hw, E_X9_feed_87]
      simp (disch := omega) only [y_0, y_1, y_2, y_3, y_4, y_5, y_6, y_7, y_8, y_9, y_10, y_11, y_12, y_13, y_14, y_15, y_16, y_17, y_18, y_19, y_20, y_21, y_22, y_23, y_24, y_29, y_30, y_31, y_32, y_39, y_40, y_48, y_49, y_50, y_60, y_64, y_69, y_78, y_99, y_100, y_142, y_161, y_600, y_610, y_894, y_999, y_1000, y_1216, y_1276, neg1, neg2, nI_add, nI_mul, nn_sub, nn_lt, nn_le, nn_eq, in_lt, ni_lt, in_le, ni_le, in_eq, ni_eq, iI_lt, iI_le, iI_eq, nn_clamp, inb_n, t_lt, f_lt, t_le, f_le, t_eq, f_eq, ti_lt, fi_lt, ti_le, fi_le, ti_eq, fi_eq, ↓reduceIte, ite_true, ite_false, eq_self, decide_true, decide_false, Bool.true_and, Bool.and_true, Bool.false_and, Bool.and_false, Bool.true_or, Bool.or_true, Bool.false_or, Bool.or_false, bI_t, bI_f, bI_nand, n_mod, an11, an01, negn1, negn2, false_and, and_false, true_and, and_true, not_true_eq_false, not_false_eq_true, bI_n0, bI_n1, Bool.true_eq_false, Bool.false_eq_true, cI_s, cL_s, cV_s, cR_n, pm_bR_self, bI_ite, bL_ite, bV_ite, bR_ite, nn_div, y_255, B, E_X9_feed_106, sI_pl, e0, E_X9_feed_113, E_X9_feed_116]
      rfl
    rw [← ih (i + 1) (by omega), E_X9_feed_20]
    by_cases q1 : i < 4
    · simp (disch := omega) only [y_0, y_1, y_2, y_3, y_4, y_5, y_6, y_7, y_8, y_9, y_10, y_11, y_12, y_13, y_14, y_15, y_16, y_17, y_18, y_19, y_20, y_21, y_22, y_23, y_24, y_29, y_30, y_31, y_32, y_39, y_40, y_48, y_49, y_50, y_60, y_64, y_69, y_78, y_99, y_100, y_142, y_161, y_600, y_610, y_894, y_999, y_1000, y_1216, y_1276, neg1, neg2, nI_add, nI_mul, nn_sub, nn_lt, nn_le, nn_eq, in_lt, ni_lt, in_le, ni_le, in_eq, ni_eq, iI_lt, iI_le, iI_eq, nn_clamp, inb_n, t_lt, f_lt, t_le, f_le, t_eq, f_eq, ti_lt, fi_lt, ti_le, fi_le, ti_eq, fi_eq, ↓reduceIte, ite_true, ite_false, eq_self, decide_true, decide_false, Bool.true_and, Bool.and_true, Bool.false_and, Bool.and_false, Bool.true_or, Bool.or_true, Bool.false_or, Bool.or_false, bI_t, bI_f, bI_nand, n_mod, an11, an01, negn1, negn2, false_and, and_false, true_and, and_true, not_true_eq_false, not_false_eq_true, bI_n0, bI_n1, Bool.true_eq_false, Bool.false_eq_true, cI_s, cL_s, cV_s, cR_n, pm_bR_self, bI_ite, bL_ite, bV_ite, bR_ite, e0, st a (by unfold fdW; rw [if_pos q1])]
    by_cases q2 : i < 8
    · simp (disch := omega) only [y_0, y_1, y_2, y_3, y_4, y_5, y_6, y_7, y_8, y_9, y_10, y_11, y_12, y_13, y_14, y_15, y_16, y_17, y_18, y_19, y_20, y_21, y_22, y_23, y_24, y_29, y_30, y_31, y_32, y_39, y_40, y_48, y_49, y_50, y_60, y_64, y_69, y_78, y_99, y_100, y_142, y_161, y_600, y_610, y_894, y_999, y_1000, y_1216, y_1276, neg1, neg2, nI_add, nI_mul, nn_sub, nn_lt, nn_le, nn_eq, in_lt, ni_lt, in_le, ni_le, in_eq, ni_eq, iI_lt, iI_le, iI_eq, nn_clamp, inb_n, t_lt, f_lt, t_le, f_le, t_eq, f_eq, ti_lt, fi_lt, ti_le, fi_le, ti_eq, fi_eq, ↓reduceIte, ite_true, ite_false, eq_self, decide_true, decide_false, Bool.true_and, Bool.and_true, Bool.false_and, Bool.and_false, Bool.true_or, Bool.or_true, Bool.false_or, Bool.or_false, bI_t, bI_f, bI_nand, n_mod, an11, an01, negn1, negn2, false_and, and_false, true_and, and_true, not_true_eq_false, not_false_eq_true, bI_n0, bI_n1, Bool.true_eq_false, Bool.false_eq_true, cI_s, cL_s, cV_s, cR_n, pm_bR_self, bI_ite, bL_ite, bV_ite, bR_ite, e0, st b (by unfold fdW; rw [if_neg q1, if_pos q2])]
    by_cases q3 : i < 12
    · simp (disch := omega) only [y_0, y_1, y_2, y_3, y_4, y_5, y_6, y_7, y_8, y_9, y_10, y_11, y_12, y_13, y_14, y_15, y_16, y_17, y_18, y_19, y_20, y_21, y_22, y_23, y_24, y_29, y_30, y_31, y_32, y_39, y_40, y_48, y_49, y_50, y_60, y_64, y_69, y_78, y_99, y_100, y_142, y_161, y_600, y_610, y_894, y_999, y_1000, y_1216, y_1276, neg1, neg2, nI_add, nI_mul, nn_sub, nn_lt, nn_le, nn_eq, in_lt, ni_lt, in_le, ni_le, in_eq, ni_eq, iI_lt, iI_le, iI_eq, nn_clamp, inb_n, t_lt, f_lt, t_le, f_le, t_eq, f_eq, ti_lt, fi_lt, ti_le, fi_le, ti_eq, fi_eq, ↓reduceIte, ite_true, ite_false, eq_self, decide_true, decide_false, Bool.true_and, Bool.and_true, Bool.false_and, Bool.and_false, Bool.true_or, Bool.or_true, Bool.false_or, Bool.or_false, bI_t, bI_f, bI_nand, n_mod, an11, an01, negn1, negn2, false_and, and_false, true_and, and_true, not_true_eq_false, not_false_eq_true, bI_n0, bI_n1, Bool.true_eq_false, Bool.false_eq_true, cI_s, cL_s, cV_s, cR_n, pm_bR_self, bI_ite, bL_ite, bV_ite, bR_ite, e0, st c (by unfold fdW; rw [if_neg q1, if_neg q2, if_pos q3])]
    by_cases q4 : i < 16
    · simp (disch := omega) only [y_0, y_1, y_2, y_3, y_4, y_5, y_6, y_7, y_8, y_9, y_10, y_11, y_12, y_13, y_14, y_15, y_16, y_17, y_18, y_19, y_20, y_21, y_22, y_23, y_24, y_29, y_30, y_31, y_32, y_39, y_40, y_48, y_49, y_50, y_60, y_64, y_69, y_78, y_99, y_100, y_142, y_161, y_600, y_610, y_894, y_999, y_1000, y_1216, y_1276, neg1, neg2, nI_add, nI_mul, nn_sub, nn_lt, nn_le, nn_eq, in_lt, ni_lt, in_le, ni_le, in_eq, ni_eq, iI_lt, iI_le, iI_eq, nn_clamp, inb_n, t_lt, f_lt, t_le, f_le, t_eq, f_eq, ti_lt, fi_lt, ti_le, fi_le, ti_eq, fi_eq, ↓reduceIte, ite_true, ite_false, eq_self, decide_true, decide_false, Bool.true_and, Bool.and_true, Bool.false_and, Bool.and_false, Bool.true_or, Bool.or_true, Bool.false_or, Bool.or_false, bI_t, bI_f, bI_nand, n_mod, an11, an01, negn1, negn2, false_and, and_false, true_and, and_true, not_true_eq_false, not_false_eq_true, bI_n0, bI_n1, Bool.true_eq_false, Bool.false_eq_true, cI_s, cL_s, cV_s, cR_n, pm_bR_self, bI_ite, bL_ite, bV_ite, bR_ite, e0, st d (by unfold fdW; rw [if_neg q1, if_neg q2, if_neg q3, if_pos q4])]
    · simp (disch := omega) only [y_0, y_1, y_2, y_3, y_4, y_5, y_6, y_7, y_8, y_9, y_10, y_11, y_12, y_13, y_14, y_15, y_16, y_17, y_18, y_19, y_20, y_21, y_22, y_23, y_24, y_29, y_30, y_31, y_32, y_39, y_40, y_48, y_49, y_50, y_60, y_64, y_69, y_78, y_99, y_100, y_142, y_161, y_600, y_610, y_894, y_999, y_1000, y_1216, y_1276, neg1, neg2, nI_add, nI_mul, nn_sub, nn_lt, nn_le, nn_eq, in_lt, ni_lt, in_le, ni_le, in_eq, ni_eq, iI_lt, iI_le, iI_eq, nn_clamp, inb_n, t_lt, f_lt, t_le, f_le, t_eq, f_eq, ti_lt, fi_lt, ti_le, fi_le, ti_eq, fi_eq, ↓reduceIte, ite_true, ite_false, eq_self, decide_true, decide_false, Bool.true_and, Bool.and_true, Bool.false_and, Bool.and_false, Bool.true_or, Bool.or_true, Bool.false_or, Bool.or_false, bI_t, bI_f, bI_nand, n_mod, an11, an01, negn1, negn2, false_and, and_false, true_and, and_true, not_true_eq_false, not_false_eq_true, bI_n0, bI_n1, Bool.true_eq_false, Bool.false_eq_true, cI_s, cL_s, cV_s, cR_n, pm_bR_self, bI_ite, bL_ite, bV_ite, bR_ite, e0, st e (by unfold fdW; rw [if_neg q1, if_neg q2, if_neg q3, if_neg q4])]
theorem q_feed {h : PH} (hI : Inv h) (a b c d e : Int32) : SameI (fun h => (108, 0, [vr 7 0, vi a, vi b, vi c, vi d, vi e], [], h)) (fun h => (154, 0, [vr 8 0, vi a, vi b, vi c, vi d, vi e, none, none], [], h)) h := by
  obtain ⟨_, _, _, len, t1, t2, t3, t4, t5, t6⟩ := id hI.1
  have R : rest44 h h := fun _ _ _ _ => ⟨rfl, rfl⟩
  by_cases q : len + 20 ≤ 600
  · have hw4 := fun k => (wN_fr (fdF a b c d e) h len 20 33 0 rfl k).1
    have h33 : (wN (fdF a b c d e) h len 20).1 33 0 4 = nI len := (hw4 4).trans t3
    have F := feed_20 a b c d e h33 q 20 0 rfl
    have f : Fr tpT h (mN (fdF a b c d e) (wN (fdF a b c d e) h len 20) len 20) := ((wN_fr _ h len 20).mono (fun t i z => by
      unfold tpT at z; simp only [Bool.or_eq_false_iff] at z; exact z.2.2)).tr ((mN_fr _ _ len 20).mono (fun t i z => by
      unfold tpT at z; simp only [Bool.or_eq_false_iff] at z; rw [z.2.1, Bool.and_false]))
    have P : ∀ (x : Int32) (n : Nat), n + 4 ≤ 20 → (∀ i, i < 4 → fdW a b c d e (n + i) = x) → n % 4 = 0 → pm_ev (105, 0, [vr 6 0, vi x, none], [], wN (fdF a b c d e) h len n) = some (none, wN (fdF a b c d e) h len (n + 4)) := fun x n hn hx h4 => put_C t2 x (by omega) (fun i hi => by
      unfold fdF
      rw [hx i hi, show (n + i) % 4 = i by omega])
    have P0 := P a 0 (by decide) (fun i hi => by unfold fdW; rw [if_pos (by omega)]) rfl
    have P1 := P b 4 (by decide) (fun i hi => by unfold fdW; rw [if_neg (by omega), if_pos (by omega)]) rfl
    have P2 := P c 8 (by decide) (fun i hi => by unfold fdW; rw [if_neg (by omega), if_neg (by omega), if_pos (by omega)]) rfl
    have P3 := P d 12 (by decide) (fun i hi => by unfold fdW; rw [if_neg (by omega), if_neg (by omega), if_neg (by omega), if_pos (by omega)]) rfl
    have P4 := P e 16 (by decide) (fun i hi => by unfold fdW; rw [if_neg (by omega), if_neg (by omega), if_neg (by omega), if_neg (by omega)]) rfl
    have l20 := wN_len (f := fdF a b c d e) t2 20
    refine ⟨vi (nI (len + 20)), wN (fdF a b c d e) h len 20, mN (fdF a b c d e) (wN (fdF a b c d e) h len 20) len 20, ?_, ?_, hI.tape f (fun i hi => ?_) ⟨len + 20, q, ?_, mN_len h33 20, fun i hi => ?_, ?_, ?_⟩, rest_tp f, rest_tp ((wN_fr _ h len 20).mono (fun t i z => by
      unfold tpT at z; simp only [Bool.or_eq_false_iff] at z; exact z.2.2))⟩
    · dsimp only
      rw [E_X8_feed, t2, show (20 : Int32) = nI 20 from rfl, nI_add, show (600 : Int32) = nI 600 from rfl, if_neg (fun z => by have := (nn_lt (by decide) (by omega)).mp z; omega)]
      rw [show pm_ev (105, 0, [vr 6 0, vi a, none], [], h) = _ from P0, cV_s, P1, cV_s, P2, cV_s, P3, cV_s, E_X8_feed_51, P4, cV_s, l20]
    · dsimp only
      rw [E_X9_feed, E_X9_feed_6, show (4 : Int32).toNatClampNeg = 4 from rfl, h33, show (20 : Int32) = nI 20 from rfl, nI_add, show (600 : Int32) = nI 600 from rfl, if_neg (fun z => by have := (nn_lt (by decide) (by omega)).mp z; omega)]
      exact F
    · rw [mN_33 _ _ _ _ (by omega), if_neg (by omega), hw4]
    · rw [(mN_fr (fdF a b c d e) _ len 20 6 0 rfl 1).1]; exact l20
    · rw [(mN_fr (fdF a b c d e) _ len 20 26 0 rfl i).1, wN_26, mN_33 _ _ _ _ (by omega)]
      by_cases z : len ≤ i
      · rw [if_pos ⟨z, by omega⟩, if_pos ⟨by omega, by omega⟩, show 10 + i - (10 + len) = i - len by omega]
        exact ⟨_, byt_lt _ _, rfl, rfl⟩
      · rw [if_neg (fun w => z w.1), if_neg (by omega), hw4]
        exact t4 i (by omega)
    · rw [(mN_fr (fdF a b c d e) _ len 20 6 0 rfl 2).1, wN_6 _ _ _ (by decide), mN_33 _ _ _ _ (by decide), if_neg (by omega), hw4]; exact t5
    · rw [(mN_fr (fdF a b c d e) _ len 20 6 0 rfl 3).1, wN_6 _ _ _ (by decide), mN_33 _ _ _ _ (by decide), if_neg (by omega), hw4]; exact t6
  · refine ⟨vi (-1), h, h, ?_, ?_, hI, R, R⟩
    · dsimp only
      rw [E_X8_feed, t2, show (20 : Int32) = nI 20 from rfl, nI_add, show (600 : Int32) = nI 600 from rfl, if_pos ((nn_lt (by decide) (by omega)).mpr (by omega))]
    · dsimp only
      rw [E_X9_feed, E_X9_feed_6, show (4 : Int32).toNatClampNeg = 4 from rfl, t3, show (20 : Int32) = nI 20 from rfl, nI_add, show (600 : Int32) = nI 600 from rfl, if_pos ((nn_lt (by decide) (by omega)).mpr (by omega))]
