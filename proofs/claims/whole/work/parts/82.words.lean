/-! ===== words: the class ===== -/
/-- the names that the class reads, as bytes -/
def nmB : List (List Nat) := [[115, 105, 122, 101], [108, 97, 109, 112], [114, 111, 99, 107], [103, 117, 97, 114, 100], [115, 104, 105, 112], [108, 105, 109, 105, 116], [112, 108, 97, 105, 110], [104, 105, 114, 101, 100], [108, 97, 116, 101], [100, 105, 118, 105, 100, 101, 100], [97, 115, 108, 101, 101, 112], [108, 111, 121, 97, 108], [103, 111], [109, 101, 97, 110], [116, 104, 114, 111, 119], [104, 111, 117, 114], [109, 97, 110], [101, 114, 114, 111, 114, 115], [108, 105, 116], [100, 97, 114, 107], []]
def nmc (o k : Nat) : Nat := (nmB.getD o []).getD k 0
def nmL (o : Nat) : Nat := (nmB.getD o []).length
/-- what never changes: the bytes of the names, and three tables -/
def StC (h : PH) : Prop := (∀ i k, h.1 61 i k = (st_sb.getD i []).getD k 0) ∧ (∀ k, h.1 62 0 k = st_t62.getD k 0) ∧ (∀ k, h.1 63 0 k = st_t63.getD k 0) ∧ ∀ k, h.1 64 0 k = st_t64.getD k 0
theorem nm_b : ∀ o, o < 21 → ∀ k, k < 7 → (st_sb.getD o []).getD k 0 = nI (nmc o k) := by decide +kernel
theorem nm_lt : ∀ o, o < 21 → ∀ k, k < nmL o → nmc o k < 128 ∧ 97 ≤ nmc o k ∧ nmc o k ≤ 122 := by decide +kernel
theorem nm_L : ∀ o, o < 21 → pm_nth pm_SL o 0 = nmL o ∧ nmL o ≤ 7 := by decide +kernel
theorem ch_v : ∀ c, c < 128 → (((nI c &&& 255).toUInt32 % 65536).toInt32) = nI c := by decide +kernel
theorem ch_w : ∀ c, c < 128 → ((nI c).toUInt32 % 65536).toInt32 = nI c := by decide +kernel
theorem len_C (h : PH) {o : Nat} (ho : o < 21) : pm_ev (269, 0, [vr 60 o], [], h) = some (some (vi (nI (nmL o))), h) := by
  obtain ⟨l1, l2⟩ := nm_L o ho
  have e : ∀ m, m ≤ 7 → (Int32.ofNat m) >>> ((0 : Int32) &&& 31) = nI m := by decide +kernel
  rw [E_J0_length_8abf5, E_J0_coder_7d493, cI_s, l1, e _ l2]
theorem chr_C {h : PH} (hS : StC h) {o k : Nat} (ho : o < 21) (hk : k < nmL o) : pm_ev (270, 0, [vr 60 o, vi (nI k)], [], h) = some (some (vi (nI (nmc o k))), h) := by
  obtain ⟨l1, l2⟩ := nm_L o ho
  obtain ⟨c1, _⟩ := nm_lt o ho k hk
  have b : h.1 61 o k = nI (nmc o k) := (hS.1 o k).trans (nm_b o ho k (by omega))
  have ck : pm_ev (273, 0, [vi (nI k), vi (Int32.ofNat (nmL o))], [], h) = some (none, h) := by
    rw [E_J0_checkIndex_df160, E_J3_checkIndex_8e157, if_neg (show ¬ nI k < 0 by rw [show (0 : Int32) = nI 0 from rfl, nn_lt (by omega) (by decide)]; omega), if_pos (show nI k < Int32.ofNat (nmL o) from (nn_lt (by omega) (by omega)).mpr hk), cI_s]
  rw [E_J0_charAt_5068e, E_J0_isLatin1_aae02, cI_s, if_neg (by decide), E_J1_charAt_3b067, l1, ck, cV_s, if_pos (inb_n hk (by omega)), nn_clamp (by omega), b, ch_v _ c1, ch_w _ c1, if_pos rfl, cI_s, ch_w _ c1, if_pos rfl]
def mtK (T : Nat → Nat) (w o : Nat) : Nat → Nat → Bool
  | 0, _ => true
  | r + 1, k => decide (T (w + k) = nmc o k) && mtK T w o r (k + 1)
/-- the name o stands from w to e -/
def mt (T : Nat → Nat) (w e o : Nat) : Bool := decide (e - w = nmL o) && mtK T w o (nmL o) 0
theorem here_20 {h : PH} (hS : StC h) {n w e : Nat} {T : Nat → Nat} (hT : TapC h n T) (hn : n ≤ 600) (h7 : h.1 4 0 7 = nI w) {o : Nat} (ho : o < 21) (he : e ≤ n) (hl : e - w = nmL o) (hwe : w ≤ e) : ∀ r k, k + r = nmL o → pm_ev (72, 20, [vr 4 0, vr 26 0, vr 60 o, vi (nI k)], [], h) = some (some (vi (bI (mtK T w o r k))), h) := by
  obtain ⟨l1, l2⟩ := nm_L o ho
  have L := len_C h ho
  intro r
  induction r with
  | zero =>
    intro k hk
    rw [E_X4_isHere_20]
    simp (disch := omega) only [y_0, y_1, y_2, y_3, y_4, y_5, y_6, y_7, y_8, y_9, y_10, y_11, y_12, y_13, y_14, y_15, y_16, y_17, y_18, y_19, y_20, y_21, y_22, y_23, y_24, y_29, y_30, y_31, y_32, y_39, y_40, y_48, y_49, y_50, y_60, y_64, y_69, y_78, y_99, y_100, y_142, y_161, y_600, y_610, y_894, y_999, y_1000, y_1216, y_1276, neg1, neg2, nI_add, nI_mul, nn_sub, nn_lt, nn_le, nn_eq, in_lt, ni_lt, in_le, ni_le, in_eq, ni_eq, iI_lt, iI_le, iI_eq, nn_clamp, inb_n, t_lt, f_lt, t_le, f_le, t_eq, f_eq, ti_lt, fi_lt, ti_le, fi_le, ti_eq, fi_eq, ↓reduceIte, ite_true, ite_false, eq_self, decide_true, decide_false, Bool.true_and, Bool.and_true, Bool.false_and, Bool.and_false, Bool.true_or, Bool.or_true, Bool.false_or, Bool.or_false, bI_t, bI_f, bI_nand, n_mod, an11, an01, negn1, negn2, false_and, and_false, true_and, and_true, not_true_eq_false, not_false_eq_true, bI_n0, bI_n1, Bool.true_eq_false, Bool.false_eq_true, cI_s, cL_s, cV_s, cR_n, pm_bR_self, bI_ite, bL_ite, bV_ite, bR_ite, L]
    rfl
  | succ r ih =>
    intro k hk
    have C := chr_C hS ho (show k < nmL o by omega)
    obtain ⟨c1, _⟩ := nm_lt o ho k (by omega)
    obtain ⟨b1, b2⟩ := hT (w + k) (by omega)
    have em : mtK T w o (r + 1) k = (decide (T (w + k) = nmc o k) && mtK T w o r (k + 1)) := rfl
    rw [em, E_X4_isHere_20]
    by_cases q : T (w + k) = nmc o k
    · rw [decide_eq_true q, Bool.true_and, ← ih (k + 1) (by omega)]
      simp (disch := omega) only [y_0, y_1, y_2, y_3, y_4, y_5, y_6, y_7, y_8, y_9, y_10, y_11, y_12, y_13, y_14, y_15, y_16, y_17, y_18, y_19, y_20, y_21, y_22, y_23, y_24, y_29, y_30, y_31, y_32, y_39, y_40, y_48, y_49, y_50, y_60, y_64, y_69, y_78, y_99, y_100, y_142, y_161, y_600, y_610, y_894, y_999, y_1000, y_1216, y_1276, neg1, neg2, nI_add, nI_mul, nn_sub, nn_lt, nn_le, nn_eq, in_lt, ni_lt, in_le, ni_le, in_eq, ni_eq, iI_lt, iI_le, iI_eq, nn_clamp, inb_n, t_lt, f_lt, t_le, f_le, t_eq, f_eq, ti_lt, fi_lt, ti_le, fi_le, ti_eq, fi_eq, ↓reduceIte, ite_true, ite_false, eq_self, decide_true, decide_false, Bool.true_and, Bool.and_true, Bool.false_and, Bool.and_false, Bool.true_or, Bool.or_true, Bool.false_or, Bool.or_false, bI_t, bI_f, bI_nand, n_mod, an11, an01, negn1, negn2, false_and, and_false, true_and, and_true, not_true_eq_false, not_false_eq_true, bI_n0, bI_n1, Bool.true_eq_false, Bool.false_eq_true, cI_s, cL_s, cV_s, cR_n, pm_bR_self, bI_ite, bL_ite, bV_ite, bR_ite, L, h7, b2, C]
    · rw [decide_eq_false q, Bool.false_and]
      simp (disch := omega) only [y_0, y_1, y_2, y_3, y_4, y_5, y_6, y_7, y_8, y_9, y_10, y_11, y_12, y_13, y_14, y_15, y_16, y_17, y_18, y_19, y_20, y_21, y_22, y_23, y_24, y_29, y_30, y_31, y_32, y_39, y_40, y_48, y_49, y_50, y_60, y_64, y_69, y_78, y_99, y_100, y_142, y_161, y_600, y_610, y_894, y_999, y_1000, y_1216, y_1276, neg1, neg2, nI_add, nI_mul, nn_sub, nn_lt, nn_le, nn_eq, in_lt, ni_lt, in_le, ni_le, in_eq, ni_eq, iI_lt, iI_le, iI_eq, nn_clamp, inb_n, t_lt, f_lt, t_le, f_le, t_eq, f_eq, ti_lt, fi_lt, ti_le, fi_le, ti_eq, fi_eq, ↓reduceIte, ite_true, ite_false, eq_self, decide_true, decide_false, Bool.true_and, Bool.and_true, Bool.false_and, Bool.and_false, Bool.true_or, Bool.or_true, Bool.false_or, Bool.or_false, bI_t, bI_f, bI_nand, n_mod, an11, an01, negn1, negn2, false_and, and_false, true_and, and_true, not_true_eq_false, not_false_eq_true, bI_n0, bI_n1, Bool.true_eq_false, Bool.false_eq_true, cI_s, cL_s, cV_s, cR_n, pm_bR_self, bI_ite, bL_ite, bV_ite, bR_ite, L, h7, b2, C]
theorem here_C {h : PH} (hS : StC h) {n w e : Nat} {T : Nat → Nat} (hT : TapC h n T) (hn : n ≤ 600) (h7 : h.1 4 0 7 = nI w) (h8 : h.1 4 0 8 = nI e) {o : Nat} (ho : o < 21) (he : e ≤ n) (hwe : w ≤ e) : pm_ev (72, 0, [vr 4 0, vr 26 0, vr 60 o, none], [], h) = some (some (vi (bI (mt T w e o))), h) := by
  obtain ⟨l1, l2⟩ := nm_L o ho
  have L := len_C h ho
  rw [E_X4_isHere]
  unfold mt
  by_cases q : e - w = nmL o
  · rw [decide_eq_true q, Bool.true_and, ← here_20 hS hT hn h7 ho he q hwe _ 0 (Nat.zero_add _)]
    simp (disch := omega) only [y_0, y_1, y_2, y_3, y_4, y_5, y_6, y_7, y_8, y_9, y_10, y_11, y_12, y_13, y_14, y_15, y_16, y_17, y_18, y_19, y_20, y_21, y_22, y_23, y_24, y_29, y_30, y_31, y_32, y_39, y_40, y_48, y_49, y_50, y_60, y_64, y_69, y_78, y_99, y_100, y_142, y_161, y_600, y_610, y_894, y_999, y_1000, y_1216, y_1276, neg1, neg2, nI_add, nI_mul, nn_sub, nn_lt, nn_le, nn_eq, in_lt, ni_lt, in_le, ni_le, in_eq, ni_eq, iI_lt, iI_le, iI_eq, nn_clamp, inb_n, t_lt, f_lt, t_le, f_le, t_eq, f_eq, ti_lt, fi_lt, ti_le, fi_le, ti_eq, fi_eq, ↓reduceIte, ite_true, ite_false, eq_self, decide_true, decide_false, Bool.true_and, Bool.and_true, Bool.false_and, Bool.and_false, Bool.true_or, Bool.or_true, Bool.false_or, Bool.or_false, bI_t, bI_f, bI_nand, n_mod, an11, an01, negn1, negn2, false_and, and_false, true_and, and_true, not_true_eq_false, not_false_eq_true, bI_n0, bI_n1, Bool.true_eq_false, Bool.false_eq_true, cI_s, cL_s, cV_s, cR_n, pm_bR_self, bI_ite, bL_ite, bV_ite, bR_ite, L, h7, h8]
  · rw [decide_eq_false q, Bool.false_and]
    simp (disch := omega) only [y_0, y_1, y_2, y_3, y_4, y_5, y_6, y_7, y_8, y_9, y_10, y_11, y_12, y_13, y_14, y_15, y_16, y_17, y_18, y_19, y_20, y_21, y_22, y_23, y_24, y_29, y_30, y_31, y_32, y_39, y_40, y_48, y_49, y_50, y_60, y_64, y_69, y_78, y_99, y_100, y_142, y_161, y_600, y_610, y_894, y_999, y_1000, y_1216, y_1276, neg1, neg2, nI_add, nI_mul, nn_sub, nn_lt, nn_le, nn_eq, in_lt, ni_lt, in_le, ni_le, in_eq, ni_eq, iI_lt, iI_le, iI_eq, nn_clamp, inb_n, t_lt, f_lt, t_le, f_le, t_eq, f_eq, ti_lt, fi_lt, ti_le, fi_le, ti_eq, fi_eq, ↓reduceIte, ite_true, ite_false, eq_self, decide_true, decide_false, Bool.true_and, Bool.and_true, Bool.false_and, Bool.and_false, Bool.true_or, Bool.or_true, Bool.false_or, Bool.or_false, bI_t, bI_f, bI_nand, n_mod, an11, an01, negn1, negn2, false_and, and_false, true_and, and_true, not_true_eq_false, not_false_eq_true, bI_n0, bI_n1, Bool.true_eq_false, Bool.false_eq_true, cI_s, cL_s, cV_s, cR_n, pm_bR_self, bI_ite, bL_ite, bV_ite, bR_ite, L, h7, h8]
/-- the name of a word -/
def soW (q : Nat) : Nat := if q < 17 then q else if q = 17 then 5 else q - 1
theorem name_C (h : PH) {q : Nat} (hq : q < 21) : pm_ev (73, 0, [vi (nI q)], [], h) = some (some (vr 60 (soW q)), h) := by
  have : q = 0 ∨ q = 1 ∨ q = 2 ∨ q = 3 ∨ q = 4 ∨ q = 5 ∨ q = 6 ∨ q = 7 ∨ q = 8 ∨ q = 9 ∨ q = 10 ∨ q = 11 ∨ q = 12 ∨ q = 13 ∨ q = 14 ∨ q = 15 ∨ q = 16 ∨ q = 17 ∨ q = 18 ∨ q = 19 ∨ q = 20 := by omega
  rcases this with e | e | e | e | e | e | e | e | e | e | e | e | e | e | e | e | e | e | e | e | e <;> subst e <;> (rw [E_X4_nameOf]; rfl)
def loW (s : Nat) : Nat := if s = 0 then 0 else if s = 1 then 12 else 16
def hiW (s : Nat) : Nat := if s = 0 then 12 else if s = 1 then 16 else 21
theorem t62_v : ∀ s, s < 3 → st_t62.getD s 0 = nI (loW s) ∧ st_t62.getD (s + 1) 0 = nI (hiW s) := by decide +kernel
theorem soW_lt {q : Nat} (h : q < 21) : soW q < 21 := by
  unfold soW
  repeat' split
  all_goals omega
theorem word_22 {h : PH} (hS : StC h) {n w e s : Nat} {T : Nat → Nat} (hT : TapC h n T) (hn : n ≤ 600) (h7 : h.1 4 0 7 = nI w) (h8 : h.1 4 0 8 = nI e) (he : e ≤ n) (hwe : w ≤ e) (hs : s < 3) : ∀ r q, q + r = hiW s → pm_ev (71, 22, [vr 4 0, vr 26 0, vi (nI s), vi (nI q)], [], h) = some (some (vi (oN (fstB (fun q => mt T w e (soW q)) r q))), h) := by
  have t2 := (hS.2.1 (s + 1)).trans (t62_v s hs).2
  have hh : hiW s ≤ 21 := by
    unfold hiW
    repeat' split
    all_goals omega
  intro r
  induction r with
  | zero =>
    intro q hq
    rw [E_X4_wordHere_22]
    simp (disch := omega) only [y_0, y_1, y_2, y_3, y_4, y_5, y_6, y_7, y_8, y_9, y_10, y_11, y_12, y_13, y_14, y_15, y_16, y_17, y_18, y_19, y_20, y_21, y_22, y_23, y_24, y_29, y_30, y_31, y_32, y_39, y_40, y_48, y_49, y_50, y_60, y_64, y_69, y_78, y_99, y_100, y_142, y_161, y_600, y_610, y_894, y_999, y_1000, y_1216, y_1276, neg1, neg2, nI_add, nI_mul, nn_sub, nn_lt, nn_le, nn_eq, in_lt, ni_lt, in_le, ni_le, in_eq, ni_eq, iI_lt, iI_le, iI_eq, nn_clamp, inb_n, t_lt, f_lt, t_le, f_le, t_eq, f_eq, ti_lt, fi_lt, ti_le, fi_le, ti_eq, fi_eq, ↓reduceIte, ite_true, ite_false, eq_self, decide_true, decide_false, Bool.true_and, Bool.and_true, Bool.false_and, Bool.and_false, Bool.true_or, Bool.or_true, Bool.false_or, Bool.or_false, bI_t, bI_f, bI_nand, n_mod, an11, an01, negn1, negn2, false_and, and_false, true_and, and_true, not_true_eq_false, not_false_eq_true, bI_n0, bI_n1, Bool.true_eq_false, Bool.false_eq_true, cI_s, cL_s, cV_s, cR_n, pm_bR_self, bI_ite, bL_ite, bV_ite, bR_ite, t2]
    rfl
  | succ r ih =>
    intro q hq
    have N := name_C h (show q < 21 by omega)
    have H := here_C hS hT hn h7 h8 (soW_lt (show q < 21 by omega)) he hwe
    have i1 : pm_inb (nI s + 1) 4 = true := by rw [show (1 : Int32) = nI 1 from rfl, nI_add]; exact inb_n (by omega) (by omega)
    have c1 : (nI s + 1).toNatClampNeg = s + 1 := by rw [show (1 : Int32) = nI 1 from rfl, nI_add]; exact nn_clamp (by omega)
    rw [E_X4_wordHere_22, if_pos i1, c1, t2, if_pos ((nn_lt (by omega) (by omega)).mpr (show q < hiW s by omega)), N, pm_bR_self, H, cI_s]
    cases m : mt T w e (soW q)
    · rw [fstB_f (p := fun q => mt T w e (soW q)) m, if_pos (by rfl), show (1 : Int32) = nI 1 from rfl, nI_add]
      exact ih (q + 1) (by omega)
    · rw [fstB_t (p := fun q => mt T w e (soW q)) m, if_neg (by decide)]
      rfl
/-- the word of a sort that stands here -/
def wdC (T : Nat → Nat) (s w e : Nat) : Option Nat := fstB (fun q => mt T w e (soW q)) (hiW s - loW s) (loW s)
theorem wordHere_C {h : PH} (hS : StC h) {n w e s : Nat} {T : Nat → Nat} (hT : TapC h n T) (hn : n ≤ 600) (h7 : h.1 4 0 7 = nI w) (h8 : h.1 4 0 8 = nI e) (he : e ≤ n) (hwe : w ≤ e) (hs : s < 3) : pm_ev (71, 0, [vr 4 0, vr 26 0, vi (nI s), none], [], h) = some (some (vi (oN (wdC T s w e))), h) := by
  have t1 := (hS.2.1 s).trans (t62_v s hs).1
  have W := word_22 hS hT hn h7 h8 he hwe hs (hiW s - loW s) (loW s) (by
    have : s = 0 ∨ s = 1 ∨ s = 2 := by omega
    rcases this with e | e | e <;> subst e <;> rfl)
  rw [E_X4_wordHere]
  unfold wdC
  rw [← W]
  simp (disch := omega) only [y_0, y_1, y_2, y_3, y_4, y_5, y_6, y_7, y_8, y_9, y_10, y_11, y_12, y_13, y_14, y_15, y_16, y_17, y_18, y_19, y_20, y_21, y_22, y_23, y_24, y_29, y_30, y_31, y_32, y_39, y_40, y_48, y_49, y_50, y_60, y_64, y_69, y_78, y_99, y_100, y_142, y_161, y_600, y_610, y_894, y_999, y_1000, y_1216, y_1276, neg1, neg2, nI_add, nI_mul, nn_sub, nn_lt, nn_le, nn_eq, in_lt, ni_lt, in_le, ni_le, in_eq, ni_eq, iI_lt, iI_le, iI_eq, nn_clamp, inb_n, t_lt, f_lt, t_le, f_le, t_eq, f_eq, ti_lt, fi_lt, ti_le, fi_le, ti_eq, fi_eq, ↓reduceIte, ite_true, ite_false, eq_self, decide_true, decide_false, Bool.true_and, Bool.and_true, Bool.false_and, Bool.and_false, Bool.true_or, Bool.or_true, Bool.false_or, Bool.or_false, bI_t, bI_f, bI_nand, n_mod, an11, an01, negn1, negn2, false_and, and_false, true_and, and_true, not_true_eq_false, not_false_eq_true, bI_n0, bI_n1, Bool.true_eq_false, Bool.false_eq_true, cI_s, cL_s, cV_s, cR_n, pm_bR_self, bI_ite, bL_ite, bV_ite, bR_ite, t1]
