/-! ===== the reference's search ===== -/
def goH (h : PH) (F N T : Nat → Int32) : PH := (fun a b c => if b = 0 ∧ c < 64 then (if a = 39 then F c else if a = 40 then N c else if a = 41 then T c else h.1 a b c) else h.1 a b c, h.2)
theorem goH_self (h : PH) : goH h (h.1 39 0) (h.1 40 0) (h.1 41 0) = h := ph_ext (fun a b c => by
  show (if b = 0 ∧ c < 64 then (if a = 39 then h.1 39 0 c else if a = 40 then h.1 40 0 c else if a = 41 then h.1 41 0 c else h.1 a b c) else h.1 a b c) = _
  repeat' split
  all_goals simp_all) rfl
theorem goH_39 (h : PH) (F N T : Nat → Int32) {k : Nat} (hk : k < 64) : (goH h F N T).1 39 0 k = F k := by
  show (if 0 = 0 ∧ k < 64 then _ else _) = _
  rw [if_pos ⟨rfl, hk⟩]; rfl
theorem goH_40 (h : PH) (F N T : Nat → Int32) {k : Nat} (hk : k < 64) : (goH h F N T).1 40 0 k = N k := by
  show (if 0 = 0 ∧ k < 64 then _ else _) = _
  rw [if_pos ⟨rfl, hk⟩]; rfl
theorem goH_41 (h : PH) (F N T : Nat → Int32) {k : Nat} (hk : k < 64) : (goH h F N T).1 41 0 k = T k := by
  show (if 0 = 0 ∧ k < 64 then _ else _) = _
  rw [if_pos ⟨rfl, hk⟩]; rfl
theorem goH_o (h : PH) (F N T : Nat → Int32) {t : Nat} (i k : Nat) (h1 : t ≠ 39) (h2 : t ≠ 40) (h3 : t ≠ 41) : (goH h F N T).1 t i k = h.1 t i k := by
  show (if i = 0 ∧ k < 64 then (if t = 39 then F k else if t = 40 then N k else if t = 41 then T k else h.1 t i k) else h.1 t i k) = _
  rw [if_neg h1, if_neg h2, if_neg h3]
  split <;> rfl
theorem goH_cong (h : PH) {F N T F' N' T' : Nat → Int32} (hF : ∀ k, k < 64 → F k = F' k) (hN : ∀ k, k < 64 → N k = N' k) (hT : ∀ k, k < 64 → T k = T' k) : goH h F N T = goH h F' N' T' := ph_ext (fun a b c => by
  show (if b = 0 ∧ c < 64 then (if a = 39 then F c else if a = 40 then N c else if a = 41 then T c else h.1 a b c) else h.1 a b c) = (if b = 0 ∧ c < 64 then (if a = 39 then F' c else if a = 40 then N' c else if a = 41 then T' c else h.1 a b c) else h.1 a b c)
  by_cases q : b = 0 ∧ c < 64
  · rw [if_pos q, if_pos q, hF c q.2, hN c q.2, hT c q.2]
  · rw [if_neg q, if_neg q]) rfl
theorem goH_s39 (h : PH) (F N T : Nat → Int32) {k : Nat} (hk : k < 64) (v : Int32) : pm_sI (goH h F N T) 39 0 k v = goH h (upd F k v) N T := ph_ext (fun a b c => by
  rw [pm_sI_at]
  show (if a = 39 ∧ b = 0 ∧ c = k then v else if b = 0 ∧ c < 64 then (if a = 39 then F c else if a = 40 then N c else if a = 41 then T c else h.1 a b c) else h.1 a b c) = (if b = 0 ∧ c < 64 then (if a = 39 then (if c = k then v else F c) else if a = 40 then N c else if a = 41 then T c else h.1 a b c) else h.1 a b c)
  repeat' split
  all_goals first | rfl | (exfalso; omega)) rfl
theorem goH_s40 (h : PH) (F N T : Nat → Int32) {k : Nat} (hk : k < 64) (v : Int32) : pm_sI (goH h F N T) 40 0 k v = goH h F (upd N k v) T := ph_ext (fun a b c => by
  rw [pm_sI_at]
  show (if a = 40 ∧ b = 0 ∧ c = k then v else if b = 0 ∧ c < 64 then (if a = 39 then F c else if a = 40 then N c else if a = 41 then T c else h.1 a b c) else h.1 a b c) = (if b = 0 ∧ c < 64 then (if a = 39 then F c else if a = 40 then (if c = k then v else N c) else if a = 41 then T c else h.1 a b c) else h.1 a b c)
  repeat' split
  all_goals first | rfl | (exfalso; omega)) rfl
theorem goH_s41 (h : PH) (F N T : Nat → Int32) {k : Nat} (hk : k < 64) (v : Int32) : pm_sI (goH h F N T) 41 0 k v = goH h F N (upd T k v) := ph_ext (fun a b c => by
  rw [pm_sI_at]
  show (if a = 41 ∧ b = 0 ∧ c = k then v else if b = 0 ∧ c < 64 then (if a = 39 then F c else if a = 40 then N c else if a = 41 then T c else h.1 a b c) else h.1 a b c) = (if b = 0 ∧ c < 64 then (if a = 39 then F c else if a = 40 then N c else if a = 41 then (if c = k then v else T c) else h.1 a b c) else h.1 a b c)
  repeat' split
  all_goals first | rfl | (exfalso; omega)) rfl
theorem goH_M {h : PH} {a : Nat} {c : AC} (hm : ModS h a c) (F N T : Nat → Int32) : ModS (goH h F N T) a c := hm.fr (fun k => goH_o h F N T 0 k (by decide) (by decide) (by decide)) (fun k _ _ => goH_o h F N T 0 k (by decide) (by decide) (by decide))
theorem goH_d {h : PH} {a : Nat} {c : AC} (hm : CoastMd h a c) (F N T : Nat → Int32) : CoastMd (goH h F N T) a c := hm.fr (fun k => goH_o h F N T 0 k (by decide) (by decide) (by decide))
theorem goH_A {h : PH} {c : AC} (hm : AliveM h c) (F N T : Nat → Int32) : AliveM (goH h F N T) c := hm.fr (fun k => goH_o h F N T 0 k (by decide) (by decide) (by decide)) (fun k => goH_o h F N T 0 k (by decide) (by decide) (by decide))
theorem goH_8 (h : PH) (F N T : Nat → Int32) (k : Nat) : (goH h F N T).1 8 0 k = h.1 8 0 k := goH_o h F N T 0 k (by decide) (by decide) (by decide)
theorem goH_fr (h : PH) (F N T : Nat → Int32) : Fr scM h (goH h F N T) := fun t i ht k => ⟨goH_o h F N T i k (fun e => by subst e; cases ht) (fun e => by subst e; cases ht) (fun e => by subst e; cases ht), rfl⟩
theorem of_M0 {h : PH} {a : Nat} {c : AC} (hv : cV c) (hm : ModS h a c) (hd : CoastMd h a c) {s : Nat} (hs : s < (c (6)).val) : pm_ev (188, 0, [vr 8 0, vi (nI s), vi (nI 0)], [], h) = some (some (vi (nI ((c (0)).val * (c (50+s)).val + (c (40+s)).val))), h) := by
  have hV1 := hv.1
  rw [of_M hm (show s < 4 by omega) (by decide), (hd s hs).1.1]
def cutF (G F : Nat → Int32) (k i : Nat) : Int32 := if i < k then G i else F i
theorem cutF_0 (G F : Nat → Int32) : cutF G F 0 = F := funext fun i => if_neg (by omega)
theorem cutF_lt {G F : Nat → Int32} {k i : Nat} (h : i < k) : cutF G F k i = G i := if_pos h
theorem cutF_ge {G F : Nat → Int32} {k i : Nat} (h : k ≤ i) : cutF G F k i = F i := if_neg (by omega)
theorem cutF_s (G F : Nat → Int32) (k : Nat) {v : Int32} (hv : v = G k) : upd (cutF G F k) k v = cutF G F (k + 1) := funext fun i => by
  unfold upd cutF
  by_cases q : i = k
  · subst q; rw [if_pos rfl, if_pos (by omega), hv]
  · rw [if_neg q]
    by_cases q2 : i < k
    · rw [if_pos q2, if_pos (by omega)]
    · rw [if_neg q2, if_neg (by omega)]
def ownF (own i : Nat) : Int32 := bI (decide (i = own))
def noneF (_ : Nat) : Int32 := iI (-1)
def zeroF (_ : Nat) : Int32 := nI 0
theorem goes_3 {h : PH} {a : Nat} {c : AC} (hv : cV c) (hm : ModS h a c) (hd : CoastMd h a c) {s : Nat} (hs : s < (c (6)).val) (b n w : Int32) (F N T : Nat → Int32) : ∀ r k, k + r = 64 → pm_ev (219, 3, [vr 8 0, vi (nI s), vi b, vi n, vi w, vi (nI k), none, none], [], goH h (cutF noneF F k) (cutF (ownF ((c (0)).val * (c (50+s)).val + (c (40+s)).val)) N k) T) = pm_ev (219, 62, [vr 8 0, vi (nI s), vi b, vi n, vi w, vi (nI 0), none, none], [], goH h (upd noneF ((c (0)).val * (c (50+s)).val + (c (40+s)).val) (nI 0)) (ownF ((c (0)).val * (c (50+s)).val + (c (40+s)).val)) T) := by
  have hV1 := hv.1
  obtain ⟨v1, v2, _⟩ := hv.2.2.1 s hs
  obtain ⟨l1, l2⟩ := cell_lt hv v1 v2
  have O := fun F N T => of_M0 hv (goH_M hm F N T) (goH_d hd F N T) hs
  generalize (c (0)).val * (c (50+s)).val + (c (40+s)).val = own at *
  intro r
  induction r with
  | zero =>
    intro k hk
    have hk : k = 64 := by omega
    subst hk
    rw [E_X9_goes_3]
    simp (disch := omega) only [y_0, y_1, y_2, y_3, y_4, y_5, y_6, y_7, y_8, y_9, y_10, y_11, y_12, y_13, y_14, y_15, y_16, y_17, y_18, y_19, y_20, y_21, y_22, y_23, y_24, y_29, y_30, y_31, y_32, y_39, y_40, y_48, y_49, y_50, y_60, y_64, y_69, y_78, y_99, y_100, y_142, y_161, y_600, y_610, y_894, y_999, y_1000, y_1216, y_1276, neg1, neg2, nI_add, nI_mul, nn_sub, nn_lt, nn_le, nn_eq, in_lt, ni_lt, in_le, ni_le, in_eq, ni_eq, iI_lt, iI_le, iI_eq, nn_clamp, inb_n, t_lt, f_lt, t_le, f_le, t_eq, f_eq, ti_lt, fi_lt, ti_le, fi_le, ti_eq, fi_eq, ↓reduceIte, ite_true, ite_false, eq_self, decide_true, decide_false, Bool.true_and, Bool.and_true, Bool.false_and, Bool.and_false, Bool.true_or, Bool.or_true, Bool.false_or, Bool.or_false, bI_t, bI_f, bI_nand, n_mod, an11, an01, negn1, negn2, false_and, and_false, true_and, and_true, not_true_eq_false, not_false_eq_true, bI_n0, bI_n1, Bool.true_eq_false, Bool.false_eq_true, cI_s, cL_s, cV_s, cR_n, pm_bR_self, bI_ite, bL_ite, bV_ite, bR_ite, E_X9_goes_18, E_X9_goes_57, E_X9_goes_32, E_X9_goes_59, E_X9_goes_41, E_X9_goes_86, E_X9_goes_116, E_X9_goes_130, E_X9_goes_207, E_X9_goes_232, E_X9_goes_223, E_X9_goes_147, E_X9_goes_239, E_X9_goes_165, E_X9_goes_163, E_X9_goes_264, E_X9_goes_249, O, goH_s39]
    exact congrArg (fun g => pm_ev (219, 62, [vr 8 0, vi (nI s), vi b, vi n, vi w, vi (nI 0), none, none], [], g)) (goH_cong h (fun k hk => by unfold upd; rw [cutF_lt hk]) (fun k hk => cutF_lt hk) (fun k hk => rfl))
  | succ r ih =>
    intro k hk
    rw [← ih (k + 1) (by omega), E_X9_goes_3]
    have e1 := cutF_s noneF F k (v := iI (-1)) rfl
    by_cases q : k = own
    · have e2 := cutF_s (ownF own) N k (v := nI 1) (by unfold ownF; rw [decide_eq_true q]; rfl)
      simp (disch := omega) only [y_0, y_1, y_2, y_3, y_4, y_5, y_6, y_7, y_8, y_9, y_10, y_11, y_12, y_13, y_14, y_15, y_16, y_17, y_18, y_19, y_20, y_21, y_22, y_23, y_24, y_29, y_30, y_31, y_32, y_39, y_40, y_48, y_49, y_50, y_60, y_64, y_69, y_78, y_99, y_100, y_142, y_161, y_600, y_610, y_894, y_999, y_1000, y_1216, y_1276, neg1, neg2, nI_add, nI_mul, nn_sub, nn_lt, nn_le, nn_eq, in_lt, ni_lt, in_le, ni_le, in_eq, ni_eq, iI_lt, iI_le, iI_eq, nn_clamp, inb_n, t_lt, f_lt, t_le, f_le, t_eq, f_eq, ti_lt, fi_lt, ti_le, fi_le, ti_eq, fi_eq, ↓reduceIte, ite_true, ite_false, eq_self, decide_true, decide_false, Bool.true_and, Bool.and_true, Bool.false_and, Bool.and_false, Bool.true_or, Bool.or_true, Bool.false_or, Bool.or_false, bI_t, bI_f, bI_nand, n_mod, an11, an01, negn1, negn2, false_and, and_false, true_and, and_true, not_true_eq_false, not_false_eq_true, bI_n0, bI_n1, Bool.true_eq_false, Bool.false_eq_true, cI_s, cL_s, cV_s, cR_n, pm_bR_self, bI_ite, bL_ite, bV_ite, bR_ite, E_X9_goes_18, E_X9_goes_57, E_X9_goes_32, E_X9_goes_59, E_X9_goes_41, E_X9_goes_86, E_X9_goes_116, E_X9_goes_130, E_X9_goes_207, E_X9_goes_232, E_X9_goes_223, E_X9_goes_147, E_X9_goes_239, E_X9_goes_165, E_X9_goes_163, E_X9_goes_264, E_X9_goes_249, goH_s39, O, goH_s40, e1, e2]
    · have e2 := cutF_s (ownF own) N k (v := nI 0) (by unfold ownF; rw [decide_eq_false q]; rfl)
      simp (disch := omega) only [y_0, y_1, y_2, y_3, y_4, y_5, y_6, y_7, y_8, y_9, y_10, y_11, y_12, y_13, y_14, y_15, y_16, y_17, y_18, y_19, y_20, y_21, y_22, y_23, y_24, y_29, y_30, y_31, y_32, y_39, y_40, y_48, y_49, y_50, y_60, y_64, y_69, y_78, y_99, y_100, y_142, y_161, y_600, y_610, y_894, y_999, y_1000, y_1216, y_1276, neg1, neg2, nI_add, nI_mul, nn_sub, nn_lt, nn_le, nn_eq, in_lt, ni_lt, in_le, ni_le, in_eq, ni_eq, iI_lt, iI_le, iI_eq, nn_clamp, inb_n, t_lt, f_lt, t_le, f_le, t_eq, f_eq, ti_lt, fi_lt, ti_le, fi_le, ti_eq, fi_eq, ↓reduceIte, ite_true, ite_false, eq_self, decide_true, decide_false, Bool.true_and, Bool.and_true, Bool.false_and, Bool.and_false, Bool.true_or, Bool.or_true, Bool.false_or, Bool.or_false, bI_t, bI_f, bI_nand, n_mod, an11, an01, negn1, negn2, false_and, and_false, true_and, and_true, not_true_eq_false, not_false_eq_true, bI_n0, bI_n1, Bool.true_eq_false, Bool.false_eq_true, cI_s, cL_s, cV_s, cR_n, pm_bR_self, bI_ite, bL_ite, bV_ite, bR_ite, E_X9_goes_18, E_X9_goes_57, E_X9_goes_32, E_X9_goes_59, E_X9_goes_41, E_X9_goes_86, E_X9_goes_116, E_X9_goes_130, E_X9_goes_207, E_X9_goes_232, E_X9_goes_223, E_X9_goes_147, E_X9_goes_239, E_X9_goes_165, E_X9_goes_163, E_X9_goes_264, E_X9_goes_249, goH_s39, O, goH_s40, e1, e2]
theorem goes_71 {h : PH} (s b n w t : Int32) (F N T : Nat → Int32) : ∀ r k, k + r = 64 → pm_ev (219, 71, [vr 8 0, vi s, vi b, vi n, vi w, vi t, vi (nI k), none], [], goH h F N (cutF zeroF T k)) = pm_ev (219, 95, [vr 8 0, vi s, vi b, vi n, vi w, vi t, vi (nI 0), none], [], goH h F N zeroF) := by
  intro r
  induction r with
  | zero =>
    intro k hk
    have hk : k = 64 := by omega
    subst hk
    rw [E_X9_goes_71]
    simp (disch := omega) only [y_0, y_1, y_2, y_3, y_4, y_5, y_6, y_7, y_8, y_9, y_10, y_11, y_12, y_13, y_14, y_15, y_16, y_17, y_18, y_19, y_20, y_21, y_22, y_23, y_24, y_29, y_30, y_31, y_32, y_39, y_40, y_48, y_49, y_50, y_60, y_64, y_69, y_78, y_99, y_100, y_142, y_161, y_600, y_610, y_894, y_999, y_1000, y_1216, y_1276, neg1, neg2, nI_add, nI_mul, nn_sub, nn_lt, nn_le, nn_eq, in_lt, ni_lt, in_le, ni_le, in_eq, ni_eq, iI_lt, iI_le, iI_eq, nn_clamp, inb_n, t_lt, f_lt, t_le, f_le, t_eq, f_eq, ti_lt, fi_lt, ti_le, fi_le, ti_eq, fi_eq, ↓reduceIte, ite_true, ite_false, eq_self, decide_true, decide_false, Bool.true_and, Bool.and_true, Bool.false_and, Bool.and_false, Bool.true_or, Bool.or_true, Bool.false_or, Bool.or_false, bI_t, bI_f, bI_nand, n_mod, an11, an01, negn1, negn2, false_and, and_false, true_and, and_true, not_true_eq_false, not_false_eq_true, bI_n0, bI_n1, Bool.true_eq_false, Bool.false_eq_true, cI_s, cL_s, cV_s, cR_n, pm_bR_self, bI_ite, bL_ite, bV_ite, bR_ite, E_X9_goes_18, E_X9_goes_57, E_X9_goes_32, E_X9_goes_59, E_X9_goes_41, E_X9_goes_86, E_X9_goes_116, E_X9_goes_130, E_X9_goes_207, E_X9_goes_232, E_X9_goes_223, E_X9_goes_147, E_X9_goes_239, E_X9_goes_165, E_X9_goes_163, E_X9_goes_264, E_X9_goes_249, ]
    exact congrArg (fun g => pm_ev (219, 95, [vr 8 0, vi s, vi b, vi n, vi w, vi t, vi (nI 0), none], [], g)) (goH_cong h (fun k hk => rfl) (fun k hk => rfl) (fun k hk => cutF_lt hk))
  | succ r ih =>
    intro k hk
    have e1 := cutF_s zeroF T k (v := nI 0) rfl
    rw [← ih (k + 1) (by omega), E_X9_goes_71]
    simp (disch := omega) only [y_0, y_1, y_2, y_3, y_4, y_5, y_6, y_7, y_8, y_9, y_10, y_11, y_12, y_13, y_14, y_15, y_16, y_17, y_18, y_19, y_20, y_21, y_22, y_23, y_24, y_29, y_30, y_31, y_32, y_39, y_40, y_48, y_49, y_50, y_60, y_64, y_69, y_78, y_99, y_100, y_142, y_161, y_600, y_610, y_894, y_999, y_1000, y_1216, y_1276, neg1, neg2, nI_add, nI_mul, nn_sub, nn_lt, nn_le, nn_eq, in_lt, ni_lt, in_le, ni_le, in_eq, ni_eq, iI_lt, iI_le, iI_eq, nn_clamp, inb_n, t_lt, f_lt, t_le, f_le, t_eq, f_eq, ti_lt, fi_lt, ti_le, fi_le, ti_eq, fi_eq, ↓reduceIte, ite_true, ite_false, eq_self, decide_true, decide_false, Bool.true_and, Bool.and_true, Bool.false_and, Bool.and_false, Bool.true_or, Bool.or_true, Bool.false_or, Bool.or_false, bI_t, bI_f, bI_nand, n_mod, an11, an01, negn1, negn2, false_and, and_false, true_and, and_true, not_true_eq_false, not_false_eq_true, bI_n0, bI_n1, Bool.true_eq_false, Bool.false_eq_true, cI_s, cL_s, cV_s, cR_n, pm_bR_self, bI_ite, bL_ite, bV_ite, bR_ite, E_X9_goes_18, E_X9_goes_57, E_X9_goes_32, E_X9_goes_59, E_X9_goes_41, E_X9_goes_86, E_X9_goes_116, E_X9_goes_130, E_X9_goes_207, E_X9_goes_232, E_X9_goes_223, E_X9_goes_147, E_X9_goes_239, E_X9_goes_165, E_X9_goes_163, E_X9_goes_264, E_X9_goes_249, goH_s41, e1]
/-- places that a ship at a cell goes on to -/
def nbr (c : AC) (x y d i : Nat) : Bool := anyB (fun e => stpOk c x y e && decide (i = (c (0)).val * (stpY y e).toNat + (stpX x e).toNat)) d
def boolF (p : Nat → Bool) (i : Nat) : Int32 := bI (p i)
theorem stp_lt {c : AC} (hv : cV c) {x y d : Nat} (h : stpOk c x y d = true) : (c (0)).val * (stpY y d).toNat + (stpX x d).toNat < 64 := by
  unfold stpOk at h
  have h := of_decide_eq_true h
  exact (cell_lt hv (show (stpX x d).toNat < (c (0)).val by omega) (show (stpY y d).toNat < (c (1)).val by omega)).2
theorem goes_133 {h : PH} {a : Nat} {c : AC} (hv : cV c) (hm : ModS h a c) {x y : Nat} (hx : x < (c (0)).val) (hy : y < (c (1)).val) (s b n w t : Int32) (F N : Nat → Int32) (p : Nat → Bool) : ∀ r d, d + r = 4 → pm_ev (219, 133, [vr 8 0, vi s, vi b, vi n, vi w, vi t, vi (nI ((c (0)).val * y + x)), vi (nI d)], [], goH h F N (boolF (fun i => p i || nbr c x y d i))) = pm_ev (219, 95, [vr 8 0, vi s, vi b, vi n, vi w, vi t, vi (nI ((c (0)).val * y + x + 1)), none], [], goH h F N (boolF (fun i => p i || nbr c x y 4 i))) := by
  intro r
  induction r with
  | zero =>
    intro d hd
    have hd : d = 4 := by omega
    subst hd
    rw [E_X9_goes_133]
    simp (disch := omega) only [y_0, y_1, y_2, y_3, y_4, y_5, y_6, y_7, y_8, y_9, y_10, y_11, y_12, y_13, y_14, y_15, y_16, y_17, y_18, y_19, y_20, y_21, y_22, y_23, y_24, y_29, y_30, y_31, y_32, y_39, y_40, y_48, y_49, y_50, y_60, y_64, y_69, y_78, y_99, y_100, y_142, y_161, y_600, y_610, y_894, y_999, y_1000, y_1216, y_1276, neg1, neg2, nI_add, nI_mul, nn_sub, nn_lt, nn_le, nn_eq, in_lt, ni_lt, in_le, ni_le, in_eq, ni_eq, iI_lt, iI_le, iI_eq, nn_clamp, inb_n, t_lt, f_lt, t_le, f_le, t_eq, f_eq, ti_lt, fi_lt, ti_le, fi_le, ti_eq, fi_eq, ↓reduceIte, ite_true, ite_false, eq_self, decide_true, decide_false, Bool.true_and, Bool.and_true, Bool.false_and, Bool.and_false, Bool.true_or, Bool.or_true, Bool.false_or, Bool.or_false, bI_t, bI_f, bI_nand, n_mod, an11, an01, negn1, negn2, false_and, and_false, true_and, and_true, not_true_eq_false, not_false_eq_true, bI_n0, bI_n1, Bool.true_eq_false, Bool.false_eq_true, cI_s, cL_s, cV_s, cR_n, pm_bR_self, bI_ite, bL_ite, bV_ite, bR_ite, E_X9_goes_18, E_X9_goes_57, E_X9_goes_32, E_X9_goes_59, E_X9_goes_41, E_X9_goes_86, E_X9_goes_116, E_X9_goes_130, E_X9_goes_207, E_X9_goes_232, E_X9_goes_223, E_X9_goes_147, E_X9_goes_239, E_X9_goes_165, E_X9_goes_163, E_X9_goes_264, E_X9_goes_249, ]
  | succ r ih =>
    intro d hd
    have S := fun T => stepTo_M hv (goH_M hm F N T) hx hy (show d < 4 by omega)
    have en : ∀ i, nbr c x y (d + 1) i = (nbr c x y d i || (stpOk c x y d && decide (i = (c (0)).val * (stpY y d).toNat + (stpX x d).toNat))) := fun i => rfl
    rw [← ih (d + 1) (by omega), E_X9_goes_133]
    cases q : stpOk c x y d
    · have e1 : boolF (fun i => p i || nbr c x y (d + 1) i) = boolF (fun i => p i || nbr c x y d i) := funext fun i => by unfold boolF; dsimp only; rw [en, q, Bool.false_and, Bool.or_false]
      rw [e1]
      rw [q] at S
      generalize (c (0)).val * y + x = cell at *
      simp (disch := omega) only [y_0, y_1, y_2, y_3, y_4, y_5, y_6, y_7, y_8, y_9, y_10, y_11, y_12, y_13, y_14, y_15, y_16, y_17, y_18, y_19, y_20, y_21, y_22, y_23, y_24, y_29, y_30, y_31, y_32, y_39, y_40, y_48, y_49, y_50, y_60, y_64, y_69, y_78, y_99, y_100, y_142, y_161, y_600, y_610, y_894, y_999, y_1000, y_1216, y_1276, neg1, neg2, nI_add, nI_mul, nn_sub, nn_lt, nn_le, nn_eq, in_lt, ni_lt, in_le, ni_le, in_eq, ni_eq, iI_lt, iI_le, iI_eq, nn_clamp, inb_n, t_lt, f_lt, t_le, f_le, t_eq, f_eq, ti_lt, fi_lt, ti_le, fi_le, ti_eq, fi_eq, ↓reduceIte, ite_true, ite_false, eq_self, decide_true, decide_false, Bool.true_and, Bool.and_true, Bool.false_and, Bool.and_false, Bool.true_or, Bool.or_true, Bool.false_or, Bool.or_false, bI_t, bI_f, bI_nand, n_mod, an11, an01, negn1, negn2, false_and, and_false, true_and, and_true, not_true_eq_false, not_false_eq_true, bI_n0, bI_n1, Bool.true_eq_false, Bool.false_eq_true, cI_s, cL_s, cV_s, cR_n, pm_bR_self, bI_ite, bL_ite, bV_ite, bR_ite, E_X9_goes_18, E_X9_goes_57, E_X9_goes_32, E_X9_goes_59, E_X9_goes_41, E_X9_goes_86, E_X9_goes_116, E_X9_goes_130, E_X9_goes_207, E_X9_goes_232, E_X9_goes_223, E_X9_goes_147, E_X9_goes_239, E_X9_goes_165, E_X9_goes_163, E_X9_goes_264, E_X9_goes_249, S]
    · have hl := stp_lt hv q
      have e1 : boolF (fun i => p i || nbr c x y (d + 1) i) = upd (boolF (fun i => p i || nbr c x y d i)) ((c (0)).val * (stpY y d).toNat + (stpX x d).toNat) (nI 1) := funext fun i => by
        unfold boolF upd
        dsimp only
        rw [en, q, Bool.true_and]
        by_cases qi : i = (c (0)).val * (stpY y d).toNat + (stpX x d).toNat
        · rw [if_pos qi, decide_eq_true qi, Bool.or_true, Bool.or_true]; rfl
        · rw [if_neg qi, decide_eq_false qi, Bool.or_false]
      rw [e1]
      rw [q] at S
      generalize (c (0)).val * (stpY y d).toNat + (stpX x d).toNat = to at *
      generalize (c (0)).val * y + x = cell at *
      simp (disch := omega) only [y_0, y_1, y_2, y_3, y_4, y_5, y_6, y_7, y_8, y_9, y_10, y_11, y_12, y_13, y_14, y_15, y_16, y_17, y_18, y_19, y_20, y_21, y_22, y_23, y_24, y_29, y_30, y_31, y_32, y_39, y_40, y_48, y_49, y_50, y_60, y_64, y_69, y_78, y_99, y_100, y_142, y_161, y_600, y_610, y_894, y_999, y_1000, y_1216, y_1276, neg1, neg2, nI_add, nI_mul, nn_sub, nn_lt, nn_le, nn_eq, in_lt, ni_lt, in_le, ni_le, in_eq, ni_eq, iI_lt, iI_le, iI_eq, nn_clamp, inb_n, t_lt, f_lt, t_le, f_le, t_eq, f_eq, ti_lt, fi_lt, ti_le, fi_le, ti_eq, fi_eq, ↓reduceIte, ite_true, ite_false, eq_self, decide_true, decide_false, Bool.true_and, Bool.and_true, Bool.false_and, Bool.and_false, Bool.true_or, Bool.or_true, Bool.false_or, Bool.or_false, bI_t, bI_f, bI_nand, n_mod, an11, an01, negn1, negn2, false_and, and_false, true_and, and_true, not_true_eq_false, not_false_eq_true, bI_n0, bI_n1, Bool.true_eq_false, Bool.false_eq_true, cI_s, cL_s, cV_s, cR_n, pm_bR_self, bI_ite, bL_ite, bV_ite, bR_ite, E_X9_goes_18, E_X9_goes_57, E_X9_goes_32, E_X9_goes_59, E_X9_goes_41, E_X9_goes_86, E_X9_goes_116, E_X9_goes_130, E_X9_goes_207, E_X9_goes_232, E_X9_goes_223, E_X9_goes_147, E_X9_goes_239, E_X9_goes_165, E_X9_goes_163, E_X9_goes_264, E_X9_goes_249, S, goH_s41]
