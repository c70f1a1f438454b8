theorem cI_s (x : Int32) (h : PH) (f : Int32 → PH → Option PR) : pm_bI (some (some (vi x), h)) f = f x h := by rw [bI_s]
theorem cL_s (x : Int64) (h : PH) (f : Int64 → PH → Option PR) : pm_bL (some (some (vl x), h)) f = f x h := by rw [bL_s]
theorem cV_s (h : PH) (f : PH → Option PR) : pm_bV (some (none, h)) f = f h := by rw [bV_s]
theorem cR_n (h : PH) (t : Nat) (f0 : PH → Option PR) (f1 : Nat → PH → Option PR) : pm_bR (some (some vn, h)) t f0 f1 = f0 h := by rw [bR_n]
theorem y_0 : (0 : Int32) = nI 0 := by decide
theorem y_1 : (1 : Int32) = nI 1 := by decide
theorem y_2 : (2 : Int32) = nI 2 := by decide
theorem y_3 : (3 : Int32) = nI 3 := by decide
theorem y_4 : (4 : Int32) = nI 4 := by decide
theorem y_5 : (5 : Int32) = nI 5 := by decide
theorem y_6 : (6 : Int32) = nI 6 := by decide
theorem y_7 : (7 : Int32) = nI 7 := by decide
theorem y_8 : (8 : Int32) = nI 8 := by decide
theorem y_9 : (9 : Int32) = nI 9 := by decide
theorem y_10 : (10 : Int32) = nI 10 := by decide
theorem y_11 : (11 : Int32) = nI 11 := by decide
theorem y_12 : (12 : Int32) = nI 12 := by decide
theorem y_13 : (13 : Int32) = nI 13 := by decide
theorem y_14 : (14 : Int32) = nI 14 := by decide
theorem y_15 : (15 : Int32) = nI 15 := by decide
theorem y_16 : (16 : Int32) = nI 16 := by decide
theorem y_17 : (17 : Int32) = nI 17 := by decide
theorem y_18 : (18 : Int32) = nI 18 := by decide
theorem y_19 : (19 : Int32) = nI 19 := by decide
theorem y_20 : (20 : Int32) = nI 20 := by decide
theorem y_21 : (21 : Int32) = nI 21 := by decide
theorem y_22 : (22 : Int32) = nI 22 := by decide
theorem y_23 : (23 : Int32) = nI 23 := by decide
theorem y_24 : (24 : Int32) = nI 24 := by decide
theorem y_29 : (29 : Int32) = nI 29 := by decide
theorem y_30 : (30 : Int32) = nI 30 := by decide
theorem y_31 : (31 : Int32) = nI 31 := by decide
theorem y_32 : (32 : Int32) = nI 32 := by decide
theorem y_39 : (39 : Int32) = nI 39 := by decide
theorem y_40 : (40 : Int32) = nI 40 := by decide
theorem y_48 : (48 : Int32) = nI 48 := by decide
theorem y_49 : (49 : Int32) = nI 49 := by decide
theorem y_50 : (50 : Int32) = nI 50 := by decide
theorem y_60 : (60 : Int32) = nI 60 := by decide
theorem y_64 : (64 : Int32) = nI 64 := by decide
theorem y_69 : (69 : Int32) = nI 69 := by decide
theorem y_78 : (78 : Int32) = nI 78 := by decide
theorem y_99 : (99 : Int32) = nI 99 := by decide
theorem y_100 : (100 : Int32) = nI 100 := by decide
theorem y_142 : (142 : Int32) = nI 142 := by decide
theorem y_161 : (161 : Int32) = nI 161 := by decide
theorem y_600 : (600 : Int32) = nI 600 := by decide
theorem y_610 : (610 : Int32) = nI 610 := by decide
theorem y_894 : (894 : Int32) = nI 894 := by decide
theorem y_999 : (999 : Int32) = nI 999 := by decide
theorem y_1000 : (1000 : Int32) = nI 1000 := by decide
theorem y_1216 : (1216 : Int32) = nI 1216 := by decide
theorem y_1276 : (1276 : Int32) = nI 1276 := by decide
theorem n_mod (a d : Nat) : a - a / d * d = a % d := by
  have h := Nat.div_add_mod a d
  rw [Nat.mul_comm] at h
  omega
theorem negn1 : -nI 1 = iI (-1) := rfl
theorem negn2 : -nI 2 = iI (-2) := rfl
theorem an11 : nI 1 &&& nI 1 = nI 1 := rfl
theorem an01 : nI 0 &&& nI 1 = nI 0 := rfl
/-! ===== COASTS: the picture that class and reference share =====
0 wide, 1 high, 2 3 the lamp's column and row, 4 limit, 5 guards, 6 ships; 10+g 20+g 30+g a guard's column, row, range; 40+s 50+s 60+s 70+s 80+s a ship's column, row, cargo, children, men; 100+i 120+i 140+i kind, first, second of the man i = 4 s + k; 200+8y+x rock -/
abbrev AC : Type := Nat → Fin 64
def cVs (c : AC) (s : Nat) : Prop := (c (40+s)).val < (c (0)).val ∧ (c (50+s)).val < (c (1)).val ∧ (c (60+s)).val ≤ 9 ∧ (c (70+s)).val ≤ 9 ∧ (c (80+s)).val ≤ 4 ∧ ∀ k, k < (c (80+s)).val → (c (100+(4*s+k))).val ≤ 5 ∧ (c (120+(4*s+k))).val ≤ 9 ∧ (c (140+(4*s+k))).val ≤ 23 ∧ ((c (100+(4*s+k))).val = 5 → (c (120+(4*s+k))).val < (c (6)).val)
def cV (c : AC) : Prop := (2 ≤ (c (0)).val ∧ (c (0)).val ≤ 8 ∧ 2 ≤ (c (1)).val ∧ (c (1)).val ≤ 8 ∧ (c (2)).val < (c (0)).val ∧ (c (3)).val < (c (1)).val ∧ 1 ≤ (c (4)).val ∧ (c (4)).val ≤ 20 ∧ (c (5)).val ≤ 4 ∧ (c (6)).val ≤ 4) ∧
  (∀ g, g < (c (5)).val → (c (10+g)).val < (c (0)).val ∧ (c (20+g)).val < (c (1)).val ∧ (c (30+g)).val ≤ 7) ∧ (∀ s, s < (c (6)).val → cVs c s) ∧
  ∀ i, i < 64 → (c (200+i)).val ≤ 1 ∧ ((c (200+i)).val = 1 → i % 8 < (c (0)).val ∧ i / 8 < (c (1)).val)
/-- the class's coast number j -/
def CoastC (h : PH) (j : Nat) (c : AC) : Prop :=
  (h.1 0 j 0 = nI (c (0)).val ∧ h.1 0 j 1 = nI (c (1)).val ∧ h.1 0 j 2 = nI (8 * (c (3)).val + (c (2)).val) ∧ h.1 0 j 3 = nI (c (4)).val ∧ h.1 0 j 5 = nI (c (5)).val ∧ h.1 0 j 8 = nI (c (6)).val ∧ h.2 0 j 4 = lS (fun i => decide ((c (200+i)).val = 1))) ∧
  (∀ g, g < (c (5)).val → h.1 10 j g = nI (8 * (c (20+g)).val + (c (10+g)).val) ∧ h.1 11 j g = nI (c (30+g)).val) ∧
  ∀ s, s < (c (6)).val → (h.1 12 j s = nI (8 * (c (50+s)).val + (c (40+s)).val) ∧ h.1 13 j s = nI (c (60+s)).val ∧ h.1 14 j s = nI (c (70+s)).val ∧ h.1 15 j s = nI (c (80+s)).val) ∧
    ∀ k, k < (c (80+s)).val → h.1 16 j (4*s+k) = nI (c (100+(4*s+k))).val ∧ h.1 17 j (4*s+k) = nI (c (120+(4*s+k))).val ∧ h.1 18 j (4*s+k) = nI (c (140+(4*s+k))).val
/-- what a man means by himself -/
def aMean1 (c : AC) (i hr : Nat) : Nat := if (c (100+i)).val = 0 then (c (120+i)).val else if (c (100+i)).val = 2 then (if hr < (c (140+i)).val then (c (120+i)).val else 0) else if (c (100+i)).val = 3 then (if hr % 2 = 0 then (c (120+i)).val else 0) else if (c (100+i)).val = 5 then (c (60+(c (120+i)).val)).val else 0
def aMean (c : AC) (s k hr : Nat) : Nat := aMean1 c (if (c (100+(4*s+k))).val = 1 then 4*s else 4*s+k) hr
def aHarm (c : AC) (s hr : Nat) : Nat := (c (60+s)).val + fb_sm (fun k => aMean c s k hr) (c (80+s)).val - 2 * (c (70+s)).val
def anyB (p : Nat → Bool) : Nat → Bool
  | 0 => false
  | n + 1 => anyB p n || p n
theorem anyB_iff {p : Nat → Bool} : ∀ {n : Nat}, anyB p n = true ↔ ∃ k, k < n ∧ p k = true
  | 0 => by simp [anyB]
  | n + 1 => by
    rw [anyB, Bool.or_eq_true, anyB_iff]
    constructor
    · rintro (⟨k, h1, h2⟩ | h)
      · exact ⟨k, by omega, h2⟩
      · exact ⟨n, by omega, h⟩
    · rintro ⟨k, h1, h2⟩
      by_cases e : k = n
      · subst e; exact Or.inr h2
      · exact Or.inl ⟨k, by omega, h2⟩
theorem anyB_f {p : Nat → Bool} {n : Nat} : anyB p n = false ↔ ∀ k, k < n → p k = false := by
  rw [← Bool.not_eq_true, anyB_iff]
  constructor
  · intro h k hk
    cases e : p k
    · rfl
    · exact absurd ⟨k, hk, e⟩ h
  · rintro h ⟨k, hk, e⟩
    rw [h k hk] at e; cases e
theorem anyB_hit {p : Nat → Bool} {n k : Nat} (hk : k < n) (h : p k = true) : anyB p n = true := anyB_iff.mpr ⟨k, hk, h⟩
theorem anyB_cong {p q : Nat → Bool} {n : Nat} (h : ∀ k, k < n → p k = q k) : anyB p n = anyB q n := by
  induction n with
  | zero => rfl
  | succ n ih => rw [anyB, anyB, ih (fun k hk => h k (by omega)), h n (by omega)]
def aFlick (c : AC) (s hr k : Nat) : Bool := decide ((c (100+(4*s+k))).val ≠ 4) && decide (aMean c s k hr = 0)
def aGlow (c : AC) (s hr : Nat) : Nat := if aHarm c s hr < (c (4)).val then 0 else if anyB (aFlick c s hr) (c (80+s)).val then 1 else 2
def aLit (c : AC) (s hr : Nat) : Bool := decide (aGlow c s hr = 2) || (decide (aGlow c s hr = 1) && decide (hr % 2 = 0))
theorem aMean1_lt (c : AC) (i hr : Nat) : aMean1 c i hr < 64 := by
  unfold aMean1
  repeat' split
  all_goals omega
theorem aMean_lt (c : AC) (s k hr : Nat) : aMean c s k hr < 64 := aMean1_lt c _ hr
theorem fb_sm_lt {f : Nat → Nat} {B : Nat} (h : ∀ k, f k ≤ B) : ∀ n, fb_sm f n ≤ B * n
  | 0 => Nat.le_refl _
  | n + 1 => by
    have h1 := fb_sm_lt h n
    have h2 := h n
    rw [fb_sm_succ, Nat.mul_add]
    omega
theorem aSum_lt (c : AC) (s hr : Nat) (n : Nat) : fb_sm (fun k => aMean c s k hr) n ≤ 63 * n := fb_sm_lt (fun k => by have := aMean_lt c s k hr; omega) n
theorem aHarm_lt (c : AC) (s hr : Nat) (h : (c (80+s)).val ≤ 4) : aHarm c s hr ≤ 400 := by
  have := aSum_lt c s hr (c (80+s)).val
  unfold aHarm
  omega
theorem aGlow_lt (c : AC) (s hr : Nat) : aGlow c s hr ≤ 2 := by
  unfold aGlow
  repeat' split
  all_goals omega
theorem meant_55 {h : PH} {j : Nat} {c : AC} (hv : cV c) (hc : CoastC h j c) {s k hr : Nat} (hs : s < (c (6)).val) (hk : k < (c (80+s)).val) (hh : hr < 24) :
    pm_ev (15, 55, [vr 0 j, none, none, vi (nI hr), none, none], [vi (nI (4*s+k))], h) = some (some (vi (nI (aMean1 c (4*s+k) hr))), h) := by
  obtain ⟨⟨c0, c1, c2, c3, c5, c8, _⟩, _, hS⟩ := hc
  obtain ⟨⟨s1, s2, s3, s4⟩, hM⟩ := hS s hs
  obtain ⟨m1, m2, m3⟩ := hM k hk
  obtain ⟨hv1, hv2, hv3, _⟩ := hv
  obtain ⟨_, _, _, _, v5, v6⟩ := hv3 s hs
  obtain ⟨w1, w2, w3, w4⟩ := v6 k hk
  rw [E_X0_meant_55]
  simp (disch := omega) only [y_0, y_1, y_2, y_3, y_4, y_5, y_6, y_7, y_8, y_9, y_10, y_11, y_12, y_13, y_14, y_15, y_16, y_17, y_18, y_19, y_20, y_21, y_22, y_23, y_24, y_29, y_30, y_31, y_32, y_39, y_40, y_48, y_49, y_50, y_60, y_64, y_69, y_78, y_99, y_100, y_142, y_161, y_600, y_610, y_894, y_999, y_1000, y_1216, y_1276, neg1, neg2, nI_add, nI_mul, nn_sub, nn_lt, nn_le, nn_eq, in_lt, ni_lt, in_le, ni_le, in_eq, ni_eq, iI_lt, iI_le, iI_eq, nn_clamp, inb_n, t_lt, f_lt, t_le, f_le, t_eq, f_eq, ti_lt, fi_lt, ti_le, fi_le, ti_eq, fi_eq, ↓reduceIte, ite_true, ite_false, eq_self, decide_true, decide_false, Bool.true_and, Bool.and_true, Bool.false_and, Bool.and_false, Bool.true_or, Bool.or_true, Bool.false_or, Bool.or_false, bI_t, bI_f, bI_nand, n_mod, an11, an01, negn1, negn2, false_and, and_false, true_and, and_true, not_true_eq_false, not_false_eq_true, bI_n0, bI_n1, Bool.true_eq_false, Bool.false_eq_true, cI_s, cL_s, cV_s, cR_n, pm_bR_self, bI_ite, bL_ite, bV_ite, bR_ite, E_X0_meant_26, E_X0_meant_28, E_X0_meant_55, E_X0_meant_51, E_X0_meant_64, E_X0_meant_194, E_X0_meant_153, E_X0_meant_135, E_X0_meant_112, E_X0_meant_104, E_X0_meant_192, E_X0_meant_188, E_X0_meant_152, E_X0_meant_151, E_X0_meant_134, E_X0_meant_133, E_X0_meant_193, m1, E_X0_meant_64]
  unfold aMean1
  by_cases q0 : (c (100+(4*s+k))).val = 0
  · simp (disch := omega) only [y_0, y_1, y_2, y_3, y_4, y_5, y_6, y_7, y_8, y_9, y_10, y_11, y_12, y_13, y_14, y_15, y_16, y_17, y_18, y_19, y_20, y_21, y_22, y_23, y_24, y_29, y_30, y_31, y_32, y_39, y_40, y_48, y_49, y_50, y_60, y_64, y_69, y_78, y_99, y_100, y_142, y_161, y_600, y_610, y_894, y_999, y_1000, y_1216, y_1276, neg1, neg2, nI_add, nI_mul, nn_sub, nn_lt, nn_le, nn_eq, in_lt, ni_lt, in_le, ni_le, in_eq, ni_eq, iI_lt, iI_le, iI_eq, nn_clamp, inb_n, t_lt, f_lt, t_le, f_le, t_eq, f_eq, ti_lt, fi_lt, ti_le, fi_le, ti_eq, fi_eq, ↓reduceIte, ite_true, ite_false, eq_self, decide_true, decide_false, Bool.true_and, Bool.and_true, Bool.false_and, Bool.and_false, Bool.true_or, Bool.or_true, Bool.false_or, Bool.or_false, bI_t, bI_f, bI_nand, n_mod, an11, an01, negn1, negn2, false_and, and_false, true_and, and_true, not_true_eq_false, not_false_eq_true, bI_n0, bI_n1, Bool.true_eq_false, Bool.false_eq_true, cI_s, cL_s, cV_s, cR_n, pm_bR_self, bI_ite, bL_ite, bV_ite, bR_ite, E_X0_meant_26, E_X0_meant_28, E_X0_meant_55, E_X0_meant_51, E_X0_meant_64, E_X0_meant_194, E_X0_meant_153, E_X0_meant_135, E_X0_meant_112, E_X0_meant_104, E_X0_meant_192, E_X0_meant_188, E_X0_meant_152, E_X0_meant_151, E_X0_meant_134, E_X0_meant_133, E_X0_meant_193, q0, E_X0_meant_104, m2]
  by_cases q1 : (c (100+(4*s+k))).val = 1
  · simp (disch := omega) only [y_0, y_1, y_2, y_3, y_4, y_5, y_6, y_7, y_8, y_9, y_10, y_11, y_12, y_13, y_14, y_15, y_16, y_17, y_18, y_19, y_20, y_21, y_22, y_23, y_24, y_29, y_30, y_31, y_32, y_39, y_40, y_48, y_49, y_50, y_60, y_64, y_69, y_78, y_99, y_100, y_142, y_161, y_600, y_610, y_894, y_999, y_1000, y_1216, y_1276, neg1, neg2, nI_add, nI_mul, nn_sub, nn_lt, nn_le, nn_eq, in_lt, ni_lt, in_le, ni_le, in_eq, ni_eq, iI_lt, iI_le, iI_eq, nn_clamp, inb_n, t_lt, f_lt, t_le, f_le, t_eq, f_eq, ti_lt, fi_lt, ti_le, fi_le, ti_eq, fi_eq, ↓reduceIte, ite_true, ite_false, eq_self, decide_true, decide_false, Bool.true_and, Bool.and_true, Bool.false_and, Bool.and_false, Bool.true_or, Bool.or_true, Bool.false_or, Bool.or_false, bI_t, bI_f, bI_nand, n_mod, an11, an01, negn1, negn2, false_and, and_false, true_and, and_true, not_true_eq_false, not_false_eq_true, bI_n0, bI_n1, Bool.true_eq_false, Bool.false_eq_true, cI_s, cL_s, cV_s, cR_n, pm_bR_self, bI_ite, bL_ite, bV_ite, bR_ite, E_X0_meant_26, E_X0_meant_28, E_X0_meant_55, E_X0_meant_51, E_X0_meant_64, E_X0_meant_194, E_X0_meant_153, E_X0_meant_135, E_X0_meant_112, E_X0_meant_104, E_X0_meant_192, E_X0_meant_188, E_X0_meant_152, E_X0_meant_151, E_X0_meant_134, E_X0_meant_133, E_X0_meant_193, q1, E_X0_meant_194, m2]
  by_cases q2 : (c (100+(4*s+k))).val = 2
  · by_cases q : hr < (c (140+(4*s+k))).val
    · simp (disch := omega) only [y_0, y_1, y_2, y_3, y_4, y_5, y_6, y_7, y_8, y_9, y_10, y_11, y_12, y_13, y_14, y_15, y_16, y_17, y_18, y_19, y_20, y_21, y_22, y_23, y_24, y_29, y_30, y_31, y_32, y_39, y_40, y_48, y_49, y_50, y_60, y_64, y_69, y_78, y_99, y_100, y_142, y_161, y_600, y_610, y_894, y_999, y_1000, y_1216, y_1276, neg1, neg2, nI_add, nI_mul, nn_sub, nn_lt, nn_le, nn_eq, in_lt, ni_lt, in_le, ni_le, in_eq, ni_eq, iI_lt, iI_le, iI_eq, nn_clamp, inb_n, t_lt, f_lt, t_le, f_le, t_eq, f_eq, ti_lt, fi_lt, ti_le, fi_le, ti_eq, fi_eq, ↓reduceIte, ite_true, ite_false, eq_self, decide_true, decide_false, Bool.true_and, Bool.and_true, Bool.false_and, Bool.and_false, Bool.true_or, Bool.or_true, Bool.false_or, Bool.or_false, bI_t, bI_f, bI_nand, n_mod, an11, an01, negn1, negn2, false_and, and_false, true_and, and_true, not_true_eq_false, not_false_eq_true, bI_n0, bI_n1, Bool.true_eq_false, Bool.false_eq_true, cI_s, cL_s, cV_s, cR_n, pm_bR_self, bI_ite, bL_ite, bV_ite, bR_ite, E_X0_meant_26, E_X0_meant_28, E_X0_meant_55, E_X0_meant_51, E_X0_meant_64, E_X0_meant_194, E_X0_meant_153, E_X0_meant_135, E_X0_meant_112, E_X0_meant_104, E_X0_meant_192, E_X0_meant_188, E_X0_meant_152, E_X0_meant_151, E_X0_meant_134, E_X0_meant_133, E_X0_meant_193, q2, E_X0_meant_112, m2, m3, E_X0_meant_134]
    · simp (disch := omega) only [y_0, y_1, y_2, y_3, y_4, y_5, y_6, y_7, y_8, y_9, y_10, y_11, y_12, y_13, y_14, y_15, y_16, y_17, y_18, y_19, y_20, y_21, y_22, y_23, y_24, y_29, y_30, y_31, y_32, y_39, y_40, y_48, y_49, y_50, y_60, y_64, y_69, y_78, y_99, y_100, y_142, y_161, y_600, y_610, y_894, y_999, y_1000, y_1216, y_1276, neg1, neg2, nI_add, nI_mul, nn_sub, nn_lt, nn_le, nn_eq, in_lt, ni_lt, in_le, ni_le, in_eq, ni_eq, iI_lt, iI_le, iI_eq, nn_clamp, inb_n, t_lt, f_lt, t_le, f_le, t_eq, f_eq, ti_lt, fi_lt, ti_le, fi_le, ti_eq, fi_eq, ↓reduceIte, ite_true, ite_false, eq_self, decide_true, decide_false, Bool.true_and, Bool.and_true, Bool.false_and, Bool.and_false, Bool.true_or, Bool.or_true, Bool.false_or, Bool.or_false, bI_t, bI_f, bI_nand, n_mod, an11, an01, negn1, negn2, false_and, and_false, true_and, and_true, not_true_eq_false, not_false_eq_true, bI_n0, bI_n1, Bool.true_eq_false, Bool.false_eq_true, cI_s, cL_s, cV_s, cR_n, pm_bR_self, bI_ite, bL_ite, bV_ite, bR_ite, E_X0_meant_26, E_X0_meant_28, E_X0_meant_55, E_X0_meant_51, E_X0_meant_64, E_X0_meant_194, E_X0_meant_153, E_X0_meant_135, E_X0_meant_112, E_X0_meant_104, E_X0_meant_192, E_X0_meant_188, E_X0_meant_152, E_X0_meant_151, E_X0_meant_134, E_X0_meant_133, E_X0_meant_193, q2, E_X0_meant_112, m2, m3, E_X0_meant_134, E_X0_meant_133]
  by_cases q3 : (c (100+(4*s+k))).val = 3
  · by_cases q : hr % 2 = 0
    · simp (disch := omega) only [y_0, y_1, y_2, y_3, y_4, y_5, y_6, y_7, y_8, y_9, y_10, y_11, y_12, y_13, y_14, y_15, y_16, y_17, y_18, y_19, y_20, y_21, y_22, y_23, y_24, y_29, y_30, y_31, y_32, y_39, y_40, y_48, y_49, y_50, y_60, y_64, y_69, y_78, y_99, y_100, y_142, y_161, y_600, y_610, y_894, y_999, y_1000, y_1216, y_1276, neg1, neg2, nI_add, nI_mul, nn_sub, nn_lt, nn_le, nn_eq, in_lt, ni_lt, in_le, ni_le, in_eq, ni_eq, iI_lt, iI_le, iI_eq, nn_clamp, inb_n, t_lt, f_lt, t_le, f_le, t_eq, f_eq, ti_lt, fi_lt, ti_le, fi_le, ti_eq, fi_eq, ↓reduceIte, ite_true, ite_false, eq_self, decide_true, decide_false, Bool.true_and, Bool.and_true, Bool.false_and, Bool.and_false, Bool.true_or, Bool.or_true, Bool.false_or, Bool.or_false, bI_t, bI_f, bI_nand, n_mod, an11, an01, negn1, negn2, false_and, and_false, true_and, and_true, not_true_eq_false, not_false_eq_true, bI_n0, bI_n1, Bool.true_eq_false, Bool.false_eq_true, cI_s, cL_s, cV_s, cR_n, pm_bR_self, bI_ite, bL_ite, bV_ite, bR_ite, E_X0_meant_26, E_X0_meant_28, E_X0_meant_55, E_X0_meant_51, E_X0_meant_64, E_X0_meant_194, E_X0_meant_153, E_X0_meant_135, E_X0_meant_112, E_X0_meant_104, E_X0_meant_192, E_X0_meant_188, E_X0_meant_152, E_X0_meant_151, E_X0_meant_134, E_X0_meant_133, E_X0_meant_193, q3, E_X0_meant_135, m2, E_X0_meant_152, nn_div, nn_rem2]
    · simp (disch := omega) only [y_0, y_1, y_2, y_3, y_4, y_5, y_6, y_7, y_8, y_9, y_10, y_11, y_12, y_13, y_14, y_15, y_16, y_17, y_18, y_19, y_20, y_21, y_22, y_23, y_24, y_29, y_30, y_31, y_32, y_39, y_40, y_48, y_49, y_50, y_60, y_64, y_69, y_78, y_99, y_100, y_142, y_161, y_600, y_610, y_894, y_999, y_1000, y_1216, y_1276, neg1, neg2, nI_add, nI_mul, nn_sub, nn_lt, nn_le, nn_eq, in_lt, ni_lt, in_le, ni_le, in_eq, ni_eq, iI_lt, iI_le, iI_eq, nn_clamp, inb_n, t_lt, f_lt, t_le, f_le, t_eq, f_eq, ti_lt, fi_lt, ti_le, fi_le, ti_eq, fi_eq, ↓reduceIte, ite_true, ite_false, eq_self, decide_true, decide_false, Bool.true_and, Bool.and_true, Bool.false_and, Bool.and_false, Bool.true_or, Bool.or_true, Bool.false_or, Bool.or_false, bI_t, bI_f, bI_nand, n_mod, an11, an01, negn1, negn2, false_and, and_false, true_and, and_true, not_true_eq_false, not_false_eq_true, bI_n0, bI_n1, Bool.true_eq_false, Bool.false_eq_true, cI_s, cL_s, cV_s, cR_n, pm_bR_self, bI_ite, bL_ite, bV_ite, bR_ite, E_X0_meant_26, E_X0_meant_28, E_X0_meant_55, E_X0_meant_51, E_X0_meant_64, E_X0_meant_194, E_X0_meant_153, E_X0_meant_135, E_X0_meant_112, E_X0_meant_104, E_X0_meant_192, E_X0_meant_188, E_X0_meant_152, E_X0_meant_151, E_X0_meant_134, E_X0_meant_133, E_X0_meant_193, q3, E_X0_meant_135, m2, E_X0_meant_152, E_X0_meant_151, nn_div, nn_rem2]
  by_cases q4 : (c (100+(4*s+k))).val = 4
  · simp (disch := omega) only [y_0, y_1, y_2, y_3, y_4, y_5, y_6, y_7, y_8, y_9, y_10, y_11, y_12, y_13, y_14, y_15, y_16, y_17, y_18, y_19, y_20, y_21, y_22, y_23, y_24, y_29, y_30, y_31, y_32, y_39, y_40, y_48, y_49, y_50, y_60, y_64, y_69, y_78, y_99, y_100, y_142, y_161, y_600, y_610, y_894, y_999, y_1000, y_1216, y_1276, neg1, neg2, nI_add, nI_mul, nn_sub, nn_lt, nn_le, nn_eq, in_lt, ni_lt, in_le, ni_le, in_eq, ni_eq, iI_lt, iI_le, iI_eq, nn_clamp, inb_n, t_lt, f_lt, t_le, f_le, t_eq, f_eq, ti_lt, fi_lt, ti_le, fi_le, ti_eq, fi_eq, ↓reduceIte, ite_true, ite_false, eq_self, decide_true, decide_false, Bool.true_and, Bool.and_true, Bool.false_and, Bool.and_false, Bool.true_or, Bool.or_true, Bool.false_or, Bool.or_false, bI_t, bI_f, bI_nand, n_mod, an11, an01, negn1, negn2, false_and, and_false, true_and, and_true, not_true_eq_false, not_false_eq_true, bI_n0, bI_n1, Bool.true_eq_false, Bool.false_eq_true, cI_s, cL_s, cV_s, cR_n, pm_bR_self, bI_ite, bL_ite, bV_ite, bR_ite, E_X0_meant_26, E_X0_meant_28, E_X0_meant_55, E_X0_meant_51, E_X0_meant_64, E_X0_meant_194, E_X0_meant_153, E_X0_meant_135, E_X0_meant_112, E_X0_meant_104, E_X0_meant_192, E_X0_meant_188, E_X0_meant_152, E_X0_meant_151, E_X0_meant_134, E_X0_meant_133, E_X0_meant_193, q4, E_X0_meant_194, m2]
  · have q5 : (c (100+(4*s+k))).val = 5 := by omega
    have w5 := w4 q5
    obtain ⟨⟨_, u2, _, _⟩, _⟩ := hS _ w5
    simp (disch := omega) only [y_0, y_1, y_2, y_3, y_4, y_5, y_6, y_7, y_8, y_9, y_10, y_11, y_12, y_13, y_14, y_15, y_16, y_17, y_18, y_19, y_20, y_21, y_22, y_23, y_24, y_29, y_30, y_31, y_32, y_39, y_40, y_48, y_49, y_50, y_60, y_64, y_69, y_78, y_99, y_100, y_142, y_161, y_600, y_610, y_894, y_999, y_1000, y_1216, y_1276, neg1, neg2, nI_add, nI_mul, nn_sub, nn_lt, nn_le, nn_eq, in_lt, ni_lt, in_le, ni_le, in_eq, ni_eq, iI_lt, iI_le, iI_eq, nn_clamp, inb_n, t_lt, f_lt, t_le, f_le, t_eq, f_eq, ti_lt, fi_lt, ti_le, fi_le, ti_eq, fi_eq, ↓reduceIte, ite_true, ite_false, eq_self, decide_true, decide_false, Bool.true_and, Bool.and_true, Bool.false_and, Bool.and_false, Bool.true_or, Bool.or_true, Bool.false_or, Bool.or_false, bI_t, bI_f, bI_nand, n_mod, an11, an01, negn1, negn2, false_and, and_false, true_and, and_true, not_true_eq_false, not_false_eq_true, bI_n0, bI_n1, Bool.true_eq_false, Bool.false_eq_true, cI_s, cL_s, cV_s, cR_n, pm_bR_self, bI_ite, bL_ite, bV_ite, bR_ite, E_X0_meant_26, E_X0_meant_28, E_X0_meant_55, E_X0_meant_51, E_X0_meant_64, E_X0_meant_194, E_X0_meant_153, E_X0_meant_135, E_X0_meant_112, E_X0_meant_104, E_X0_meant_192, E_X0_meant_188, E_X0_meant_152, E_X0_meant_151, E_X0_meant_134, E_X0_meant_133, E_X0_meant_193, q5, E_X0_meant_153, m2, c8, E_X0_meant_188, u2, E_X0_meant_193]
theorem meant_C {h : PH} {j : Nat} {c : AC} (hv : cV c) (hc : CoastC h j c) {s k hr : Nat} (hs : s < (c (6)).val) (hk : k < (c (80+s)).val) (hh : hr < 24) :
    pm_ev (15, 0, [vr 0 j, vi (nI s), vi (nI k), vi (nI hr), none, none], [], h) = some (some (vi (nI (aMean c s k hr))), h) := by
  have e1 := meant_55 hv hc hs hk hh
  have e0 := meant_55 hv hc (k := 0) hs (by omega) hh
  rw [Nat.add_zero] at e0
  obtain ⟨⟨c0, c1, c2, c3, c5, c8, _⟩, _, hS⟩ := hc
  obtain ⟨⟨s1, s2, s3, s4⟩, hM⟩ := hS s hs
  obtain ⟨m1, m2, m3⟩ := hM k hk
  obtain ⟨hv1, hv2, hv3, _⟩ := hv
  obtain ⟨_, _, _, _, v5, v6⟩ := hv3 s hs
  obtain ⟨w1, w2, w3, w4⟩ := v6 k hk
  rw [E_X0_meant]
  unfold aMean
  by_cases q1 : (c (100+(4*s+k))).val = 1
  · simp (disch := omega) only [y_0, y_1, y_2, y_3, y_4, y_5, y_6, y_7, y_8, y_9, y_10, y_11, y_12, y_13, y_14, y_15, y_16, y_17, y_18, y_19, y_20, y_21, y_22, y_23, y_24, y_29, y_30, y_31, y_32, y_39, y_40, y_48, y_49, y_50, y_60, y_64, y_69, y_78, y_99, y_100, y_142, y_161, y_600, y_610, y_894, y_999, y_1000, y_1216, y_1276, neg1, neg2, nI_add, nI_mul, nn_sub, nn_lt, nn_le, nn_eq, in_lt, ni_lt, in_le, ni_le, in_eq, ni_eq, iI_lt, iI_le, iI_eq, nn_clamp, inb_n, t_lt, f_lt, t_le, f_le, t_eq, f_eq, ti_lt, fi_lt, ti_le, fi_le, ti_eq, fi_eq, ↓reduceIte, ite_true, ite_false, eq_self, decide_true, decide_false, Bool.true_and, Bool.and_true, Bool.false_and, Bool.and_false, Bool.true_or, Bool.or_true, Bool.false_or, Bool.or_false, bI_t, bI_f, bI_nand, n_mod, an11, an01, negn1, negn2, false_and, and_false, true_and, and_true, not_true_eq_false, not_false_eq_true, bI_n0, bI_n1, Bool.true_eq_false, Bool.false_eq_true, cI_s, cL_s, cV_s, cR_n, pm_bR_self, bI_ite, bL_ite, bV_ite, bR_ite, E_X0_meant_26, E_X0_meant_28, E_X0_meant_55, E_X0_meant_51, E_X0_meant_64, E_X0_meant_194, E_X0_meant_153, E_X0_meant_135, E_X0_meant_112, E_X0_meant_104, E_X0_meant_192, E_X0_meant_188, E_X0_meant_152, E_X0_meant_151, E_X0_meant_134, E_X0_meant_133, E_X0_meant_193, c8, s4, E_X0_meant_28, m1, q1, e0]
  · simp (disch := omega) only [y_0, y_1, y_2, y_3, y_4, y_5, y_6, y_7, y_8, y_9, y_10, y_11, y_12, y_13, y_14, y_15, y_16, y_17, y_18, y_19, y_20, y_21, y_22, y_23, y_24, y_29, y_30, y_31, y_32, y_39, y_40, y_48, y_49, y_50, y_60, y_64, y_69, y_78, y_99, y_100, y_142, y_161, y_600, y_610, y_894, y_999, y_1000, y_1216, y_1276, neg1, neg2, nI_add, nI_mul, nn_sub, nn_lt, nn_le, nn_eq, in_lt, ni_lt, in_le, ni_le, in_eq, ni_eq, iI_lt, iI_le, iI_eq, nn_clamp, inb_n, t_lt, f_lt, t_le, f_le, t_eq, f_eq, ti_lt, fi_lt, ti_le, fi_le, ti_eq, fi_eq, ↓reduceIte, ite_true, ite_false, eq_self, decide_true, decide_false, Bool.true_and, Bool.and_true, Bool.false_and, Bool.and_false, Bool.true_or, Bool.or_true, Bool.false_or, Bool.or_false, bI_t, bI_f, bI_nand, n_mod, an11, an01, negn1, negn2, false_and, and_false, true_and, and_true, not_true_eq_false, not_false_eq_true, bI_n0, bI_n1, Bool.true_eq_false, Bool.false_eq_true, cI_s, cL_s, cV_s, cR_n, pm_bR_self, bI_ite, bL_ite, bV_ite, bR_ite, E_X0_meant_26, E_X0_meant_28, E_X0_meant_55, E_X0_meant_51, E_X0_meant_64, E_X0_meant_194, E_X0_meant_153, E_X0_meant_135, E_X0_meant_112, E_X0_meant_104, E_X0_meant_192, E_X0_meant_188, E_X0_meant_152, E_X0_meant_151, E_X0_meant_134, E_X0_meant_133, E_X0_meant_193, c8, s4, E_X0_meant_28, m1, q1, E_X0_meant_51, e1]
theorem harm_C29 {h : PH} {j : Nat} {c : AC} (hv : cV c) (hc : CoastC h j c) {s hr : Nat} (hs : s < (c (6)).val) (hh : hr < 24) :
    ∀ r k, k + r = (c (80+s)).val → pm_ev (16, 29, [vr 0 j, vi (nI s), vi (nI hr), vi (iI (((c (60+s)).val : Int) - 2 * (c (70+s)).val + fb_sm (fun k => aMean c s k hr) k)), vi (nI k)], [], h) = some (some (vi (nI (aHarm c s hr))), h) := by
  have hS := (hc.2.2 s hs).1
  have hV := hv.2.2.1 s hs
  have hV1 := hv.1
  obtain ⟨s1, s2, s3, s4⟩ := hS
  obtain ⟨_, _, _, _, v5, v6⟩ := hV
  intro r
  induction r with
  | zero =>
    intro k hk
    have hk : k = (c (80+s)).val := by omega
    subst hk
    have hb := aSum_lt c s hr (c (80+s)).val
    rw [E_X0_harm_29]
    unfold aHarm
    by_cases q : ((c (60+s)).val : Int) - 2 * (c (70+s)).val + fb_sm (fun k => aMean c s k hr) (c (80+s)).val < 0
    · simp (disch := omega) only [y_0, y_1, y_2, y_3, y_4, y_5, y_6, y_7, y_8, y_9, y_10, y_11, y_12, y_13, y_14, y_15, y_16, y_17, y_18, y_19, y_20, y_21, y_22, y_23, y_24, y_29, y_30, y_31, y_32, y_39, y_40, y_48, y_49, y_50, y_60, y_64, y_69, y_78, y_99, y_100, y_142, y_161, y_600, y_610, y_894, y_999, y_1000, y_1216, y_1276, neg1, neg2, nI_add, nI_mul, nn_sub, nn_lt, nn_le, nn_eq, in_lt, ni_lt, in_le, ni_le, in_eq, ni_eq, iI_lt, iI_le, iI_eq, nn_clamp, inb_n, t_lt, f_lt, t_le, f_le, t_eq, f_eq, ti_lt, fi_lt, ti_le, fi_le, ti_eq, fi_eq, ↓reduceIte, ite_true, ite_false, eq_self, decide_true, decide_false, Bool.true_and, Bool.and_true, Bool.false_and, Bool.and_false, Bool.true_or, Bool.or_true, Bool.false_or, Bool.or_false, bI_t, bI_f, bI_nand, n_mod, an11, an01, negn1, negn2, false_and, and_false, true_and, and_true, not_true_eq_false, not_false_eq_true, bI_n0, bI_n1, Bool.true_eq_false, Bool.false_eq_true, cI_s, cL_s, cV_s, cR_n, pm_bR_self, bI_ite, bL_ite, bV_ite, bR_ite, s4]
      rw [show (c (60+s)).val + fb_sm (fun k => aMean c s k hr) (c (80+s)).val - 2 * (c (70+s)).val = 0 by omega]
    · simp (disch := omega) only [y_0, y_1, y_2, y_3, y_4, y_5, y_6, y_7, y_8, y_9, y_10, y_11, y_12, y_13, y_14, y_15, y_16, y_17, y_18, y_19, y_20, y_21, y_22, y_23, y_24, y_29, y_30, y_31, y_32, y_39, y_40, y_48, y_49, y_50, y_60, y_64, y_69, y_78, y_99, y_100, y_142, y_161, y_600, y_610, y_894, y_999, y_1000, y_1216, y_1276, neg1, neg2, nI_add, nI_mul, nn_sub, nn_lt, nn_le, nn_eq, in_lt, ni_lt, in_le, ni_le, in_eq, ni_eq, iI_lt, iI_le, iI_eq, nn_clamp, inb_n, t_lt, f_lt, t_le, f_le, t_eq, f_eq, ti_lt, fi_lt, ti_le, fi_le, ti_eq, fi_eq, ↓reduceIte, ite_true, ite_false, eq_self, decide_true, decide_false, Bool.true_and, Bool.and_true, Bool.false_and, Bool.and_false, Bool.true_or, Bool.or_true, Bool.false_or, Bool.or_false, bI_t, bI_f, bI_nand, n_mod, an11, an01, negn1, negn2, false_and, and_false, true_and, and_true, not_true_eq_false, not_false_eq_true, bI_n0, bI_n1, Bool.true_eq_false, Bool.false_eq_true, cI_s, cL_s, cV_s, cR_n, pm_bR_self, bI_ite, bL_ite, bV_ite, bR_ite, s4]
      rw [iI_toNat (by omega), show (((c (60+s)).val : Int) - 2 * (c (70+s)).val + fb_sm (fun k => aMean c s k hr) (c (80+s)).val).toNat = (c (60+s)).val + fb_sm (fun k => aMean c s k hr) (c (80+s)).val - 2 * (c (70+s)).val by omega]
  | succ r ih =>
    intro k hk
    have e := ih (k + 1) (by omega)
    rw [E_X0_harm_29]
    simp (disch := omega) only [y_0, y_1, y_2, y_3, y_4, y_5, y_6, y_7, y_8, y_9, y_10, y_11, y_12, y_13, y_14, y_15, y_16, y_17, y_18, y_19, y_20, y_21, y_22, y_23, y_24, y_29, y_30, y_31, y_32, y_39, y_40, y_48, y_49, y_50, y_60, y_64, y_69, y_78, y_99, y_100, y_142, y_161, y_600, y_610, y_894, y_999, y_1000, y_1216, y_1276, neg1, neg2, nI_add, nI_mul, nn_sub, nn_lt, nn_le, nn_eq, in_lt, ni_lt, in_le, ni_le, in_eq, ni_eq, iI_lt, iI_le, iI_eq, nn_clamp, inb_n, t_lt, f_lt, t_le, f_le, t_eq, f_eq, ti_lt, fi_lt, ti_le, fi_le, ti_eq, fi_eq, ↓reduceIte, ite_true, ite_false, eq_self, decide_true, decide_false, Bool.true_and, Bool.and_true, Bool.false_and, Bool.and_false, Bool.true_or, Bool.or_true, Bool.false_or, Bool.or_false, bI_t, bI_f, bI_nand, n_mod, an11, an01, negn1, negn2, false_and, and_false, true_and, and_true, not_true_eq_false, not_false_eq_true, bI_n0, bI_n1, Bool.true_eq_false, Bool.false_eq_true, cI_s, cL_s, cV_s, cR_n, pm_bR_self, bI_ite, bL_ite, bV_ite, bR_ite, s4, meant_C hv hc hs (show k < (c (80+s)).val by omega) hh, iI_addn]
    rw [fb_sm_succ, Int.natCast_add, ← Int.add_assoc] at e
    exact e
theorem harm_C {h : PH} {j : Nat} {c : AC} (hv : cV c) (hc : CoastC h j c) {s hr : Nat} (hs : s < (c (6)).val) (hh : hr < 24) :
    pm_ev (16, 0, [vr 0 j, vi (nI s), vi (nI hr), none, none], [], h) = some (some (vi (nI (aHarm c s hr))), h) := by
  have e := harm_C29 hv hc hs hh _ 0 (Nat.zero_add _)
  have c8 := hc.1.2.2.2.2.2.1
  obtain ⟨s1, s2, s3, s4⟩ := (hc.2.2 s hs).1
  have hV1 := hv.1
  rw [E_X0_harm]
  simp (disch := omega) only [y_0, y_1, y_2, y_3, y_4, y_5, y_6, y_7, y_8, y_9, y_10, y_11, y_12, y_13, y_14, y_15, y_16, y_17, y_18, y_19, y_20, y_21, y_22, y_23, y_24, y_29, y_30, y_31, y_32, y_39, y_40, y_48, y_49, y_50, y_60, y_64, y_69, y_78, y_99, y_100, y_142, y_161, y_600, y_610, y_894, y_999, y_1000, y_1216, y_1276, neg1, neg2, nI_add, nI_mul, nn_sub, nn_lt, nn_le, nn_eq, in_lt, ni_lt, in_le, ni_le, in_eq, ni_eq, iI_lt, iI_le, iI_eq, nn_clamp, inb_n, t_lt, f_lt, t_le, f_le, t_eq, f_eq, ti_lt, fi_lt, ti_le, fi_le, ti_eq, fi_eq, ↓reduceIte, ite_true, ite_false, eq_self, decide_true, decide_false, Bool.true_and, Bool.and_true, Bool.false_and, Bool.and_false, Bool.true_or, Bool.or_true, Bool.false_or, Bool.or_false, bI_t, bI_f, bI_nand, n_mod, an11, an01, negn1, negn2, false_and, and_false, true_and, and_true, not_true_eq_false, not_false_eq_true, bI_n0, bI_n1, Bool.true_eq_false, Bool.false_eq_true, cI_s, cL_s, cV_s, cR_n, pm_bR_self, bI_ite, bL_ite, bV_ite, bR_ite, E_X0_hasShip, c8, s2, s3, nI_sub]
  rw [show (((c (60+s)).val : Int) - ((2 * (c (70+s)).val : Nat) : Int)) = ((c (60+s)).val : Int) - 2 * (c (70+s)).val + (fb_sm (fun k => aMean c s k hr) 0 : Nat) by simp [fb_sm]]
  exact e
