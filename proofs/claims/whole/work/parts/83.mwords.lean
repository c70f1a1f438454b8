/-! ===== words: the reference ===== -/
def hq (d : Nat → Nat) : Nat → Nat
  | 0 => 0
  | m + 1 => 32 * hq d m + d m
theorem hq_inj {d e : Nat → Nat} : ∀ L M, (∀ i, i < L → 1 ≤ d i ∧ d i ≤ 26) → (∀ i, i < M → 1 ≤ e i ∧ e i ≤ 26) → hq d L = hq e M → L = M ∧ ∀ i, i < L → d i = e i
  | 0, 0, _, _, _ => ⟨rfl, fun i hi => by omega⟩
  | 0, M + 1, _, he, h => by
    have h : 0 = 32 * hq e M + e M := h
    have := he M (by omega)
    omega
  | L + 1, 0, hd, _, h => by
    have h : 32 * hq d L + d L = 0 := h
    have := hd L (by omega)
    omega
  | L + 1, M + 1, hd, he, h => by
    have h : 32 * hq d L + d L = 32 * hq e M + e M := h
    have a := hd L (by omega)
    have b := he M (by omega)
    obtain ⟨x, y⟩ := hq_inj L M (fun i hi => hd i (by omega)) (fun i hi => he i (by omega)) (by omega)
    refine ⟨by omega, fun i hi => ?_⟩
    by_cases q : i = L
    · subst q; subst x; omega
    · exact y i (by omega)
theorem hq_cong {d e : Nat → Nat} : ∀ L, (∀ i, i < L → d i = e i) → hq d L = hq e L
  | 0, _ => rfl
  | L + 1, h => by
    show 32 * hq d L + d L = 32 * hq e L + e L
    rw [hq_cong L (fun i hi => h i (by omega)), h L (by omega)]
theorem hq_lt {d : Nat → Nat} : ∀ L, (∀ i, i < L → d i ≤ 26) → hq d L < 32 ^ L
  | 0, _ => by show 0 < 32 ^ 0; decide
  | L + 1, h => by
    have h1 := hq_lt L (fun i hi => h i (by omega))
    have h2 := h L (by omega)
    show 32 * hq d L + d L < 32 ^ (L + 1)
    rw [Nat.pow_succ]
    omega
/-- a name as one number -/
def nmH (o : Nat) : Nat := hq (fun k => nmc o k - 96) (nmL o)
theorem lN_ij {a b : Nat} (ha : a < 2 ^ 63) (hb : b < 2 ^ 63) : (lN a = lN b) = (a = b) := propext ⟨fun h => by
  have h2 := congrArg (fun x : Int64 => x.toBitVec.toNat) h
  have h3 : (BitVec.ofNat 64 a).toNat = (BitVec.ofNat 64 b).toNat := h2
  rwa [BitVec.toNat_ofNat, BitVec.toNat_ofNat, Nat.mod_eq_of_lt (by omega), Nat.mod_eq_of_lt (by omega)] at h3, fun h => by rw [h]⟩
theorem nmH_lt : ∀ o, o < 20 → nmH o < 2 ^ 40 := by decide +kernel
theorem cmp_w {v o : Nat} (hv : v < 2 ^ 63) (ho : o < 20) : (lg_cmp (lN v) (lN (nmH o)) = 0) = (v = nmH o) := by
  have := nmH_lt o ho
  have h := lcmp_0 (lN v) (lN (nmH o))
  rw [lN_ij hv (by omega)] at h
  exact h
theorem wf_0 (h : PH) : pm_ev (159, 0, [vi 19, vi 9, vi 26, vi 5], [], h) = some (some (vl (lN (nmH 0))), h) := by
  have e : (((((((19 * 32) + 9) * 32) + 26) * 32) + 5 : Int32).toInt64) = lN (nmH 0) := by decide +kernel
  rw [E_X9_four, e]
theorem wf_1 (h : PH) : pm_ev (159, 0, [vi 12, vi 1, vi 13, vi 16], [], h) = some (some (vl (lN (nmH 1))), h) := by
  have e : (((((((12 * 32) + 1) * 32) + 13) * 32) + 16 : Int32).toInt64) = lN (nmH 1) := by decide +kernel
  rw [E_X9_four, e]
theorem wf_2 (h : PH) : pm_ev (159, 0, [vi 18, vi 15, vi 3, vi 11], [], h) = some (some (vl (lN (nmH 2))), h) := by
  have e : (((((((18 * 32) + 15) * 32) + 3) * 32) + 11 : Int32).toInt64) = lN (nmH 2) := by decide +kernel
  rw [E_X9_four, e]
theorem wf_3 (h : PH) : pm_ev (160, 0, [vi 0, vi 0, vi 0, vi 7, vi 21, vi 1, vi 18, vi 4], [], h) = some (some (vl (lN (nmH 3))), h) := by
  have e : (((((((0 * 32) + 0) * 32) + 0) * 32) + 7 : Int32).toInt64) * 1048576 + (((((((21 * 32) + 1) * 32) + 18) * 32) + 4 : Int32).toInt64) = lN (nmH 3) := by decide +kernel
  rw [E_X9_eight, E_X9_four, cL_s, E_X9_four, cL_s, E_X9_eight_22, e]
theorem wf_4 (h : PH) : pm_ev (159, 0, [vi 19, vi 8, vi 9, vi 16], [], h) = some (some (vl (lN (nmH 4))), h) := by
  have e : (((((((19 * 32) + 8) * 32) + 9) * 32) + 16 : Int32).toInt64) = lN (nmH 4) := by decide +kernel
  rw [E_X9_four, e]
theorem wf_6 (h : PH) : pm_ev (160, 0, [vi 0, vi 0, vi 0, vi 16, vi 12, vi 1, vi 9, vi 14], [], h) = some (some (vl (lN (nmH 6))), h) := by
  have e : (((((((0 * 32) + 0) * 32) + 0) * 32) + 16 : Int32).toInt64) * 1048576 + (((((((12 * 32) + 1) * 32) + 9) * 32) + 14 : Int32).toInt64) = lN (nmH 6) := by decide +kernel
  rw [E_X9_eight, E_X9_four, cL_s, E_X9_four, cL_s, E_X9_eight_22, e]
theorem wf_7 (h : PH) : pm_ev (160, 0, [vi 0, vi 0, vi 0, vi 8, vi 9, vi 18, vi 5, vi 4], [], h) = some (some (vl (lN (nmH 7))), h) := by
  have e : (((((((0 * 32) + 0) * 32) + 0) * 32) + 8 : Int32).toInt64) * 1048576 + (((((((9 * 32) + 18) * 32) + 5) * 32) + 4 : Int32).toInt64) = lN (nmH 7) := by decide +kernel
  rw [E_X9_eight, E_X9_four, cL_s, E_X9_four, cL_s, E_X9_eight_22, e]
theorem wf_8 (h : PH) : pm_ev (159, 0, [vi 12, vi 1, vi 20, vi 5], [], h) = some (some (vl (lN (nmH 8))), h) := by
  have e : (((((((12 * 32) + 1) * 32) + 20) * 32) + 5 : Int32).toInt64) = lN (nmH 8) := by decide +kernel
  rw [E_X9_four, e]
theorem wf_9 (h : PH) : pm_ev (160, 0, [vi 0, vi 4, vi 9, vi 22, vi 9, vi 4, vi 5, vi 4], [], h) = some (some (vl (lN (nmH 9))), h) := by
  have e : (((((((0 * 32) + 4) * 32) + 9) * 32) + 22 : Int32).toInt64) * 1048576 + (((((((9 * 32) + 4) * 32) + 5) * 32) + 4 : Int32).toInt64) = lN (nmH 9) := by decide +kernel
  rw [E_X9_eight, E_X9_four, cL_s, E_X9_four, cL_s, E_X9_eight_22, e]
theorem wf_10 (h : PH) : pm_ev (160, 0, [vi 0, vi 0, vi 1, vi 19, vi 12, vi 5, vi 5, vi 16], [], h) = some (some (vl (lN (nmH 10))), h) := by
  have e : (((((((0 * 32) + 0) * 32) + 1) * 32) + 19 : Int32).toInt64) * 1048576 + (((((((12 * 32) + 5) * 32) + 5) * 32) + 16 : Int32).toInt64) = lN (nmH 10) := by decide +kernel
  rw [E_X9_eight, E_X9_four, cL_s, E_X9_four, cL_s, E_X9_eight_22, e]
theorem wf_11 (h : PH) : pm_ev (160, 0, [vi 0, vi 0, vi 0, vi 12, vi 15, vi 25, vi 1, vi 12], [], h) = some (some (vl (lN (nmH 11))), h) := by
  have e : (((((((0 * 32) + 0) * 32) + 0) * 32) + 12 : Int32).toInt64) * 1048576 + (((((((15 * 32) + 25) * 32) + 1) * 32) + 12 : Int32).toInt64) = lN (nmH 11) := by decide +kernel
  rw [E_X9_eight, E_X9_four, cL_s, E_X9_four, cL_s, E_X9_eight_22, e]
theorem wf_5 (h : PH) : pm_ev (160, 0, [vi 0, vi 0, vi 0, vi 12, vi 9, vi 13, vi 9, vi 20], [], h) = some (some (vl (lN (nmH 5))), h) := by
  have e : (((((((0 * 32) + 0) * 32) + 0) * 32) + 12 : Int32).toInt64) * 1048576 + (((((((9 * 32) + 13) * 32) + 9) * 32) + 20 : Int32).toInt64) = lN (nmH 5) := by decide +kernel
  rw [E_X9_eight, E_X9_four, cL_s, E_X9_four, cL_s, E_X9_eight_22, e]
theorem wf_16 (h : PH) : pm_ev (159, 0, [vi 0, vi 13, vi 1, vi 14], [], h) = some (some (vl (lN (nmH 16))), h) := by
  have e : (((((((0 * 32) + 13) * 32) + 1) * 32) + 14 : Int32).toInt64) = lN (nmH 16) := by decide +kernel
  rw [E_X9_four, e]
theorem wf_17 (h : PH) : pm_ev (160, 0, [vi 0, vi 0, vi 5, vi 18, vi 18, vi 15, vi 18, vi 19], [], h) = some (some (vl (lN (nmH 17))), h) := by
  have e : (((((((0 * 32) + 0) * 32) + 5) * 32) + 18 : Int32).toInt64) * 1048576 + (((((((18 * 32) + 15) * 32) + 18) * 32) + 19 : Int32).toInt64) = lN (nmH 17) := by decide +kernel
  rw [E_X9_eight, E_X9_four, cL_s, E_X9_four, cL_s, E_X9_eight_22, e]
theorem wf_18 (h : PH) : pm_ev (159, 0, [vi 0, vi 12, vi 9, vi 20], [], h) = some (some (vl (lN (nmH 18))), h) := by
  have e : (((((((0 * 32) + 12) * 32) + 9) * 32) + 20 : Int32).toInt64) = lN (nmH 18) := by decide +kernel
  rw [E_X9_four, e]
theorem wf_19 (h : PH) : pm_ev (159, 0, [vi 4, vi 1, vi 18, vi 11], [], h) = some (some (vl (lN (nmH 19))), h) := by
  have e : (((((((4 * 32) + 1) * 32) + 18) * 32) + 11 : Int32).toInt64) = lN (nmH 19) := by decide +kernel
  rw [E_X9_four, e]
theorem wf_12 (h : PH) : pm_ev (159, 0, [vi 0, vi 0, vi 7, vi 15], [], h) = some (some (vl (lN (nmH 12))), h) := by
  have e : (((((((0 * 32) + 0) * 32) + 7) * 32) + 15 : Int32).toInt64) = lN (nmH 12) := by decide +kernel
  rw [E_X9_four, e]
theorem wf_13 (h : PH) : pm_ev (159, 0, [vi 13, vi 5, vi 1, vi 14], [], h) = some (some (vl (lN (nmH 13))), h) := by
  have e : (((((((13 * 32) + 5) * 32) + 1) * 32) + 14 : Int32).toInt64) = lN (nmH 13) := by decide +kernel
  rw [E_X9_four, e]
theorem wf_14 (h : PH) : pm_ev (160, 0, [vi 0, vi 0, vi 0, vi 20, vi 8, vi 18, vi 15, vi 23], [], h) = some (some (vl (lN (nmH 14))), h) := by
  have e : (((((((0 * 32) + 0) * 32) + 0) * 32) + 20 : Int32).toInt64) * 1048576 + (((((((8 * 32) + 18) * 32) + 15) * 32) + 23 : Int32).toInt64) = lN (nmH 14) := by decide +kernel
  rw [E_X9_eight, E_X9_four, cL_s, E_X9_four, cL_s, E_X9_eight_22, e]
theorem wf_15 (h : PH) : pm_ev (159, 0, [vi 8, vi 15, vi 21, vi 18], [], h) = some (some (vl (lN (nmH 15))), h) := by
  have e : (((((((8 * 32) + 15) * 32) + 21) * 32) + 18 : Int32).toInt64) = lN (nmH 15) := by decide +kernel
  rw [E_X9_four, e]
/-- the reference's number of a word -/
def wcv (v : Nat) : Nat := if v = nmH 0 then 1 else if v = nmH 1 then 2 else if v = nmH 2 then 3 else if v = nmH 3 then 4 else if v = nmH 4 then 5 else if v = nmH 6 then 6 else if v = nmH 7 then 7 else if v = nmH 8 then 8 else if v = nmH 9 then 9 else if v = nmH 10 then 10 else if v = nmH 11 then 11 else if v = nmH 5 then 12 else if v = nmH 16 then 13 else if v = nmH 17 then 14 else if v = nmH 18 then 15 else if v = nmH 19 then 16 else if v = nmH 12 then 17 else if v = nmH 13 then 18 else if v = nmH 14 then 19 else if v = nmH 15 then 20 else 99
theorem wordOf_M (h : PH) {v : Nat} (hv : v < 2 ^ 63) : pm_ev (161, 0, [vl (lN v), none], [], h) = some (some (vi (nI (wcv v))), h) := by
  unfold wcv
  rw [E_X9_wordOf, wf_0, cL_s]
  rw [E_X9_wordOf_11]
  by_cases q0 : v = nmH 0
  · rw [if_pos q0, if_pos ((cmp_w hv (show 0 < 20 by decide)).mpr q0)]; rfl
  rw [if_neg q0, if_neg (fun z => q0 ((cmp_w hv (show 0 < 20 by decide)).mp z)), wf_1, cL_s]
  rw [E_X9_wordOf_28]
  by_cases q1 : v = nmH 1
  · rw [if_pos q1, if_pos ((cmp_w hv (show 1 < 20 by decide)).mpr q1)]; rfl
  rw [if_neg q1, if_neg (fun z => q1 ((cmp_w hv (show 1 < 20 by decide)).mp z)), wf_2, cL_s]
  rw [E_X9_wordOf_45]
  by_cases q2 : v = nmH 2
  · rw [if_pos q2, if_pos ((cmp_w hv (show 2 < 20 by decide)).mpr q2)]; rfl
  rw [if_neg q2, if_neg (fun z => q2 ((cmp_w hv (show 2 < 20 by decide)).mp z)), wf_3, cL_s]
  rw [E_X9_wordOf_66]
  by_cases q3 : v = nmH 3
  · rw [if_pos q3, if_pos ((cmp_w hv (show 3 < 20 by decide)).mpr q3)]; rfl
  rw [if_neg q3, if_neg (fun z => q3 ((cmp_w hv (show 3 < 20 by decide)).mp z)), wf_4, cL_s]
  rw [E_X9_wordOf_84]
  by_cases q4 : v = nmH 4
  · rw [if_pos q4, if_pos ((cmp_w hv (show 4 < 20 by decide)).mpr q4)]; rfl
  rw [if_neg q4, if_neg (fun z => q4 ((cmp_w hv (show 4 < 20 by decide)).mp z)), wf_6, cL_s]
  rw [E_X9_wordOf_106]
  by_cases q6 : v = nmH 6
  · rw [if_pos q6, if_pos ((cmp_w hv (show 6 < 20 by decide)).mpr q6)]; rfl
  rw [if_neg q6, if_neg (fun z => q6 ((cmp_w hv (show 6 < 20 by decide)).mp z)), wf_7, cL_s]
  rw [E_X9_wordOf_128]
  by_cases q7 : v = nmH 7
  · rw [if_pos q7, if_pos ((cmp_w hv (show 7 < 20 by decide)).mpr q7)]; rfl
  rw [if_neg q7, if_neg (fun z => q7 ((cmp_w hv (show 7 < 20 by decide)).mp z)), wf_8, cL_s]
  rw [E_X9_wordOf_145]
  by_cases q8 : v = nmH 8
  · rw [if_pos q8, if_pos ((cmp_w hv (show 8 < 20 by decide)).mpr q8)]; rfl
  rw [if_neg q8, if_neg (fun z => q8 ((cmp_w hv (show 8 < 20 by decide)).mp z)), wf_9, cL_s]
  rw [E_X9_wordOf_167]
  by_cases q9 : v = nmH 9
  · rw [if_pos q9, if_pos ((cmp_w hv (show 9 < 20 by decide)).mpr q9)]; rfl
  rw [if_neg q9, if_neg (fun z => q9 ((cmp_w hv (show 9 < 20 by decide)).mp z)), wf_10, cL_s]
  rw [E_X9_wordOf_189]
  by_cases q10 : v = nmH 10
  · rw [if_pos q10, if_pos ((cmp_w hv (show 10 < 20 by decide)).mpr q10)]; rfl
  rw [if_neg q10, if_neg (fun z => q10 ((cmp_w hv (show 10 < 20 by decide)).mp z)), wf_11, cL_s]
  rw [E_X9_wordOf_212]
  by_cases q11 : v = nmH 11
  · rw [if_pos q11, if_pos ((cmp_w hv (show 11 < 20 by decide)).mpr q11)]; rfl
  rw [if_neg q11, if_neg (fun z => q11 ((cmp_w hv (show 11 < 20 by decide)).mp z)), wf_5, cL_s]
  rw [E_X9_wordOf_236]
  by_cases q5 : v = nmH 5
  · rw [if_pos q5, if_pos ((cmp_w hv (show 5 < 20 by decide)).mpr q5)]; rfl
  rw [if_neg q5, if_neg (fun z => q5 ((cmp_w hv (show 5 < 20 by decide)).mp z)), wf_16, cL_s]
  rw [E_X9_wordOf_253]
  by_cases q16 : v = nmH 16
  · rw [if_pos q16, if_pos ((cmp_w hv (show 16 < 20 by decide)).mpr q16)]; rfl
  rw [if_neg q16, if_neg (fun z => q16 ((cmp_w hv (show 16 < 20 by decide)).mp z)), wf_17, cL_s]
  rw [E_X9_wordOf_277]
  by_cases q17 : v = nmH 17
  · rw [if_pos q17, if_pos ((cmp_w hv (show 17 < 20 by decide)).mpr q17)]; rfl
  rw [if_neg q17, if_neg (fun z => q17 ((cmp_w hv (show 17 < 20 by decide)).mp z)), wf_18, cL_s]
  rw [E_X9_wordOf_295]
  by_cases q18 : v = nmH 18
  · rw [if_pos q18, if_pos ((cmp_w hv (show 18 < 20 by decide)).mpr q18)]; rfl
  rw [if_neg q18, if_neg (fun z => q18 ((cmp_w hv (show 18 < 20 by decide)).mp z)), wf_19, cL_s]
  rw [E_X9_wordOf_312]
  by_cases q19 : v = nmH 19
  · rw [if_pos q19, if_pos ((cmp_w hv (show 19 < 20 by decide)).mpr q19)]; rfl
  rw [if_neg q19, if_neg (fun z => q19 ((cmp_w hv (show 19 < 20 by decide)).mp z)), wf_12, cL_s]
  rw [E_X9_wordOf_329]
  by_cases q12 : v = nmH 12
  · rw [if_pos q12, if_pos ((cmp_w hv (show 12 < 20 by decide)).mpr q12)]; rfl
  rw [if_neg q12, if_neg (fun z => q12 ((cmp_w hv (show 12 < 20 by decide)).mp z)), wf_13, cL_s]
  rw [E_X9_wordOf_346]
  by_cases q13 : v = nmH 13
  · rw [if_pos q13, if_pos ((cmp_w hv (show 13 < 20 by decide)).mpr q13)]; rfl
  rw [if_neg q13, if_neg (fun z => q13 ((cmp_w hv (show 13 < 20 by decide)).mp z)), wf_14, cL_s]
  rw [E_X9_wordOf_370]
  by_cases q14 : v = nmH 14
  · rw [if_pos q14, if_pos ((cmp_w hv (show 14 < 20 by decide)).mpr q14)]; rfl
  rw [if_neg q14, if_neg (fun z => q14 ((cmp_w hv (show 14 < 20 by decide)).mp z)), wf_15, cL_s]
  rw [E_X9_wordOf_389]
  by_cases q15 : v = nmH 15
  · rw [if_pos q15, if_pos ((cmp_w hv (show 15 < 20 by decide)).mpr q15)]; rfl
  rw [if_neg q15, if_neg (fun z => q15 ((cmp_w hv (show 15 < 20 by decide)).mp z))]
  rfl
theorem mtK_iff (T : Nat → Nat) (w o : Nat) : ∀ r k, mtK T w o r k = true ↔ ∀ i, k ≤ i → i < k + r → T (w + i) = nmc o i
  | 0, k => ⟨fun _ i h1 h2 => by omega, fun _ => rfl⟩
  | r + 1, k => by
    show (decide (T (w + k) = nmc o k) && mtK T w o r (k + 1)) = true ↔ _
    rw [Bool.and_eq_true, mtK_iff T w o r (k + 1), decide_eq_true_eq]
    constructor
    · rintro ⟨a, b⟩ i h1 h2
      by_cases q : i = k
      · rw [q]; exact a
      · exact b i (by omega) (by omega)
    · intro a
      exact ⟨a k (by omega) (by omega), fun i h1 h2 => a i (by omega) (by omega)⟩
/-- the number of a row of letters is that of a name just where the name stands -/
theorem hq_mt {T : Nat → Nat} {w e o : Nat} (ho : o < 20) (hl : ∀ i, w ≤ i → i < e → isL (T i) = true) : hq (fun k => T (w + k) - 96) (e - w) = nmH o ↔ mt T w e o = true := by
  have hd : ∀ i, i < e - w → 1 ≤ T (w + i) - 96 ∧ T (w + i) - 96 ≤ 26 ∧ 97 ≤ T (w + i) := fun i hi => by
    have := hl (w + i) (by omega) (by omega)
    unfold isL at this
    have := of_decide_eq_true this
    omega
  have he : ∀ i, i < nmL o → 1 ≤ nmc o i - 96 ∧ nmc o i - 96 ≤ 26 ∧ 97 ≤ nmc o i := fun i hi => by
    have := nm_lt o (by omega) i hi
    omega
  unfold mt nmH
  rw [Bool.and_eq_true, decide_eq_true_eq, mtK_iff]
  constructor
  · intro h
    obtain ⟨x, y⟩ := hq_inj _ _ (fun i hi => ⟨(hd i hi).1, (hd i hi).2.1⟩) (fun i hi => ⟨(he i hi).1, (he i hi).2.1⟩) h
    refine ⟨x, fun i _ hi => ?_⟩
    have a := y i (by omega)
    have b := hd i (by omega)
    have c := he i (by omega)
    omega
  · rintro ⟨x, y⟩
    rw [x]
    exact hq_cong _ (fun i hi => by
      have := y i (by omega) (by omega)
      rw [this])
/-- the word that the reference reads from w to e -/
def wcM (T : Nat → Nat) (w e : Nat) : Nat := if e - w ≤ 8 then wcv (hq (fun k => T (w + k) - 96) (e - w)) else 99
theorem wcM_mt {T : Nat → Nat} {w e : Nat} (hl : ∀ i, w ≤ i → i < e → isL (T i) = true) : wcM T w e = if mt T w e 0 = true then 1 else if mt T w e 1 = true then 2 else if mt T w e 2 = true then 3 else if mt T w e 3 = true then 4 else if mt T w e 4 = true then 5 else if mt T w e 6 = true then 6 else if mt T w e 7 = true then 7 else if mt T w e 8 = true then 8 else if mt T w e 9 = true then 9 else if mt T w e 10 = true then 10 else if mt T w e 11 = true then 11 else if mt T w e 5 = true then 12 else if mt T w e 16 = true then 13 else if mt T w e 17 = true then 14 else if mt T w e 18 = true then 15 else if mt T w e 19 = true then 16 else if mt T w e 12 = true then 17 else if mt T w e 13 = true then 18 else if mt T w e 14 = true then 19 else if mt T w e 15 = true then 20 else 99 := by
  have no : e - w > 8 → ∀ o, o < 20 → mt T w e o = false := fun h o ho => by
    cases q : mt T w e o
    · rfl
    · unfold mt at q
      rw [Bool.and_eq_true, decide_eq_true_eq] at q
      have := (nm_L o (by omega)).2
      omega
  unfold wcM
  by_cases q : e - w ≤ 8
  · rw [if_pos q]
    unfold wcv
    simp only [hq_mt (show 0 < 20 by decide) hl, hq_mt (show 1 < 20 by decide) hl, hq_mt (show 2 < 20 by decide) hl, hq_mt (show 3 < 20 by decide) hl, hq_mt (show 4 < 20 by decide) hl, hq_mt (show 6 < 20 by decide) hl, hq_mt (show 7 < 20 by decide) hl, hq_mt (show 8 < 20 by decide) hl, hq_mt (show 9 < 20 by decide) hl, hq_mt (show 10 < 20 by decide) hl, hq_mt (show 11 < 20 by decide) hl, hq_mt (show 5 < 20 by decide) hl, hq_mt (show 16 < 20 by decide) hl, hq_mt (show 17 < 20 by decide) hl, hq_mt (show 18 < 20 by decide) hl, hq_mt (show 19 < 20 by decide) hl, hq_mt (show 12 < 20 by decide) hl, hq_mt (show 13 < 20 by decide) hl, hq_mt (show 14 < 20 by decide) hl, hq_mt (show 15 < 20 by decide) hl]
  · rw [if_neg q]
    simp only [no (by omega) 0 (by decide), no (by omega) 1 (by decide), no (by omega) 2 (by decide), no (by omega) 3 (by decide), no (by omega) 4 (by decide), no (by omega) 6 (by decide), no (by omega) 7 (by decide), no (by omega) 8 (by decide), no (by omega) 9 (by decide), no (by omega) 10 (by decide), no (by omega) 11 (by decide), no (by omega) 5 (by decide), no (by omega) 16 (by decide), no (by omega) 17 (by decide), no (by omega) 18 (by decide), no (by omega) 19 (by decide), no (by omega) 12 (by decide), no (by omega) 13 (by decide), no (by omega) 14 (by decide), no (by omega) 15 (by decide), Bool.false_eq_true, if_false]
/-- the reference's number of the class's word -/
def rcW (q : Nat) : Nat := if q < 5 then q + 1 else if q = 5 then 12 else if q < 12 then q else if q < 16 then q + 5 else if q = 16 then 13 else if q = 17 then 12 else q - 4
def loR (s : Nat) : Nat := if s = 0 then 1 else if s = 1 then 17 else 12
def hiR (s : Nat) : Nat := if s = 0 then 12 else if s = 1 then 20 else 16
theorem nm_dist : ∀ o, o < 20 → ∀ p, p < 20 → nmH o = nmH p → o = p := by decide +kernel
theorem wd_wc {T : Nat → Nat} {s w e : Nat} (hs : s < 3) (hl : ∀ i, w ≤ i → i < e → isL (T i) = true) : (∀ q, wdC T s w e = some q → loW s ≤ q ∧ q < hiW s ∧ wcM T w e = rcW q) ∧ (wdC T s w e = none → ¬ (loR s ≤ wcM T w e ∧ wcM T w e ≤ hiR s)) := by
  have ex : ∀ o p, o < 20 → p < 20 → mt T w e o = true → p ≠ o → mt T w e p = false := fun o p ho hp h1 hne => by
    cases q : mt T w e p
    · rfl
    · exact absurd (nm_dist p hp o ho (((hq_mt hp hl).mpr q).symm.trans ((hq_mt ho hl).mpr h1))) hne
  rw [wcM_mt hl]
  unfold wdC
  generalize mt T w e = m at *
  by_cases h0 : ∃ o, o < 20 ∧ m o = true
  · obtain ⟨o, ho, hm⟩ := h0
    have : o = 0 ∨ o = 1 ∨ o = 2 ∨ o = 3 ∨ o = 4 ∨ o = 5 ∨ o = 6 ∨ o = 7 ∨ o = 8 ∨ o = 9 ∨ o = 10 ∨ o = 11 ∨ o = 12 ∨ o = 13 ∨ o = 14 ∨ o = 15 ∨ o = 16 ∨ o = 17 ∨ o = 18 ∨ o = 19 := by omega
    have ex := fun p hp hne => ex o p ho hp hm hne
    rcases this with z | z | z | z | z | z | z | z | z | z | z | z | z | z | z | z | z | z | z | z <;> subst z
    · have f := (show s = 0 ∨ s = 1 ∨ s = 2 by omega)
      rcases f with z | z | z <;> subst z <;> simp [fstB, soW, loW, hiW, loR, hiR, rcW, hm, ex 1 (by decide) (by decide), ex 2 (by decide) (by decide), ex 3 (by decide) (by decide), ex 4 (by decide) (by decide), ex 5 (by decide) (by decide), ex 6 (by decide) (by decide), ex 7 (by decide) (by decide), ex 8 (by decide) (by decide), ex 9 (by decide) (by decide), ex 10 (by decide) (by decide), ex 11 (by decide) (by decide), ex 12 (by decide) (by decide), ex 13 (by decide) (by decide), ex 14 (by decide) (by decide), ex 15 (by decide) (by decide), ex 16 (by decide) (by decide), ex 17 (by decide) (by decide), ex 18 (by decide) (by decide), ex 19 (by decide) (by decide)]
    · have f := (show s = 0 ∨ s = 1 ∨ s = 2 by omega)
      rcases f with z | z | z <;> subst z <;> simp [fstB, soW, loW, hiW, loR, hiR, rcW, hm, ex 0 (by decide) (by decide), ex 2 (by decide) (by decide), ex 3 (by decide) (by decide), ex 4 (by decide) (by decide), ex 5 (by decide) (by decide), ex 6 (by decide) (by decide), ex 7 (by decide) (by decide), ex 8 (by decide) (by decide), ex 9 (by decide) (by decide), ex 10 (by decide) (by decide), ex 11 (by decide) (by decide), ex 12 (by decide) (by decide), ex 13 (by decide) (by decide), ex 14 (by decide) (by decide), ex 15 (by decide) (by decide), ex 16 (by decide) (by decide), ex 17 (by decide) (by decide), ex 18 (by decide) (by decide), ex 19 (by decide) (by decide)]
    · have f := (show s = 0 ∨ s = 1 ∨ s = 2 by omega)
      rcases f with z | z | z <;> subst z <;> simp [fstB, soW, loW, hiW, loR, hiR, rcW, hm, ex 0 (by decide) (by decide), ex 1 (by decide) (by decide), ex 3 (by decide) (by decide), ex 4 (by decide) (by decide), ex 5 (by decide) (by decide), ex 6 (by decide) (by decide), ex 7 (by decide) (by decide), ex 8 (by decide) (by decide), ex 9 (by decide) (by decide), ex 10 (by decide) (by decide), ex 11 (by decide) (by decide), ex 12 (by decide) (by decide), ex 13 (by decide) (by decide), ex 14 (by decide) (by decide), ex 15 (by decide) (by decide), ex 16 (by decide) (by decide), ex 17 (by decide) (by decide), ex 18 (by decide) (by decide), ex 19 (by decide) (by decide)]
    · have f := (show s = 0 ∨ s = 1 ∨ s = 2 by omega)
      rcases f with z | z | z <;> subst z <;> simp [fstB, soW, loW, hiW, loR, hiR, rcW, hm, ex 0 (by decide) (by decide), ex 1 (by decide) (by decide), ex 2 (by decide) (by decide), ex 4 (by decide) (by decide), ex 5 (by decide) (by decide), ex 6 (by decide) (by decide), ex 7 (by decide) (by decide), ex 8 (by decide) (by decide), ex 9 (by decide) (by decide), ex 10 (by decide) (by decide), ex 11 (by decide) (by decide), ex 12 (by decide) (by decide), ex 13 (by decide) (by decide), ex 14 (by decide) (by decide), ex 15 (by decide) (by decide), ex 16 (by decide) (by decide), ex 17 (by decide) (by decide), ex 18 (by decide) (by decide), ex 19 (by decide) (by decide)]
    · have f := (show s = 0 ∨ s = 1 ∨ s = 2 by omega)
      rcases f with z | z | z <;> subst z <;> simp [fstB, soW, loW, hiW, loR, hiR, rcW, hm, ex 0 (by decide) (by decide), ex 1 (by decide) (by decide), ex 2 (by decide) (by decide), ex 3 (by decide) (by decide), ex 5 (by decide) (by decide), ex 6 (by decide) (by decide), ex 7 (by decide) (by decide), ex 8 (by decide) (by decide), ex 9 (by decide) (by decide), ex 10 (by decide) (by decide), ex 11 (by decide) (by decide), ex 12 (by decide) (by decide), ex 13 (by decide) (by decide), ex 14 (by decide) (by decide), ex 15 (by decide) (by decide), ex 16 (by decide) (by decide), ex 17 (by decide) (by decide), ex 18 (by decide) (by decide), ex 19 (by decide) (by decide)]
    · have f := (show s = 0 ∨ s = 1 ∨ s = 2 by omega)
      rcases f with z | z | z <;> subst z <;> simp [fstB, soW, loW, hiW, loR, hiR, rcW, hm, ex 0 (by decide) (by decide), ex 1 (by decide) (by decide), ex 2 (by decide) (by decide), ex 3 (by decide) (by decide), ex 4 (by decide) (by decide), ex 6 (by decide) (by decide), ex 7 (by decide) (by decide), ex 8 (by decide) (by decide), ex 9 (by decide) (by decide), ex 10 (by decide) (by decide), ex 11 (by decide) (by decide), ex 12 (by decide) (by decide), ex 13 (by decide) (by decide), ex 14 (by decide) (by decide), ex 15 (by decide) (by decide), ex 16 (by decide) (by decide), ex 17 (by decide) (by decide), ex 18 (by decide) (by decide), ex 19 (by decide) (by decide)]
    · have f := (show s = 0 ∨ s = 1 ∨ s = 2 by omega)
      rcases f with z | z | z <;> subst z <;> simp [fstB, soW, loW, hiW, loR, hiR, rcW, hm, ex 0 (by decide) (by decide), ex 1 (by decide) (by decide), ex 2 (by decide) (by decide), ex 3 (by decide) (by decide), ex 4 (by decide) (by decide), ex 5 (by decide) (by decide), ex 7 (by decide) (by decide), ex 8 (by decide) (by decide), ex 9 (by decide) (by decide), ex 10 (by decide) (by decide), ex 11 (by decide) (by decide), ex 12 (by decide) (by decide), ex 13 (by decide) (by decide), ex 14 (by decide) (by decide), ex 15 (by decide) (by decide), ex 16 (by decide) (by decide), ex 17 (by decide) (by decide), ex 18 (by decide) (by decide), ex 19 (by decide) (by decide)]
    · have f := (show s = 0 ∨ s = 1 ∨ s = 2 by omega)
      rcases f with z | z | z <;> subst z <;> simp [fstB, soW, loW, hiW, loR, hiR, rcW, hm, ex 0 (by decide) (by decide), ex 1 (by decide) (by decide), ex 2 (by decide) (by decide), ex 3 (by decide) (by decide), ex 4 (by decide) (by decide), ex 5 (by decide) (by decide), ex 6 (by decide) (by decide), ex 8 (by decide) (by decide), ex 9 (by decide) (by decide), ex 10 (by decide) (by decide), ex 11 (by decide) (by decide), ex 12 (by decide) (by decide), ex 13 (by decide) (by decide), ex 14 (by decide) (by decide), ex 15 (by decide) (by decide), ex 16 (by decide) (by decide), ex 17 (by decide) (by decide), ex 18 (by decide) (by decide), ex 19 (by decide) (by decide)]
    · have f := (show s = 0 ∨ s = 1 ∨ s = 2 by omega)
      rcases f with z | z | z <;> subst z <;> simp [fstB, soW, loW, hiW, loR, hiR, rcW, hm, ex 0 (by decide) (by decide), ex 1 (by decide) (by decide), ex 2 (by decide) (by decide), ex 3 (by decide) (by decide), ex 4 (by decide) (by decide), ex 5 (by decide) (by decide), ex 6 (by decide) (by decide), ex 7 (by decide) (by decide), ex 9 (by decide) (by decide), ex 10 (by decide) (by decide), ex 11 (by decide) (by decide), ex 12 (by decide) (by decide), ex 13 (by decide) (by decide), ex 14 (by decide) (by decide), ex 15 (by decide) (by decide), ex 16 (by decide) (by decide), ex 17 (by decide) (by decide), ex 18 (by decide) (by decide), ex 19 (by decide) (by decide)]
    · have f := (show s = 0 ∨ s = 1 ∨ s = 2 by omega)
      rcases f with z | z | z <;> subst z <;> simp [fstB, soW, loW, hiW, loR, hiR, rcW, hm, ex 0 (by decide) (by decide), ex 1 (by decide) (by decide), ex 2 (by decide) (by decide), ex 3 (by decide) (by decide), ex 4 (by decide) (by decide), ex 5 (by decide) (by decide), ex 6 (by decide) (by decide), ex 7 (by decide) (by decide), ex 8 (by decide) (by decide), ex 10 (by decide) (by decide), ex 11 (by decide) (by decide), ex 12 (by decide) (by decide), ex 13 (by decide) (by decide), ex 14 (by decide) (by decide), ex 15 (by decide) (by decide), ex 16 (by decide) (by decide), ex 17 (by decide) (by decide), ex 18 (by decide) (by decide), ex 19 (by decide) (by decide)]
    · have f := (show s = 0 ∨ s = 1 ∨ s = 2 by omega)
      rcases f with z | z | z <;> subst z <;> simp [fstB, soW, loW, hiW, loR, hiR, rcW, hm, ex 0 (by decide) (by decide), ex 1 (by decide) (by decide), ex 2 (by decide) (by decide), ex 3 (by decide) (by decide), ex 4 (by decide) (by decide), ex 5 (by decide) (by decide), ex 6 (by decide) (by decide), ex 7 (by decide) (by decide), ex 8 (by decide) (by decide), ex 9 (by decide) (by decide), ex 11 (by decide) (by decide), ex 12 (by decide) (by decide), ex 13 (by decide) (by decide), ex 14 (by decide) (by decide), ex 15 (by decide) (by decide), ex 16 (by decide) (by decide), ex 17 (by decide) (by decide), ex 18 (by decide) (by decide), ex 19 (by decide) (by decide)]
    · have f := (show s = 0 ∨ s = 1 ∨ s = 2 by omega)
      rcases f with z | z | z <;> subst z <;> simp [fstB, soW, loW, hiW, loR, hiR, rcW, hm, ex 0 (by decide) (by decide), ex 1 (by decide) (by decide), ex 2 (by decide) (by decide), ex 3 (by decide) (by decide), ex 4 (by decide) (by decide), ex 5 (by decide) (by decide), ex 6 (by decide) (by decide), ex 7 (by decide) (by decide), ex 8 (by decide) (by decide), ex 9 (by decide) (by decide), ex 10 (by decide) (by decide), ex 12 (by decide) (by decide), ex 13 (by decide) (by decide), ex 14 (by decide) (by decide), ex 15 (by decide) (by decide), ex 16 (by decide) (by decide), ex 17 (by decide) (by decide), ex 18 (by decide) (by decide), ex 19 (by decide) (by decide)]
    · have f := (show s = 0 ∨ s = 1 ∨ s = 2 by omega)
      rcases f with z | z | z <;> subst z <;> simp [fstB, soW, loW, hiW, loR, hiR, rcW, hm, ex 0 (by decide) (by decide), ex 1 (by decide) (by decide), ex 2 (by decide) (by decide), ex 3 (by decide) (by decide), ex 4 (by decide) (by decide), ex 5 (by decide) (by decide), ex 6 (by decide) (by decide), ex 7 (by decide) (by decide), ex 8 (by decide) (by decide), ex 9 (by decide) (by decide), ex 10 (by decide) (by decide), ex 11 (by decide) (by decide), ex 13 (by decide) (by decide), ex 14 (by decide) (by decide), ex 15 (by decide) (by decide), ex 16 (by decide) (by decide), ex 17 (by decide) (by decide), ex 18 (by decide) (by decide), ex 19 (by decide) (by decide)]
    · have f := (show s = 0 ∨ s = 1 ∨ s = 2 by omega)
      rcases f with z | z | z <;> subst z <;> simp [fstB, soW, loW, hiW, loR, hiR, rcW, hm, ex 0 (by decide) (by decide), ex 1 (by decide) (by decide), ex 2 (by decide) (by decide), ex 3 (by decide) (by decide), ex 4 (by decide) (by decide), ex 5 (by decide) (by decide), ex 6 (by decide) (by decide), ex 7 (by decide) (by decide), ex 8 (by decide) (by decide), ex 9 (by decide) (by decide), ex 10 (by decide) (by decide), ex 11 (by decide) (by decide), ex 12 (by decide) (by decide), ex 14 (by decide) (by decide), ex 15 (by decide) (by decide), ex 16 (by decide) (by decide), ex 17 (by decide) (by decide), ex 18 (by decide) (by decide), ex 19 (by decide) (by decide)]
    · have f := (show s = 0 ∨ s = 1 ∨ s = 2 by omega)
      rcases f with z | z | z <;> subst z <;> simp [fstB, soW, loW, hiW, loR, hiR, rcW, hm, ex 0 (by decide) (by decide), ex 1 (by decide) (by decide), ex 2 (by decide) (by decide), ex 3 (by decide) (by decide), ex 4 (by decide) (by decide), ex 5 (by decide) (by decide), ex 6 (by decide) (by decide), ex 7 (by decide) (by decide), ex 8 (by decide) (by decide), ex 9 (by decide) (by decide), ex 10 (by decide) (by decide), ex 11 (by decide) (by decide), ex 12 (by decide) (by decide), ex 13 (by decide) (by decide), ex 15 (by decide) (by decide), ex 16 (by decide) (by decide), ex 17 (by decide) (by decide), ex 18 (by decide) (by decide), ex 19 (by decide) (by decide)]
    · have f := (show s = 0 ∨ s = 1 ∨ s = 2 by omega)
      rcases f with z | z | z <;> subst z <;> simp [fstB, soW, loW, hiW, loR, hiR, rcW, hm, ex 0 (by decide) (by decide), ex 1 (by decide) (by decide), ex 2 (by decide) (by decide), ex 3 (by decide) (by decide), ex 4 (by decide) (by decide), ex 5 (by decide) (by decide), ex 6 (by decide) (by decide), ex 7 (by decide) (by decide), ex 8 (by decide) (by decide), ex 9 (by decide) (by decide), ex 10 (by decide) (by decide), ex 11 (by decide) (by decide), ex 12 (by decide) (by decide), ex 13 (by decide) (by decide), ex 14 (by decide) (by decide), ex 16 (by decide) (by decide), ex 17 (by decide) (by decide), ex 18 (by decide) (by decide), ex 19 (by decide) (by decide)]
    · have f := (show s = 0 ∨ s = 1 ∨ s = 2 by omega)
      rcases f with z | z | z <;> subst z <;> simp [fstB, soW, loW, hiW, loR, hiR, rcW, hm, ex 0 (by decide) (by decide), ex 1 (by decide) (by decide), ex 2 (by decide) (by decide), ex 3 (by decide) (by decide), ex 4 (by decide) (by decide), ex 5 (by decide) (by decide), ex 6 (by decide) (by decide), ex 7 (by decide) (by decide), ex 8 (by decide) (by decide), ex 9 (by decide) (by decide), ex 10 (by decide) (by decide), ex 11 (by decide) (by decide), ex 12 (by decide) (by decide), ex 13 (by decide) (by decide), ex 14 (by decide) (by decide), ex 15 (by decide) (by decide), ex 17 (by decide) (by decide), ex 18 (by decide) (by decide), ex 19 (by decide) (by decide)]
    · have f := (show s = 0 ∨ s = 1 ∨ s = 2 by omega)
      rcases f with z | z | z <;> subst z <;> simp [fstB, soW, loW, hiW, loR, hiR, rcW, hm, ex 0 (by decide) (by decide), ex 1 (by decide) (by decide), ex 2 (by decide) (by decide), ex 3 (by decide) (by decide), ex 4 (by decide) (by decide), ex 5 (by decide) (by decide), ex 6 (by decide) (by decide), ex 7 (by decide) (by decide), ex 8 (by decide) (by decide), ex 9 (by decide) (by decide), ex 10 (by decide) (by decide), ex 11 (by decide) (by decide), ex 12 (by decide) (by decide), ex 13 (by decide) (by decide), ex 14 (by decide) (by decide), ex 15 (by decide) (by decide), ex 16 (by decide) (by decide), ex 18 (by decide) (by decide), ex 19 (by decide) (by decide)]
    · have f := (show s = 0 ∨ s = 1 ∨ s = 2 by omega)
      rcases f with z | z | z <;> subst z <;> simp [fstB, soW, loW, hiW, loR, hiR, rcW, hm, ex 0 (by decide) (by decide), ex 1 (by decide) (by decide), ex 2 (by decide) (by decide), ex 3 (by decide) (by decide), ex 4 (by decide) (by decide), ex 5 (by decide) (by decide), ex 6 (by decide) (by decide), ex 7 (by decide) (by decide), ex 8 (by decide) (by decide), ex 9 (by decide) (by decide), ex 10 (by decide) (by decide), ex 11 (by decide) (by decide), ex 12 (by decide) (by decide), ex 13 (by decide) (by decide), ex 14 (by decide) (by decide), ex 15 (by decide) (by decide), ex 16 (by decide) (by decide), ex 17 (by decide) (by decide), ex 19 (by decide) (by decide)]
    · have f := (show s = 0 ∨ s = 1 ∨ s = 2 by omega)
      rcases f with z | z | z <;> subst z <;> simp [fstB, soW, loW, hiW, loR, hiR, rcW, hm, ex 0 (by decide) (by decide), ex 1 (by decide) (by decide), ex 2 (by decide) (by decide), ex 3 (by decide) (by decide), ex 4 (by decide) (by decide), ex 5 (by decide) (by decide), ex 6 (by decide) (by decide), ex 7 (by decide) (by decide), ex 8 (by decide) (by decide), ex 9 (by decide) (by decide), ex 10 (by decide) (by decide), ex 11 (by decide) (by decide), ex 12 (by decide) (by decide), ex 13 (by decide) (by decide), ex 14 (by decide) (by decide), ex 15 (by decide) (by decide), ex 16 (by decide) (by decide), ex 17 (by decide) (by decide), ex 18 (by decide) (by decide)]
  · have nf : ∀ p, p < 20 → m p = false := fun p hp => by
      cases q : m p
      · rfl
      · exact absurd ⟨p, hp, q⟩ h0
    have f := (show s = 0 ∨ s = 1 ∨ s = 2 by omega)
    rcases f with z | z | z <;> subst z <;> simp [fstB, soW, loW, hiW, loR, hiR, rcW, nf 0 (by decide), nf 1 (by decide), nf 2 (by decide), nf 3 (by decide), nf 4 (by decide), nf 5 (by decide), nf 6 (by decide), nf 7 (by decide), nf 8 (by decide), nf 9 (by decide), nf 10 (by decide), nf 11 (by decide), nf 12 (by decide), nf 13 (by decide), nf 14 (by decide), nf 15 (by decide), nf 16 (by decide), nf 17 (by decide), nf 18 (by decide), nf 19 (by decide)]
