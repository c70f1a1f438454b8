/-! ===== there and back: the class ===== -/
theorem rch_0s (c : AC) (L : Nat → Bool) (fx fy t : Nat) : rch c L 0 fx fy (t + 1) = stepP c (L (t % 24)) (rch c L 0 fx fy t) := by
  show stepP c (L ((0 + t) % 24)) (rch c L 0 fx fy t) = _
  rw [Nat.zero_add]
def bkP (c : AC) (L : Nat → Bool) (fx fy gx gy : Nat) : Nat → Nat → Nat → Bool
  | 0 => fun x y => oneP fx fy x y && oneP gx gy x y
  | t + 1 => fun x y => stepP c (L (t % 24)) (bkP c L fx fy gx gy t) x y || (rch c L 0 fx fy (t + 1) x y && oneP gx gy x y)
theorem bkP_s (c : AC) (L : Nat → Bool) (fx fy gx gy t : Nat) : bkP c L fx fy gx gy (t + 1) = fun x y => stepP c (L (t % 24)) (bkP c L fx fy gx gy t) x y || (rch c L 0 fx fy (t + 1) x y && oneP gx gy x y) := rfl
theorem bkP_cong {c : AC} {L L' : Nat → Bool} {fx fy gx gy : Nat} (h : ∀ i, i < 24 → L i = L' i) : ∀ t, bkP c L fx fy gx gy t = bkP c L' fx fy gx gy t
  | 0 => rfl
  | t + 1 => by rw [bkP_s, bkP_s, bkP_cong h t, rch_cong h (t + 1), h _ (Nat.mod_lt _ (by decide))]
theorem bkP_bits (c : AC) (p : Nat → Bool) (fx fy gx gy t : Nat) : bkP c (fun i => (bitsB p 24).testBit i) fx fy gx gy t = bkP c p fx fy gx gy t := bkP_cong (fun i hi => by rw [bitsB_tb, decide_eq_true hi, Bool.true_and]) t
theorem spr_sub {P Q : Nat → Nat → Bool} (h : ∀ x y, Q x y = true → P x y = true) : ∀ x y, sprP Q x y = true → sprP P x y = true := fun x y e => by
  unfold sprP at e ⊢
  simp only [Bool.or_eq_true, Bool.and_eq_true] at e ⊢
  rcases e with (((e | e) | e) | e) | e
  · exact Or.inl (Or.inl (Or.inl (Or.inl (h _ _ e))))
  · exact Or.inl (Or.inl (Or.inl (Or.inr ⟨e.1, h _ _ e.2⟩)))
  · exact Or.inl (Or.inl (Or.inr ⟨e.1, h _ _ e.2⟩))
  · exact Or.inl (Or.inr ⟨e.1, h _ _ e.2⟩)
  · exact Or.inr ⟨e.1, h _ _ e.2⟩
theorem step_sub {c : AC} {l : Bool} {P Q : Nat → Nat → Bool} (h : ∀ x y, Q x y = true → P x y = true) : ∀ x y, stepP c l Q x y = true → stepP c l P x y = true := fun x y e => by
  unfold stepP at e ⊢
  rw [Bool.and_eq_true, Bool.and_eq_true] at e ⊢
  exact ⟨⟨spr_sub h x y e.1.1, e.1.2⟩, e.2⟩
theorem bk_rch {c : AC} {L : Nat → Bool} {fx fy gx gy : Nat} : ∀ t x y, bkP c L fx fy gx gy t x y = true → rch c L 0 fx fy t x y = true
  | 0, x, y, h => by
    have h : (oneP fx fy x y && oneP gx gy x y) = true := h
    rw [Bool.and_eq_true] at h
    exact h.1
  | t + 1, x, y, h => by
    rw [bkP_s] at h
    rw [Bool.or_eq_true, Bool.and_eq_true] at h
    rcases h with h | h
    · rw [rch_0s]; exact step_sub (bk_rch t) x y h
    · exact h.1
theorem bk_in {c : AC} {L : Nat → Bool} {fx fy gx gy : Nat} (hx : fx < (c (0)).val) (hy : fy < (c (1)).val) (t x y : Nat) (h : bkP c L fx fy gx gy t x y = true) : x < (c (0)).val ∧ y < (c (1)).val := rch_in hx hy t x y (bk_rch t x y h)
theorem there_19 {h : PH} {c : AC} {fx fy gx gy M : Nat} (hS : SeaC h c fx fy gx gy) (hfx : fx < 8) (hfy : fy < 8) (hM : M < 2147483648) : ∀ n k, k + n = 61 → pm_ev (99, 19, [vr 5 0, vi (nI M), vi (nI 60), vl (lS (toS (rch c (fun i => M.testBit i) 0 fx fy k))), none, vl (lS (toS (bkP c (fun i => M.testBit i) fx fy gx gy k))), none, vi (nI k)], [], h) = some (some (vi (oN (fstB (fun t => bkP c (fun i => M.testBit i) fx fy gx gy t fx fy) n k))), h) := by
  obtain ⟨_, _, _, s3, s4⟩ := id hS
  intro n
  induction n with
  | zero =>
    intro k hk
    rw [E_X6_thereAndBack_19]
    simp (disch := omega) only [y_0, y_1, y_2, y_3, y_4, y_5, y_6, y_7, y_8, y_9, y_10, y_11, y_12, y_13, y_14, y_15, y_16, y_17, y_18, y_19, y_20, y_21, y_22, y_23, y_24, y_29, y_30, y_31, y_32, y_39, y_40, y_48, y_49, y_50, y_60, y_64, y_69, y_78, y_99, y_100, y_142, y_161, y_600, y_610, y_894, y_999, y_1000, y_1216, y_1276, neg1, neg2, nI_add, nI_mul, nn_sub, nn_lt, nn_le, nn_eq, in_lt, ni_lt, in_le, ni_le, in_eq, ni_eq, iI_lt, iI_le, iI_eq, nn_clamp, inb_n, t_lt, f_lt, t_le, f_le, t_eq, f_eq, ti_lt, fi_lt, ti_le, fi_le, ti_eq, fi_eq, ↓reduceIte, ite_true, ite_false, eq_self, decide_true, decide_false, Bool.true_and, Bool.and_true, Bool.false_and, Bool.and_false, Bool.true_or, Bool.or_true, Bool.false_or, Bool.or_false, bI_t, bI_f, bI_nand, n_mod, an11, an01, negn1, negn2, false_and, and_false, true_and, and_true, not_true_eq_false, not_false_eq_true, bI_n0, bI_n1, Bool.true_eq_false, Bool.false_eq_true, cI_s, cL_s, cV_s, cR_n, pm_bR_self, bI_ite, bL_ite, bV_ite, bR_ite, ]
    rfl
  | succ n ih =>
    intro k hk
    have e := ih (k + 1) (by omega)
    rw [E_X6_thereAndBack_19]
    by_cases q0 : lS (toS (rch c (fun i => M.testBit i) 0 fx fy k)) = 0
    · have q1 := q0
      rw [lS_empty] at q1
      rw [fstB_none (n + 1) k (fun i hi => by
        have := rch_empty q1 (i - k) fx fy hfx hfy
        rw [show k + (i - k) = i by omega] at this
        cases qb : bkP c (fun i => M.testBit i) fx fy gx gy i fx fy
        · rfl
        · rw [bk_rch i _ _ qb] at this; cases this)]
      simp (disch := omega) only [y_0, y_1, y_2, y_3, y_4, y_5, y_6, y_7, y_8, y_9, y_10, y_11, y_12, y_13, y_14, y_15, y_16, y_17, y_18, y_19, y_20, y_21, y_22, y_23, y_24, y_29, y_30, y_31, y_32, y_39, y_40, y_48, y_49, y_50, y_60, y_64, y_69, y_78, y_99, y_100, y_142, y_161, y_600, y_610, y_894, y_999, y_1000, y_1216, y_1276, neg1, neg2, nI_add, nI_mul, nn_sub, nn_lt, nn_le, nn_eq, in_lt, ni_lt, in_le, ni_le, in_eq, ni_eq, iI_lt, iI_le, iI_eq, nn_clamp, inb_n, t_lt, f_lt, t_le, f_le, t_eq, f_eq, ti_lt, fi_lt, ti_le, fi_le, ti_eq, fi_eq, ↓reduceIte, ite_true, ite_false, eq_self, decide_true, decide_false, Bool.true_and, Bool.and_true, Bool.false_and, Bool.and_false, Bool.true_or, Bool.or_true, Bool.false_or, Bool.or_false, bI_t, bI_f, bI_nand, n_mod, an11, an01, negn1, negn2, false_and, and_false, true_and, and_true, not_true_eq_false, not_false_eq_true, bI_n0, bI_n1, Bool.true_eq_false, Bool.false_eq_true, cI_s, cL_s, cV_s, cR_n, pm_bR_self, bI_ite, bL_ite, bV_ite, bR_ite, lcmp_0, q0]
      rfl
    · have A := afterHour_C hS (rch c (fun i => M.testBit i) 0 fx fy k) hM (show k < 100000 by omega)
      have B := afterHour_C hS (bkP c (fun i => M.testBit i) fx fy gx gy k) hM (show k < 100000 by omega)
      rw [← rch_0s c (fun i => M.testBit i) fx fy k] at A
      have eb : lS (toS (bkP c (fun i => M.testBit i) fx fy gx gy (k + 1))) = lS (toS (stepP c (M.testBit (k % 24)) (bkP c (fun i => M.testBit i) fx fy gx gy k))) ||| (lS (toS (rch c (fun i => M.testBit i) 0 fx fy (k + 1))) &&& lS (toS (oneP gx gy))) := by
        rw [lS_and, lS_or]; rfl
      rw [eb] at e
      cases q : bkP c (fun i => M.testBit i) fx fy gx gy k fx fy
      · rw [fstB_f (p := fun t => bkP c (fun i => M.testBit i) fx fy gx gy t fx fy) q]
        simp (disch := omega) only [y_0, y_1, y_2, y_3, y_4, y_5, y_6, y_7, y_8, y_9, y_10, y_11, y_12, y_13, y_14, y_15, y_16, y_17, y_18, y_19, y_20, y_21, y_22, y_23, y_24, y_29, y_30, y_31, y_32, y_39, y_40, y_48, y_49, y_50, y_60, y_64, y_69, y_78, y_99, y_100, y_142, y_161, y_600, y_610, y_894, y_999, y_1000, y_1216, y_1276, neg1, neg2, nI_add, nI_mul, nn_sub, nn_lt, nn_le, nn_eq, in_lt, ni_lt, in_le, ni_le, in_eq, ni_eq, iI_lt, iI_le, iI_eq, nn_clamp, inb_n, t_lt, f_lt, t_le, f_le, t_eq, f_eq, ti_lt, fi_lt, ti_le, fi_le, ti_eq, fi_eq, ↓reduceIte, ite_true, ite_false, eq_self, decide_true, decide_false, Bool.true_and, Bool.and_true, Bool.false_and, Bool.and_false, Bool.true_or, Bool.or_true, Bool.false_or, Bool.or_false, bI_t, bI_f, bI_nand, n_mod, an11, an01, negn1, negn2, false_and, and_false, true_and, and_true, not_true_eq_false, not_false_eq_true, bI_n0, bI_n1, Bool.true_eq_false, Bool.false_eq_true, cI_s, cL_s, cV_s, cR_n, pm_bR_self, bI_ite, bL_ite, bV_ite, bR_ite, lcmp_0, q0, s3, s4, lS_goal _ hfx hfy, q, A, B]
        exact e
      · rw [fstB_t (p := fun t => bkP c (fun i => M.testBit i) fx fy gx gy t fx fy) q]
        simp (disch := omega) only [y_0, y_1, y_2, y_3, y_4, y_5, y_6, y_7, y_8, y_9, y_10, y_11, y_12, y_13, y_14, y_15, y_16, y_17, y_18, y_19, y_20, y_21, y_22, y_23, y_24, y_29, y_30, y_31, y_32, y_39, y_40, y_48, y_49, y_50, y_60, y_64, y_69, y_78, y_99, y_100, y_142, y_161, y_600, y_610, y_894, y_999, y_1000, y_1216, y_1276, neg1, neg2, nI_add, nI_mul, nn_sub, nn_lt, nn_le, nn_eq, in_lt, ni_lt, in_le, ni_le, in_eq, ni_eq, iI_lt, iI_le, iI_eq, nn_clamp, inb_n, t_lt, f_lt, t_le, f_le, t_eq, f_eq, ti_lt, fi_lt, ti_le, fi_le, ti_eq, fi_eq, ↓reduceIte, ite_true, ite_false, eq_self, decide_true, decide_false, Bool.true_and, Bool.and_true, Bool.false_and, Bool.and_false, Bool.true_or, Bool.or_true, Bool.false_or, Bool.or_false, bI_t, bI_f, bI_nand, n_mod, an11, an01, negn1, negn2, false_and, and_false, true_and, and_true, not_true_eq_false, not_false_eq_true, bI_n0, bI_n1, Bool.true_eq_false, Bool.false_eq_true, cI_s, cL_s, cV_s, cR_n, pm_bR_self, bI_ite, bL_ite, bV_ite, bR_ite, lcmp_0, q0, s3, s4, lS_goal _ hfx hfy, q]
        rfl
theorem there_C {h : PH} {c : AC} {fx fy gx gy M : Nat} (hS : SeaC h c fx fy gx gy) (hfx : fx < 8) (hfy : fy < 8) (hM : M < 2147483648) : pm_ev (99, 0, [vr 5 0, vi (nI M), vi (nI 60), none, none, none, none, none], [], h) = some (some (vi (oN (fstB (fun t => bkP c (fun i => M.testBit i) fx fy gx gy t fx fy) 61 0))), h) := by
  have e := there_19 hS hfx hfy hM 61 0 rfl
  have eb : lS (toS (bkP c (fun i => M.testBit i) fx fy gx gy 0)) = lS (toS (oneP fx fy)) &&& lS (toS (oneP gx gy)) := by
    rw [lS_and]; rfl
  rw [eb] at e
  rw [E_X6_thereAndBack, hS.2.2.2.1, hS.2.2.2.2]
  exact e
/-! ===== there and back: the reference ===== -/
def paH (h : PH) (N T B U : Nat → Int32) : PH := (fun a b c => if b = 0 ∧ c < 64 then (if a = 40 then N c else if a = 41 then T c else if a = 42 then B c else if a = 43 then U c else h.1 a b c) else h.1 a b c, h.2)
theorem paH_self (h : PH) : paH h (h.1 40 0) (h.1 41 0) (h.1 42 0) (h.1 43 0) = h := ph_ext (fun a b c => by
  show (if b = 0 ∧ c < 64 then (if a = 40 then h.1 40 0 c else if a = 41 then h.1 41 0 c else if a = 42 then h.1 42 0 c else if a = 43 then h.1 43 0 c else h.1 a b c) else h.1 a b c) = _
  repeat' split
  all_goals simp_all) rfl
theorem paH_40 (h : PH) (N T B U : Nat → Int32) {k : Nat} (hk : k < 64) : (paH h N T B U).1 40 0 k = N k := by
  show (if 0 = 0 ∧ k < 64 then _ else _) = _
  rw [if_pos ⟨rfl, hk⟩]; rfl
theorem paH_41 (h : PH) (N T B U : Nat → Int32) {k : Nat} (hk : k < 64) : (paH h N T B U).1 41 0 k = T k := by
  show (if 0 = 0 ∧ k < 64 then _ else _) = _
  rw [if_pos ⟨rfl, hk⟩]; rfl
theorem paH_42 (h : PH) (N T B U : Nat → Int32) {k : Nat} (hk : k < 64) : (paH h N T B U).1 42 0 k = B k := by
  show (if 0 = 0 ∧ k < 64 then _ else _) = _
  rw [if_pos ⟨rfl, hk⟩]; rfl
theorem paH_43 (h : PH) (N T B U : Nat → Int32) {k : Nat} (hk : k < 64) : (paH h N T B U).1 43 0 k = U k := by
  show (if 0 = 0 ∧ k < 64 then _ else _) = _
  rw [if_pos ⟨rfl, hk⟩]; rfl
theorem paH_o (h : PH) (N T B U : Nat → Int32) {t : Nat} (i k : Nat) (h1 : t < 40 ∨ 43 < t) : (paH h N T B U).1 t i k = h.1 t i k := by
  show (if i = 0 ∧ k < 64 then (if t = 40 then N k else if t = 41 then T k else if t = 42 then B k else if t = 43 then U k else h.1 t i k) else h.1 t i k) = _
  rw [if_neg (show ¬ t = 40 by omega), if_neg (show ¬ t = 41 by omega), if_neg (show ¬ t = 42 by omega), if_neg (show ¬ t = 43 by omega)]
  split <;> rfl
theorem paH_cong (h : PH) {N T B U N' T' B' U' : Nat → Int32} (hN : ∀ k, k < 64 → N k = N' k) (hT : ∀ k, k < 64 → T k = T' k) (hB : ∀ k, k < 64 → B k = B' k) (hU : ∀ k, k < 64 → U k = U' k) : paH h N T B U = paH h N' T' B' U' := ph_ext (fun a b c => by
  show (if b = 0 ∧ c < 64 then (if a = 40 then N c else if a = 41 then T c else if a = 42 then B c else if a = 43 then U c else h.1 a b c) else h.1 a b c) = (if b = 0 ∧ c < 64 then (if a = 40 then N' c else if a = 41 then T' c else if a = 42 then B' c else if a = 43 then U' c else h.1 a b c) else h.1 a b c)
  by_cases q : b = 0 ∧ c < 64
  · rw [if_pos q, if_pos q, hN c q.2, hT c q.2, hB c q.2, hU c q.2]
  · rw [if_neg q, if_neg q]) rfl
theorem paH_s40 (h : PH) (N T B U : Nat → Int32) {k : Nat} (hk : k < 64) (v : Int32) : pm_sI (paH h N T B U) 40 0 k v = paH h (upd N k v) T B U := ph_ext (fun a b c => by
  rw [pm_sI_at]
  show (if a = 40 ∧ b = 0 ∧ c = k then v else if b = 0 ∧ c < 64 then (if a = 40 then N c else if a = 41 then T c else if a = 42 then B c else if a = 43 then U c else h.1 a b c) else h.1 a b c) = (if b = 0 ∧ c < 64 then (if a = 40 then (if c = k then v else N c) else if a = 41 then T c else if a = 42 then B c else if a = 43 then U c else h.1 a b c) else h.1 a b c)
  repeat' split
  all_goals first | rfl | (exfalso; omega)) rfl
theorem paH_s41 (h : PH) (N T B U : Nat → Int32) {k : Nat} (hk : k < 64) (v : Int32) : pm_sI (paH h N T B U) 41 0 k v = paH h N (upd T k v) B U := ph_ext (fun a b c => by
  rw [pm_sI_at]
  show (if a = 41 ∧ b = 0 ∧ c = k then v else if b = 0 ∧ c < 64 then (if a = 40 then N c else if a = 41 then T c else if a = 42 then B c else if a = 43 then U c else h.1 a b c) else h.1 a b c) = (if b = 0 ∧ c < 64 then (if a = 40 then N c else if a = 41 then (if c = k then v else T c) else if a = 42 then B c else if a = 43 then U c else h.1 a b c) else h.1 a b c)
  repeat' split
  all_goals first | rfl | (exfalso; omega)) rfl
theorem paH_s42 (h : PH) (N T B U : Nat → Int32) {k : Nat} (hk : k < 64) (v : Int32) : pm_sI (paH h N T B U) 42 0 k v = paH h N T (upd B k v) U := ph_ext (fun a b c => by
  rw [pm_sI_at]
  show (if a = 42 ∧ b = 0 ∧ c = k then v else if b = 0 ∧ c < 64 then (if a = 40 then N c else if a = 41 then T c else if a = 42 then B c else if a = 43 then U c else h.1 a b c) else h.1 a b c) = (if b = 0 ∧ c < 64 then (if a = 40 then N c else if a = 41 then T c else if a = 42 then (if c = k then v else B c) else if a = 43 then U c else h.1 a b c) else h.1 a b c)
  repeat' split
  all_goals first | rfl | (exfalso; omega)) rfl
theorem paH_s43 (h : PH) (N T B U : Nat → Int32) {k : Nat} (hk : k < 64) (v : Int32) : pm_sI (paH h N T B U) 43 0 k v = paH h N T B (upd U k v) := ph_ext (fun a b c => by
  rw [pm_sI_at]
  show (if a = 43 ∧ b = 0 ∧ c = k then v else if b = 0 ∧ c < 64 then (if a = 40 then N c else if a = 41 then T c else if a = 42 then B c else if a = 43 then U c else h.1 a b c) else h.1 a b c) = (if b = 0 ∧ c < 64 then (if a = 40 then N c else if a = 41 then T c else if a = 42 then B c else if a = 43 then (if c = k then v else U c) else h.1 a b c) else h.1 a b c)
  repeat' split
  all_goals first | rfl | (exfalso; omega)) rfl
theorem paH_8 (h : PH) (N T B U : Nat → Int32) (k : Nat) : (paH h N T B U).1 8 0 k = h.1 8 0 k := paH_o h N T B U 0 k (by decide)
theorem paH_M {h : PH} {a : Nat} {c : AC} (hm : ModS h a c) (N T B U : Nat → Int32) : ModS (paH h N T B U) a c := hm.fr (fun k => paH_o h N T B U 0 k (by decide)) (fun k _ _ => paH_8 h N T B U k)
theorem paH_A {h : PH} {c : AC} (hm : AliveM h c) (N T B U : Nat → Int32) : AliveM (paH h N T B U) c := hm.fr (fun k => paH_o h N T B U 0 k (by decide)) (fun k => paH_o h N T B U 0 k (by decide))
theorem paH_fr (h : PH) (N T B U : Nat → Int32) : Fr scM h (paH h N T B U) := fun t i ht k => ⟨paH_o h N T B U i k (by
  rcases Nat.lt_or_ge t 40 with w | w
  · exact Or.inl w
  · rcases Nat.lt_or_ge 43 t with w2 | w2
    · exact Or.inr w2
    · have : t = 40 ∨ t = 41 ∨ t = 42 ∨ t = 43 := by omega
      rcases this with e | e | e | e <;> (subst e; cases ht)), rfl⟩
theorem passes_3 {h : PH} (s g t : Int32) (nw bn : Nat → Bool) (T U : Nat → Int32) : ∀ r k, k + r = 64 → pm_ev (251, 3, [vr 8 0, vi s, vi g, vi t, vi (nI k), none, none], [], paH h (boolF nw) (cutF (boolF nw) T k) (boolF bn) (cutF (boolF bn) U k)) = pm_ev (251, 47, [vr 8 0, vi s, vi g, vi t, vi (nI 0), none, none], [], paH h (boolF nw) (boolF nw) (boolF bn) (boolF bn)) := by
  intro r
  induction r with
  | zero =>
    intro k hk
    have hk : k = 64 := by omega
    subst hk
    rw [E_X9_passes_3]
    simp (disch := omega) only [y_0, y_1, y_2, y_3, y_4, y_5, y_6, y_7, y_8, y_9, y_10, y_11, y_12, y_13, y_14, y_15, y_16, y_17, y_18, y_19, y_20, y_21, y_22, y_23, y_24, y_29, y_30, y_31, y_32, y_39, y_40, y_48, y_49, y_50, y_60, y_64, y_69, y_78, y_99, y_100, y_142, y_161, y_600, y_610, y_894, y_999, y_1000, y_1216, y_1276, neg1, neg2, nI_add, nI_mul, nn_sub, nn_lt, nn_le, nn_eq, in_lt, ni_lt, in_le, ni_le, in_eq, ni_eq, iI_lt, iI_le, iI_eq, nn_clamp, inb_n, t_lt, f_lt, t_le, f_le, t_eq, f_eq, ti_lt, fi_lt, ti_le, fi_le, ti_eq, fi_eq, ↓reduceIte, ite_true, ite_false, eq_self, decide_true, decide_false, Bool.true_and, Bool.and_true, Bool.false_and, Bool.and_false, Bool.true_or, Bool.or_true, Bool.false_or, Bool.or_false, bI_t, bI_f, bI_nand, n_mod, an11, an01, negn1, negn2, false_and, and_false, true_and, and_true, not_true_eq_false, not_false_eq_true, bI_n0, bI_n1, Bool.true_eq_false, Bool.false_eq_true, cI_s, cL_s, cV_s, cR_n, pm_bR_self, bI_ite, bL_ite, bV_ite, bR_ite, E_X9_passes_23, E_X9_passes_24, E_X9_passes_37, E_X9_passes_78, E_X9_passes_191, E_X9_passes_38, E_X9_passes_153, E_X9_passes_102, E_X9_passes_220, E_X9_passes_211, E_X9_passes_112, E_X9_passes_121, E_X9_passes_263, E_X9_passes_238, E_X9_passes_134, E_X9_passes_254, E_X9_passes_144, ]
    exact congrArg (fun g' => pm_ev (251, 47, [vr 8 0, vi s, vi g, vi t, vi (nI 0), none, none], [], g')) (paH_cong h (fun k hk => rfl) (fun k hk => cutF_lt hk) (fun k hk => rfl) (fun k hk => cutF_lt hk))
  | succ r ih =>
    intro k hk
    have e1 := cutF_s (boolF nw) T k (v := bI (nw k)) rfl
    have e2 := cutF_s (boolF bn) U k (v := bI (bn k)) rfl
    have f1 : boolF nw k = bI (nw k) := rfl
    have f2 : boolF bn k = bI (bn k) := rfl
    rw [← ih (k + 1) (by omega), E_X9_passes_3]
    simp (disch := omega) only [y_0, y_1, y_2, y_3, y_4, y_5, y_6, y_7, y_8, y_9, y_10, y_11, y_12, y_13, y_14, y_15, y_16, y_17, y_18, y_19, y_20, y_21, y_22, y_23, y_24, y_29, y_30, y_31, y_32, y_39, y_40, y_48, y_49, y_50, y_60, y_64, y_69, y_78, y_99, y_100, y_142, y_161, y_600, y_610, y_894, y_999, y_1000, y_1216, y_1276, neg1, neg2, nI_add, nI_mul, nn_sub, nn_lt, nn_le, nn_eq, in_lt, ni_lt, in_le, ni_le, in_eq, ni_eq, iI_lt, iI_le, iI_eq, nn_clamp, inb_n, t_lt, f_lt, t_le, f_le, t_eq, f_eq, ti_lt, fi_lt, ti_le, fi_le, ti_eq, fi_eq, ↓reduceIte, ite_true, ite_false, eq_self, decide_true, decide_false, Bool.true_and, Bool.and_true, Bool.false_and, Bool.and_false, Bool.true_or, Bool.or_true, Bool.false_or, Bool.or_false, bI_t, bI_f, bI_nand, n_mod, an11, an01, negn1, negn2, false_and, and_false, true_and, and_true, not_true_eq_false, not_false_eq_true, bI_n0, bI_n1, Bool.true_eq_false, Bool.false_eq_true, cI_s, cL_s, cV_s, cR_n, pm_bR_self, bI_ite, bL_ite, bV_ite, bR_ite, E_X9_passes_23, E_X9_passes_24, E_X9_passes_37, E_X9_passes_78, E_X9_passes_191, E_X9_passes_38, E_X9_passes_153, E_X9_passes_102, E_X9_passes_220, E_X9_passes_211, E_X9_passes_112, E_X9_passes_121, E_X9_passes_263, E_X9_passes_238, E_X9_passes_134, E_X9_passes_254, E_X9_passes_144, paH_40, paH_42, paH_s41, paH_s43, f1, f2, e1, e2]
theorem upd_or (f : Nat → Bool) (k : Nat) (n : Bool) : upd (boolF f) k (bI (f k || n)) = boolF (fun i => f i || (n && decide (i = k))) := funext fun i => by
  unfold upd boolF
  dsimp only
  by_cases q : i = k
  · subst q; rw [if_pos rfl, decide_eq_true rfl, Bool.and_true]
  · rw [if_neg q, decide_eq_false q, Bool.and_false, Bool.or_false]
theorem passes_78 {h : PH} (s g t : Int32) {k d to : Nat} (hk : k < 64) (hto : to < 64) (f u nw bn : Nat → Bool) : pm_ev (251, 78, [vr 8 0, vi s, vi g, vi t, vi (nI k), vi (nI d), none], [vi (nI to)], paH h (boolF nw) (boolF f) (boolF bn) (boolF u)) = pm_ev (251, 64, [vr 8 0, vi s, vi g, vi t, vi (nI k), vi (nI (d + 1)), none], [], paH h (boolF nw) (boolF (fun i => f i || (nw k && decide (i = to)))) (boolF bn) (boolF (fun i => u i || (bn k && decide (i = to))))) := by
  rw [← upd_or f to (nw k), ← upd_or u to (bn k), E_X9_passes_78]
  have R40 : ∀ T B U, (paH h (boolF nw) T B U).1 40 0 k = bI (nw k) := fun T B U => paH_40 h _ T B U hk
  have R42 : ∀ N T U, (paH h N T (boolF bn) U).1 42 0 k = bI (bn k) := fun N T U => paH_42 h N T _ U hk
  have R41 : ∀ N B U, (paH h N (boolF f) B U).1 41 0 to = bI (f to) := fun N B U => paH_41 h N _ B U hto
  have R43 : ∀ N T B, (paH h N T B (boolF u)).1 43 0 to = bI (u to) := fun N T B => paH_43 h N T B _ hto
  cases q1 : f to <;> cases q2 : nw k <;> cases q3 : u to <;> cases q4 : bn k <;> (rw [q1] at R41; rw [q2] at R40; rw [q3] at R43; rw [q4] at R42; simp (disch := omega) only [y_0, y_1, y_2, y_3, y_4, y_5, y_6, y_7, y_8, y_9, y_10, y_11, y_12, y_13, y_14, y_15, y_16, y_17, y_18, y_19, y_20, y_21, y_22, y_23, y_24, y_29, y_30, y_31, y_32, y_39, y_40, y_48, y_49, y_50, y_60, y_64, y_69, y_78, y_99, y_100, y_142, y_161, y_600, y_610, y_894, y_999, y_1000, y_1216, y_1276, neg1, neg2, nI_add, nI_mul, nn_sub, nn_lt, nn_le, nn_eq, in_lt, ni_lt, in_le, ni_le, in_eq, ni_eq, iI_lt, iI_le, iI_eq, nn_clamp, inb_n, t_lt, f_lt, t_le, f_le, t_eq, f_eq, ti_lt, fi_lt, ti_le, fi_le, ti_eq, fi_eq, ↓reduceIte, ite_true, ite_false, eq_self, decide_true, decide_false, Bool.true_and, Bool.and_true, Bool.false_and, Bool.and_false, Bool.true_or, Bool.or_true, Bool.false_or, Bool.or_false, bI_t, bI_f, bI_nand, n_mod, an11, an01, negn1, negn2, false_and, and_false, true_and, and_true, not_true_eq_false, not_false_eq_true, bI_n0, bI_n1, Bool.true_eq_false, Bool.false_eq_true, cI_s, cL_s, cV_s, cR_n, pm_bR_self, bI_ite, bL_ite, bV_ite, bR_ite, E_X9_passes_23, E_X9_passes_24, E_X9_passes_37, E_X9_passes_78, E_X9_passes_191, E_X9_passes_38, E_X9_passes_153, E_X9_passes_102, E_X9_passes_220, E_X9_passes_211, E_X9_passes_112, E_X9_passes_121, E_X9_passes_263, E_X9_passes_238, E_X9_passes_134, E_X9_passes_254, E_X9_passes_144, R40, R41, R42, R43, paH_s41, paH_s43])
theorem passes_64 {h : PH} {a : Nat} {c : AC} (hv : cV c) (hm : ModS h a c) {x y : Nat} (hx : x < (c (0)).val) (hy : y < (c (1)).val) (s g t : Int32) (nw bn p p2 : Nat → Bool) : ∀ r d, d + r = 4 → pm_ev (251, 64, [vr 8 0, vi s, vi g, vi t, vi (nI ((c (0)).val * y + x)), vi (nI d), none], [], paH h (boolF nw) (boolF (fun i => p i || (nw ((c (0)).val * y + x) && nbr c x y d i))) (boolF bn) (boolF (fun i => p2 i || (bn ((c (0)).val * y + x) && nbr c x y d i)))) = pm_ev (251, 47, [vr 8 0, vi s, vi g, vi t, vi (nI ((c (0)).val * y + x + 1)), none, none], [], paH h (boolF nw) (boolF (fun i => p i || (nw ((c (0)).val * y + x) && nbr c x y 4 i))) (boolF bn) (boolF (fun i => p2 i || (bn ((c (0)).val * y + x) && nbr c x y 4 i)))) := by
  obtain ⟨l1, l2⟩ := cell_lt hv hx hy
  intro r
  induction r with
  | zero =>
    intro d hd
    have hd : d = 4 := by omega
    subst hd
    rw [E_X9_passes_64]
    generalize (c (0)).val * y + x = cell at *
    simp (disch := omega) only [y_0, y_1, y_2, y_3, y_4, y_5, y_6, y_7, y_8, y_9, y_10, y_11, y_12, y_13, y_14, y_15, y_16, y_17, y_18, y_19, y_20, y_21, y_22, y_23, y_24, y_29, y_30, y_31, y_32, y_39, y_40, y_48, y_49, y_50, y_60, y_64, y_69, y_78, y_99, y_100, y_142, y_161, y_600, y_610, y_894, y_999, y_1000, y_1216, y_1276, neg1, neg2, nI_add, nI_mul, nn_sub, nn_lt, nn_le, nn_eq, in_lt, ni_lt, in_le, ni_le, in_eq, ni_eq, iI_lt, iI_le, iI_eq, nn_clamp, inb_n, t_lt, f_lt, t_le, f_le, t_eq, f_eq, ti_lt, fi_lt, ti_le, fi_le, ti_eq, fi_eq, ↓reduceIte, ite_true, ite_false, eq_self, decide_true, decide_false, Bool.true_and, Bool.and_true, Bool.false_and, Bool.and_false, Bool.true_or, Bool.or_true, Bool.false_or, Bool.or_false, bI_t, bI_f, bI_nand, n_mod, an11, an01, negn1, negn2, false_and, and_false, true_and, and_true, not_true_eq_false, not_false_eq_true, bI_n0, bI_n1, Bool.true_eq_false, Bool.false_eq_true, cI_s, cL_s, cV_s, cR_n, pm_bR_self, bI_ite, bL_ite, bV_ite, bR_ite, E_X9_passes_23, E_X9_passes_24, E_X9_passes_37, E_X9_passes_78, E_X9_passes_191, E_X9_passes_38, E_X9_passes_153, E_X9_passes_102, E_X9_passes_220, E_X9_passes_211, E_X9_passes_112, E_X9_passes_121, E_X9_passes_263, E_X9_passes_238, E_X9_passes_134, E_X9_passes_254, E_X9_passes_144, ]
  | succ r ih =>
    intro d hd
    have S := fun N T B U => stepTo_M hv (paH_M hm N T B U) hx hy (show d < 4 by omega)
    have en : ∀ i, nbr c x y (d + 1) i = (nbr c x y d i || (stpOk c x y d && decide (i = (c (0)).val * (stpY y d).toNat + (stpX x d).toNat))) := fun i => rfl
    rw [← ih (d + 1) (by omega), E_X9_passes_64]
    cases q : stpOk c x y d
    · have e1 : ∀ (b : Bool) (p : Nat → Bool), boolF (fun i => p i || (b && nbr c x y (d + 1) i)) = boolF (fun i => p i || (b && nbr c x y d i)) := fun b p => funext fun i => by unfold boolF; dsimp only; rw [en, q, Bool.false_and, Bool.or_false]
      rw [e1, e1]
      rw [q] at S
      generalize (c (0)).val * y + x = cell at *
      rw [show (4 : Int32) = nI 4 from rfl, if_pos ((nn_lt (by omega) (by omega)).mpr (show d < 4 by omega)), S, cI_s, if_neg Bool.false_ne_true, E_X9_passes_78, if_pos (show iI (-1) = (-1 : Int32) from rfl), E_X9_passes_153, show (1 : Int32) = nI 1 from rfl, nI_add]
    · have hl := stp_lt hv q
      have e1 : ∀ (b : Bool) (p : Nat → Bool), (fun i => p i || (b && nbr c x y (d + 1) i)) = (fun i => (p i || (b && nbr c x y d i)) || (b && decide (i = (c (0)).val * (stpY y d).toNat + (stpX x d).toNat))) := fun b p => funext fun i => by
        rw [en, q, Bool.true_and]
        cases p i <;> cases b <;> rfl
      rw [e1, e1]
      rw [q] at S
      generalize (c (0)).val * (stpY y d).toNat + (stpX x d).toNat = to at *
      rw [← passes_78 s g t l2 hl]
      generalize (c (0)).val * y + x = cell at *
      rw [show (4 : Int32) = nI 4 from rfl, if_pos ((nn_lt (by omega) (by omega)).mpr (show d < 4 by omega)), S, cI_s, if_pos rfl]
def adjN (c : AC) (nw : Nat → Bool) (k i : Nat) : Bool := nw i || anyB (fun c' => nw c' && nbr c (c' % (c (0)).val) (c' / (c (0)).val) 4 i) k
theorem adjN_s (c : AC) (nw : Nat → Bool) (k i : Nat) : adjN c nw (k + 1) i = (adjN c nw k i || (nw k && nbr c (k % (c (0)).val) (k / (c (0)).val) 4 i)) := by
  unfold adjN
  rw [anyB, Bool.or_assoc]
theorem adjN_B (c : AC) (nw : Nat → Bool) {k i : Nat} (hi : i < k) : adjN c nw k i = adjB c nw k i := by
  rw [Bool.eq_iff_iff]
  unfold adjN adjB
  rw [Bool.or_eq_true, anyB_iff, anyB_iff]
  constructor
  · rintro (h | ⟨c', h1, h2⟩)
    · exact ⟨i, hi, by rw [h, decide_eq_true rfl]; rfl⟩
    · rw [Bool.and_eq_true] at h2
      exact ⟨c', h1, by rw [h2.1, h2.2, Bool.or_true]; rfl⟩
  · rintro ⟨c', h1, h2⟩
    rw [Bool.and_eq_true, Bool.or_eq_true] at h2
    rcases h2.2 with h | h
    · have h := of_decide_eq_true h
      subst h
      exact Or.inl h2.1
    · exact Or.inr ⟨c', h1, by rw [h2.1, h]; rfl⟩
theorem passes_47 {h : PH} {a : Nat} {c : AC} (hv : cV c) (hm : ModS h a c) (s g t : Int32) (nw bn : Nat → Bool) : ∀ r k, k + r = (c (0)).val * (c (1)).val → pm_ev (251, 47, [vr 8 0, vi s, vi g, vi t, vi (nI k), none, none], [], paH h (boolF nw) (boolF (adjN c nw k)) (boolF bn) (boolF (adjN c bn k))) = pm_ev (251, 168, [vr 8 0, vi s, vi g, vi t, vi (nI 0), none, none], [], paH h (boolF nw) (boolF (adjN c nw ((c (0)).val * (c (1)).val))) (boolF bn) (boolF (adjN c bn ((c (0)).val * (c (1)).val)))) := by
  have hV1 := hv.1
  have hb := WH_le hv
  obtain ⟨WH, hWH⟩ : ∃ n, n = (c (0)).val * (c (1)).val := ⟨_, rfl⟩
  rw [← hWH] at hb ⊢
  have hwh : ∀ N T B U, (paH h N T B U).1 8 0 14 * (paH h N T B U).1 8 0 15 = nI WH := fun N T B U => by rw [paH_8, paH_8, hm.2.2.1, hm.2.2.2.1, nI_mul, hWH]
  intro r
  induction r with
  | zero =>
    intro k hk
    have hk : k = WH := by omega
    subst hk
    rw [E_X9_passes_47]
    simp (disch := omega) only [y_0, y_1, y_2, y_3, y_4, y_5, y_6, y_7, y_8, y_9, y_10, y_11, y_12, y_13, y_14, y_15, y_16, y_17, y_18, y_19, y_20, y_21, y_22, y_23, y_24, y_29, y_30, y_31, y_32, y_39, y_40, y_48, y_49, y_50, y_60, y_64, y_69, y_78, y_99, y_100, y_142, y_161, y_600, y_610, y_894, y_999, y_1000, y_1216, y_1276, neg1, neg2, nI_add, nI_mul, nn_sub, nn_lt, nn_le, nn_eq, in_lt, ni_lt, in_le, ni_le, in_eq, ni_eq, iI_lt, iI_le, iI_eq, nn_clamp, inb_n, t_lt, f_lt, t_le, f_le, t_eq, f_eq, ti_lt, fi_lt, ti_le, fi_le, ti_eq, fi_eq, ↓reduceIte, ite_true, ite_false, eq_self, decide_true, decide_false, Bool.true_and, Bool.and_true, Bool.false_and, Bool.and_false, Bool.true_or, Bool.or_true, Bool.false_or, Bool.or_false, bI_t, bI_f, bI_nand, n_mod, an11, an01, negn1, negn2, false_and, and_false, true_and, and_true, not_true_eq_false, not_false_eq_true, bI_n0, bI_n1, Bool.true_eq_false, Bool.false_eq_true, cI_s, cL_s, cV_s, cR_n, pm_bR_self, bI_ite, bL_ite, bV_ite, bR_ite, E_X9_passes_23, E_X9_passes_24, E_X9_passes_37, E_X9_passes_78, E_X9_passes_191, E_X9_passes_38, E_X9_passes_153, E_X9_passes_102, E_X9_passes_220, E_X9_passes_211, E_X9_passes_112, E_X9_passes_121, E_X9_passes_263, E_X9_passes_238, E_X9_passes_134, E_X9_passes_254, E_X9_passes_144, hwh]
  | succ r ih =>
    intro k hk
    have e := ih (k + 1) (by omega)
    have hk2 : k < (c (0)).val * (c (1)).val := by omega
    obtain ⟨x1, x2, x3⟩ := cell_xy (show 0 < (c (0)).val by omega) hk2
    have D := passes_64 hv hm x1 x2 s g t nw bn (adjN c nw k) (adjN c bn k) 4 0 rfl
    rw [x3] at D
    have ea : ∀ w : Nat → Bool, (fun i => adjN c w k i || (w k && nbr c (k % (c (0)).val) (k / (c (0)).val) 4 i)) = adjN c w (k + 1) := fun w => funext fun i => (adjN_s c w k i).symm
    have eb : ∀ w : Nat → Bool, (fun i => adjN c w k i || (w k && nbr c (k % (c (0)).val) (k / (c (0)).val) 0 i)) = adjN c w k := fun w => funext fun i => by
      rw [show nbr c (k % (c (0)).val) (k / (c (0)).val) 0 i = false from rfl, Bool.and_false, Bool.or_false]
    rw [ea nw, ea bn, eb nw, eb bn] at D
    rw [← e, ← D, E_X9_passes_47]
    simp (disch := omega) only [y_0, y_1, y_2, y_3, y_4, y_5, y_6, y_7, y_8, y_9, y_10, y_11, y_12, y_13, y_14, y_15, y_16, y_17, y_18, y_19, y_20, y_21, y_22, y_23, y_24, y_29, y_30, y_31, y_32, y_39, y_40, y_48, y_49, y_50, y_60, y_64, y_69, y_78, y_99, y_100, y_142, y_161, y_600, y_610, y_894, y_999, y_1000, y_1216, y_1276, neg1, neg2, nI_add, nI_mul, nn_sub, nn_lt, nn_le, nn_eq, in_lt, ni_lt, in_le, ni_le, in_eq, ni_eq, iI_lt, iI_le, iI_eq, nn_clamp, inb_n, t_lt, f_lt, t_le, f_le, t_eq, f_eq, ti_lt, fi_lt, ti_le, fi_le, ti_eq, fi_eq, ↓reduceIte, ite_true, ite_false, eq_self, decide_true, decide_false, Bool.true_and, Bool.and_true, Bool.false_and, Bool.and_false, Bool.true_or, Bool.or_true, Bool.false_or, Bool.or_false, bI_t, bI_f, bI_nand, n_mod, an11, an01, negn1, negn2, false_and, and_false, true_and, and_true, not_true_eq_false, not_false_eq_true, bI_n0, bI_n1, Bool.true_eq_false, Bool.false_eq_true, cI_s, cL_s, cV_s, cR_n, pm_bR_self, bI_ite, bL_ite, bV_ite, bR_ite, E_X9_passes_23, E_X9_passes_24, E_X9_passes_37, E_X9_passes_78, E_X9_passes_191, E_X9_passes_38, E_X9_passes_153, E_X9_passes_102, E_X9_passes_220, E_X9_passes_211, E_X9_passes_112, E_X9_passes_121, E_X9_passes_263, E_X9_passes_238, E_X9_passes_134, E_X9_passes_254, E_X9_passes_144, hwh]
