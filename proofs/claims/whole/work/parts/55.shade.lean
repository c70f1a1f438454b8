/-! ===== shade ===== -/
def sgZ (z : Int) : Int := if 0 < z then 1 else if z < 0 then -1 else 0
theorem side_z (h : PH) {z : Int} (h1 : -100 < z) (h2 : z < 100) : pm_ev (205, 0, [vi (iI z)], [], h) = some (some (vi (iI (sgZ z))), h) := by
  rw [E_X9_side, y_0, y_1, negn1]
  unfold sgZ
  have e1 : nI 0 < iI z ↔ 0 < z := by rw [ni_lt (by decide) (by omega) (by omega)]; omega
  have e2 : iI z < nI 0 ↔ z < 0 := by rw [in_lt (by decide) (by omega) (by omega)]; omega
  by_cases q1 : 0 < z
  · rw [if_pos (e1.mpr q1), if_pos q1]; rfl
  · rw [if_neg (fun q => q1 (e1.mp q)), if_neg q1]
    by_cases q2 : z < 0
    · rw [if_pos (e2.mpr q2), if_pos q2]
    · rw [if_neg (fun q => q2 (e2.mp q)), if_neg q2]; rfl
theorem sgZ_b (z : Int) : -2 < sgZ z ∧ sgZ z < 2 := by unfold sgZ; split <;> (try split) <;> omega
/-- the cell u v lies between the lamp and the cell x y -/
def aBtw (p q u v x y : Nat) : Bool := (decide (x = p) || decide (y = q)) && decide (sgZ ((x : Int) - p) = sgZ ((u : Int) - p)) && decide (sgZ ((y : Int) - q) = sgZ ((v : Int) - q)) && decide (dst u v p q < dst x y p q)
theorem btw_M {h : PH} {a : Nat} {c : AC} (hv : cV c) (hm : ModS h a c) {u v x y : Nat} (hu : u < (c (0)).val) (hw : v < (c (1)).val) (hx : x < (c (0)).val) (hy : y < (c (1)).val) : pm_ev (206, 0, [vr 8 0, vi (nI ((c (0)).val * v + u)), vi (nI ((c (0)).val * y + x)), none, none, none, none, none], [], h) = some (some (vi (bI (aBtw (c (2)).val (c (3)).val u v x y))), h) := by
  obtain ⟨v1, v2, v3, v4, p1, p2, _⟩ := hv.1
  obtain ⟨⟨⟨_, _, m2, _, _, _, ha⟩, _⟩, m13, m14, _⟩ := id hm
  have A1 := apart_M hv hm hu hw p1 p2
  have A2 := apart_M hv hm hx hy p1 p2
  obtain ⟨l1, l2⟩ := cell_lt hv hu hw
  obtain ⟨l3, l4⟩ := cell_lt hv hx hy
  obtain ⟨l5, l6⟩ := cell_lt hv p1 p2
  have D1 : nI ((c (0)).val * v + u) / nI (c (0)).val = nI v := by rw [nn_div (by omega) (by omega) (by omega), (cell_div (y := v) hu).1]
  have D2 : nI ((c (0)).val * y + x) / nI (c (0)).val = nI y := by rw [nn_div (by omega) (by omega) (by omega), (cell_div (y := y) hx).1]
  have D3 : nI ((c (0)).val * (c (3)).val + (c (2)).val) / nI (c (0)).val = nI (c (3)).val := by rw [nn_div (by omega) (by omega) (by omega), (cell_div (y := (c (3)).val) p1).1]
  have M1 : nI ((c (0)).val * v + u) - nI (v * (c (0)).val) = nI u := cell_sub
  have M2 : nI ((c (0)).val * y + x) - nI (y * (c (0)).val) = nI x := cell_sub
  have M3 : nI ((c (0)).val * (c (3)).val + (c (2)).val) - nI ((c (3)).val * (c (0)).val) = nI (c (2)).val := cell_sub
  have w0 : ¬ (nI (c (0)).val = 0) := by rw [y_0, nn_eq (by omega) (by decide)]; omega
  have dx : dst u v (c (2)).val (c (3)).val < 100 := by unfold dst; omega
  have dx2 : dst x y (c (2)).val (c (3)).val < 100 := by unfold dst; omega
  have i2 : nI a + 2 = nI (a + 2) := by rw [y_2, nI_add]
  have ib : pm_inb (nI (a + 2)) 5104 = true := inb_n (by omega) (by omega)
  rw [E_X9_isBetween, m13, i2, if_pos ib, nn_clamp (by omega), m2, E_X9_isBetween_11, m14]
  simp only [if_neg w0, D1, D2, D3, nI_mul, M1, M2, M3]
  rw [nI_sub, nI_sub, nI_sub, nI_sub, E_X9_isBetween_72]
  have S := fun h (z : Int) (a : -100 < z) (b : z < 100) => side_z h a b
  generalize (c (0)).val * v + u = n1 at *
  generalize (c (0)).val * y + x = n2 at *
  generalize (c (0)).val * (c (3)).val + (c (2)).val = n3 at *
  generalize (c (2)).val = p at *
  generalize (c (3)).val = q at *
  have b1 := sgZ_b ((x : Int) - p)
  have b2 := sgZ_b ((u : Int) - p)
  have b3 := sgZ_b ((y : Int) - q)
  have b4 := sgZ_b ((v : Int) - q)
  have z1 : (iI ((x : Int) - p) = 0) = (x = p) := by rw [y_0, in_eq (by decide) (by omega) (by omega)]; exact propext (by omega)
  have z2 : (iI ((y : Int) - q) = 0) = (y = q) := by rw [y_0, in_eq (by decide) (by omega) (by omega)]; exact propext (by omega)
  have z3 : (iI (sgZ ((x : Int) - p)) = iI (sgZ ((u : Int) - p))) = (sgZ ((x : Int) - p) = sgZ ((u : Int) - p)) := propext (iI_eq (by omega) (by omega) (by omega) (by omega))
  have z4 : (iI (sgZ ((y : Int) - q)) = iI (sgZ ((v : Int) - q))) = (sgZ ((y : Int) - q) = sgZ ((v : Int) - q)) := propext (iI_eq (by omega) (by omega) (by omega) (by omega))
  have z5 : (nI (dst u v p q) < nI (dst x y p q)) = (dst u v p q < dst x y p q) := propext (nn_lt (by omega) (by omega))
  rw [S h _ (show -100 < (x : Int) - p by omega) (by omega)]
  simp only [cI_s, S h _ (show -100 < (u : Int) - p by omega) (by omega), E_X9_isBetween_92, S h _ (show -100 < (v : Int) - q by omega) (by omega), S h _ (show -100 < (y : Int) - q by omega) (by omega), E_X9_isBetween_105, A1, A2, E_X9_isBetween_122, z1, z2, z3, z4, z5]
  unfold aBtw
  have B : ∀ P : Prop, P = True ∨ P = False := fun P => by
    by_cases q : P
    · exact Or.inl (eq_true q)
    · exact Or.inr (eq_false q)
  rcases B (x = p) with q1 | q1 <;> rcases B (y = q) with q2 | q2 <;> rcases B (sgZ ((x : Int) - p) = sgZ ((u : Int) - p)) with q3 | q3 <;> rcases B (sgZ ((y : Int) - q) = sgZ ((v : Int) - q)) with q4 | q4 <;> rcases B (dst u v p q < dst x y p q) with q5 | q5 <;> simp only [q1, q2, q3, q4, q5, if_true, if_false, decide_true, decide_false, Bool.or_true, Bool.true_or, Bool.or_false, Bool.true_and, Bool.and_true, Bool.false_and, Bool.and_false, bI_t, bI_f]
theorem sgZ_eq (a b : Int) : sgZ a = sgZ b ↔ ((0 < a ↔ 0 < b) ∧ (a < 0 ↔ b < 0)) := by
  unfold sgZ
  by_cases q1 : 0 < a <;> by_cases q2 : 0 < b <;> by_cases q3 : a < 0 <;> by_cases q4 : b < 0 <;> first | (exfalso; omega) | simp [q1, q2, q3, q4]
theorem ct_pt {p : Nat} (b : Bool) : ∀ W, p < W → fb_ct (fun x => decide (x = p) && b) W = if b then 1 else 0
  | 0, h => absurd h (Nat.not_lt_zero _)
  | W + 1, h => by
    rw [fb_ct_succ]
    by_cases e : W = p
    · subst e
      rw [fb_ct_zero.mpr (fun k hk => by rw [decide_eq_false (by omega), Bool.false_and]), decide_eq_true rfl, Bool.true_and, Nat.zero_add]
    · rw [ct_pt b W (by omega), decide_eq_false e, Bool.false_and]; rfl
theorem sm_ct (P : Nat → Bool) : ∀ n, fb_sm (fun k => if P k then 1 else 0) n = fb_ct P n
  | 0 => rfl
  | n + 1 => by rw [fb_sm_succ, sm_ct P n, fb_ct_succ]
theorem ct_below (v : Nat) : ∀ n, fb_ct (fun k => decide (k < v)) n = min v n
  | 0 => by rw [Nat.min_zero]; rfl
  | n + 1 => by
    rw [fb_ct_succ, ct_below v n]
    by_cases q : n < v
    · rw [decide_eq_true q, if_pos rfl]; omega
    · rw [decide_eq_false q, if_neg (by decide)]; omega
theorem ct_above (v : Nat) : ∀ n, fb_ct (fun k => decide (v < k)) n = n - (v + 1)
  | 0 => by rw [Nat.zero_sub]; rfl
  | n + 1 => by
    rw [fb_ct_succ, ct_above v n]
    by_cases q : v < n
    · rw [decide_eq_true q, if_pos rfl]; omega
    · rw [decide_eq_false q, if_neg (by decide)]; omega
theorem ct_col {W H p : Nat} (hp : p < W) (P : Nat → Bool) : fb_ct (fun n => decide (n % W = p) && P (n / W)) (W * H) = fb_ct P H := by
  rw [ct2 (by omega) (fun x y => decide (x = p) && P y) H, ← sm_ct]
  exact fb_sm_cong (fun y _ => ct_pt (P y) W hp)
theorem ct_row {W H q : Nat} (hW : 0 < W) (hq : q < H) (P : Nat → Bool) : fb_ct (fun n => decide (n / W = q) && P (n % W)) (W * H) = fb_ct P W := by
  rw [ct2 hW (fun x y => decide (y = q) && P x) H]
  have e : ∀ y, fb_ct (fun x => decide (y = q) && P x) W = if y = q then fb_ct P W else 0 := fun y => by
    by_cases e : y = q
    · rw [if_pos e, decide_eq_true e]; exact fb_ct_cong (fun k _ => Bool.true_and _)
    · rw [if_neg e, decide_eq_false e]; exact fb_ct_zero.mpr (fun k _ => Bool.false_and _)
  simp only [e]
  have u := fb_sm_upd (fun _ => 0) (fb_ct P W) hq
  rw [fb_sm_const] at u
  omega
/-- how many cells of the board a ship at u v shades -/
def aShade (W H p q u v : Nat) : Nat := if u = p then (if v < q then v else if q < v then H - 1 - v else 0) else if v = q then (if p < u then W - 1 - u else u) else 0
theorem ct_shade {W H p q u v : Nat} (hp : p < W) (hq : q < H) (hu : u < W) (hw : v < H) (hne : ¬ (u = p ∧ v = q)) : fb_ct (fun n => aBtw p q u v (n % W) (n / W)) (W * H) = aShade W H p q u v := by
  have key : ∀ x y, aBtw p q u v x y = if u = p then (decide (x = p) && (if v < q then decide (y < v) else decide (v < y))) else if v = q then (decide (y = q) && (if p < u then decide (u < x) else decide (x < u))) else false := fun x y => by
    rw [Bool.eq_iff_iff]
    unfold aBtw
    by_cases e1 : u = p
    · rw [if_pos e1]
      have e2 : v ≠ q := fun e => hne ⟨e1, e⟩
      by_cases e3 : v < q
      · rw [if_pos e3]
        simp only [Bool.and_eq_true, Bool.or_eq_true, decide_eq_true_eq]
        rw [sgZ_eq, sgZ_eq]; unfold dst; omega
      · rw [if_neg e3]
        simp only [Bool.and_eq_true, Bool.or_eq_true, decide_eq_true_eq]
        rw [sgZ_eq, sgZ_eq]; unfold dst; omega
    · rw [if_neg e1]
      by_cases e2 : v = q
      · rw [if_pos e2]
        by_cases e3 : p < u
        · rw [if_pos e3]
          simp only [Bool.and_eq_true, Bool.or_eq_true, decide_eq_true_eq]
          rw [sgZ_eq, sgZ_eq]; unfold dst; omega
        · rw [if_neg e3]
          simp only [Bool.and_eq_true, Bool.or_eq_true, decide_eq_true_eq]
          rw [sgZ_eq, sgZ_eq]; unfold dst; omega
      · rw [if_neg e2]
        simp only [Bool.and_eq_true, Bool.or_eq_true, decide_eq_true_eq, Bool.false_eq_true, iff_false, sgZ_eq]
        intro h
        obtain ⟨⟨⟨h1, h2⟩, h3⟩, h4⟩ := h
        rcases h1 with h1 | h1 <;> omega
  simp only [key]
  unfold aShade
  by_cases e1 : u = p
  · have e2 : v ≠ q := fun e => hne ⟨e1, e⟩
    simp only [if_pos e1]
    by_cases e3 : v < q
    · simp only [if_pos e3]
      rw [ct_col hp (fun y => decide (y < v)), ct_below]; omega
    · simp only [if_neg e3]
      rw [ct_col hp (fun y => decide (v < y)), ct_above, if_pos (by omega)]; omega
  · simp only [if_neg e1]
    by_cases e2 : v = q
    · simp only [if_pos e2]
      by_cases e3 : p < u
      · simp only [if_pos e3]
        rw [ct_row (by omega) hq (fun x => decide (u < x)), ct_above]; omega
      · simp only [if_neg e3]
        rw [ct_row (by omega) hq (fun x => decide (x < u)), ct_below]; omega
    · simp only [if_neg e2]
      exact fb_ct_zero.mpr (fun _ _ => rfl)
