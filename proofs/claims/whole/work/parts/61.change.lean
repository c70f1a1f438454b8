/-! ===== changed coasts ===== -/
def cU (c : AC) (i : Nat) (v : Fin 64) : AC := fun k => if k = i then v else c k
theorem cU_eq (c : AC) (i : Nat) (v : Fin 64) : cU c i v i = v := if_pos rfl
theorem cU_ne (c : AC) {i k : Nat} (v : Fin 64) (h : k ≠ i) : cU c i v k = c k := if_neg h
def simC (c c' : AC) : Prop := ∀ i, (i < 40 ∨ (70 ≤ i ∧ i < 100) ∨ 200 ≤ i) → c' i = c i
theorem simC.rf (c : AC) : simC c c := fun _ _ => rfl
theorem simC.tr {a b c : AC} (h1 : simC a b) (h2 : simC b c) : simC a c := fun i hi => (h2 i hi).trans (h1 i hi)
theorem simC.up {a b : AC} (h : simC a b) {i : Nat} (hi : 40 ≤ i ∧ i < 200 ∧ (i < 70 ∨ 100 ≤ i)) (v : Fin 64) : simC a (cU b i v) := fun k hk => by rw [cU_ne b v (by omega)]; exact h k hk
theorem simC.M {h : PH} {a : Nat} {c c' : AC} (hv : cV c) (hs : simC c c') (hm : CoastMs h a c) : CoastMs h a c' := by
  have hV1 := hv.1
  obtain ⟨m1, m2, m3, m4⟩ := hm
  unfold CoastMs
  simp only [hs 0 (by omega), hs 1 (by omega), hs 2 (by omega), hs 3 (by omega), hs 4 (by omega), hs 5 (by omega), hs 6 (by omega)]
  refine ⟨m1, fun g hg => ?_, fun s hs' => ?_, fun x y hx hy => ?_⟩
  · rw [hs (10+g) (by omega), hs (20+g) (by omega), hs (30+g) (by omega)]; exact m2 g hg
  · rw [hs (70+s) (by omega), hs (80+s) (by omega)]; exact m3 s hs'
  · rw [hs (200+(8*y+x)) (by omega)]; exact m4 x y hx hy
theorem simC.S {h : PH} {a : Nat} {c c' : AC} (hv : cV c) (hs : simC c c') (hm : ModS h a c) : ModS h a c' := by
  obtain ⟨m, a1, a2, a3, a4⟩ := hm
  refine ⟨simC.M hv hs m, a1, ?_, ?_, ?_⟩
  · rw [hs 0 (by omega)]; exact a2
  · rw [hs 1 (by omega)]; exact a3
  · rw [hs 6 (by omega)]; exact a4
theorem simC.gd {c c' : AC} (hv : cV c) (hs : simC c c') (x y : Nat) : aGuard c' x y (c' (5)).val = aGuard c x y (c (5)).val := by
  have hV1 := hv.1
  rw [hs 5 (by omega)]
  unfold aGuard
  exact anyB_cong (fun g hg => by rw [hs (10+g) (by omega), hs (20+g) (by omega), hs (30+g) (by omega)])
theorem simC.rock {c c' : AC} (hs : simC c c') (x y : Nat) : rockP c' x y = rockP c x y := by
  unfold rockP
  rw [hs (200+(8*y+x)) (by omega)]
theorem simC.inb {c c' : AC} (hs : simC c c') (x y : Nat) : inB c' x y = inB c x y := by
  unfold inB
  rw [hs 0 (by omega), hs 1 (by omega)]
theorem simC.step {c c' : AC} (hv : cV c) (hs : simC c c') (l : Bool) (P : Nat → Nat → Bool) : stepP c' l P = stepP c l P := by
  funext x y
  unfold stepP
  rw [simC.inb hs, simC.gd hv hs, simC.rock hs]
theorem sim_rch {c c' : AC} (hv : cV c) (hs : simC c c') (L : Nat → Bool) (b fx fy : Nat) : ∀ t, rch c' L b fx fy t = rch c L b fx fy t
  | 0 => rfl
  | t + 1 => by
    show stepP c' _ (rch c' L b fx fy t) = stepP c _ (rch c L b fx fy t)
    rw [sim_rch hv hs L b fx fy t, simC.step hv hs]
theorem simC.come {c c' : AC} (hv : cV c) (hs : simC c c') (L : Nat → Bool) (b fx fy gx gy n : Nat) : aCome c' L b fx fy gx gy n = aCome c L b fx fy gx gy n := by
  unfold aCome
  simp only [sim_rch hv hs]
theorem cV_up {c c' : AC} (hv : cV c) (hs : simC c c') (hS : ∀ s, s < (c (6)).val → (c' (40+s)).val < (c (0)).val ∧ (c' (50+s)).val < (c (1)).val ∧ (c' (60+s)).val ≤ 9 ∧ ∀ k, k < (c (80+s)).val → (c' (100+(4*s+k))).val ≤ 5 ∧ (c' (120+(4*s+k))).val ≤ 9 ∧ (c' (140+(4*s+k))).val ≤ 23 ∧ ((c' (100+(4*s+k))).val = 5 → (c' (120+(4*s+k))).val < (c (6)).val)) : cV c' := by
  have hV1 := hv.1
  obtain ⟨m1, m2, m3, m4⟩ := hv
  unfold cV
  simp only [hs 0 (by omega), hs 1 (by omega), hs 2 (by omega), hs 3 (by omega), hs 4 (by omega), hs 5 (by omega), hs 6 (by omega)]
  refine ⟨m1, fun g hg => ?_, fun s hs' => ?_, fun i hi => ?_⟩
  · rw [hs (10+g) (by omega), hs (20+g) (by omega), hs (30+g) (by omega)]; exact m2 g hg
  · obtain ⟨a1, a2, a3, a4⟩ := hS s hs'
    obtain ⟨_, _, _, b4, b5, _⟩ := m3 s hs'
    unfold cVs
    rw [hs 0 (by omega), hs 1 (by omega), hs 6 (by omega), hs (70+s) (by omega), hs (80+s) (by omega)]
    exact ⟨a1, a2, a3, b4, b5, a4⟩
  · rw [hs (200+i) (by omega)]; exact m4 i hi
theorem CoastC.up {h h' : PH} {j : Nat} {c c' : AC} (hv : cV c) (hs : simC c c') (hm : CoastC h j c) (h0 : ∀ k, h'.1 0 j k = h.1 0 j k) (h10 : ∀ k, h'.1 10 j k = h.1 10 j k) (h11 : ∀ k, h'.1 11 j k = h.1 11 j k) (h14 : ∀ k, h'.1 14 j k = h.1 14 j k) (h15 : ∀ k, h'.1 15 j k = h.1 15 j k) (h2 : h'.2 0 j 4 = h.2 0 j 4)
    (hS : ∀ s, s < (c (6)).val → h'.1 12 j s = nI (8 * (c' (50+s)).val + (c' (40+s)).val) ∧ h'.1 13 j s = nI (c' (60+s)).val ∧ ∀ k, k < (c (80+s)).val → h'.1 16 j (4*s+k) = nI (c' (100+(4*s+k))).val ∧ h'.1 17 j (4*s+k) = nI (c' (120+(4*s+k))).val ∧ h'.1 18 j (4*s+k) = nI (c' (140+(4*s+k))).val) : CoastC h' j c' := by
  have hV1 := hv.1
  obtain ⟨m1, m2, m3⟩ := hm
  unfold CoastC
  simp only [hs 0 (by omega), hs 1 (by omega), hs 2 (by omega), hs 3 (by omega), hs 4 (by omega), hs 5 (by omega), hs 6 (by omega), h0, h10, h11, h14, h15, h2]
  refine ⟨?_, fun g hg => ?_, fun s hs' => ?_⟩
  · have e : lS (fun i => decide ((c' (200+i)).val = 1)) = lS (fun i => decide ((c (200+i)).val = 1)) := lS_cong (fun i _ => by rw [hs (200+i) (by omega)])
    rw [e]; exact m1
  · rw [hs (10+g) (by omega), hs (20+g) (by omega), hs (30+g) (by omega)]; exact m2 g hg
  · obtain ⟨a1, a2, a3⟩ := hS s hs'
    obtain ⟨⟨_, _, b3, b4⟩, _⟩ := m3 s hs'
    rw [hs (70+s) (by omega), hs (80+s) (by omega)]
    exact ⟨⟨a1, a2, b3, b4⟩, a3⟩
theorem AliveM.up {h' : PH} {c c' : AC} (hv : cV c) (hs : simC c c') (hS : ∀ s, s < (c (6)).val → h'.1 37 0 s = nI (c' (60+s)).val ∧ ∀ k, k < (c (80+s)).val → h'.1 36 0 (12*s+3*k) = nI (c' (100+(4*s+k))).val ∧ h'.1 36 0 (12*s+3*k+1) = nI (c' (120+(4*s+k))).val ∧ h'.1 36 0 (12*s+3*k+2) = nI (c' (140+(4*s+k))).val) : AliveM h' c' := by
  have hV1 := hv.1
  unfold AliveM
  rw [hs 6 (by omega)]
  intro s hs'
  rw [hs (80+s) (by omega)]
  exact hS s hs'
/-- all men of a ship but those of ab asleep -/
theorem lull_sim {c : AC} {s : Nat} (hs : s < 4) (ab : Nat) : simC c (lullA c s ab) := fun i hi => lullA_o c s ab i (by omega)
theorem lull_man {c : AC} (hv : cV c) {s t k : Nat} (hs : s < (c (6)).val) (ht : t < (c (6)).val) (hk : k < (c (80+t)).val) (ab : Nat) : lullA c s ab (100+(4*t+k)) = (if t = s ∧ ab.testBit k = false then 4 else c (100+(4*t+k))) ∧ lullA c s ab (120+(4*t+k)) = c (120+(4*t+k)) ∧ lullA c s ab (140+(4*t+k)) = c (140+(4*t+k)) := by
  have hV1 := hv.1
  have v5 := (hv.2.2.1 t ht).2.2.2.2.1
  refine ⟨?_, lullA_o c s ab _ (by omega), lullA_o c s ab _ (by omega)⟩
  by_cases e : t = s
  · subst e
    rw [lullA_k c t ab k (by omega)]
    cases q : ab.testBit k
    · rw [if_neg (by decide), if_pos ⟨rfl, rfl⟩]
    · rw [if_pos rfl, if_neg (fun q => by cases q.2)]
  · rw [lullA_o c s ab _ (by omega), if_neg (fun q => e q.1)]
theorem lull_cV {c : AC} (hv : cV c) {s : Nat} (hs : s < (c (6)).val) (ab : Nat) : cV (lullA c s ab) := by
  have hV1 := hv.1
  refine cV_up hv (lull_sim (by omega) ab) (fun t ht => ?_)
  obtain ⟨b1, b2, b3, _, b5, b6⟩ := hv.2.2.1 t ht
  rw [lullA_o c s ab (40+t) (by omega), lullA_o c s ab (50+t) (by omega), lullA_o c s ab (60+t) (by omega)]
  refine ⟨b1, b2, b3, fun k hk => ?_⟩
  obtain ⟨l1, l2, l3⟩ := lull_man hv hs ht hk ab
  obtain ⟨d1, d2, d3, d4⟩ := b6 k hk
  rw [l1, l2, l3]
  split
  · exact ⟨by decide, d2, d3, fun q => absurd q (by decide)⟩
  · exact ⟨d1, d2, d3, d4⟩
/-- a man made plain -/
def plainA (c : AC) (s k : Nat) (m : Fin 64) : AC := cU (cU c (100+(4*s+k)) 0) (120+(4*s+k)) m
theorem plain_sim {c : AC} {s k : Nat} (hs : s < 4) (hk : k < 4) (m : Fin 64) : simC c (plainA c s k m) := (simC.up ((simC.rf c).up (by omega) 0) (by omega) m)
theorem plain_o (c : AC) {s k i : Nat} (m : Fin 64) (h1 : i ≠ 100+(4*s+k)) (h2 : i ≠ 120+(4*s+k)) : plainA c s k m i = c i := by
  unfold plainA
  rw [cU_ne _ _ h2, cU_ne _ _ h1]
theorem plain_kind (c : AC) (s k : Nat) (m : Fin 64) : plainA c s k m (100+(4*s+k)) = 0 := by
  unfold plainA
  rw [cU_ne _ _ (by omega), cU_eq]
theorem plain_first (c : AC) (s k : Nat) (m : Fin 64) : plainA c s k m (120+(4*s+k)) = m := by
  unfold plainA
  rw [cU_eq]
theorem plain_cV {c : AC} (hv : cV c) {s k : Nat} (hs : s < (c (6)).val) (hk : k < (c (80+s)).val) {m : Fin 64} (hm : m.val ≤ 9) : cV (plainA c s k m) := by
  have hV1 := hv.1
  have v5 := (hv.2.2.1 s hs).2.2.2.2.1
  refine cV_up hv (plain_sim (by omega) (by omega) m) (fun t ht => ?_)
  obtain ⟨b1, b2, b3, _, b5, b6⟩ := hv.2.2.1 t ht
  rw [plain_o c m (by omega) (by omega), plain_o c m (by omega) (by omega), plain_o c m (by omega) (by omega)]
  refine ⟨b1, b2, b3, fun l hl => ?_⟩
  obtain ⟨d1, d2, d3, d4⟩ := b6 l hl
  rw [plain_o c m (i := 140+(4*t+l)) (by omega) (by omega)]
  by_cases e : t = s ∧ l = k
  · obtain ⟨rfl, rfl⟩ := e
    rw [plain_kind, plain_first]
    exact ⟨by decide, hm, d3, fun q => absurd q (by decide)⟩
  · rw [plain_o c m (i := 100+(4*t+l)) (by omega) (by omega), plain_o c m (i := 120+(4*t+l)) (by omega) (by omega)]
    exact ⟨d1, d2, d3, d4⟩
/-- another cargo -/
def cargoA (c : AC) (s : Nat) (m : Fin 64) : AC := cU c (60+s) m
theorem cargo_sim {c : AC} {s : Nat} (hs : s < 4) (m : Fin 64) : simC c (cargoA c s m) := (simC.rf c).up (by omega) m
theorem cargo_cV {c : AC} (hv : cV c) {s : Nat} (hs : s < (c (6)).val) {m : Fin 64} (hm : m.val ≤ 9) : cV (cargoA c s m) := by
  have hV1 := hv.1
  refine cV_up hv (cargo_sim (by omega) m) (fun t ht => ?_)
  obtain ⟨b1, b2, b3, _, b5, b6⟩ := hv.2.2.1 t ht
  unfold cargoA
  rw [cU_ne c m (show 40+t ≠ 60+s by omega), cU_ne c m (show 50+t ≠ 60+s by omega)]
  refine ⟨b1, b2, ?_, fun l hl => ?_⟩
  · by_cases e : t = s
    · subst e; rw [cU_eq]; exact hm
    · rw [cU_ne c m (by omega)]; exact b3
  · rw [cU_ne c m (show 100+(4*t+l) ≠ 60+s by omega), cU_ne c m (show 120+(4*t+l) ≠ 60+s by omega), cU_ne c m (show 140+(4*t+l) ≠ 60+s by omega)]
    exact b6 l hl
/-- another cell -/
def goA (c : AC) (s : Nat) (x y : Fin 64) : AC := cU (cU c (40+s) x) (50+s) y
theorem go_sim {c : AC} {s : Nat} (hs : s < 4) (x y : Fin 64) : simC c (goA c s x y) := (simC.up ((simC.rf c).up (by omega) x) (by omega) y)
theorem go_o (c : AC) {s i : Nat} (x y : Fin 64) (h1 : i ≠ 40+s) (h2 : i ≠ 50+s) : goA c s x y i = c i := by
  unfold goA
  rw [cU_ne _ _ h2, cU_ne _ _ h1]
theorem go_x (c : AC) {s : Nat} (x y : Fin 64) : goA c s x y (40+s) = x := by
  unfold goA
  rw [cU_ne _ _ (by omega), cU_eq]
theorem go_y (c : AC) {s : Nat} (x y : Fin 64) : goA c s x y (50+s) = y := by
  unfold goA
  rw [cU_eq]
theorem go_cV {c : AC} (hv : cV c) {s : Nat} (hs : s < (c (6)).val) {x y : Fin 64} (hx : x.val < (c (0)).val) (hy : y.val < (c (1)).val) : cV (goA c s x y) := by
  have hV1 := hv.1
  refine cV_up hv (go_sim (by omega) x y) (fun t ht => ?_)
  obtain ⟨b1, b2, b3, _, b5, b6⟩ := hv.2.2.1 t ht
  rw [go_o c x y (i := 60+t) (by omega) (by omega)]
  refine ⟨?_, ?_, b3, fun l hl => ?_⟩
  · by_cases e : t = s
    · subst e; rw [go_x]; exact hx
    · rw [go_o c x y (by omega) (by omega)]; exact b1
  · by_cases e : t = s
    · subst e; rw [go_y]; exact hy
    · rw [go_o c x y (by omega) (by omega)]; exact b2
  · rw [go_o c x y (i := 100+(4*t+l)) (by omega) (by omega), go_o c x y (i := 120+(4*t+l)) (by omega) (by omega), go_o c x y (i := 140+(4*t+l)) (by omega) (by omega)]
    exact b6 l hl
/-! ===== the class's copies ===== -/
def coT (o t i : Nat) : Bool := i == o && (t == 0 || (Nat.ble 10 t && Nat.ble t 18))
theorem coT_scC {o : Nat} (ho : 8 ≤ o) {t i : Nat} (h : scC t i = false) : coT o t i = false := by
  unfold scC at h
  unfold coT
  cases q : (i == o) with
  | false => rfl
  | true =>
    have e : i = o := eq_of_beq q
    subst e
    rw [Nat.ble_eq_true_of_le ho] at h
    simp only [Bool.or_eq_false_iff, Bool.true_and] at h
    obtain ⟨_, ⟨⟨h0, _⟩, _⟩, h1⟩ := h
    rw [h0]
    cases q1 : Nat.ble 10 t
    · rfl
    · cases q2 : Nat.ble t 18
      · rfl
      · have := Nat.le_of_ble_eq_true q2
        rw [q1, Nat.ble_eq_true_of_le (show t ≤ 23 by omega)] at h1
        cases h1
theorem Fr.coC {o : Nat} (ho : 8 ≤ o) {a b : PH} (h : Fr (coT o) a b) : Fr scC a b := h.mono fun _ _ e => coT_scC ho e
theorem copyFrom_C {h : PH} {j o : Nat} {c : AC} (hv : cV c) (hC : CoastC h j c) (hne : j ≠ o) : ∃ h', pm_ev (1, 0, [vr 0 o, vr 0 j], [], h) = some (none, h') ∧ CoastC h' o c ∧ Fr (coT o) h h' := by
  have hV1 := hv.1
  have fI : ∀ (h : PH) k v, Fr (coT o) h (pm_sI h 0 o k v) := fun h k v => Fr.sI _ _ _ (by simp [coT])
  have fL : ∀ (h : PH) k v, Fr (coT o) h (pm_sL h 0 o k v) := fun h k v => Fr.sL _ _ _ (by simp [coT])
  have fC : ∀ (h : PH) t a b n, 10 ≤ t → t ≤ 18 → Fr (coT o) h (pm_cp h t j a t o b n) := fun h t a b n h1 h2 => Fr.cp _ _ _ _ _ _ (by
    unfold coT
    rw [Nat.ble_eq_true_of_le h1, Nat.ble_eq_true_of_le h2]; simp)
  refine ⟨pm_cp (pm_cp (pm_cp (pm_cp (pm_cp (pm_cp (pm_cp (pm_cp (pm_cp (pm_sI (pm_sI (pm_sL (pm_sI (pm_sI (pm_sI (pm_sI h 0 o 0 (h.1 0 j 0)) 0 o 1 (h.1 0 j 1)) 0 o 2 (h.1 0 j 2)) 0 o 3 (h.1 0 j 3)) 0 o 4 (h.2 0 j 4)) 0 o 5 (h.1 0 j 5)) 0 o 8 (h.1 0 j 8)) 10 j 0 10 o 0 4) 11 j 0 11 o 0 4) 12 j 0 12 o 0 4) 13 j 0 13 o 0 4) 14 j 0 14 o 0 4) 15 j 0 15 o 0 4) 16 j 0 16 o 0 16) 17 j 0 17 o 0 16) 18 j 0 18 o 0 16, ?_, ?_, ?_⟩
  · rw [E_X0_copyFrom]
    simp (disch := omega) only [y_0, y_1, y_2, y_3, y_4, y_5, y_6, y_7, y_8, y_9, y_10, y_11, y_12, y_13, y_14, y_15, y_16, y_17, y_18, y_19, y_20, y_21, y_22, y_23, y_24, y_29, y_30, y_31, y_32, y_39, y_40, y_48, y_49, y_50, y_60, y_64, y_69, y_78, y_99, y_100, y_142, y_161, y_600, y_610, y_894, y_999, y_1000, y_1216, y_1276, neg1, neg2, nI_add, nI_mul, nn_sub, nn_lt, nn_le, nn_eq, in_lt, ni_lt, in_le, ni_le, in_eq, ni_eq, iI_lt, iI_le, iI_eq, nn_clamp, inb_n, t_lt, f_lt, t_le, f_le, t_eq, f_eq, ti_lt, fi_lt, ti_le, fi_le, ti_eq, fi_eq, ↓reduceIte, ite_true, ite_false, eq_self, decide_true, decide_false, Bool.true_and, Bool.and_true, Bool.false_and, Bool.and_false, Bool.true_or, Bool.or_true, Bool.false_or, Bool.or_false, bI_t, bI_f, bI_nand, n_mod, an11, an01, negn1, negn2, false_and, and_false, true_and, and_true, not_true_eq_false, not_false_eq_true, bI_n0, bI_n1, Bool.true_eq_false, Bool.false_eq_true, cI_s, cL_s, cV_s, cR_n, pm_bR_self, bI_ite, bL_ite, bV_ite, bR_ite, E_X0_copyFrom_56, E_X0_copyFrom_70, E_X0_copyFrom_84, E_X0_copyFrom_98, E_X0_copyFrom_112, E_X0_copyFrom_126, E_X0_copyFrom_140, E_X0_copyFrom_155, E_X0_copyFrom_170, ]
  · obtain ⟨⟨c0, c1, c2, c3, c5, c8, cr⟩, cg, cs⟩ := hC
    refine ⟨⟨?_, ?_, ?_, ?_, ?_, ?_, ?_⟩, fun g hg => ?_, fun s hs => ?_⟩
    · simp (disch := omega) only [sI_same, sI_tag, sI_num, sI_pl, sI_2, sL_1, sL_same, sL_tag, sL_num, sL_pl, cp_in, cp_tag, cp_num, cp_2]; exact c0
    · simp (disch := omega) only [sI_same, sI_tag, sI_num, sI_pl, sI_2, sL_1, sL_same, sL_tag, sL_num, sL_pl, cp_in, cp_tag, cp_num, cp_2]; exact c1
    · simp (disch := omega) only [sI_same, sI_tag, sI_num, sI_pl, sI_2, sL_1, sL_same, sL_tag, sL_num, sL_pl, cp_in, cp_tag, cp_num, cp_2]; exact c2
    · simp (disch := omega) only [sI_same, sI_tag, sI_num, sI_pl, sI_2, sL_1, sL_same, sL_tag, sL_num, sL_pl, cp_in, cp_tag, cp_num, cp_2]; exact c3
    · simp (disch := omega) only [sI_same, sI_tag, sI_num, sI_pl, sI_2, sL_1, sL_same, sL_tag, sL_num, sL_pl, cp_in, cp_tag, cp_num, cp_2]; exact c5
    · simp (disch := omega) only [sI_same, sI_tag, sI_num, sI_pl, sI_2, sL_1, sL_same, sL_tag, sL_num, sL_pl, cp_in, cp_tag, cp_num, cp_2]; exact c8
    · simp (disch := omega) only [sI_same, sI_tag, sI_num, sI_pl, sI_2, sL_1, sL_same, sL_tag, sL_num, sL_pl, cp_in, cp_tag, cp_num, cp_2]; exact cr
    · simp (disch := omega) only [sI_same, sI_tag, sI_num, sI_pl, sI_2, sL_1, sL_same, sL_tag, sL_num, sL_pl, cp_in, cp_tag, cp_num, cp_2, Nat.zero_add, Nat.sub_zero]; exact cg g hg
    · have v5 := (hv.2.2.1 s hs).2.2.2.2.1
      obtain ⟨s1, s2⟩ := cs s hs
      refine ⟨?_, fun k hk => ?_⟩
      · simp (disch := omega) only [sI_same, sI_tag, sI_num, sI_pl, sI_2, sL_1, sL_same, sL_tag, sL_num, sL_pl, cp_in, cp_tag, cp_num, cp_2, Nat.zero_add, Nat.sub_zero]; exact s1
      · simp (disch := omega) only [sI_same, sI_tag, sI_num, sI_pl, sI_2, sL_1, sL_same, sL_tag, sL_num, sL_pl, cp_in, cp_tag, cp_num, cp_2, Nat.zero_add, Nat.sub_zero]; exact s2 k hk
  · exact (((((((fI _ _ _).tr (fI _ _ _)).tr (fI _ _ _)).tr (fI _ _ _)).tr (fL _ _ _)).tr (fI _ _ _)).tr (fI _ _ _)).tr (((((((((fC _ 10 _ _ _ (by decide) (by decide)).tr (fC _ 11 _ _ _ (by decide) (by decide))).tr (fC _ 12 _ _ _ (by decide) (by decide))).tr (fC _ 13 _ _ _ (by decide) (by decide))).tr (fC _ 14 _ _ _ (by decide) (by decide))).tr (fC _ 15 _ _ _ (by decide) (by decide))).tr (fC _ 16 _ _ _ (by decide) (by decide))).tr (fC _ 17 _ _ _ (by decide) (by decide))).tr (fC _ 18 _ _ _ (by decide) (by decide)))
theorem SeaC.fr {h h' : PH} {c : AC} {fx fy gx gy : Nat} (he : ∀ k, h'.2 5 0 k = h.2 5 0 k) (hS : SeaC h c fx fy gx gy) : SeaC h' c fx fy gx gy := by
  unfold SeaC at hS ⊢
  simp only [he]
  exact hS
theorem SeaC.co {h h' : PH} {c : AC} {fx fy gx gy o : Nat} (hf : Fr (coT o) h h') (hS : SeaC h c fx fy gx gy) : SeaC h' c fx fy gx gy := hS.fr (fun k => (hf 5 0 (by unfold coT; simp [show Nat.ble 10 5 = false from rfl]) k).2)
theorem CoastC.co {h h' : PH} {c : AC} {j o : Nat} (hf : Fr (coT o) h h') (hne : j ≠ o) (hC : CoastC h j c) : CoastC h' j c := hC.fr (fun t k _ _ => (hf t j (by unfold coT; simp [hne]) k).1) (hf 0 j (by unfold coT; simp [hne]) 4).2
