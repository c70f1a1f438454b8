/-! ===== what the lines tell =====
a coast with the marks of its farthest column, row and ship; a night; a log -/
abbrev DD : Type := AC × Nat × Nat × Int
def aTm (q : Nat) (c : AC) : Nat :=
  if q = 3 then (if (c (5)).val = 4 then 3 else 0)
  else if q = 4 then (if (c (6)).val = 4 then 3 else 0)
  else if 6 ≤ q ∧ q < 12 then (if (c (6)).val = 0 then 4 else if (c (80+((c (6)).val-1))).val = 4 then 3 else 0)
  else if 12 ≤ q ∧ q < 16 then (if (c (0)).val = 40 then 3 else 0)
  else if q = 16 then (if (c (0)).val = 6 then 3 else 0)
  else if q = 19 ∨ q = 20 then (if (c (3)).val = 10 then 3 else 0) else 0
def aTell (q : Nat) (v : Nat → Nat) (D : DD) : DD :=
  if q = 0 then (cU (cU D.1 0 (f64 (v 0))) 1 (f64 (v 1)), D.2)
  else if q = 5 then (cU D.1 4 (f64 (v 0)), D.2)
  else if q = 1 then (cU (cU D.1 2 (f64 (v 0))) 3 (f64 (v 1)), max D.2.1 (v 0), max D.2.2.1 (v 1), D.2.2.2)
  else if q = 2 then (cU D.1 (200+(8 * v 1 + v 0)) 1, max D.2.1 (v 0), max D.2.2.1 (v 1), D.2.2.2)
  else if q = 3 then (cU (cU (cU (cU D.1 (10+(D.1 5).val) (f64 (v 0))) (20+(D.1 5).val) (f64 (v 1))) (30+(D.1 5).val) (f64 (v 2))) 5 (f64 ((D.1 5).val + 1)), max D.2.1 (v 0), max D.2.2.1 (v 1), D.2.2.2)
  else if q = 4 then (cU (cU (cU (cU (cU (cU D.1 (40+(D.1 6).val) (f64 (v 0))) (50+(D.1 6).val) (f64 (v 1))) (60+(D.1 6).val) (f64 (v 2))) (70+(D.1 6).val) (f64 (v 3))) (80+(D.1 6).val) 0) 6 (f64 ((D.1 6).val + 1)), max D.2.1 (v 0), max D.2.2.1 (v 1), D.2.2.2)
  else if q < 12 then (cU (cU (cU (cU D.1 (100+(4*((D.1 6).val-1)+(D.1 (80+((D.1 6).val-1))).val)) (f64 (q-6))) (120+(4*((D.1 6).val-1)+(D.1 (80+((D.1 6).val-1))).val)) (f64 (v 0))) (140+(4*((D.1 6).val-1)+(D.1 (80+((D.1 6).val-1))).val)) (f64 (v 1))) (80+((D.1 6).val-1)) (f64 ((D.1 (80+((D.1 6).val-1))).val + 1)), D.2.1, D.2.2.1, if q = 11 then max D.2.2.2 (v 0) else D.2.2.2)
  else if q < 16 then (cU (cU (cU (cU (cU D.1 (10+(D.1 0).val) (f64 (q-12))) (100+(D.1 0).val) (f64 (if 1 ≤ nN q then v 0 + 1 else 0))) (200+(D.1 0).val) (f64 (if 2 ≤ nN q then v 1 + 1 else 0))) (300+(D.1 0).val) (f64 (if 3 ≤ nN q then v 2 + 1 else 0))) 0 (f64 ((D.1 0).val + 1)), D.2)
  else if q = 16 then (cU (cU D.1 (10+(D.1 0).val) (f64 (v 0))) 0 (f64 ((D.1 0).val + 1)), D.2)
  else if q = 17 then (cU D.1 1 (f64 (v 0)), D.2)
  else if q = 18 then (cU D.1 2 (f64 (v 0)), D.2)
  else (cU (cU (cU D.1 (20+(D.1 3).val) (f64 (if q = 19 then 1 else 0))) (30+(D.1 3).val) (f64 (v 0))) 3 (f64 ((D.1 3).val + 1)), D.2)
def rVc (D : DD) : Prop := ((2 ≤ (D.1 0).val ∧ (D.1 0).val ≤ 8) ∧ (2 ≤ (D.1 1).val ∧ (D.1 1).val ≤ 8) ∧ (D.1 2).val ≤ D.2.1 ∧ (D.1 3).val ≤ D.2.2.1 ∧ (1 ≤ (D.1 4).val ∧ (D.1 4).val ≤ 20) ∧ (D.1 5).val ≤ 4 ∧ (D.1 6).val ≤ 4 ∧ D.2.1 < 8 ∧ D.2.2.1 < 8 ∧ -1 ≤ D.2.2.2 ∧ D.2.2.2 ≤ 3) ∧
  (∀ g, g < (D.1 5).val → (D.1 (10+g)).val ≤ D.2.1 ∧ (D.1 (20+g)).val ≤ D.2.2.1 ∧ (D.1 (30+g)).val ≤ 7) ∧
  (∀ s, s < (D.1 6).val → (D.1 (40+s)).val ≤ D.2.1 ∧ (D.1 (50+s)).val ≤ D.2.2.1 ∧ (D.1 (60+s)).val ≤ 9 ∧ (D.1 (70+s)).val ≤ 9 ∧ (D.1 (80+s)).val ≤ 4 ∧ ∀ k, k < (D.1 (80+s)).val → (D.1 (100+(4*s+k))).val ≤ 5 ∧ (D.1 (120+(4*s+k))).val ≤ 9 ∧ (D.1 (140+(4*s+k))).val ≤ 23 ∧ ((D.1 (100+(4*s+k))).val = 5 → ((D.1 (120+(4*s+k))).val : Int) ≤ D.2.2.2)) ∧
  ∀ i, i < 64 → (D.1 (200+i)).val ≤ 1 ∧ ((D.1 (200+i)).val = 1 → i % 8 ≤ D.2.1 ∧ i / 8 ≤ D.2.2.1)
/-- at the end, where nothing is missing -/
theorem rVc_cV {D : DD} (h : rVc D) (h1 : D.2.1 < (D.1 0).val) (h2 : D.2.2.1 < (D.1 1).val) (h3 : D.2.2.2 < (D.1 6).val) : cV D.1 := by
  obtain ⟨⟨a0, a1, a2, a3, a4, a5, a6, a7, a8, a9, a10⟩, b, d, e⟩ := h
  refine ⟨⟨a0.1, a0.2, a1.1, a1.2, by omega, by omega, a4.1, a4.2, a5, a6⟩, fun g hg => ?_, fun s hs => ?_, fun i hi => ?_⟩
  · obtain ⟨x, y, z⟩ := b g hg
    exact ⟨by omega, by omega, z⟩
  · obtain ⟨x, y, z, u, w, k⟩ := d s hs
    refine ⟨by omega, by omega, z, u, w, fun j hj => ?_⟩
    obtain ⟨m1, m2, m3, m4⟩ := k j hj
    exact ⟨m1, m2, m3, fun q => by have := m4 q; omega⟩
  · obtain ⟨x, y⟩ := e i hi
    exact ⟨x, fun q => by have := y q; omega⟩
/-- the class's pictures of what is read -/
def DcC (h : PH) (D : DD) : Prop := CoastC h 8 D.1 ∧ h.1 4 0 9 = nI D.2.1 ∧ h.1 4 0 10 = nI D.2.2.1 ∧ h.1 4 0 11 = iI D.2.2.2
/-- only what is read changes -/
def frT (h h' : PH) : Prop := (∀ t i x, ¬ (t = 4 ∧ i = 0 ∧ 9 ≤ x ∧ x ≤ 11) → ¬ (i = 8 ∧ (t = 0 ∨ t = 2 ∨ t = 3 ∨ (10 ≤ t ∧ t ≤ 23))) → h'.1 t i x = h.1 t i x) ∧ ∀ t i x, ¬ (t = 0 ∧ i = 8) → h'.2 t i x = h.2 t i x
theorem frT.rf (h : PH) : frT h h := ⟨fun _ _ _ _ _ => rfl, fun _ _ _ _ => rfl⟩
theorem frT.tr {a b c : PH} (h1 : frT a b) (h2 : frT b c) : frT a c := ⟨fun t i x h h' => (h2.1 t i x h h').trans (h1.1 t i x h h'), fun t i x h => (h2.2 t i x h).trans (h1.2 t i x h)⟩
theorem frT.s4 (h : PH) {x : Nat} (hx : 9 ≤ x ∧ x ≤ 11) (v : Int32) : frT h (pm_sI h 4 0 x v) := ⟨fun t i y hh _ => by rw [pm_sI_at, if_neg (fun q => hh ⟨q.1, q.2.1, by omega⟩)], fun _ _ _ _ => rfl⟩
theorem frT.s8 (h : PH) {t : Nat} (ht : t = 0 ∨ t = 2 ∨ t = 3 ∨ (10 ≤ t ∧ t ≤ 23)) (x : Nat) (v : Int32) : frT h (pm_sI h t 8 x v) := ⟨fun t' i y _ hh => by rw [pm_sI_at, if_neg (fun q => hh ⟨q.2.1, by rw [q.1]; exact ht⟩)], fun _ _ _ _ => rfl⟩
theorem frT.sL (h : PH) (x : Nat) (v : Int64) : frT h (pm_sL h 0 8 x v) := ⟨fun _ _ _ _ _ => rfl, fun t i y hh => by rw [pm_sL_at, if_neg (fun q => hh ⟨q.1, q.2.1⟩)]⟩
theorem max_v {a b : Nat} (ha : a < 1000) (hb : b < 1000) : (if nI a < nI b then nI b else nI a) = nI (max a b) := by
  by_cases q : a < b
  · rw [if_pos ((nn_lt (by omega) (by omega)).mpr q), Nat.max_eq_right (by omega)]
  · rw [if_neg (fun z => q ((nn_lt (by omega) (by omega)).mp z)), Nat.max_eq_left (by omega)]
theorem tellsC_0 {h : PH} {D : DD} {v : Nat → Nat} (hD : DcC h D) (h0 : h.1 24 0 0 = nI (v 0)) (h1 : h.1 24 0 1 = nI (v 1)) (b0 : v 0 ≤ 8) (b1 : v 1 ≤ 8) : ∃ h', pm_ev (81, 0, [vr 4 0, vi (nI 0), none], [], h) = some (none, h') ∧ DcC h' (aTell 0 v D) ∧ frT h h' := by
  obtain ⟨⟨⟨c0, c1, c2, c3, c5, c8, cr⟩, cg, cs⟩, m9, m10, m11⟩ := hD
  obtain ⟨c, fc, fr, fs⟩ := D
  refine ⟨pm_sI (pm_sI h 0 8 0 (nI (v 0))) 0 8 1 (nI (v 1)), ?_, ⟨⟨⟨?_, ?_, ?_, ?_, ?_, ?_, ?_⟩, fun g hg => ?_, fun s hs => ?_⟩, ?_, ?_, ?_⟩, (frT.s8 _ (by omega) _ _).tr (frT.s8 _ (by omega) _ _)⟩
  · rw [E_X4_tellCoast, if_pos (by rfl), show (0 : Int32).toNatClampNeg = 0 from rfl, show (1 : Int32).toNatClampNeg = 1 from rfl, h0, h1]
  all_goals (try (rw [show aTell 0 v (c, fc, fr, fs) = (cU (cU c 0 (f64 (v 0))) 1 (f64 (v 1)), fc, fr, fs) from rfl] at *))
  all_goals (dsimp only at *)
  · simp (disch := omega) only [cU_ne, cU_eq, f64_v, sI_pl, sI_same, sI_tag, sI_2, sL_1, sL_tag, sL_same, sL_pl]
  · simp (disch := omega) only [cU_ne, cU_eq, f64_v, sI_pl, sI_same, sI_tag, sI_2, sL_1, sL_tag, sL_same, sL_pl]
  · simp (disch := omega) only [cU_ne, cU_eq, f64_v, sI_pl, sI_same, sI_tag, sI_2, sL_1, sL_tag, sL_same, sL_pl]; exact c2
  · simp (disch := omega) only [cU_ne, cU_eq, f64_v, sI_pl, sI_same, sI_tag, sI_2, sL_1, sL_tag, sL_same, sL_pl]; exact c3
  · simp (disch := omega) only [cU_ne, cU_eq, f64_v, sI_pl, sI_same, sI_tag, sI_2, sL_1, sL_tag, sL_same, sL_pl]; exact c5
  · simp (disch := omega) only [cU_ne, cU_eq, f64_v, sI_pl, sI_same, sI_tag, sI_2, sL_1, sL_tag, sL_same, sL_pl]; exact c8
  · simp (disch := omega) only [cU_ne, cU_eq, f64_v, sI_pl, sI_same, sI_tag, sI_2, sL_1, sL_tag, sL_same, sL_pl]; exact cr
  · simp (disch := omega) only [cU_ne] at hg
    simp (disch := omega) only [cU_ne, cU_eq, f64_v, sI_pl, sI_same, sI_tag, sI_2, sL_1, sL_tag, sL_same, sL_pl]
    exact cg g hg
  · simp (disch := omega) only [cU_ne] at hs
    simp (disch := omega) only [cU_ne, cU_eq, f64_v, sI_pl, sI_same, sI_tag, sI_2, sL_1, sL_tag, sL_same, sL_pl]
    exact cs s hs
  · simp (disch := omega) only [cU_ne, cU_eq, f64_v, sI_pl, sI_same, sI_tag, sI_2, sL_1, sL_tag, sL_same, sL_pl]; exact m9
  · simp (disch := omega) only [cU_ne, cU_eq, f64_v, sI_pl, sI_same, sI_tag, sI_2, sL_1, sL_tag, sL_same, sL_pl]; exact m10
  · simp (disch := omega) only [cU_ne, cU_eq, f64_v, sI_pl, sI_same, sI_tag, sI_2, sL_1, sL_tag, sL_same, sL_pl]; exact m11
