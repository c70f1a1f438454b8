/-! ===== the reference's table of the reading: coasts ===== -/
def RdC (R : Nat → Int32) (c : AC) : Prop :=
  (R 0 = nI (c (0)).val ∧ R 1 = nI (c (1)).val ∧ R 2 = nI (8 * (c (3)).val + (c (2)).val) ∧ R 3 = nI (c (4)).val ∧ R 4 = nI (c (5)).val ∧ R 5 = nI (c (6)).val) ∧
  (∀ g, g < (c (5)).val → R (6+2*g) = nI (8 * (c (20+g)).val + (c (10+g)).val) ∧ R (6+2*g+1) = nI (c (30+g)).val) ∧
  (∀ s, s < (c (6)).val → (R (14+4*s) = nI (8 * (c (50+s)).val + (c (40+s)).val) ∧ R (14+4*s+1) = nI (c (60+s)).val ∧ R (14+4*s+2) = nI (c (70+s)).val ∧ R (14+4*s+3) = nI (c (80+s)).val) ∧ ∀ k, k < (c (80+s)).val → R (30+12*s+3*k) = nI (c (100+(4*s+k))).val ∧ R (30+12*s+3*k+1) = nI (c (120+(4*s+k))).val ∧ R (30+12*s+3*k+2) = nI (c (140+(4*s+k))).val) ∧
  (∀ s, (c (6)).val ≤ s → s < 4 → R (14+4*s+3) = nI 0) ∧
  (∀ i, i < 64 → R (78+i) = nI (c (200+i)).val)
/-- bounds of the counts -/
def cB (c : AC) : Prop := (c (5)).val ≤ 4 ∧ (c (6)).val ≤ 4 ∧ ∀ s, s < (c (6)).val → (c (80+s)).val ≤ 4
theorem rVc.b {D : DD} (h : rVc D) : cB D.1 := ⟨h.1.2.2.2.2.2.1, h.1.2.2.2.2.2.2.1, fun s hs => (h.2.2.1 s hs).2.2.2.2.1⟩
theorem f64_0 : (f64 0).val = 0 := rfl
theorem f64_1 : ((1 : Fin 64)).val = 1 := rfl
theorem f64_z : ((0 : Fin 64)).val = 0 := rfl
theorem RdC_0 {R R' : Nat → Int32} {c : AC} (hB : cB c) (h : RdC R c) {x y : Nat} (bx : x ≤ 8) (bY : y ≤ 8) (hR : ∀ k, R' k = if k = 1 then nI y else if k = 0 then nI x else R k) : RdC R' (cU (cU c 0 (f64 x)) 1 (f64 y)) := by
  obtain ⟨b5, b6, b8⟩ := hB
  obtain ⟨⟨m0, m1, m2, m3, m4, m5⟩, mg, ms, mz, mr⟩ := h
  refine ⟨⟨?_, ?_, ?_, ?_, ?_, ?_⟩, fun g hg => ?_, fun s hs => ?_, fun s h1 h2 => ?_, fun i hi => ?_⟩
  · simp (disch := omega) only [hR, cU_ne, cU_eq, f64_v, f64_0, f64_1, t_eq, f_eq, ↓reduceIte]
  · simp (disch := omega) only [hR, cU_ne, cU_eq, f64_v, f64_0, f64_1, t_eq, f_eq, ↓reduceIte]
  · simp (disch := omega) only [hR, cU_ne, cU_eq, f64_v, f64_0, f64_1, t_eq, f_eq, ↓reduceIte]; exact m2
  · simp (disch := omega) only [hR, cU_ne, cU_eq, f64_v, f64_0, f64_1, t_eq, f_eq, ↓reduceIte]; exact m3
  · simp (disch := omega) only [hR, cU_ne, cU_eq, f64_v, f64_0, f64_1, t_eq, f_eq, ↓reduceIte]; exact m4
  · simp (disch := omega) only [hR, cU_ne, cU_eq, f64_v, f64_0, f64_1, t_eq, f_eq, ↓reduceIte]; exact m5
  · simp (disch := omega) only [cU_ne] at hg
    simp (disch := omega) only [hR, cU_ne, cU_eq, f64_v, f64_0, f64_1, t_eq, f_eq, ↓reduceIte]
    exact mg g hg
  · simp (disch := omega) only [cU_ne] at hs
    have := b8 s hs
    obtain ⟨x, y⟩ := ms s hs
    refine ⟨?_, fun k hk => ?_⟩
    · simp (disch := omega) only [hR, cU_ne, cU_eq, f64_v, f64_0, f64_1, t_eq, f_eq, ↓reduceIte]
      exact x
    · simp (disch := omega) only [cU_ne] at hk
      simp (disch := omega) only [hR, cU_ne, cU_eq, f64_v, f64_0, f64_1, t_eq, f_eq, ↓reduceIte]
      exact y k hk
  · simp (disch := omega) only [cU_ne] at h1
    simp (disch := omega) only [hR, cU_ne, cU_eq, f64_v, f64_0, f64_1, t_eq, f_eq, ↓reduceIte]
    exact mz s h1 h2
  · simp (disch := omega) only [hR, cU_ne, cU_eq, f64_v, f64_0, f64_1, t_eq, f_eq, ↓reduceIte]
    exact mr i hi
theorem RdC_5 {R R' : Nat → Int32} {c : AC} (hB : cB c) (h : RdC R c) {x : Nat} (bx : x ≤ 20) (hR : ∀ k, R' k = if k = 3 then nI x else R k) : RdC R' (cU c 4 (f64 x)) := by
  obtain ⟨b5, b6, b8⟩ := hB
  obtain ⟨⟨m0, m1, m2, m3, m4, m5⟩, mg, ms, mz, mr⟩ := h
  refine ⟨⟨?_, ?_, ?_, ?_, ?_, ?_⟩, fun g hg => ?_, fun s hs => ?_, fun s h1 h2 => ?_, fun i hi => ?_⟩
  · simp (disch := omega) only [hR, cU_ne, cU_eq, f64_v, f64_0, f64_1, t_eq, f_eq, ↓reduceIte]; exact m0
  · simp (disch := omega) only [hR, cU_ne, cU_eq, f64_v, f64_0, f64_1, t_eq, f_eq, ↓reduceIte]; exact m1
  · simp (disch := omega) only [hR, cU_ne, cU_eq, f64_v, f64_0, f64_1, t_eq, f_eq, ↓reduceIte]; exact m2
  · simp (disch := omega) only [hR, cU_ne, cU_eq, f64_v, f64_0, f64_1, t_eq, f_eq, ↓reduceIte]
  · simp (disch := omega) only [hR, cU_ne, cU_eq, f64_v, f64_0, f64_1, t_eq, f_eq, ↓reduceIte]; exact m4
  · simp (disch := omega) only [hR, cU_ne, cU_eq, f64_v, f64_0, f64_1, t_eq, f_eq, ↓reduceIte]; exact m5
  · simp (disch := omega) only [cU_ne] at hg
    simp (disch := omega) only [hR, cU_ne, cU_eq, f64_v, f64_0, f64_1, t_eq, f_eq, ↓reduceIte]
    exact mg g hg
  · simp (disch := omega) only [cU_ne] at hs
    have := b8 s hs
    obtain ⟨x, y⟩ := ms s hs
    refine ⟨?_, fun k hk => ?_⟩
    · simp (disch := omega) only [hR, cU_ne, cU_eq, f64_v, f64_0, f64_1, t_eq, f_eq, ↓reduceIte]
      exact x
    · simp (disch := omega) only [cU_ne] at hk
      simp (disch := omega) only [hR, cU_ne, cU_eq, f64_v, f64_0, f64_1, t_eq, f_eq, ↓reduceIte]
      exact y k hk
  · simp (disch := omega) only [cU_ne] at h1
    simp (disch := omega) only [hR, cU_ne, cU_eq, f64_v, f64_0, f64_1, t_eq, f_eq, ↓reduceIte]
    exact mz s h1 h2
  · simp (disch := omega) only [hR, cU_ne, cU_eq, f64_v, f64_0, f64_1, t_eq, f_eq, ↓reduceIte]
    exact mr i hi
theorem RdC_1 {R R' : Nat → Int32} {c : AC} (hB : cB c) (h : RdC R c) {x y : Nat} (bx : x ≤ 7) (bY : y ≤ 7) (hR : ∀ k, R' k = if k = 2 then nI (8 * y + x) else R k) : RdC R' (cU (cU c 2 (f64 x)) 3 (f64 y)) := by
  obtain ⟨b5, b6, b8⟩ := hB
  obtain ⟨⟨m0, m1, m2, m3, m4, m5⟩, mg, ms, mz, mr⟩ := h
  refine ⟨⟨?_, ?_, ?_, ?_, ?_, ?_⟩, fun g hg => ?_, fun s hs => ?_, fun s h1 h2 => ?_, fun i hi => ?_⟩
  · simp (disch := omega) only [hR, cU_ne, cU_eq, f64_v, f64_0, f64_1, t_eq, f_eq, ↓reduceIte]; exact m0
  · simp (disch := omega) only [hR, cU_ne, cU_eq, f64_v, f64_0, f64_1, t_eq, f_eq, ↓reduceIte]; exact m1
  · simp (disch := omega) only [hR, cU_ne, cU_eq, f64_v, f64_0, f64_1, t_eq, f_eq, ↓reduceIte]
  · simp (disch := omega) only [hR, cU_ne, cU_eq, f64_v, f64_0, f64_1, t_eq, f_eq, ↓reduceIte]; exact m3
  · simp (disch := omega) only [hR, cU_ne, cU_eq, f64_v, f64_0, f64_1, t_eq, f_eq, ↓reduceIte]; exact m4
  · simp (disch := omega) only [hR, cU_ne, cU_eq, f64_v, f64_0, f64_1, t_eq, f_eq, ↓reduceIte]; exact m5
  · simp (disch := omega) only [cU_ne] at hg
    simp (disch := omega) only [hR, cU_ne, cU_eq, f64_v, f64_0, f64_1, t_eq, f_eq, ↓reduceIte]
    exact mg g hg
  · simp (disch := omega) only [cU_ne] at hs
    have := b8 s hs
    obtain ⟨x, y⟩ := ms s hs
    refine ⟨?_, fun k hk => ?_⟩
    · simp (disch := omega) only [hR, cU_ne, cU_eq, f64_v, f64_0, f64_1, t_eq, f_eq, ↓reduceIte]
      exact x
    · simp (disch := omega) only [cU_ne] at hk
      simp (disch := omega) only [hR, cU_ne, cU_eq, f64_v, f64_0, f64_1, t_eq, f_eq, ↓reduceIte]
      exact y k hk
  · simp (disch := omega) only [cU_ne] at h1
    simp (disch := omega) only [hR, cU_ne, cU_eq, f64_v, f64_0, f64_1, t_eq, f_eq, ↓reduceIte]
    exact mz s h1 h2
  · simp (disch := omega) only [hR, cU_ne, cU_eq, f64_v, f64_0, f64_1, t_eq, f_eq, ↓reduceIte]
    exact mr i hi
theorem RdC_2 {R R' : Nat → Int32} {c : AC} (hB : cB c) (h : RdC R c) {x y : Nat} (bx : x ≤ 7) (bY : y ≤ 7) (hR : ∀ k, R' k = if k = 78 + (8 * y + x) then nI 1 else R k) : RdC R' (cU c (200+(8 * y + x)) 1) := by
  obtain ⟨b5, b6, b8⟩ := hB
  obtain ⟨⟨m0, m1, m2, m3, m4, m5⟩, mg, ms, mz, mr⟩ := h
  refine ⟨⟨?_, ?_, ?_, ?_, ?_, ?_⟩, fun g hg => ?_, fun s hs => ?_, fun s h1 h2 => ?_, fun i hi => ?_⟩
  · simp (disch := omega) only [hR, cU_ne, cU_eq, f64_v, f64_0, f64_1, t_eq, f_eq, ↓reduceIte]; exact m0
  · simp (disch := omega) only [hR, cU_ne, cU_eq, f64_v, f64_0, f64_1, t_eq, f_eq, ↓reduceIte]; exact m1
  · simp (disch := omega) only [hR, cU_ne, cU_eq, f64_v, f64_0, f64_1, t_eq, f_eq, ↓reduceIte]; exact m2
  · simp (disch := omega) only [hR, cU_ne, cU_eq, f64_v, f64_0, f64_1, t_eq, f_eq, ↓reduceIte]; exact m3
  · simp (disch := omega) only [hR, cU_ne, cU_eq, f64_v, f64_0, f64_1, t_eq, f_eq, ↓reduceIte]; exact m4
  · simp (disch := omega) only [hR, cU_ne, cU_eq, f64_v, f64_0, f64_1, t_eq, f_eq, ↓reduceIte]; exact m5
  · simp (disch := omega) only [cU_ne] at hg
    simp (disch := omega) only [hR, cU_ne, cU_eq, f64_v, f64_0, f64_1, t_eq, f_eq, ↓reduceIte]
    exact mg g hg
  · simp (disch := omega) only [cU_ne] at hs
    have := b8 s hs
    obtain ⟨x, y⟩ := ms s hs
    refine ⟨?_, fun k hk => ?_⟩
    · simp (disch := omega) only [hR, cU_ne, cU_eq, f64_v, f64_0, f64_1, t_eq, f_eq, ↓reduceIte]
      exact x
    · simp (disch := omega) only [cU_ne] at hk
      simp (disch := omega) only [hR, cU_ne, cU_eq, f64_v, f64_0, f64_1, t_eq, f_eq, ↓reduceIte]
      exact y k hk
  · simp (disch := omega) only [cU_ne] at h1
    simp (disch := omega) only [hR, cU_ne, cU_eq, f64_v, f64_0, f64_1, t_eq, f_eq, ↓reduceIte]
    exact mz s h1 h2
  · by_cases q : i = 8 * y + x
    · subst q
      simp (disch := omega) only [hR, cU_ne, cU_eq, f64_v, f64_0, f64_1, t_eq, f_eq, ↓reduceIte]
    · simp (disch := omega) only [hR, cU_ne, cU_eq, f64_v, f64_0, f64_1, t_eq, f_eq, ↓reduceIte]
      exact mr i hi
theorem RdC_3 {R R' : Nat → Int32} {c : AC} (hB : cB c) (h : RdC R c) {x y r : Nat} (bx : x ≤ 7) (bY : y ≤ 7) (br : r ≤ 7) (h5 : (c (5)).val < 4) (hR : ∀ k, R' k = if k = 4 then nI ((c (5)).val + 1) else if k = 6+2*(c (5)).val+1 then nI r else if k = 6+2*(c (5)).val then nI (8 * y + x) else R k) : RdC R' (cU (cU (cU (cU c (10+(c (5)).val) (f64 x)) (20+(c (5)).val) (f64 y)) (30+(c (5)).val) (f64 r)) 5 (f64 ((c (5)).val + 1))) := by
  obtain ⟨b5, b6, b8⟩ := hB
  obtain ⟨⟨m0, m1, m2, m3, m4, m5⟩, mg, ms, mz, mr⟩ := h
  generalize ha : (c (5)).val = a at *
  refine ⟨⟨?_, ?_, ?_, ?_, ?_, ?_⟩, fun g hg => ?_, fun s hs => ?_, fun s h1 h2 => ?_, fun i hi => ?_⟩
  · simp (disch := omega) only [hR, cU_ne, cU_eq, f64_v, f64_0, f64_1, t_eq, f_eq, ↓reduceIte]; exact m0
  · simp (disch := omega) only [hR, cU_ne, cU_eq, f64_v, f64_0, f64_1, t_eq, f_eq, ↓reduceIte]; exact m1
  · simp (disch := omega) only [hR, cU_ne, cU_eq, f64_v, f64_0, f64_1, t_eq, f_eq, ↓reduceIte]; exact m2
  · simp (disch := omega) only [hR, cU_ne, cU_eq, f64_v, f64_0, f64_1, t_eq, f_eq, ↓reduceIte]; exact m3
  · simp (disch := omega) only [hR, cU_ne, cU_eq, f64_v, f64_0, f64_1, t_eq, f_eq, ↓reduceIte]
  · simp (disch := omega) only [hR, cU_ne, cU_eq, f64_v, f64_0, f64_1, t_eq, f_eq, ↓reduceIte]; exact m5
  · simp (disch := omega) only [cU_eq, f64_v] at hg
    by_cases q : g = a
    · subst q
      simp (disch := omega) only [hR, cU_ne, cU_eq, f64_v, f64_0, f64_1, t_eq, f_eq, ↓reduceIte]
      exact ⟨trivial, trivial⟩
    · simp (disch := omega) only [hR, cU_ne, cU_eq, f64_v, f64_0, f64_1, t_eq, f_eq, ↓reduceIte]
      exact mg g (by omega)
  · simp (disch := omega) only [cU_ne] at hs
    have := b8 s hs
    obtain ⟨x, y⟩ := ms s hs
    refine ⟨?_, fun k hk => ?_⟩
    · simp (disch := omega) only [hR, cU_ne, cU_eq, f64_v, f64_0, f64_1, t_eq, f_eq, ↓reduceIte]
      exact x
    · simp (disch := omega) only [cU_ne] at hk
      simp (disch := omega) only [hR, cU_ne, cU_eq, f64_v, f64_0, f64_1, t_eq, f_eq, ↓reduceIte]
      exact y k hk
  · simp (disch := omega) only [cU_ne] at h1
    simp (disch := omega) only [hR, cU_ne, cU_eq, f64_v, f64_0, f64_1, t_eq, f_eq, ↓reduceIte]
    exact mz s h1 h2
  · simp (disch := omega) only [hR, cU_ne, cU_eq, f64_v, f64_0, f64_1, t_eq, f_eq, ↓reduceIte]
    exact mr i hi
theorem RdC_4 {R R' : Nat → Int32} {c : AC} (hB : cB c) (h : RdC R c) {x y r u : Nat} (bx : x ≤ 7) (bY : y ≤ 7) (br : r ≤ 9) (bu : u ≤ 9) (h6 : (c (6)).val < 4) (hR : ∀ k, R' k = if k = 5 then nI ((c (6)).val + 1) else if k = 14+4*(c (6)).val+2 then nI u else if k = 14+4*(c (6)).val+1 then nI r else if k = 14+4*(c (6)).val then nI (8 * y + x) else R k) : RdC R' (cU (cU (cU (cU (cU (cU c (40+(c (6)).val) (f64 x)) (50+(c (6)).val) (f64 y)) (60+(c (6)).val) (f64 r)) (70+(c (6)).val) (f64 u)) (80+(c (6)).val) 0) 6 (f64 ((c (6)).val + 1))) := by
  obtain ⟨b5, b6, b8⟩ := hB
  obtain ⟨⟨m0, m1, m2, m3, m4, m5⟩, mg, ms, mz, mr⟩ := h
  have z0 := mz (c (6)).val (Nat.le_refl _) h6
  generalize ha : (c (6)).val = a at *
  refine ⟨⟨?_, ?_, ?_, ?_, ?_, ?_⟩, fun g hg => ?_, fun s hs => ?_, fun s h1 h2 => ?_, fun i hi => ?_⟩
  · simp (disch := omega) only [hR, cU_ne, cU_eq, f64_v, f64_0, f64_1, t_eq, f_eq, ↓reduceIte]; exact m0
  · simp (disch := omega) only [hR, cU_ne, cU_eq, f64_v, f64_0, f64_1, t_eq, f_eq, ↓reduceIte]; exact m1
  · simp (disch := omega) only [hR, cU_ne, cU_eq, f64_v, f64_0, f64_1, t_eq, f_eq, ↓reduceIte]; exact m2
  · simp (disch := omega) only [hR, cU_ne, cU_eq, f64_v, f64_0, f64_1, t_eq, f_eq, ↓reduceIte]; exact m3
  · simp (disch := omega) only [hR, cU_ne, cU_eq, f64_v, f64_0, f64_1, t_eq, f_eq, ↓reduceIte]; exact m4
  · simp (disch := omega) only [hR, cU_ne, cU_eq, f64_v, f64_0, f64_1, t_eq, f_eq, ↓reduceIte]
  · simp (disch := omega) only [cU_ne] at hg
    simp (disch := omega) only [hR, cU_ne, cU_eq, f64_v, f64_0, f64_1, t_eq, f_eq, ↓reduceIte]
    exact mg g hg
  · simp (disch := omega) only [cU_eq, f64_v] at hs
    by_cases q : s = a
    · subst q
      refine ⟨?_, fun k hk => ?_⟩
      · simp (disch := omega) only [hR, cU_ne, cU_eq, f64_v, f64_0, f64_1, t_eq, f_eq, ↓reduceIte]
        exact ⟨trivial, trivial, trivial, z0⟩
      · simp (disch := omega) only [cU_ne, cU_eq] at hk
        exact absurd hk (Nat.not_lt_zero _)
    · have := b8 s (by omega)
      obtain ⟨x, y⟩ := ms s (by omega)
      refine ⟨?_, fun k hk => ?_⟩
      · simp (disch := omega) only [hR, cU_ne, cU_eq, f64_v, f64_0, f64_1, t_eq, f_eq, ↓reduceIte]
        exact x
      · simp (disch := omega) only [cU_ne] at hk
        simp (disch := omega) only [hR, cU_ne, cU_eq, f64_v, f64_0, f64_1, t_eq, f_eq, ↓reduceIte]
        exact y k hk
  · simp (disch := omega) only [cU_eq, f64_v] at h1
    simp (disch := omega) only [hR, cU_ne, cU_eq, f64_v, f64_0, f64_1, t_eq, f_eq, ↓reduceIte]
    exact mz s (by omega) h2
  · simp (disch := omega) only [hR, cU_ne, cU_eq, f64_v, f64_0, f64_1, t_eq, f_eq, ↓reduceIte]
    exact mr i hi
theorem RdC_m {R R' : Nat → Int32} {c : AC} (hB : cB c) (h : RdC R c) {b m d v0 v1 : Nat} (hb : (c (6)).val = b + 1) (hm : (c (80+b)).val = m) (h4 : m < 4) (bd : d < 6) (bx : v0 ≤ 9) (bY : v1 ≤ 23) (hR : ∀ k, R' k = if k = 14+4*b+3 then nI (m + 1) else if k = 30+12*b+3*m+2 then nI v1 else if k = 30+12*b+3*m+1 then nI v0 else if k = 30+12*b+3*m then nI d else R k) : RdC R' (cU (cU (cU (cU c (100+(4*b+m)) (f64 d)) (120+(4*b+m)) (f64 v0)) (140+(4*b+m)) (f64 v1)) (80+b) (f64 (m + 1))) := by
  obtain ⟨b5, b6, b8⟩ := hB
  obtain ⟨⟨m0, m1, m2, m3, m4, m5⟩, mg, ms, mz, mr⟩ := h
  refine ⟨⟨?_, ?_, ?_, ?_, ?_, ?_⟩, fun g hg => ?_, fun s hs => ?_, fun s h1 h2 => ?_, fun i hi => ?_⟩
  · simp (disch := omega) only [hR, cU_ne, cU_eq, f64_v, f64_0, f64_1, t_eq, f_eq, ↓reduceIte]; exact m0
  · simp (disch := omega) only [hR, cU_ne, cU_eq, f64_v, f64_0, f64_1, t_eq, f_eq, ↓reduceIte]; exact m1
  · simp (disch := omega) only [hR, cU_ne, cU_eq, f64_v, f64_0, f64_1, t_eq, f_eq, ↓reduceIte]; exact m2
  · simp (disch := omega) only [hR, cU_ne, cU_eq, f64_v, f64_0, f64_1, t_eq, f_eq, ↓reduceIte]; exact m3
  · simp (disch := omega) only [hR, cU_ne, cU_eq, f64_v, f64_0, f64_1, t_eq, f_eq, ↓reduceIte]; exact m4
  · simp (disch := omega) only [hR, cU_ne, cU_eq, f64_v, f64_0, f64_1, t_eq, f_eq, ↓reduceIte]; exact m5
  · simp (disch := omega) only [cU_ne] at hg
    simp (disch := omega) only [hR, cU_ne, cU_eq, f64_v, f64_0, f64_1, t_eq, f_eq, ↓reduceIte]
    exact mg g hg
  · simp (disch := omega) only [cU_ne] at hs
    have k4 := b8 s hs
    obtain ⟨⟨x0, x1, x2, x3⟩, y⟩ := ms s hs
    by_cases q : s = b
    · subst q
      refine ⟨?_, fun k hk => ?_⟩
      · simp (disch := omega) only [hR, cU_ne, cU_eq, f64_v, f64_0, f64_1, t_eq, f_eq, ↓reduceIte]
        exact ⟨x0, x1, x2, trivial⟩
      · simp (disch := omega) only [cU_ne, cU_eq, f64_v] at hk
        by_cases q1 : k = m
        · subst q1
          simp (disch := omega) only [hR, cU_ne, cU_eq, f64_v, f64_0, f64_1, t_eq, f_eq, ↓reduceIte]
          exact ⟨trivial, trivial, trivial⟩
        · simp (disch := omega) only [hR, cU_ne, cU_eq, f64_v, f64_0, f64_1, t_eq, f_eq, ↓reduceIte]
          exact y k (by omega)
    · refine ⟨?_, fun k hk => ?_⟩
      · simp (disch := omega) only [hR, cU_ne, cU_eq, f64_v, f64_0, f64_1, t_eq, f_eq, ↓reduceIte]
        exact ⟨x0, x1, x2, x3⟩
      · simp (disch := omega) only [cU_ne] at hk
        simp (disch := omega) only [hR, cU_ne, cU_eq, f64_v, f64_0, f64_1, t_eq, f_eq, ↓reduceIte]
        exact y k hk
  · simp (disch := omega) only [cU_ne] at h1
    simp (disch := omega) only [hR, cU_ne, cU_eq, f64_v, f64_0, f64_1, t_eq, f_eq, ↓reduceIte]
    exact mz s h1 h2
  · simp (disch := omega) only [hR, cU_ne, cU_eq, f64_v, f64_0, f64_1, t_eq, f_eq, ↓reduceIte]
    exact mr i hi
