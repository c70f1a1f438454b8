/-! ===== what is read stays within its bounds ===== -/
theorem rVc_tell {D : DD} {q : Nat} {v : Nat → Nat} (hq : q < 12) (h : rVc D) (tm : aTm q D.1 = 0) (hv : ∀ k, k < nN q → lO q ≤ v k ∧ v k ≤ mO q k) (hz : ∀ k, nN q ≤ k → v k = 0) : rVc (aTell q v D) := by
  obtain ⟨⟨a0, a1, a2, a3, a4, a5, a6, a7, a8, a9, a10⟩, gu, sh, ro⟩ := h
  obtain ⟨c, fc, fr, fs⟩ := D
  dsimp only at a0 a1 a2 a3 a4 a5 a6 a7 a8 a9 a10 gu sh ro tm
  have s80 : ∀ s, s < (c (6)).val → (c (80+s)).val ≤ 4 := fun s hs => (sh s hs).2.2.2.2.1
  have qs : q = 0 ∨ q = 1 ∨ q = 2 ∨ q = 3 ∨ q = 4 ∨ q = 5 ∨ (6 ≤ q ∧ q < 12) := by omega
  rcases qs with e | e | e | e | e | e | e
  · subst e
    have b0 : 2 ≤ v 0 ∧ v 0 ≤ 8 := hv 0 (by decide)
    have b1 : 2 ≤ v 1 ∧ v 1 ≤ 8 := hv 1 (by decide)
    rw [show aTell 0 v (c, fc, fr, fs) = (cU (cU c 0 (f64 (v 0))) 1 (f64 (v 1)), fc, fr, fs) from rfl]
    refine ⟨?_, fun g hg => ?_, fun s hs => ?_, fun i hi => ?_⟩
    · simp (disch := omega) only [cU_ne, cU_eq, f64_v, sI_pl, sI_same, sI_tag, sI_2, sL_1, sL_tag, sL_same, sL_pl]
      exact ⟨b0, b1, a2, a3, a4, a5, a6, a7, a8, a9, a10⟩
    · simp (disch := omega) only [cU_ne] at hg
      simp (disch := omega) only [cU_ne, cU_eq, f64_v, sI_pl, sI_same, sI_tag, sI_2, sL_1, sL_tag, sL_same, sL_pl]; exact gu g hg
    · simp (disch := omega) only [cU_ne] at hs
      simp (disch := omega) only [cU_ne, cU_eq, f64_v, sI_pl, sI_same, sI_tag, sI_2, sL_1, sL_tag, sL_same, sL_pl]; exact sh s hs
    · simp (disch := omega) only [cU_ne, cU_eq, f64_v, sI_pl, sI_same, sI_tag, sI_2, sL_1, sL_tag, sL_same, sL_pl]; exact ro i hi
  · subst e
    have b0 : 0 ≤ v 0 ∧ v 0 ≤ 7 := hv 0 (by decide)
    have b1 : 0 ≤ v 1 ∧ v 1 ≤ 7 := hv 1 (by decide)
    rw [show aTell 1 v (c, fc, fr, fs) = (cU (cU c 2 (f64 (v 0))) 3 (f64 (v 1)), max fc (v 0), max fr (v 1), fs) from rfl]
    refine ⟨?_, fun g hg => ?_, fun s hs => ?_, fun i hi => ?_⟩
    · simp (disch := omega) only [cU_ne, cU_eq, f64_v, sI_pl, sI_same, sI_tag, sI_2, sL_1, sL_tag, sL_same, sL_pl]
      exact ⟨a0, a1, by omega, by omega, a4, a5, a6, by omega, by omega, a9, a10⟩
    · simp (disch := omega) only [cU_ne] at hg
      have := gu g hg
      simp (disch := omega) only [cU_ne, cU_eq, f64_v, sI_pl, sI_same, sI_tag, sI_2, sL_1, sL_tag, sL_same, sL_pl]; omega
    · simp (disch := omega) only [cU_ne] at hs
      obtain ⟨x1, x2, x3, x4, x5, x6⟩ := sh s hs
      simp (disch := omega) only [cU_ne, cU_eq, f64_v, sI_pl, sI_same, sI_tag, sI_2, sL_1, sL_tag, sL_same, sL_pl]
      exact ⟨by omega, by omega, x3, x4, x5, x6⟩
    · have := ro i hi
      simp (disch := omega) only [cU_ne, cU_eq, f64_v, sI_pl, sI_same, sI_tag, sI_2, sL_1, sL_tag, sL_same, sL_pl]
      exact ⟨this.1, fun z => by have := this.2 z; omega⟩
  · subst e
    have b0 : 0 ≤ v 0 ∧ v 0 ≤ 7 := hv 0 (by decide)
    have b1 : 0 ≤ v 1 ∧ v 1 ≤ 7 := hv 1 (by decide)
    rw [show aTell 2 v (c, fc, fr, fs) = (cU c (200+(8 * v 1 + v 0)) 1, max fc (v 0), max fr (v 1), fs) from rfl]
    refine ⟨?_, fun g hg => ?_, fun s hs => ?_, fun i hi => ?_⟩
    · simp (disch := omega) only [cU_ne, cU_eq, f64_v, sI_pl, sI_same, sI_tag, sI_2, sL_1, sL_tag, sL_same, sL_pl]
      exact ⟨a0, a1, by omega, by omega, a4, a5, a6, by omega, by omega, a9, a10⟩
    · simp (disch := omega) only [cU_ne] at hg
      have := gu g hg
      simp (disch := omega) only [cU_ne, cU_eq, f64_v, sI_pl, sI_same, sI_tag, sI_2, sL_1, sL_tag, sL_same, sL_pl]; omega
    · simp (disch := omega) only [cU_ne] at hs
      have h8 := s80 s hs
      obtain ⟨x1, x2, x3, x4, x5, x6⟩ := sh s hs
      simp (disch := omega) only [cU_ne, cU_eq, f64_v, sI_pl, sI_same, sI_tag, sI_2, sL_1, sL_tag, sL_same, sL_pl]
      refine ⟨by omega, by omega, x3, x4, x5, fun k hk => ?_⟩
      simp (disch := omega) only [cU_ne, cU_eq, f64_v, sI_pl, sI_same, sI_tag, sI_2, sL_1, sL_tag, sL_same, sL_pl]
      exact x6 k hk
    · have := ro i hi
      by_cases z : i = 8 * v 1 + v 0
      · subst z
        simp (disch := omega) only [cU_ne, cU_eq, f64_v, sI_pl, sI_same, sI_tag, sI_2, sL_1, sL_tag, sL_same, sL_pl]
        exact ⟨by decide, fun _ => by omega⟩
      · simp (disch := omega) only [cU_ne, cU_eq, f64_v, sI_pl, sI_same, sI_tag, sI_2, sL_1, sL_tag, sL_same, sL_pl]
        exact ⟨this.1, fun z => by have := this.2 z; omega⟩
  · subst e
    have b0 : 0 ≤ v 0 ∧ v 0 ≤ 7 := hv 0 (by decide)
    have b1 : 0 ≤ v 1 ∧ v 1 ≤ 7 := hv 1 (by decide)
    have b2 : 0 ≤ v 2 ∧ v 2 ≤ 7 := hv 2 (by decide)
    have h5 : (c (5)).val < 4 := by
      have tm : (if (c (5)).val = 4 then 3 else 0) = 0 := tm
      split at tm
      · cases tm
      · omega
    rw [show aTell 3 v (c, fc, fr, fs) = (cU (cU (cU (cU c (10+(c (5)).val) (f64 (v 0))) (20+(c (5)).val) (f64 (v 1))) (30+(c (5)).val) (f64 (v 2))) 5 (f64 ((c (5)).val + 1)), max fc (v 0), max fr (v 1), fs) from rfl]
    refine ⟨?_, fun g hg => ?_, fun s hs => ?_, fun i hi => ?_⟩
    · simp (disch := omega) only [cU_ne, cU_eq, f64_v, sI_pl, sI_same, sI_tag, sI_2, sL_1, sL_tag, sL_same, sL_pl]
      exact ⟨a0, a1, by omega, by omega, a4, by omega, a6, by omega, by omega, a9, a10⟩
    · dsimp only at hg
      rw [cU_eq, f64_v (by omega)] at hg
      by_cases z : g = (c (5)).val
      · subst z
        simp (disch := omega) only [cU_ne, cU_eq, f64_v, sI_pl, sI_same, sI_tag, sI_2, sL_1, sL_tag, sL_same, sL_pl]; omega
      · have := gu g (by omega)
        simp (disch := omega) only [cU_ne, cU_eq, f64_v, sI_pl, sI_same, sI_tag, sI_2, sL_1, sL_tag, sL_same, sL_pl]; omega
    · simp (disch := omega) only [cU_ne] at hs
      have h8 := s80 s hs
      obtain ⟨x1, x2, x3, x4, x5, x6⟩ := sh s hs
      simp (disch := omega) only [cU_ne, cU_eq, f64_v, sI_pl, sI_same, sI_tag, sI_2, sL_1, sL_tag, sL_same, sL_pl]
      refine ⟨by omega, by omega, x3, x4, x5, fun k hk => ?_⟩
      skip
      exact x6 k hk
    · have := ro i hi
      simp (disch := omega) only [cU_ne, cU_eq, f64_v, sI_pl, sI_same, sI_tag, sI_2, sL_1, sL_tag, sL_same, sL_pl]
      exact ⟨this.1, fun z => by have := this.2 z; omega⟩
  · subst e
    have b0 : 0 ≤ v 0 ∧ v 0 ≤ 7 := hv 0 (by decide)
    have b1 : 0 ≤ v 1 ∧ v 1 ≤ 7 := hv 1 (by decide)
    have b2 : 0 ≤ v 2 ∧ v 2 ≤ 9 := hv 2 (by decide)
    have b3 : 0 ≤ v 3 ∧ v 3 ≤ 9 := hv 3 (by decide)
    have h6 : (c (6)).val < 4 := by
      have tm : (if (c (6)).val = 4 then 3 else 0) = 0 := tm
      split at tm
      · cases tm
      · omega
    rw [show aTell 4 v (c, fc, fr, fs) = (cU (cU (cU (cU (cU (cU c (40+(c (6)).val) (f64 (v 0))) (50+(c (6)).val) (f64 (v 1))) (60+(c (6)).val) (f64 (v 2))) (70+(c (6)).val) (f64 (v 3))) (80+(c (6)).val) 0) 6 (f64 ((c (6)).val + 1)), max fc (v 0), max fr (v 1), fs) from rfl]
    refine ⟨?_, fun g hg => ?_, fun s hs => ?_, fun i hi => ?_⟩
    · simp (disch := omega) only [cU_ne, cU_eq, f64_v, sI_pl, sI_same, sI_tag, sI_2, sL_1, sL_tag, sL_same, sL_pl]
      exact ⟨a0, a1, by omega, by omega, a4, a5, by omega, by omega, by omega, a9, a10⟩
    · simp (disch := omega) only [cU_ne] at hg
      have := gu g hg
      simp (disch := omega) only [cU_ne, cU_eq, f64_v, sI_pl, sI_same, sI_tag, sI_2, sL_1, sL_tag, sL_same, sL_pl]; omega
    · dsimp only at hs
      rw [cU_eq, f64_v (by omega)] at hs
      by_cases z : s = (c (6)).val
      · subst z
        simp (disch := omega) only [cU_ne, cU_eq, f64_v, sI_pl, sI_same, sI_tag, sI_2, sL_1, sL_tag, sL_same, sL_pl]
        exact ⟨by omega, by omega, by omega, by omega, by decide, fun k hk => absurd hk (Nat.not_lt_zero _)⟩
      · have h8 := s80 s (by omega)
        obtain ⟨x1, x2, x3, x4, x5, x6⟩ := sh s (by omega)
        simp (disch := omega) only [cU_ne, cU_eq, f64_v, sI_pl, sI_same, sI_tag, sI_2, sL_1, sL_tag, sL_same, sL_pl]
        refine ⟨by omega, by omega, x3, x4, x5, fun k hk => ?_⟩
        skip
        exact x6 k hk
    · have := ro i hi
      simp (disch := omega) only [cU_ne, cU_eq, f64_v, sI_pl, sI_same, sI_tag, sI_2, sL_1, sL_tag, sL_same, sL_pl]
      exact ⟨this.1, fun z => by have := this.2 z; omega⟩
  · subst e
    have b0 : 1 ≤ v 0 ∧ v 0 ≤ 20 := hv 0 (by decide)
    rw [show aTell 5 v (c, fc, fr, fs) = (cU c 4 (f64 (v 0)), fc, fr, fs) from rfl]
    refine ⟨?_, fun g hg => ?_, fun s hs => ?_, fun i hi => ?_⟩
    · simp (disch := omega) only [cU_ne, cU_eq, f64_v, sI_pl, sI_same, sI_tag, sI_2, sL_1, sL_tag, sL_same, sL_pl]
      exact ⟨a0, a1, a2, a3, b0, a5, a6, a7, a8, a9, a10⟩
    · simp (disch := omega) only [cU_ne] at hg
      simp (disch := omega) only [cU_ne, cU_eq, f64_v, sI_pl, sI_same, sI_tag, sI_2, sL_1, sL_tag, sL_same, sL_pl]; exact gu g hg
    · simp (disch := omega) only [cU_ne] at hs
      simp (disch := omega) only [cU_ne, cU_eq, f64_v, sI_pl, sI_same, sI_tag, sI_2, sL_1, sL_tag, sL_same, sL_pl]; exact sh s hs
    · simp (disch := omega) only [cU_ne, cU_eq, f64_v, sI_pl, sI_same, sI_tag, sI_2, sL_1, sL_tag, sL_same, sL_pl]; exact ro i hi
  · have tm' : (c (6)).val ≠ 0 ∧ (c (80+((c (6)).val-1))).val ≠ 4 := by
      unfold aTm at tm
      rw [if_neg (show ¬ q = 3 by omega), if_neg (show ¬ q = 4 by omega), if_pos e] at tm
      split at tm
      · cases tm
      · split at tm
        · cases tm
        · exact ⟨by assumption, by assumption⟩
    have bnd : v 0 ≤ 9 ∧ v 1 ≤ 23 ∧ (q = 11 → v 0 ≤ 3) := by
      have qs : q = 6 ∨ q = 7 ∨ q = 8 ∨ q = 9 ∨ q = 10 ∨ q = 11 := by omega
      rcases qs with z | z | z | z | z | z <;> subst z
      · have x : 0 ≤ v 0 ∧ v 0 ≤ 9 := hv 0 (by decide)
        have y := hz 1 (by decide)
        omega
      · have x := hz 0 (by decide)
        have y := hz 1 (by decide)
        omega
      · have x : 0 ≤ v 0 ∧ v 0 ≤ 9 := hv 0 (by decide)
        have y : 0 ≤ v 1 ∧ v 1 ≤ 23 := hv 1 (by decide)
        omega
      · have x : 0 ≤ v 0 ∧ v 0 ≤ 9 := hv 0 (by decide)
        have y := hz 1 (by decide)
        omega
      · have x := hz 0 (by decide)
        have y := hz 1 (by decide)
        omega
      · have x : 0 ≤ v 0 ∧ v 0 ≤ 3 := hv 0 (by decide)
        have y := hz 1 (by decide)
        omega
    have at' : aTell q v (c, fc, fr, fs) = (cU (cU (cU (cU c (100+(4*((c (6)).val-1)+(c (80+((c (6)).val-1))).val)) (f64 (q-6))) (120+(4*((c (6)).val-1)+(c (80+((c (6)).val-1))).val)) (f64 (v 0))) (140+(4*((c (6)).val-1)+(c (80+((c (6)).val-1))).val)) (f64 (v 1))) (80+((c (6)).val-1)) (f64 ((c (80+((c (6)).val-1))).val + 1)), fc, fr, if q = 11 then max fs (v 0) else fs) := by
      unfold aTell
      rw [if_neg (by omega), if_neg (by omega), if_neg (by omega), if_neg (by omega), if_neg (by omega), if_neg (by omega), if_pos (by omega)]
    have K4 := s80 ((c (6)).val-1) (by omega)
    rw [at']
    have fs' : fs ≤ (if q = 11 then max fs (v 0) else fs) ∧ (if q = 11 then max fs (v 0 : Int) else fs) ≤ 3 ∧ (q = 11 → (v 0 : Int) ≤ (if q = 11 then max fs (v 0) else fs)) := by
      by_cases z : q = 11
      · have := bnd.2.2 z
        rw [if_pos z]
        omega
      · rw [if_neg z]
        omega
    generalize (if q = 11 then max fs (v 0 : Int) else fs) = fs2 at *
    generalize hK : (c (80+((c (6)).val-1))).val = K at *
    generalize hS : (c (6)).val - 1 = S at *
    refine ⟨?_, fun g hg => ?_, fun s hs => ?_, fun i hi => ?_⟩
    · simp (disch := omega) only [cU_ne, cU_eq, f64_v, sI_pl, sI_same, sI_tag, sI_2, sL_1, sL_tag, sL_same, sL_pl]
      exact ⟨a0, a1, a2, a3, a4, a5, a6, a7, a8, by omega, fs'.2.1⟩
    · simp (disch := omega) only [cU_ne] at hg
      simp (disch := omega) only [cU_ne, cU_eq, f64_v, sI_pl, sI_same, sI_tag, sI_2, sL_1, sL_tag, sL_same, sL_pl]; exact gu g hg
    · simp (disch := omega) only [cU_ne] at hs
      have h8 := s80 s hs
      obtain ⟨x1, x2, x3, x4, x5, x6⟩ := sh s hs
      by_cases z : s = S
      · subst z
        rw [hK] at x6
        refine ⟨?_, ?_, ?_, ?_, ?_, fun k hk => ?_⟩
        · simp (disch := omega) only [cU_ne, cU_eq, f64_v, sI_pl, sI_same, sI_tag, sI_2, sL_1, sL_tag, sL_same, sL_pl]; exact x1
        · simp (disch := omega) only [cU_ne, cU_eq, f64_v, sI_pl, sI_same, sI_tag, sI_2, sL_1, sL_tag, sL_same, sL_pl]; exact x2
        · simp (disch := omega) only [cU_ne, cU_eq, f64_v, sI_pl, sI_same, sI_tag, sI_2, sL_1, sL_tag, sL_same, sL_pl]; exact x3
        · simp (disch := omega) only [cU_ne, cU_eq, f64_v, sI_pl, sI_same, sI_tag, sI_2, sL_1, sL_tag, sL_same, sL_pl]; exact x4
        · simp (disch := omega) only [cU_ne, cU_eq, f64_v, sI_pl, sI_same, sI_tag, sI_2, sL_1, sL_tag, sL_same, sL_pl]; omega
        · dsimp only at hk
          rw [cU_eq, f64_v (by omega)] at hk
          by_cases w : k = K
          · subst w
            simp (disch := omega) only [cU_ne, cU_eq, f64_v, sI_pl, sI_same, sI_tag, sI_2, sL_1, sL_tag, sL_same, sL_pl]
            exact ⟨by omega, bnd.1, bnd.2.1, fun y => fs'.2.2 (by omega)⟩
          · obtain ⟨u1, u2, u3, u4⟩ := x6 k (by omega)
            simp (disch := omega) only [cU_ne, cU_eq, f64_v, sI_pl, sI_same, sI_tag, sI_2, sL_1, sL_tag, sL_same, sL_pl]
            exact ⟨u1, u2, u3, fun y => by have := u4 y; omega⟩
      · refine ⟨?_, ?_, ?_, ?_, ?_, fun k hk => ?_⟩
        · simp (disch := omega) only [cU_ne, cU_eq, f64_v, sI_pl, sI_same, sI_tag, sI_2, sL_1, sL_tag, sL_same, sL_pl]; exact x1
        · simp (disch := omega) only [cU_ne, cU_eq, f64_v, sI_pl, sI_same, sI_tag, sI_2, sL_1, sL_tag, sL_same, sL_pl]; exact x2
        · simp (disch := omega) only [cU_ne, cU_eq, f64_v, sI_pl, sI_same, sI_tag, sI_2, sL_1, sL_tag, sL_same, sL_pl]; exact x3
        · simp (disch := omega) only [cU_ne, cU_eq, f64_v, sI_pl, sI_same, sI_tag, sI_2, sL_1, sL_tag, sL_same, sL_pl]; exact x4
        · simp (disch := omega) only [cU_ne, cU_eq, f64_v, sI_pl, sI_same, sI_tag, sI_2, sL_1, sL_tag, sL_same, sL_pl]; exact x5
        · simp (disch := omega) only [cU_ne] at hk
          obtain ⟨u1, u2, u3, u4⟩ := x6 k hk
          simp (disch := omega) only [cU_ne, cU_eq, f64_v, sI_pl, sI_same, sI_tag, sI_2, sL_1, sL_tag, sL_same, sL_pl]
          exact ⟨u1, u2, u3, fun y => by have := u4 y; omega⟩
    · simp (disch := omega) only [cU_ne, cU_eq, f64_v, sI_pl, sI_same, sI_tag, sI_2, sL_1, sL_tag, sL_same, sL_pl]; exact ro i hi
