theorem nV_tell {D : DD} {q : Nat} {v : Nat → Nat} (hq : 12 ≤ q ∧ q < 16) (h : nV D.1) (tm : aTm q D.1 = 0) (hv : ∀ k, k < nN q → lO q ≤ v k ∧ v k ≤ mO q k) : nV (aTell q v D).1 := by
  obtain ⟨c, D2⟩ := D
  obtain ⟨n0, nk⟩ := h
  dsimp only at n0 nk tm
  have h40 : (c (0)).val < 40 := by
    unfold aTm at tm
    rw [if_neg (show ¬ q = 3 by omega), if_neg (show ¬ q = 4 by omega), if_neg (show ¬ (6 ≤ q ∧ q < 12) by omega), if_pos hq] at tm
    split at tm
    · cases tm
    · omega
  have at' : (aTell q v (c, D2)).1 = cU (cU (cU (cU (cU c (10+(c (0)).val) (f64 (q-12))) (100+(c (0)).val) (f64 (if 1 ≤ nN q then v 0 + 1 else 0))) (200+(c (0)).val) (f64 (if 2 ≤ nN q then v 1 + 1 else 0))) (300+(c (0)).val) (f64 (if 3 ≤ nN q then v 2 + 1 else 0))) 0 (f64 ((c (0)).val + 1)) := by
    unfold aTell
    rw [if_neg (by omega), if_neg (by omega), if_neg (by omega), if_neg (by omega), if_neg (by omega), if_neg (by omega), if_neg (by omega), if_pos (by omega)]
  rw [at']
  have B : (if 1 ≤ nN q then v 0 + 1 else 0) < 64 ∧ (if 2 ≤ nN q then v 1 + 1 else 0) < 64 ∧ (if 3 ≤ nN q then v 2 + 1 else 0) < 64 ∧ (q ≠ 15 → 1 ≤ (if 1 ≤ nN q then v 0 + 1 else 0) ∧ (if 1 ≤ nN q then v 0 + 1 else 0) ≤ 4) ∧ (q ≤ 13 → 1 ≤ (if 2 ≤ nN q then v 1 + 1 else 0) ∧ (if 2 ≤ nN q then v 1 + 1 else 0) ≤ 4) ∧ (q = 13 → 1 ≤ (if 3 ≤ nN q then v 2 + 1 else 0) ∧ (if 3 ≤ nN q then v 2 + 1 else 0) ≤ 10) := by
    have qs : q = 12 ∨ q = 13 ∨ q = 14 ∨ q = 15 := by omega
    rcases qs with z | z | z | z <;> subst z
    · have x : 0 ≤ v 0 ∧ v 0 ≤ 3 := hv 0 (by decide)
      have y : 0 ≤ v 1 ∧ v 1 ≤ 3 := hv 1 (by decide)
      rw [if_pos (show 1 ≤ nN 12 by decide), if_pos (show 2 ≤ nN 12 by decide), if_neg (show ¬ 3 ≤ nN 12 by decide)]
      omega
    · have x : 0 ≤ v 0 ∧ v 0 ≤ 3 := hv 0 (by decide)
      have y : 0 ≤ v 1 ∧ v 1 ≤ 3 := hv 1 (by decide)
      have w : 0 ≤ v 2 ∧ v 2 ≤ 9 := hv 2 (by decide)
      rw [if_pos (show 1 ≤ nN 13 by decide), if_pos (show 2 ≤ nN 13 by decide), if_pos (show 3 ≤ nN 13 by decide)]
      omega
    · have x : 0 ≤ v 0 ∧ v 0 ≤ 3 := hv 0 (by decide)
      rw [if_pos (show 1 ≤ nN 14 by decide), if_neg (show ¬ 2 ≤ nN 14 by decide), if_neg (show ¬ 3 ≤ nN 14 by decide)]
      omega
    · rw [if_neg (show ¬ 1 ≤ nN 15 by decide), if_neg (show ¬ 2 ≤ nN 15 by decide), if_neg (show ¬ 3 ≤ nN 15 by decide)]
      omega
  generalize (if 1 ≤ nN q then v 0 + 1 else 0) = a0 at *
  generalize (if 2 ≤ nN q then v 1 + 1 else 0) = a1 at *
  generalize (if 3 ≤ nN q then v 2 + 1 else 0) = a2 at *
  obtain ⟨w0, w1, w2, y0, y1, y2⟩ := B
  refine ⟨?_, fun k hk => ?_⟩
  · simp (disch := omega) only [cU_ne, cU_eq, f64_v, sI_pl, sI_same, sI_tag, sI_2, sL_1, sL_tag, sL_same, sL_pl]; omega
  · rw [cU_eq, f64_v (by omega)] at hk
    by_cases z : k = (c (0)).val
    · subst z
      simp (disch := omega) only [cU_ne, cU_eq, f64_v, sI_pl, sI_same, sI_tag, sI_2, sL_1, sL_tag, sL_same, sL_pl]
      exact ⟨by omega, fun w => y0 (by omega), fun w => y1 (by omega), fun w => y2 (by omega)⟩
    · simp (disch := omega) only [cU_ne, cU_eq, f64_v, sI_pl, sI_same, sI_tag, sI_2, sL_1, sL_tag, sL_same, sL_pl]
      exact nk k (by omega)
theorem lV_tell {D : DD} {q : Nat} {v : Nat → Nat} (hq : 16 ≤ q ∧ q < 21) (h : lV D.1) (tm : aTm q D.1 = 0) (hv : ∀ k, k < nN q → lO q ≤ v k ∧ v k ≤ mO q k) : lV (aTell q v D).1 := by
  obtain ⟨c, D2⟩ := D
  obtain ⟨⟨l0, l1, l2, l3, l4⟩, lm, lf⟩ := h
  dsimp only at l0 l1 l2 l3 l4 lm lf tm
  have qs : q = 16 ∨ q = 17 ∨ q = 18 ∨ q = 19 ∨ q = 20 := by omega
  rcases qs with z | z | z | z | z <;> subst z
  · have b0 : 0 ≤ v 0 ∧ v 0 ≤ 10 := hv 0 (by decide)
    have h6 : (c (0)).val < 6 := by
      have tm : (if (c (0)).val = 6 then 3 else 0) = 0 := tm
      split at tm
      · cases tm
      · omega
    rw [show (aTell 16 v (c, D2)).1 = cU (cU c (10+(c (0)).val) (f64 (v 0))) 0 (f64 ((c (0)).val + 1)) from rfl]
    refine ⟨?_, fun k hk => ?_, fun k hk => ?_⟩
    · simp (disch := omega) only [cU_ne, cU_eq, f64_v, sI_pl, sI_same, sI_tag, sI_2, sL_1, sL_tag, sL_same, sL_pl]; omega
    · rw [cU_eq, f64_v (by omega)] at hk
      by_cases z : k = (c (0)).val
      · subst z; simp (disch := omega) only [cU_ne, cU_eq, f64_v, sI_pl, sI_same, sI_tag, sI_2, sL_1, sL_tag, sL_same, sL_pl]; omega
      · simp (disch := omega) only [cU_ne, cU_eq, f64_v, sI_pl, sI_same, sI_tag, sI_2, sL_1, sL_tag, sL_same, sL_pl]; exact lm k (by omega)
    · simp (disch := omega) only [cU_ne] at hk
      simp (disch := omega) only [cU_ne, cU_eq, f64_v, sI_pl, sI_same, sI_tag, sI_2, sL_1, sL_tag, sL_same, sL_pl]; exact lf k hk
  · have b0 : 1 ≤ v 0 ∧ v 0 ≤ 6 := hv 0 (by decide)
    rw [show (aTell 17 v (c, D2)).1 = cU c 1 (f64 (v 0)) from rfl]
    refine ⟨?_, fun k hk => ?_, fun k hk => ?_⟩
    · simp (disch := omega) only [cU_ne, cU_eq, f64_v, sI_pl, sI_same, sI_tag, sI_2, sL_1, sL_tag, sL_same, sL_pl]; omega
    · simp (disch := omega) only [cU_ne] at hk
      simp (disch := omega) only [cU_ne, cU_eq, f64_v, sI_pl, sI_same, sI_tag, sI_2, sL_1, sL_tag, sL_same, sL_pl]; exact lm k hk
    · simp (disch := omega) only [cU_ne] at hk
      simp (disch := omega) only [cU_ne, cU_eq, f64_v, sI_pl, sI_same, sI_tag, sI_2, sL_1, sL_tag, sL_same, sL_pl]; exact lf k hk
  · have b0 : 0 ≤ v 0 ∧ v 0 ≤ 9 := hv 0 (by decide)
    rw [show (aTell 18 v (c, D2)).1 = cU c 2 (f64 (v 0)) from rfl]
    refine ⟨?_, fun k hk => ?_, fun k hk => ?_⟩
    · simp (disch := omega) only [cU_ne, cU_eq, f64_v, sI_pl, sI_same, sI_tag, sI_2, sL_1, sL_tag, sL_same, sL_pl]; omega
    · simp (disch := omega) only [cU_ne] at hk
      simp (disch := omega) only [cU_ne, cU_eq, f64_v, sI_pl, sI_same, sI_tag, sI_2, sL_1, sL_tag, sL_same, sL_pl]; exact lm k hk
    · simp (disch := omega) only [cU_ne] at hk
      simp (disch := omega) only [cU_ne, cU_eq, f64_v, sI_pl, sI_same, sI_tag, sI_2, sL_1, sL_tag, sL_same, sL_pl]; exact lf k hk
  · have b0 : 0 ≤ v 0 ∧ v 0 ≤ 23 := hv 0 (by decide)
    have h6 : (c (3)).val < 10 := by
      have tm : (if (c (3)).val = 10 then 3 else 0) = 0 := tm
      split at tm
      · cases tm
      · omega
    rw [show (aTell 19 v (c, D2)).1 = cU (cU (cU c (20+(c (3)).val) (f64 1)) (30+(c (3)).val) (f64 (v 0))) 3 (f64 ((c (3)).val + 1)) from rfl]
    refine ⟨?_, fun k hk => ?_, fun k hk => ?_⟩
    · simp (disch := omega) only [cU_ne, cU_eq, f64_v, sI_pl, sI_same, sI_tag, sI_2, sL_1, sL_tag, sL_same, sL_pl]; omega
    · simp (disch := omega) only [cU_ne] at hk
      simp (disch := omega) only [cU_ne, cU_eq, f64_v, sI_pl, sI_same, sI_tag, sI_2, sL_1, sL_tag, sL_same, sL_pl]; exact lm k hk
    · rw [cU_eq, f64_v (by omega)] at hk
      by_cases z : k = (c (3)).val
      · subst z; simp (disch := omega) only [cU_ne, cU_eq, f64_v, sI_pl, sI_same, sI_tag, sI_2, sL_1, sL_tag, sL_same, sL_pl]; omega
      · simp (disch := omega) only [cU_ne, cU_eq, f64_v, sI_pl, sI_same, sI_tag, sI_2, sL_1, sL_tag, sL_same, sL_pl]; exact lf k (by omega)
  · have b0 : 0 ≤ v 0 ∧ v 0 ≤ 23 := hv 0 (by decide)
    have h6 : (c (3)).val < 10 := by
      have tm : (if (c (3)).val = 10 then 3 else 0) = 0 := tm
      split at tm
      · cases tm
      · omega
    rw [show (aTell 20 v (c, D2)).1 = cU (cU (cU c (20+(c (3)).val) (f64 0)) (30+(c (3)).val) (f64 (v 0))) 3 (f64 ((c (3)).val + 1)) from rfl]
    refine ⟨?_, fun k hk => ?_, fun k hk => ?_⟩
    · simp (disch := omega) only [cU_ne, cU_eq, f64_v, sI_pl, sI_same, sI_tag, sI_2, sL_1, sL_tag, sL_same, sL_pl]; omega
    · simp (disch := omega) only [cU_ne] at hk
      simp (disch := omega) only [cU_ne, cU_eq, f64_v, sI_pl, sI_same, sI_tag, sI_2, sL_1, sL_tag, sL_same, sL_pl]; exact lm k hk
    · rw [cU_eq, f64_v (by omega)] at hk
      by_cases z : k = (c (3)).val
      · subst z; simp (disch := omega) only [cU_ne, cU_eq, f64_v, sI_pl, sI_same, sI_tag, sI_2, sL_1, sL_tag, sL_same, sL_pl]; omega
      · simp (disch := omega) only [cU_ne, cU_eq, f64_v, sI_pl, sI_same, sI_tag, sI_2, sL_1, sL_tag, sL_same, sL_pl]; exact lf k (by omega)
theorem rVs_tell {s : Nat} {D : DD} {q : Nat} {v : Nat → Nat} (hs : s < 3) (hq : loW s ≤ q ∧ q < hiW s) (h : rVs s D) (tm : aTm q D.1 = 0) (hv : ∀ k, k < nN q → lO q ≤ v k ∧ v k ≤ mO q k) (hz : ∀ k, nN q ≤ k → v k = 0) : rVs s (aTell q v D) := by
  have : s = 0 ∨ s = 1 ∨ s = 2 := by omega
  rcases this with e | e | e <;> subst e
  · exact rVc_tell hq.2 h tm hv hz
  · exact nV_tell hq h tm hv
  · exact lV_tell hq h tm hv
/-- without a fault the numbers are those of the line -/
theorem aNum_v {T : Nat → Nat} {n lo hi : Nat} {x y : Nat × Nat × Nat} (h : (aNum T n lo hi (.inr x)).2 = .inr y) (z : y.2.1 = 0) : lo ≤ (aNum T n lo hi (.inr x)).1 ∧ (aNum T n lo hi (.inr x)).1 ≤ hi := by
  obtain ⟨p, f, pl⟩ := x
  have e : aNum T n lo hi (.inr (p, f, pl)) = if tK T n (tS T n p) = 2 then
      (if lo ≤ nuF T (tS T n p) (tE T n (tS T n p) - tS T n p) ∧ nuF T (tS T n p) (tE T n (tS T n p) - tS T n p) ≤ hi then (nuF T (tS T n p) (tE T n (tS T n p) - tS T n p), .inr (tE T n (tS T n p), f, pl)) else (lo, .inr (tE T n (tS T n p), (nt1 f pl 2 (tS T n p)).1, (nt1 f pl 2 (tS T n p)).2)))
      else (lo, .inl (tS T n p)) := rfl
  rw [e] at h ⊢
  split at h
  · rename_i q
    rw [if_pos q]
    split at h
    · rename_i q2
      rw [if_pos q2]
      exact q2
    · exfalso
      injection h with h
      rw [← h] at z
      dsimp only at z
      unfold nt1 at z
      split at z
      · cases z
      · rename_i q3
        exact q3 ⟨z, by decide⟩
  · cases h
theorem aNs_v {T : Nat → Nat} {n q : Nat} : ∀ r k x y, (aNs T n q r k (.inr x)).2 = .inr y → y.2.1 = 0 → (∀ j, j < r → lO q ≤ (aNs T n q r k (.inr x)).1.getD j 0 ∧ (aNs T n q r k (.inr x)).1.getD j 0 ≤ mO q (k + j)) ∧ ∀ j, r ≤ j → (aNs T n q r k (.inr x)).1.getD j 0 = 0
  | 0, k, x, y, h, z => ⟨fun j hj => by omega, fun j _ => by
    show ([] : List Nat).getD j 0 = 0
    simp⟩
  | r + 1, k, x, y, h, z => by
    have h : (aNs T n q r (k + 1) (aNum T n (lO q) (mO q k) (.inr x)).2).2 = .inr y := h
    cases q2 : (aNum T n (lO q) (mO q k) (.inr x)).2 with
    | inl w => rw [q2, aNs_inl] at h; cases h
    | inr x2 =>
      rw [q2] at h
      obtain ⟨A, B⟩ := aNs_v r (k + 1) x2 y h z
      have v0 := aNum_v q2 (aNs_f _ _ _ _ h z)
      have e : (aNs T n q (r + 1) k (.inr x)).1 = (aNum T n (lO q) (mO q k) (.inr x)).1 :: (aNs T n q r (k + 1) (.inr x2)).1 := by
        show (aNum T n (lO q) (mO q k) (.inr x)).1 :: (aNs T n q r (k + 1) (aNum T n (lO q) (mO q k) (.inr x)).2).1 = _
        rw [q2]
      rw [e]
      refine ⟨fun j hj => ?_, fun j hj => ?_⟩
      · cases j with
        | zero => exact v0
        | succ j =>
          have := A j (by omega)
          rw [show k + 1 + j = k + (j + 1) by omega] at this
          exact this
      · cases j with
        | zero => omega
        | succ j => exact B j (by omega)
