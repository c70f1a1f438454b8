/-! ===== the beginning ===== -/
theorem in_27 : ∀ k, k < 3 → st_iv (st_wB.getD (st_i 27 0) (.inl (0, []))) k = nI 0 := by decide +kernel
theorem in_33 : ∀ k, k < 6 → st_iv (st_wB.getD (st_i 33 0) (.inl (0, []))) k = nI 0 := by decide +kernel
theorem in_336 : st_iv (st_wB.getD (st_i 33 0) (.inl (0, []))) 6 = iI (-1) := by decide +kernel
theorem in_6 : st_iv (st_wB.getD (st_i 6 0) (.inl (0, []))) 1 = nI 0 ∧ st_iv (st_wB.getD (st_i 6 0) (.inl (0, []))) 2 = nI 0 ∧ st_iv (st_wB.getD (st_i 6 0) (.inl (0, []))) 3 = iI (-1) := by decide +kernel
theorem in_32 : ∀ k, k < 3 → st_iv (st_wB.getD (st_i 32 0) (.inl (0, []))) k = nI 0 := by decide +kernel
theorem in_34 : ∀ k, k < 3 → st_iv (st_wB.getD (st_i 34 0) (.inl (0, []))) k = nI 0 := by decide +kernel
theorem h0_at (ex : Nat → Nat → Nat → Int32) {t : Nat} (ht : t < 60) (i k : Nat) : (st_h0 ex).1 t i k = st_iv (st_wB.getD (st_i t i) (.inl (0, []))) k := if_pos ht
theorem h0_ex (ex : Nat → Nat → Nat → Int32) {t : Nat} (ht : ¬ t < 60) (i k : Nat) : (st_h0 ex).1 t i k = ex t i k := if_neg ht
theorem Inv_0 (ex : Nat → Nat → Nat → Int32) : Inv (st_h0 ex) := by
  have a27 : ∀ k, k < 3 → (st_h0 ex).1 27 0 k = nI 0 := fun k hk => (h0_at ex (by decide) 0 k).trans (in_27 k hk)
  have a33 : ∀ k, k < 6 → (st_h0 ex).1 33 0 k = nI 0 := fun k hk => (h0_at ex (by decide) 0 k).trans (in_33 k hk)
  have a336 : (st_h0 ex).1 33 0 6 = iI (-1) := (h0_at ex (by decide) 0 6).trans in_336
  have a32 : ∀ k, k < 3 → (st_h0 ex).1 32 0 k = nI 0 := fun k hk => (h0_at ex (by decide) 0 k).trans (in_32 k hk)
  have a34 : ∀ k, k < 3 → (st_h0 ex).1 34 0 k = nI 0 := fun k hk => (h0_at ex (by decide) 0 k).trans (in_34 k hk)
  have a61 : (st_h0 ex).1 6 0 1 = nI 0 := (h0_at ex (by decide) 0 1).trans in_6.1
  have a62 : (st_h0 ex).1 6 0 2 = nI 0 := (h0_at ex (by decide) 0 2).trans in_6.2.1
  have a63 : (st_h0 ex).1 6 0 3 = iI (-1) := (h0_at ex (by decide) 0 3).trans in_6.2.2
  refine ⟨⟨⟨0, by decide, a27 0 (by decide), a33 0 (by decide), fun k hk => absurd hk (Nat.not_lt_zero _)⟩, ⟨0, by decide, a27 1 (by decide), a33 1 (by decide), fun k hk => absurd hk (Nat.not_lt_zero _)⟩, ⟨0, by decide, a27 2 (by decide), a33 2 (by decide), fun k hk => absurd hk (Nat.not_lt_zero _)⟩, ⟨0, by decide, a61, a33 4 (by decide), fun k hk => absurd hk (Nat.not_lt_zero _), a62.trans (a33 5 (by decide)).symm, a63.trans a336.symm⟩⟩, fun k hk => ⟨false, a32 k hk, a34 k hk, fun z => by cases z⟩⟩
theorem Gd_0 (L : Nat) (xs : Nat → Int32) : Gd L (st_h0 (st_ex L xs)) := by
  refine ⟨Inv_0 _, ⟨fun i k => ?_, fun k => ?_, fun k => ?_, fun k => ?_⟩, ?_⟩
  · rw [h0_ex _ (by decide)]; rfl
  · rw [h0_ex _ (by decide)]; rfl
  · rw [h0_ex _ (by decide)]; rfl
  · rw [h0_ex _ (by decide)]; rfl
  · rw [h0_ex _ (by decide)]; rfl
/-- the law answers true on every script -/
theorem law_true {L : Nat} (hL : L ≤ 3072) (xs : Nat → Int32) : ∃ h', pm_ev (276, 16, [vr 65 0, vr 7 0, vr 8 0, none], [], st_h0 (st_ex L xs)) = some (some (vi 1), h') := by
  obtain ⟨h', e⟩ := lw_loop hL (L + 1) 0 (st_h0 (st_ex L xs)) (by omega) (Nat.zero_le _) (Gd_0 L xs)
  exact ⟨h', by rw [E_L_law_16]; exact e⟩
