/-! ===== the reference's numbers of a line are the class's ===== -/
theorem nnR_s {T : Nat → Nat} {n d : Nat} {σ : LnS} (hd : d < 4) : (aNs T n (12 + d) (nN (12 + d)) 0 σ).2 = (nnR T n d σ).2.2.2 ∧
    (nnR T n d σ).1 = (if 1 ≤ nN (12 + d) then (((aNs T n (12 + d) (nN (12 + d)) 0 σ).1.getD 0 0 : Nat) : Int) else -1) ∧
    (nnR T n d σ).2.1 = (if 2 ≤ nN (12 + d) then (((aNs T n (12 + d) (nN (12 + d)) 0 σ).1.getD 1 0 : Nat) : Int) else -1) ∧
    (nnR T n d σ).2.2.1 = (if 3 ≤ nN (12 + d) then (((aNs T n (12 + d) (nN (12 + d)) 0 σ).1.getD 2 0 : Nat) : Int) else -1) := by
  have dd : d = 0 ∨ d = 1 ∨ d = 2 ∨ d = 3 := by omega
  rcases dd with e | e | e | e <;> subst e
  · exact ⟨rfl, rfl, rfl, rfl⟩
  · exact ⟨rfl, rfl, rfl, rfl⟩
  · exact ⟨rfl, rfl, rfl, rfl⟩
  · exact ⟨rfl, rfl, rfl, rfl⟩
theorem mnR_s {T : Nat → Nat} {n d : Nat} {σ : LnS} (hd : d < 6) : mnR T n d σ = ((aNs T n (6 + d) (nN (6 + d)) 0 σ).1.getD 0 0, (aNs T n (6 + d) (nN (6 + d)) 0 σ).1.getD 1 0, (aNs T n (6 + d) (nN (6 + d)) 0 σ).2) := by
  have dd : d = 0 ∨ d = 1 ∨ d = 2 ∨ d = 3 ∨ d = 4 ∨ d = 5 := by omega
  rcases dd with e | e | e | e | e | e <;> subst e <;> rfl
/-- the beginning of a line: behind a fault the counts don't matter -/
theorem nt1_same {f pl k k' w : Nat} (h : f = 0 → k = k') : nt1 f pl k w = nt1 f pl k' w := by
  by_cases q : f = 0
  · rw [h q]
  · unfold nt1
    rw [if_neg (fun z => q z.1), if_neg (fun z => q z.1)]
