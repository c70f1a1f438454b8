/-- a log's line: a fact (q = 19, 20) -/
theorem logF_M {g : PH} {T : Nat → Nat} {n p f pl a q : Nat} (hq2 : q = 19 ∨ q = 20) (hn : n ≤ 600) (hT : TapM g n T) (hP : PSt g T n (.inr (p, f, pl))) (hw : tS T n p < n) (hK : tK T n (tS T n p) = 1) (hq : wdC T 2 (tS T n p) (tE T n (tS T n p)) = some q) (ha : a ≤ 10) (h0 : g.1 35 0 3 = nI a) {v : Nat} {σ : LnS} (er : aNum T n 0 23 (rmS 10 a f pl (tS T n p) (tE T n (tS T n p))) = (v, σ)) : ∃ g', pm_ev (177, 0, [vr 8 0, none, none], [], g) = some (none, g') ∧ PSt g' T n (aEnd T n σ) ∧ (∀ t i x, ¬ (t = 8 ∧ i = 0 ∧ 3 ≤ x ∧ x ≤ 10) → ¬ (t = 33 ∧ i = 0 ∧ 5 ≤ x ∧ x ≤ 6) → ¬ (t = 35 ∧ i = 0) → g'.1 t i x = g.1 t i x) ∧ g'.2 = g.2 ∧ (∀ k, g'.1 35 0 k = if a = 10 then g.1 35 0 k else if k = 3 then nI (a + 1) else if k = 11+2*a then nI v else if k = 10+2*a then nI (if q = 19 then 1 else 0) else g.1 35 0 k) := by
  have hpl : f ≠ 0 → pl < tS T n p := fun z => Nat.lt_of_lt_of_le (hP.2.2.2.2.2.2 z) (tS_le hP.2.2.1).1
  have w4 : g.1 8 0 4 = nI (tS T n p) := hP.2.1.1
  have gt := tE_gt (T := T) hw
  obtain ⟨g1, e1, p1, f1⟩ := (takes_M (s := 2) hn (by decide) hT hP).1 q hK hq
  have c1 : pm_ev (166, 0, [vr 8 0, vi 12, vi 16, none], [], g) = some (some (vi (nI (rcW q))), g1) := e1
  obtain ⟨g2, e2, p2, o2, l2, k2⟩ := logFact_M (b := if q = 19 then 1 else 0) (by split <;> decide) hn (hT.frL f1) p1 gt hpl ha ((f1.1 35 0 3 (by omega) (by omega)).trans h0) er
  obtain ⟨g4, e4, p4, f4⟩ := ends35 (g := g) (σ := σ) hn hT p2 (fun t i x h1 h2 h3 => (o2 t i x (by omega) h2 h3).trans (f1.1 t i x (by omega) h2))
  refine ⟨g4, ?_, p4, fun t i x h1 h2 h3 => ?_, by rw [f4.2, l2]; exact f1.2, fun k => ?_⟩
  · rw [E_X9_logLine, c1, cI_s, w4]
    rcases hq2 with e | e <;> subst e
    · have e2 : pm_ev (176, 0, [vr 8 0, vi (nI (tS T n p)), vi 1, none], [], g1) = some (none, g2) := e2
      rw [if_neg (by decide), if_neg (by decide), if_neg (by decide), if_neg (by decide), if_pos (by rfl), e2, cV_s, E_X9_logLine_115, e4, cV_s]
    · have e2 : pm_ev (176, 0, [vr 8 0, vi (nI (tS T n p)), vi 0, none], [], g1) = some (none, g2) := e2
      rw [if_neg (by decide), if_neg (by decide), if_neg (by decide), if_neg (by decide), if_neg (by decide), e2, cV_s, E_X9_logLine_115, e4, cV_s]
  · rw [f4.1 t i x (by omega) h2, o2 t i x h1 h2 h3]; exact f1.1 t i x (by omega) h2
  · rw [f4.1 35 0 k (by omega) (by omega), k2 k, f1.1 35 0 k (by omega) (by omega)]
