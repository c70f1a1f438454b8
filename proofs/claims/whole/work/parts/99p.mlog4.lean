/-- a log's line: a man (q = 16) -/
theorem logM_M {g : PH} {T : Nat → Nat} {n p f pl a : Nat} (hn : n ≤ 600) (hT : TapM g n T) (hP : PSt g T n (.inr (p, f, pl))) (hw : tS T n p < n) (hK : tK T n (tS T n p) = 1) (hq : wdC T 2 (tS T n p) (tE T n (tS T n p)) = some 16) (ha : a ≤ 6) (h0 : g.1 35 0 0 = nI a) {v : Nat} {σ : LnS} (er : aNum T n 0 10 (rmS 6 a f pl (tS T n p) (tE T n (tS T n p))) = (v, σ)) : ∃ g', pm_ev (177, 0, [vr 8 0, none, none], [], g) = some (none, g') ∧ PSt g' T n (aEnd T n σ) ∧ (∀ t i x, ¬ (t = 8 ∧ i = 0 ∧ 3 ≤ x ∧ x ≤ 10) → ¬ (t = 33 ∧ i = 0 ∧ 5 ≤ x ∧ x ≤ 6) → ¬ (t = 35 ∧ i = 0) → g'.1 t i x = g.1 t i x) ∧ g'.2 = g.2 ∧ (∀ k, g'.1 35 0 k = if a = 6 then g.1 35 0 k else if k = 0 then nI (a + 1) else if k = 4+a then nI v else g.1 35 0 k) := by
  have hpl : f ≠ 0 → pl < tS T n p := fun z => Nat.lt_of_lt_of_le (hP.2.2.2.2.2.2 z) (tS_le hP.2.2.1).1
  have w4 : g.1 8 0 4 = nI (tS T n p) := hP.2.1.1
  have gt := tE_gt (T := T) hw
  obtain ⟨g1, e1, p1, f1⟩ := (takes_M (s := 2) hn (by decide) hT hP).1 16 hK hq
  have c1 : pm_ev (166, 0, [vr 8 0, vi 12, vi 16, none], [], g) = some (some (vi (nI (rcW 16))), g1) := e1
  obtain ⟨g2, e2, p2, o2, l2, k2⟩ := logMan_M hn (hT.frL f1) p1 gt hpl ha ((f1.1 35 0 0 (by omega) (by omega)).trans h0) er
  obtain ⟨g4, e4, p4, f4⟩ := ends35 (g := g) (σ := σ) hn hT p2 (fun t i x h1 h2 h3 => (o2 t i x (by omega) h2 h3).trans (f1.1 t i x (by omega) h2))
  refine ⟨g4, ?_, p4, fun t i x h1 h2 h3 => ?_, by rw [f4.2, l2]; exact f1.2, fun k => ?_⟩
  · rw [E_X9_logLine, c1, cI_s, if_neg (by decide), if_neg (by decide), if_pos (by rfl), w4, e2, cV_s, E_X9_logLine_80, E_X9_logLine_115, e4, cV_s]
  · rw [f4.1 t i x (by omega) h2, o2 t i x h1 h2 h3]; exact f1.1 t i x (by omega) h2
  · rw [f4.1 35 0 k (by omega) (by omega), k2 k, f1.1 35 0 k (by omega) (by omega)]
