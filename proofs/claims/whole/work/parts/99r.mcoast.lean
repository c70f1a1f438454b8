/-- a coast's line: how far a night goes (q = 5) -/
theorem coast5_M {g : PH} {T : Nat → Nat} {n p f pl : Nat} (hn : n ≤ 600) (hT : TapM g n T) (hP : PSt g T n (.inr (p, f, pl))) (hK : tK T n (tS T n p) = 1) (hq : wdC T 0 (tS T n p) (tE T n (tS T n p)) = some 5) {v : Nat} {σ : LnS} (er : aNum T n 1 20 (.inr (tE T n (tS T n p), f, pl)) = (v, σ)) : ∃ g', pm_ev (173, 0, [vr 8 0, none, none], [], g) = some (none, g') ∧ PSt g' T n (aEnd T n σ) ∧ (∀ t i x, ¬ (t = 8 ∧ i = 0 ∧ 3 ≤ x ∧ x ≤ 8) → ¬ (t = 33 ∧ i = 0 ∧ 5 ≤ x ∧ x ≤ 6) → ¬ (t = 35 ∧ i = 0) → g'.1 t i x = g.1 t i x) ∧ g'.2 = g.2 ∧ (∀ k, g'.1 35 0 k = if k = 3 then nI v else g.1 35 0 k) := by
  obtain ⟨g1, e1, p1, f1⟩ := (takes_M (s := 0) hn (by decide) hT hP).1 5 hK hq
  have c1 : pm_ev (166, 0, [vr 8 0, vi 1, vi 12, none], [], g) = some (some (vi (nI (rcW 5))), g1) := e1
  obtain ⟨g2, e2, p2, f2⟩ := numbered_M hn (hT.frL f1) p1 (lo := 1) (hi := 20) (by decide) (by decide)
  rw [er] at e2 p2
  dsimp only at e2 p2
  have c2 : pm_ev (165, 0, [vr 8 0, vi 1, vi 20, none], [], g1) = some (some (vi (nI v)), g2) := e2
  have F := f1.tr f2
  obtain ⟨g4, e4, p4, f4⟩ := ends35 (g := g) (g' := pm_sI g2 35 0 3 (nI v)) (σ := σ) hn hT (p2.fr (fun x _ _ => sI_tag _ _ _ _ _ _ (by decide)) (fun x _ _ => sI_tag _ _ _ _ _ _ (by decide))) (fun t i x h1 h2 h3 => by rw [pm_sI_at, if_neg (fun z => h3 ⟨z.1, z.2.1⟩)]; exact F.1 t i x (by omega) h2)
  refine ⟨g4, ?_, p4, fun t i x h1 h2 h3 => ?_, by rw [f4.2]; exact F.2, fun k => ?_⟩
  · rw [E_X9_coastLine, c1, cI_s, E_X9_coastLine_12, if_neg (by decide), if_neg (by decide), if_neg (by decide), if_neg (by decide), if_neg (by decide), if_neg (by decide), if_neg (by decide), if_neg (by decide), if_neg (by decide), if_neg (by decide), if_neg (by decide), if_neg (by decide), if_pos (by rfl), c2, cI_s, E_X9_coastLine_169, if_pos (by decide), E_X9_coastLine_182]
    change pm_bV (pm_ev (167, 0, [vr 8 0], [], pm_sI g2 35 0 3 (nI v))) _ = _
    rw [e4, cV_s]
  · rw [f4.1 t i x h1 h2, pm_sI_at, if_neg (fun z => h3 ⟨z.1, z.2.1⟩)]; exact F.1 t i x h1 h2
  · rw [f4.1 35 0 k (by omega) (by omega), ← F.1 35 0 k (by omega) (by omega)]
    by_cases z : k = 3
    · subst z; rw [sI_same, if_pos rfl]
    · rw [sI_pl _ _ _ _ _ z, if_neg z]
