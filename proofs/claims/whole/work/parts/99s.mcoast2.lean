/-- a coast's line: the lamp (q = 1) and a rock (q = 2) -/
theorem coast12_M {g : PH} {T : Nat → Nat} {n p f pl q : Nat} (hq2 : q = 1 ∨ q = 2) (hn : n ≤ 600) (hT : TapM g n T) (hP : PSt g T n (.inr (p, f, pl))) (hK : tK T n (tS T n p) = 1) (hq : wdC T 0 (tS T n p) (tE T n (tS T n p)) = some q) {x y : Nat} {σ1 σ : LnS} (e1 : aNum T n 0 7 (.inr (tE T n (tS T n p), f, pl)) = (x, σ1)) (e2 : aNum T n 0 7 σ1 = (y, σ)) : ∃ g', pm_ev (173, 0, [vr 8 0, none, none], [], g) = some (none, g') ∧ PSt g' T n (aEnd T n σ) ∧ (∀ m, mrk g 9 m → mrk g' 9 (max m x)) ∧ (∀ m, mrk g 10 m → mrk g' 10 (max m y)) ∧ (∀ t i k, ¬ (t = 8 ∧ i = 0 ∧ 3 ≤ k ∧ k ≤ 10) → ¬ (t = 33 ∧ i = 0 ∧ 5 ≤ k ∧ k ≤ 6) → ¬ (t = 35 ∧ i = 0) → g'.1 t i k = g.1 t i k) ∧ g'.2 = g.2 ∧ (∀ k, g'.1 35 0 k = if k = (if q = 1 then 2 else 78 + (8 * y + x)) then (if q = 1 then nI (8 * y + x) else nI 1) else g.1 35 0 k) := by
  obtain ⟨g1, u1, p1, f1⟩ := (takes_M (s := 0) hn (by decide) hT hP).1 q hK hq
  have c1 : pm_ev (166, 0, [vr 8 0, vi 1, vi 12, none], [], g) = some (some (vi (nI (rcW q))), g1) := u1
  have bx : x ≤ 7 := by have := (aNum_le (T := T) (n := n) (show 0 ≤ 7 by decide) (.inr (tE T n (tS T n p), f, pl))).2; rw [e1] at this; exact this
  have bY : y ≤ 7 := by have := (aNum_le (T := T) (n := n) (show 0 ≤ 7 by decide) σ1).2; rw [e2] at this; exact this
  obtain ⟨g2, u2, p2, m9, m10, f2⟩ := cell_M hn (hT.frL f1) p1
  rw [e1] at u2 p2 m9 m10
  dsimp only at u2 p2 m9 m10
  rw [e2] at u2 p2 m10
  dsimp only at u2 p2 m10
  have F : frK g g2 := f1.K.tr f2
  generalize hl : (if q = 1 then 2 else 78 + (8 * y + x)) = L
  generalize hv : (if q = 1 then nI (8 * y + x) else nI 1) = V
  obtain ⟨g4, e4, p4, f4⟩ := ends35 (g := g) (g' := pm_sI g2 35 0 L V) (σ := σ) hn hT (p2.fr (fun x _ _ => sI_tag _ _ _ _ _ _ (by decide)) (fun x _ _ => sI_tag _ _ _ _ _ _ (by decide))) (fun t i x h1 h2 h3 => by rw [pm_sI_at, if_neg (fun z => h3 ⟨z.1, z.2.1⟩)]; exact F.1 t i x (by omega) h2)
  have k8 : ∀ k, 9 ≤ k → g4.1 8 0 k = g2.1 8 0 k := fun k hk => by rw [f4.1 8 0 k (by omega) (by omega), sI_tag _ _ _ _ _ _ (by decide)]
  refine ⟨g4, ?_, p4, fun m hm => (m9 m (hm.fr (f1.1 8 0 9 (by omega) (by omega)))).fr (k8 9 (by omega)), fun m hm => (m10 m (hm.fr (f1.1 8 0 10 (by omega) (by omega)))).fr (k8 10 (by omega)), fun t i k h1 h2 h3 => ?_, by rw [f4.2]; exact F.2, fun k => ?_⟩
  · rw [E_X9_coastLine, c1, cI_s, E_X9_coastLine_12]
    rcases hq2 with e | e <;> subst e
    · rw [if_neg (by decide), if_neg (by decide), if_pos (by rfl), u2, cI_s, E_X9_coastLine_121, if_pos (by decide), E_X9_coastLine_182]
      rw [if_pos rfl] at hl hv
      subst hl; subst hv
      change pm_bV (pm_ev (167, 0, [vr 8 0], [], pm_sI g2 35 0 2 (nI (8 * y + x)))) _ = _
      rw [e4, cV_s]
    · rw [if_neg (by decide), if_neg (by decide), if_neg (by decide), if_pos (by rfl), u2, cI_s, show (78 : Int32) = nI 78 from rfl, E_X9_coastLine_135, nI_add, if_pos (inb_n (by omega) (by omega)), nn_clamp (by omega), E_X9_coastLine_182]
      rw [if_neg (by decide)] at hl hv
      subst hl; subst hv
      change pm_bV (pm_ev (167, 0, [vr 8 0], [], pm_sI g2 35 0 (78 + (8 * y + x)) (nI 1))) _ = _
      rw [e4, cV_s]
  · rw [f4.1 t i k (by omega) h2, pm_sI_at, if_neg (fun z => h3 ⟨z.1, z.2.1⟩)]; exact F.1 t i k h1 h2
  · rw [f4.1 35 0 k (by omega) (by omega), ← F.1 35 0 k (by omega) (by omega)]
    by_cases z : k = L
    · subst z; rw [sI_same, if_pos rfl]
    · rw [sI_pl _ _ _ _ _ z, if_neg z]
