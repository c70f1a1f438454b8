/-- a line whose word is not known, of each sort -/
theorem nightW_M {g : PH} {T : Nat → Nat} {n p f pl a : Nat} (hn : n ≤ 600) (hT : TapM g n T) (hP : PSt g T n (.inr (p, f, pl))) (hq : ¬ (tK T n (tS T n p) = 1 ∧ ∃ q, wdC T 1 (tS T n p) (tE T n (tS T n p)) = some q)) (ha : a ≤ 40) (h0 : g.1 35 0 0 = nI a) : ∃ g', pm_ev (174, 0, [vr 8 0, none, none, none, none, none, none], [], g) = some (none, g') ∧ PSt g' T n (.inl (tS T n p)) ∧ (∀ t i x, ¬ (t = 8 ∧ i = 0 ∧ 3 ≤ x ∧ x ≤ 8) → ¬ (t = 33 ∧ i = 0 ∧ 5 ≤ x ∧ x ≤ 6) → ¬ (t = 35 ∧ i = 0) → g'.1 t i x = g.1 t i x) ∧ g'.2 = g.2 ∧ g'.1 35 0 0 = nI (if a = 40 then a else a + 1) := by
  obtain ⟨g1, e1, p1, f1⟩ := (takes_M (s := 1) hn (by decide) hT hP).2 hq
  have c1 : pm_ev (166, 0, [vr 8 0, vi 17, vi 20, none], [], g) = some (some (vi (nI 0)), g1) := e1
  have s0 : pm_ev (174, 0, [vr 8 0, none, none, none, none, none, none], [], g) = pm_ev (174, 41, [vr 8 0, none, vi (iI (-17)), none, none, none, none], [], g1) := by
    rw [E_X9_nightLine, c1, cI_s, E_X9_nightLine_13, p1.1, if_neg (by decide)]
    rfl
  obtain ⟨g2, e2, p2, f2⟩ := nightN_M (d := 2) (Or.inr ⟨rfl, rfl⟩) hn (hT.frL f1) p1
  have p2 : PSt g2 T n (.inl (tS T n p)) := p2
  have F := f1.tr f2
  obtain ⟨g3, e3, o3, l3, k3⟩ := night94_M (iI (-17)) (iI (nnR T n 2 (.inl (tS T n p))).1) (iI (nnR T n 2 (.inl (tS T n p))).2.1) (iI (nnR T n 2 (.inl (tS T n p))).2.2.1) ha ((F.1 35 0 0 (by omega) (by omega)).trans h0)
  have p3 : PSt g3 T n (.inl (tS T n p)) := p2.fr (fun x _ _ => o3 8 0 x (by omega)) (fun x _ _ => o3 33 0 x (by omega))
  have T3 : TapM g3 n T := ⟨(o3 8 0 2 (by omega)).trans (hT.frL F).1, fun k hk => ⟨((hT.frL F).2 k hk).1, (o3 33 0 _ (by omega)).trans ((hT.frL F).2 k hk).2⟩⟩
  obtain ⟨g4, e4, p4, f4⟩ := endsLine_M hn T3 p3
  refine ⟨g4, ?_, p4, fun t i x h1 h2 h3 => ?_, ?_, ?_⟩
  · rw [s0, e2, e3, E_X9_nightLine_169, e4, cV_s]
  · rw [f4.1 t i x h1 h2, o3 t i x h3, F.1 t i x h1 h2]
  · rw [f4.2, l3, F.2]
  · rw [f4.1 35 0 0 (by omega) (by omega), k3 0]
    by_cases q : a = 40
    · rw [if_pos q, if_pos q, F.1 35 0 0 (by omega) (by omega)]; exact h0
    · rw [if_neg q, if_neg q, if_pos rfl]
