theorem logW_M {g : PH} {T : Nat → Nat} {n p f pl : Nat} (hn : n ≤ 600) (hT : TapM g n T) (hP : PSt g T n (.inr (p, f, pl))) (hq : ¬ (tK T n (tS T n p) = 1 ∧ ∃ q, wdC T 2 (tS T n p) (tE T n (tS T n p)) = some q)) : ∃ g', pm_ev (177, 0, [vr 8 0, none, none], [], g) = some (none, g') ∧ PSt g' T n (.inl (tS T n p)) ∧ frL g g' := by
  obtain ⟨g1, e1, p1, f1⟩ := (takes_M (s := 2) hn (by decide) hT hP).2 hq
  have c1 : pm_ev (166, 0, [vr 8 0, vi 12, vi 16, none], [], g) = some (some (vi (nI 0)), g1) := e1
  obtain ⟨g4, e4, p4, f4⟩ := endsLine_M hn (hT.frL f1) p1
  refine ⟨g4, ?_, p4, f1.tr f4⟩
  rw [E_X9_logLine, c1, cI_s, if_pos (by rfl), E_X9_logLine_115, e4, cV_s]
theorem coastW_M {g : PH} {T : Nat → Nat} {n p f pl : Nat} (hn : n ≤ 600) (hT : TapM g n T) (hP : PSt g T n (.inr (p, f, pl))) (hq : ¬ (tK T n (tS T n p) = 1 ∧ ∃ q, wdC T 0 (tS T n p) (tE T n (tS T n p)) = some q)) : ∃ g', pm_ev (173, 0, [vr 8 0, none, none], [], g) = some (none, g') ∧ PSt g' T n (.inl (tS T n p)) ∧ frL g g' := by
  obtain ⟨g1, e1, p1, f1⟩ := (takes_M (s := 0) hn (by decide) hT hP).2 hq
  have c1 : pm_ev (166, 0, [vr 8 0, vi 1, vi 12, none], [], g) = some (some (vi (nI 0)), g1) := e1
  obtain ⟨g4, e4, p4, f4⟩ := endsLine_M hn (hT.frL f1) p1
  refine ⟨g4, ?_, p4, f1.tr f4⟩
  rw [E_X9_coastLine, c1, cI_s, E_X9_coastLine_12, if_pos (by rfl), E_X9_coastLine_182, e4, cV_s]
