def nnR (T : Nat → Nat) (n d : Nat) (σ : LnS) : Int × Int × Int × LnS :=
  if d = 3 then (-1, -1, -1, σ)
  else if d = 0 then ((aNum T n 0 3 σ).1, (aNum T n 0 3 (aNum T n 0 3 σ).2).1, -1, (aNum T n 0 3 (aNum T n 0 3 σ).2).2)
  else if d = 1 then ((aNum T n 0 3 σ).1, (aNum T n 0 3 (aNum T n 0 3 σ).2).1, (aNum T n 0 9 (aNum T n 0 3 (aNum T n 0 3 σ).2).2).1, (aNum T n 0 9 (aNum T n 0 3 (aNum T n 0 3 σ).2).2).2)
  else ((aNum T n 0 3 σ).1, -1, -1, (aNum T n 0 3 σ).2)
theorem nightN_M {g : PH} {T : Nat → Nat} {n d : Nat} {σ : LnS} {x2 : Int32} (hx : (x2 = nI d ∧ d < 4) ∨ (x2 = iI (-17) ∧ d = 2)) (hn : n ≤ 600) (hT : TapM g n T) (hP : PSt g T n σ) : ∃ g', pm_ev (174, 41, [vr 8 0, none, vi x2, none, none, none, none], [], g) = pm_ev (174, 94, [vr 8 0, none, vi x2, vi (iI (nnR T n d σ).1), vi (iI (nnR T n d σ).2.1), none, none], [vi (iI (nnR T n d σ).2.2.1)], g') ∧ PSt g' T n (nnR T n d σ).2.2.2 ∧ frL g g' := by
  obtain ⟨g1, e1, p1, f1⟩ := numbered_M hn hT hP (lo := 0) (hi := 3) (by decide) (by decide)
  obtain ⟨g2, e2, p2, f2⟩ := numbered_M hn (hT.frL f1) p1 (lo := 0) (hi := 3) (by decide) (by decide)
  obtain ⟨g3, e3, p3, f3⟩ := numbered_M hn ((hT.frL f1).frL f2) p2 (lo := 0) (hi := 9) (by decide) (by decide)
  have c1 : pm_ev (165, 0, [vr 8 0, vi 0, vi 3, none], [], g) = _ := e1
  have c2 : pm_ev (165, 0, [vr 8 0, vi 0, vi 3, none], [], g1) = _ := e2
  have c3 : pm_ev (165, 0, [vr 8 0, vi 0, vi 9, none], [], g2) = _ := e3
  rw [E_X9_nightLine_41]
  have two : ∀ x2 : Int32, ¬ x2 = 3 → ¬ x2 = 0 → ¬ x2 = 1 → ∃ g', (if x2 = 3 then pm_ev (174, 56, [vr 8 0, none, vi x2, none, none, none, none], [vi (-1)], g) else (pm_bI (pm_ev (165, 0, [vr 8 0, vi 0, vi 3, none], [], g)) fun r5 h4 => pm_ev (174, 56, [vr 8 0, none, vi x2, none, none, none, none], [vi r5], h4))) = pm_ev (174, 94, [vr 8 0, none, vi x2, vi (iI (nnR T n 2 σ).1), vi (iI (nnR T n 2 σ).2.1), none, none], [vi (iI (nnR T n 2 σ).2.2.1)], g') ∧ PSt g' T n (nnR T n 2 σ).2.2.2 ∧ frL g g' := fun x2 n3 n0 n1 => by
    refine ⟨g1, ?_, p1, f1⟩
    rw [if_neg n3, c1, cI_s, E_X9_nightLine_56, if_neg n0, if_neg n1, E_X9_nightLine_76, if_neg n1, ← iI_nat]
    rfl
  rcases hx with ⟨rfl, hd⟩ | ⟨rfl, rfl⟩
  · have dd : d = 0 ∨ d = 1 ∨ d = 2 ∨ d = 3 := by omega
    rcases dd with e | e | e | e <;> subst e
    · refine ⟨g2, ?_, p2, f1.tr f2⟩
      rw [if_neg (by decide), c1, cI_s, E_X9_nightLine_56, if_pos (by rfl), E_X9_nightLine_66, c2, cI_s, E_X9_nightLine_72, E_X9_nightLine_76, if_neg (by decide), ← iI_nat, ← iI_nat (aNum T n 0 3 (aNum T n 0 3 σ).2).1]
      rfl
    · refine ⟨g3, ?_, p3, (f1.tr f2).tr f3⟩
      rw [if_neg (by decide), c1, cI_s, E_X9_nightLine_56, if_neg (by decide), if_pos (by rfl), E_X9_nightLine_66, c2, cI_s, E_X9_nightLine_72, E_X9_nightLine_76, if_pos (by rfl), c3, cI_s, E_X9_nightLine_90, ← iI_nat (aNum T n 0 3 σ).1, ← iI_nat (aNum T n 0 3 (aNum T n 0 3 σ).2).1, ← iI_nat (aNum T n 0 9 (aNum T n 0 3 (aNum T n 0 3 σ).2).2).1]
      rfl
    · exact two _ (by decide) (by decide) (by decide)
    · refine ⟨g, ?_, hP, frL.rf g⟩
      rw [if_pos (by rfl), E_X9_nightLine_56, if_neg (by decide), if_neg (by decide), E_X9_nightLine_76, if_neg (by decide)]
      rfl
  · exact two _ (by decide) (by decide) (by decide)
