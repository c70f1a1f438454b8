/-! ===== a man's line in the reference ===== -/
def mnR (T : Nat → Nat) (n d : Nat) (σ : LnS) : Nat × Nat × LnS :=
  if d = 0 ∨ d = 3 then ((aNum T n 0 9 σ).1, 0, (aNum T n 0 9 σ).2)
  else if d = 2 then ((aNum T n 0 9 σ).1, (aNum T n 0 23 (aNum T n 0 9 σ).2).1, (aNum T n 0 23 (aNum T n 0 9 σ).2).2)
  else if d = 5 then ((aNum T n 0 3 σ).1, 0, (aNum T n 0 3 σ).2)
  else (0, 0, σ)
def frJ (g g' : PH) : Prop := (∀ t i x, ¬ (t = 8 ∧ i = 0 ∧ ((3 ≤ x ∧ x ≤ 8) ∨ x = 11)) → ¬ (t = 33 ∧ i = 0 ∧ 5 ≤ x ∧ x ≤ 6) → g'.1 t i x = g.1 t i x) ∧ g'.2 = g.2
theorem frJ.rf (g : PH) : frJ g g := ⟨fun _ _ _ _ _ => rfl, rfl⟩
theorem frJ.tr {a b c : PH} (h1 : frJ a b) (h2 : frJ b c) : frJ a c := ⟨fun t i x h h' => (h2.1 t i x h h').trans (h1.1 t i x h h'), h2.2.trans h1.2⟩
theorem frL.J {a b : PH} (h : frL a b) : frJ a b := ⟨fun t i x h1 h2 => h.1 t i x (fun z => h1 ⟨z.1, z.2.1, Or.inl ⟨z.2.2.1, z.2.2.2⟩⟩) h2, h.2⟩
theorem shipTold_M {g : PH} {T : Nat → Nat} {n : Nat} {σ : LnS} (hn : n ≤ 600) (hT : TapM g n T) (hP : PSt g T n σ) : ∃ g', pm_ev (171, 0, [vr 8 0, none], [], g) = some (some (vi (nI (aNum T n 0 3 σ).1)), g') ∧ PSt g' T n (aNum T n 0 3 σ).2 ∧ frJ g g' ∧ ∀ z : Int, -1 ≤ z → z ≤ 3 → g.1 8 0 11 = iI z → g'.1 8 0 11 = iI (max z (aNum T n 0 3 σ).1) := by
  obtain ⟨g1, e1, p1, f1⟩ := numbered_M hn hT hP (lo := 0) (hi := 3) (by decide) (by decide)
  have b1 := (aNum_le (T := T) (n := n) (show 0 ≤ 3 by decide) σ).2
  generalize (aNum T n 0 3 σ).1 = x at *
  generalize (aNum T n 0 3 σ).2 = σ1 at *
  refine ⟨pm_sI g1 8 0 11 (if g1.1 8 0 11 < nI x then nI x else g1.1 8 0 11), ?_, PSt.fr (fun k h1 h2 => sI_pl _ _ _ _ _ (by omega)) (fun k h1 h2 => sI_tag _ _ _ _ _ _ (by decide)) p1, f1.J.tr ⟨fun t i y h _ => by rw [pm_sI_at, if_neg (fun q => h ⟨q.1, q.2.1, Or.inr q.2.2⟩)], rfl⟩, fun z z1 z2 hz => ?_⟩
  · rw [E_X9_shipTold]
    change pm_bI (pm_ev (165, 0, [vr 8 0, vi (nI 0), vi (nI 3), none], [], g)) _ = _
    rw [e1, cI_s]
    by_cases q : g1.1 8 0 11 < nI x
    · rw [if_pos q, if_pos q]
    · rw [if_neg q, if_neg q]
  · have e : g1.1 8 0 11 = iI z := (f1.1 8 0 11 (by omega) (by omega)).trans hz
    rw [sI_same, e]
    by_cases q : z < x
    · rw [if_pos ((in_lt (by omega) (by omega) (by omega)).mpr q), Int.max_eq_right (by omega), iI_nat]
    · rw [if_neg (fun w => q ((in_lt (by omega) (by omega) (by omega)).mp w)), Int.max_eq_left (by omega)]
theorem manA_M {g : PH} {T : Nat → Nat} {n d : Nat} {σ : LnS} (x3 x4 : Int32) (hd : d < 6) (hn : n ≤ 600) (hT : TapM g n T) (hP : PSt g T n σ) : ∃ g', pm_ev (172, 62, [vr 8 0, none, vi (nI d), vi x3, vi x4, none, none, none], [], g) = pm_ev (172, 117, [vr 8 0, none, vi (nI d), vi x3, vi x4, vi (nI (mnR T n d σ).1), none, none], [vi (nI (mnR T n d σ).2.1)], g') ∧ PSt g' T n (mnR T n d σ).2.2 ∧ frJ g g' ∧ ∀ z : Int, -1 ≤ z → z ≤ 3 → g.1 8 0 11 = iI z → g'.1 8 0 11 = iI (if d = 5 then max z (mnR T n d σ).1 else z) := by
  have dd : d = 0 ∨ d = 1 ∨ d = 2 ∨ d = 3 ∨ d = 4 ∨ d = 5 := by omega
  obtain ⟨g1, e1, p1, f1⟩ := numbered_M hn hT hP (lo := 0) (hi := 9) (by decide) (by decide)
  have keep : ∀ g', frL g g' → ∀ z : Int, -1 ≤ z → z ≤ 3 → g.1 8 0 11 = iI z → g'.1 8 0 11 = iI z := fun g' f z _ _ hz => (f.1 8 0 11 (by omega) (by omega)).trans hz
  rw [E_X9_manLine_62]
  rcases dd with e | e | e | e | e | e <;> subst e
  · refine ⟨g1, ?_, p1, f1.J, keep g1 f1⟩
    rw [if_pos (by rfl), E_X9_manLine_76]
    change pm_bI (pm_ev (165, 0, [vr 8 0, vi (nI 0), vi (nI 9), none], [], g)) _ = _
    rw [e1, cI_s, E_X9_manLine_83, E_X9_manLine_99, if_neg (by decide)]
    rfl
  · refine ⟨g, ?_, hP, frJ.rf g, fun z _ _ hz => hz⟩
    rw [if_neg (by decide), if_neg (by decide), if_neg (by decide), E_X9_manLine_86, if_neg (by decide), E_X9_manLine_99, if_neg (by decide)]
    rfl
  · obtain ⟨g2, e2, p2, f2⟩ := numbered_M hn (hT.frL f1) p1 (lo := 0) (hi := 23) (by decide) (by decide)
    refine ⟨g2, ?_, p2, (f1.tr f2).J, keep g2 (f1.tr f2)⟩
    rw [if_neg (by decide), if_pos (by rfl), E_X9_manLine_76]
    change pm_bI (pm_ev (165, 0, [vr 8 0, vi (nI 0), vi (nI 9), none], [], g)) _ = _
    rw [e1, cI_s, E_X9_manLine_83, E_X9_manLine_99, if_pos (by rfl)]
    change pm_bI (pm_ev (165, 0, [vr 8 0, vi (nI 0), vi (nI 23), none], [], g1)) _ = _
    rw [e2, cI_s, E_X9_manLine_113]
    rfl
  · refine ⟨g1, ?_, p1, f1.J, keep g1 f1⟩
    rw [if_neg (by decide), if_neg (by decide), if_pos (by rfl), E_X9_manLine_76]
    change pm_bI (pm_ev (165, 0, [vr 8 0, vi (nI 0), vi (nI 9), none], [], g)) _ = _
    rw [e1, cI_s, E_X9_manLine_83, E_X9_manLine_99, if_neg (by decide)]
    rfl
  · refine ⟨g, ?_, hP, frJ.rf g, fun z _ _ hz => hz⟩
    rw [if_neg (by decide), if_neg (by decide), if_neg (by decide), E_X9_manLine_86, if_neg (by decide), E_X9_manLine_99, if_neg (by decide)]
    rfl
  · obtain ⟨g2, e2, p2, f2, k2⟩ := shipTold_M hn hT hP
    refine ⟨g2, ?_, p2, f2, k2⟩
    rw [if_neg (by decide), if_neg (by decide), if_neg (by decide), E_X9_manLine_86, if_pos (by rfl), e2, cI_s, E_X9_manLine_95, E_X9_manLine_99, if_neg (by decide)]
    rfl
