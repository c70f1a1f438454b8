/-! ===== a coast's line in the reference: the rest ===== -/
def fr35 (g g' : PH) : Prop := (∀ t i x, ¬ (t = 8 ∧ i = 0 ∧ 3 ≤ x ∧ x ≤ 11) → ¬ (t = 33 ∧ i = 0 ∧ 5 ≤ x ∧ x ≤ 6) → ¬ (t = 35 ∧ i = 0) → g'.1 t i x = g.1 t i x) ∧ g'.2 = g.2
theorem fr35.rf (g : PH) : fr35 g g := ⟨fun _ _ _ _ _ _ => rfl, rfl⟩
theorem fr35.tr {a b c : PH} (h1 : fr35 a b) (h2 : fr35 b c) : fr35 a c := ⟨fun t i x h h' h'' => (h2.1 t i x h h' h'').trans (h1.1 t i x h h' h''), h2.2.trans h1.2⟩
theorem frL.o {a b : PH} (h : frL a b) : fr35 a b := ⟨fun t i x h1 h2 _ => h.1 t i x (fun z => h1 ⟨z.1, z.2.1, z.2.2.1, by omega⟩) h2, h.2⟩
theorem frJ.o {a b : PH} (h : frJ a b) : fr35 a b := ⟨fun t i x h1 h2 _ => h.1 t i x (fun z => h1 ⟨z.1, z.2.1, by omega, by omega⟩) h2, h.2⟩
theorem fr35.s35 (g : PH) (x : Nat) (v : Int32) : fr35 g (pm_sI g 35 0 x v) := ⟨fun t i y _ _ h => by rw [pm_sI_at, if_neg (fun q => h ⟨q.1, q.2.1⟩)], rfl⟩
theorem TapM.o {g g' : PH} {n : Nat} {T : Nat → Nat} (hf : fr35 g g') (hT : TapM g n T) : TapM g' n T := ⟨(hf.1 8 0 2 (by omega) (by omega) (by omega)).trans hT.1, fun k hk => ⟨(hT.2 k hk).1, (hf.1 33 0 _ (by omega) (by omega) (by omega)).trans (hT.2 k hk).2⟩⟩
theorem cEnd_M {g g' : PH} {T : Nat → Nat} {n : Nat} {σ : LnS} (hn : n ≤ 600) (hT : TapM g n T) (hf : fr35 g g') (hP : PSt g' T n σ) : ∃ g2, pm_ev (173, 182, [vr 8 0, none, none], [], g') = some (none, g2) ∧ PSt g2 T n (aEnd T n σ) ∧ frL g' g2 := by
  obtain ⟨g2, e, p, f⟩ := endsLine_M hn (hT.o hf) hP
  exact ⟨g2, by rw [E_X9_coastLine_182, e, cV_s], p, f⟩
theorem coast0_M {g : PH} {T : Nat → Nat} {n p f pl : Nat} (hn : n ≤ 600) (hT : TapM g n T) (hP : PSt g T n (.inr (p, f, pl))) (hK : tK T n (tS T n p) = 1) (hq : wdC T 0 (tS T n p) (tE T n (tS T n p)) = some 0) {x y : Nat} {σ1 σ : LnS} (er : aNum T n 2 8 (.inr (tE T n (tS T n p), f, pl)) = (x, σ1)) (er2 : aNum T n 2 8 σ1 = (y, σ)) : ∃ g', pm_ev (173, 0, [vr 8 0, none, none], [], g) = some (none, g') ∧ PSt g' T n (aEnd T n σ) ∧ (∀ t i x, ¬ (t = 8 ∧ i = 0 ∧ 3 ≤ x ∧ x ≤ 8) → ¬ (t = 33 ∧ i = 0 ∧ 5 ≤ x ∧ x ≤ 6) → ¬ (t = 35 ∧ i = 0) → g'.1 t i x = g.1 t i x) ∧ g'.2 = g.2 ∧ (∀ k, g'.1 35 0 k = if k = 1 then nI y else if k = 0 then nI x else g.1 35 0 k) := by
  obtain ⟨g1, e1, p1, f1⟩ := (takes_M (s := 0) hn (by decide) hT hP).1 0 hK hq
  have c1 : pm_ev (166, 0, [vr 8 0, vi 1, vi 12, none], [], g) = some (some (vi (nI (rcW 0))), g1) := e1
  obtain ⟨g2, e2, p2, f2⟩ := numbered_M hn (hT.frL f1) p1 (lo := 2) (hi := 8) (by decide) (by decide)
  rw [er] at e2 p2
  dsimp only at e2 p2
  have c2 : pm_ev (165, 0, [vr 8 0, vi 2, vi 8, none], [], g1) = some (some (vi (nI x)), g2) := e2
  have F := f1.tr f2
  have p3 : PSt (pm_sI g2 35 0 0 (nI x)) T n σ1 := p2.fr (fun x _ _ => sI_tag _ _ _ _ _ _ (by decide)) (fun x _ _ => sI_tag _ _ _ _ _ _ (by decide))
  obtain ⟨g4, e4, p4, f4⟩ := numbered_M hn (hT.o (F.o.tr (fr35.s35 g2 0 (nI x)))) p3 (lo := 2) (hi := 8) (by decide) (by decide)
  rw [er2] at e4 p4
  dsimp only at e4 p4
  have c4 : pm_ev (165, 0, [vr 8 0, vi 2, vi 8, none], [], pm_sI g2 35 0 0 (nI x)) = some (some (vi (nI y)), g4) := e4
  have p5 : PSt (pm_sI g4 35 0 1 (nI y)) T n σ := p4.fr (fun x _ _ => sI_tag _ _ _ _ _ _ (by decide)) (fun x _ _ => sI_tag _ _ _ _ _ _ (by decide))
  obtain ⟨g6, e6, p6, f6⟩ := cEnd_M hn hT (((F.o.tr (fr35.s35 g2 0 (nI x))).tr f4.o).tr (fr35.s35 g4 1 (nI y))) p5
  refine ⟨g6, ?_, p6, fun t i x h1 h2 h3 => ?_, ?_, fun k => ?_⟩
  · rw [E_X9_coastLine, c1, cI_s, E_X9_coastLine_12, if_neg (by decide), if_pos (by rfl), c2, cI_s, E_X9_coastLine_95, if_pos (by decide), E_X9_coastLine_96]
    change pm_bI (pm_ev (165, 0, [vr 8 0, vi 2, vi 8, none], [], pm_sI g2 35 0 0 (nI x))) _ = _
    rw [c4, cI_s, E_X9_coastLine_108, if_pos (by decide)]
    exact e6
  · rw [f6.1 t i x h1 h2, pm_sI_at, if_neg (fun z => h3 ⟨z.1, z.2.1⟩), f4.1 t i x h1 h2, pm_sI_at, if_neg (fun z => h3 ⟨z.1, z.2.1⟩)]; exact F.1 t i x h1 h2
  · rw [f6.2, show (pm_sI g4 35 0 1 (nI y)).2 = g4.2 from rfl, f4.2]; exact F.2
  · rw [f6.1 35 0 k (by omega) (by omega)]
    by_cases z : k = 1
    · subst z; rw [sI_same, if_pos rfl]
    · rw [if_neg z, sI_pl _ _ _ _ _ z, f4.1 35 0 k (by omega) (by omega)]
      by_cases z0 : k = 0
      · subst z0; rw [sI_same, if_pos rfl]
      · rw [if_neg z0, sI_pl _ _ _ _ _ z0]; exact F.1 35 0 k (by omega) (by omega)
/-- a guard -/
theorem coast3_M {g : PH} {T : Nat → Nat} {n p f pl a : Nat} (hn : n ≤ 600) (hT : TapM g n T) (hP : PSt g T n (.inr (p, f, pl))) (hw : tS T n p < n) (hK : tK T n (tS T n p) = 1) (hq : wdC T 0 (tS T n p) (tE T n (tS T n p)) = some 3) (ha : a ≤ 4) (h4 : g.1 35 0 4 = nI a) {x y r : Nat} {σ σ1 σ2 : LnS} (e1 : aNum T n 0 7 (gdS a f pl (tS T n p) (tE T n (tS T n p))) = (x, σ1)) (e2 : aNum T n 0 7 σ1 = (y, σ2)) (e3 : aNum T n 0 7 σ2 = (r, σ)) : ∃ g', pm_ev (173, 0, [vr 8 0, none, none], [], g) = some (none, g') ∧ PSt g' T n (aEnd T n σ) ∧ (∀ m, mrk g 9 m → mrk g' 9 (max m x)) ∧ (∀ m, mrk g 10 m → mrk g' 10 (max m y)) ∧ (∀ t i k, ¬ (t = 8 ∧ i = 0 ∧ 3 ≤ k ∧ k ≤ 10) → ¬ (t = 33 ∧ i = 0 ∧ 5 ≤ k ∧ k ≤ 6) → ¬ (t = 35 ∧ i = 0) → g'.1 t i k = g.1 t i k) ∧ g'.2 = g.2 ∧ (∀ k, g'.1 35 0 k = if a = 4 then g.1 35 0 k else if k = 4 then nI (a + 1) else if k = 6+2*a+1 then nI r else if k = 6+2*a then nI (8 * y + x) else g.1 35 0 k) := by
  have hpl : f ≠ 0 → pl < tS T n p := fun z => Nat.lt_of_lt_of_le (hP.2.2.2.2.2.2 z) (tS_le hP.2.2.1).1
  have w4 : g.1 8 0 4 = nI (tS T n p) := hP.2.1.1
  have gt := tE_gt (T := T) hw
  obtain ⟨g1, u1, p1, f1⟩ := (takes_M (s := 0) hn (by decide) hT hP).1 3 hK hq
  have c1 : pm_ev (166, 0, [vr 8 0, vi 1, vi 12, none], [], g) = some (some (vi (nI (rcW 3))), g1) := u1
  obtain ⟨g2, u2, p2, m9, m10, o2, l2, k2⟩ := guard_M hn (hT.frL f1) p1 gt hpl ha ((f1.1 35 0 4 (by omega) (by omega)).trans h4) e1 e2 e3
  have F : fr35 g g2 := f1.o.tr ⟨fun t i x h1 h2 h3 => o2 t i x (fun z => h1 ⟨z.1, z.2.1, z.2.2.1, by omega⟩) h2 h3, l2⟩
  obtain ⟨g3, u3, p3, f3⟩ := cEnd_M hn hT F p2
  refine ⟨g3, ?_, p3, fun m hm => (m9 m (hm.fr (f1.1 8 0 9 (by omega) (by omega)))).fr (f3.1 8 0 9 (by omega) (by omega)), fun m hm => (m10 m (hm.fr (f1.1 8 0 10 (by omega) (by omega)))).fr (f3.1 8 0 10 (by omega) (by omega)), fun t i k h1 h2 h3 => ?_, by rw [f3.2]; exact F.2, fun k => ?_⟩
  · rw [E_X9_coastLine, c1, cI_s, w4, E_X9_coastLine_12, if_neg (by decide), if_neg (by decide), if_neg (by decide), if_neg (by decide), if_pos (by rfl), u2, cV_s, E_X9_coastLine_146, u3]
  · rw [f3.1 t i k (by omega) h2, o2 t i k h1 h2 h3, f1.1 t i k (by omega) h2]
  · rw [f3.1 35 0 k (by omega) (by omega), k2 k, f1.1 35 0 k (by omega) (by omega)]
/-- a ship -/
theorem coast4_M {g : PH} {T : Nat → Nat} {n p f pl a : Nat} (hn : n ≤ 600) (hT : TapM g n T) (hP : PSt g T n (.inr (p, f, pl))) (hw : tS T n p < n) (hK : tK T n (tS T n p) = 1) (hq : wdC T 0 (tS T n p) (tE T n (tS T n p)) = some 4) (ha : a ≤ 4) (h5 : g.1 35 0 5 = nI a) {x y r u : Nat} {σ σ1 σ2 σ3 : LnS} (e1 : aNum T n 0 7 (gdS a f pl (tS T n p) (tE T n (tS T n p))) = (x, σ1)) (e2 : aNum T n 0 7 σ1 = (y, σ2)) (e3 : aNum T n 0 9 σ2 = (r, σ3)) (e4 : aNum T n 0 9 σ3 = (u, σ)) : ∃ g', pm_ev (173, 0, [vr 8 0, none, none], [], g) = some (none, g') ∧ PSt g' T n (aEnd T n σ) ∧ (∀ m, mrk g 9 m → mrk g' 9 (max m x)) ∧ (∀ m, mrk g 10 m → mrk g' 10 (max m y)) ∧ (∀ t i k, ¬ (t = 8 ∧ i = 0 ∧ 3 ≤ k ∧ k ≤ 10) → ¬ (t = 33 ∧ i = 0 ∧ 5 ≤ k ∧ k ≤ 6) → ¬ (t = 35 ∧ i = 0) → g'.1 t i k = g.1 t i k) ∧ g'.2 = g.2 ∧ (∀ k, g'.1 35 0 k = if a = 4 then g.1 35 0 k else if k = 5 then nI (a + 1) else if k = 14+4*a+2 then nI u else if k = 14+4*a+1 then nI r else if k = 14+4*a then nI (8 * y + x) else g.1 35 0 k) := by
  have hpl : f ≠ 0 → pl < tS T n p := fun z => Nat.lt_of_lt_of_le (hP.2.2.2.2.2.2 z) (tS_le hP.2.2.1).1
  have w4 : g.1 8 0 4 = nI (tS T n p) := hP.2.1.1
  have gt := tE_gt (T := T) hw
  obtain ⟨g1, u1, p1, f1⟩ := (takes_M (s := 0) hn (by decide) hT hP).1 4 hK hq
  have c1 : pm_ev (166, 0, [vr 8 0, vi 1, vi 12, none], [], g) = some (some (vi (nI (rcW 4))), g1) := u1
  obtain ⟨g2, u2, p2, m9, m10, o2, l2, k2⟩ := ship_M hn (hT.frL f1) p1 gt hpl ha ((f1.1 35 0 5 (by omega) (by omega)).trans h5) e1 e2 e3 e4
  have F : fr35 g g2 := f1.o.tr ⟨fun t i x h1 h2 h3 => o2 t i x (fun z => h1 ⟨z.1, z.2.1, z.2.2.1, by omega⟩) h2 h3, l2⟩
  obtain ⟨g3, u3, p3, f3⟩ := cEnd_M hn hT F p2
  refine ⟨g3, ?_, p3, fun m hm => (m9 m (hm.fr (f1.1 8 0 9 (by omega) (by omega)))).fr (f3.1 8 0 9 (by omega) (by omega)), fun m hm => (m10 m (hm.fr (f1.1 8 0 10 (by omega) (by omega)))).fr (f3.1 8 0 10 (by omega) (by omega)), fun t i k h1 h2 h3 => ?_, by rw [f3.2]; exact F.2, fun k => ?_⟩
  · rw [E_X9_coastLine, c1, cI_s, w4, E_X9_coastLine_12, if_neg (by decide), if_neg (by decide), if_neg (by decide), if_neg (by decide), if_neg (by decide), if_pos (by rfl), u2, cV_s, E_X9_coastLine_154, u3]
  · rw [f3.1 t i k (by omega) h2, o2 t i k h1 h2 h3, f1.1 t i k (by omega) h2]
  · rw [f3.1 35 0 k (by omega) (by omega), k2 k, f1.1 35 0 k (by omega) (by omega)]
theorem coast_man (h : PH) (x1 : Int32) {d : Nat} (hd : d < 6) : pm_ev (173, 12, [vr 8 0, vi x1, none], [vi (nI (rcW (6 + d)))], h) = pm_bV (pm_ev (172, 0, [vr 8 0, vi x1, vi (nI d), none, none, none, none, none], [], h)) fun h11 => pm_ev (173, 182, [vr 8 0, none, none], [], h11) := by
  have dd : d = 0 ∨ d = 1 ∨ d = 2 ∨ d = 3 ∨ d = 4 ∨ d = 5 := by omega
  rw [E_X9_coastLine_12]
  rcases dd with e | e | e | e | e | e <;> subst e
  · rw [if_neg (by decide), if_neg (by decide), if_neg (by decide), if_neg (by decide), if_neg (by decide), if_neg (by decide), if_pos (by rfl)]; rfl
  · rw [if_neg (by decide), if_neg (by decide), if_neg (by decide), if_neg (by decide), if_neg (by decide), if_neg (by decide), if_neg (by decide), if_pos (by rfl)]; rfl
  · rw [if_neg (by decide), if_neg (by decide), if_neg (by decide), if_neg (by decide), if_neg (by decide), if_neg (by decide), if_neg (by decide), if_neg (by decide), if_pos (by rfl)]; rfl
  · rw [if_neg (by decide), if_neg (by decide), if_neg (by decide), if_neg (by decide), if_neg (by decide), if_neg (by decide), if_neg (by decide), if_neg (by decide), if_neg (by decide), if_pos (by rfl)]; rfl
  · rw [if_neg (by decide), if_neg (by decide), if_neg (by decide), if_neg (by decide), if_neg (by decide), if_neg (by decide), if_neg (by decide), if_neg (by decide), if_neg (by decide), if_neg (by decide), if_pos (by rfl)]; rfl
  · rw [if_neg (by decide), if_neg (by decide), if_neg (by decide), if_neg (by decide), if_neg (by decide), if_neg (by decide), if_neg (by decide), if_neg (by decide), if_neg (by decide), if_neg (by decide), if_neg (by decide), if_pos (by rfl)]; rfl
/-- a man where there is no ship -/
theorem coastM0_M {g : PH} {T : Nat → Nat} {n p f pl d : Nat} (hd : d < 6) (hn : n ≤ 600) (hT : TapM g n T) (hP : PSt g T n (.inr (p, f, pl))) (hw : tS T n p < n) (hK : tK T n (tS T n p) = 1) (hq : wdC T 0 (tS T n p) (tE T n (tS T n p)) = some (6 + d)) (h5 : g.1 35 0 5 = nI 0) : ∃ g', pm_ev (173, 0, [vr 8 0, none, none], [], g) = some (none, g') ∧ PSt g' T n (aEnd T n (mnR T n d (mdS 0 0 f pl (tS T n p) (tE T n (tS T n p)))).2.2) ∧ frJ g g' := by
  have hpl : f ≠ 0 → pl < tS T n p := fun z => Nat.lt_of_lt_of_le (hP.2.2.2.2.2.2 z) (tS_le hP.2.2.1).1
  have w4 : g.1 8 0 4 = nI (tS T n p) := hP.2.1.1
  have gt := tE_gt (T := T) hw
  obtain ⟨g1, u1, p1, f1⟩ := (takes_M (s := 0) hn (by decide) hT hP).1 (6 + d) hK hq
  have c1 : pm_ev (166, 0, [vr 8 0, vi 1, vi 12, none], [], g) = some (some (vi (nI (rcW (6 + d)))), g1) := u1
  obtain ⟨g2, u2, p2, f2⟩ := man0_M hd hn (hT.frL f1) p1 gt hpl ((f1.1 35 0 5 (by omega) (by omega)).trans h5)
  obtain ⟨g3, u3, p3, f3⟩ := cEnd_M hn hT (f1.o.tr f2.o) p2
  refine ⟨g3, ?_, p3, (f1.J.tr f2).tr f3.J⟩
  rw [E_X9_coastLine, c1, cI_s, w4, coast_man _ _ hd, u2, cV_s, u3]
/-- a man of ship b -/
theorem coastM1_M {g : PH} {T : Nat → Nat} {n p f pl d b m : Nat} (hd : d < 6) (hb : b < 4) (hm : m ≤ 4) (hn : n ≤ 600) (hT : TapM g n T) (hP : PSt g T n (.inr (p, f, pl))) (hw : tS T n p < n) (hK : tK T n (tS T n p) = 1) (hq : wdC T 0 (tS T n p) (tE T n (tS T n p)) = some (6 + d)) (h5 : g.1 35 0 5 = nI (b + 1)) (h3 : g.1 35 0 (14+4*b+3) = nI m) {v0 v1 : Nat} {σ : LnS} (er : mnR T n d (mdS (b + 1) m f pl (tS T n p) (tE T n (tS T n p))) = (v0, v1, σ)) : ∃ g', pm_ev (173, 0, [vr 8 0, none, none], [], g) = some (none, g') ∧ PSt g' T n (aEnd T n σ) ∧ (∀ z : Int, -1 ≤ z → z ≤ 3 → g.1 8 0 11 = iI z → g'.1 8 0 11 = iI (if d = 5 then max z v0 else z)) ∧ (∀ t i x, ¬ (t = 8 ∧ i = 0 ∧ ((3 ≤ x ∧ x ≤ 8) ∨ x = 11)) → ¬ (t = 33 ∧ i = 0 ∧ 5 ≤ x ∧ x ≤ 6) → ¬ (t = 35 ∧ i = 0) → g'.1 t i x = g.1 t i x) ∧ g'.2 = g.2 ∧ (∀ k, g'.1 35 0 k = if m = 4 then g.1 35 0 k else if k = 14+4*b+3 then nI (m + 1) else if k = 30+12*b+3*m+2 then nI v1 else if k = 30+12*b+3*m+1 then nI v0 else if k = 30+12*b+3*m then nI d else g.1 35 0 k) := by
  have hpl : f ≠ 0 → pl < tS T n p := fun z => Nat.lt_of_lt_of_le (hP.2.2.2.2.2.2 z) (tS_le hP.2.2.1).1
  have w4 : g.1 8 0 4 = nI (tS T n p) := hP.2.1.1
  have gt := tE_gt (T := T) hw
  obtain ⟨g1, u1, p1, f1⟩ := (takes_M (s := 0) hn (by decide) hT hP).1 (6 + d) hK hq
  have c1 : pm_ev (166, 0, [vr 8 0, vi 1, vi 12, none], [], g) = some (some (vi (nI (rcW (6 + d)))), g1) := u1
  obtain ⟨g2, u2, p2, z2, o2, l2, k2⟩ := man1_M hd hb hm hn (hT.frL f1) p1 gt hpl ((f1.1 35 0 5 (by omega) (by omega)).trans h5) ((f1.1 35 0 _ (by omega) (by omega)).trans h3) er
  have F : fr35 g g2 := f1.o.tr ⟨fun t i x h1 h2 h3 => o2 t i x (fun z => h1 ⟨z.1, z.2.1, by omega, by omega⟩) h2 h3, l2⟩
  obtain ⟨g3, u3, p3, f3⟩ := cEnd_M hn hT F p2
  refine ⟨g3, ?_, p3, fun z z1 z3 hz => ?_, fun t i k h1 h2 h3 => ?_, by rw [f3.2]; exact F.2, fun k => ?_⟩
  · rw [E_X9_coastLine, c1, cI_s, w4, coast_man _ _ hd, u2, cV_s, u3]
  · rw [f3.1 8 0 11 (by omega) (by omega)]
    exact z2 z z1 z3 ((f1.1 8 0 11 (by omega) (by omega)).trans hz)
  · rw [f3.1 t i k (by omega) h2, o2 t i k h1 h2 h3, f1.1 t i k (by omega) h2]
  · rw [f3.1 35 0 k (by omega) (by omega), k2 k, f1.1 35 0 k (by omega) (by omega)]
