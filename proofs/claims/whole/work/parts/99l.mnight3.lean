/-- a night's line whose word is known -/
theorem nightL_M {g : PH} {T : Nat → Nat} {n p f pl a d : Nat} (hd : d < 4) (hn : n ≤ 600) (hT : TapM g n T) (hP : PSt g T n (.inr (p, f, pl))) (hw : tS T n p < n) (hK : tK T n (tS T n p) = 1) (hq : wdC T 1 (tS T n p) (tE T n (tS T n p)) = some (12 + d)) (ha : a ≤ 40) (h0 : g.1 35 0 0 = nI a) {v0 v1 v2 : Int} {σ : LnS} (er : nnR T n d (rmS 40 a f pl (tS T n p) (tE T n (tS T n p))) = (v0, v1, v2, σ)) : ∃ g', pm_ev (174, 0, [vr 8 0, none, none, none, none, none, none], [], g) = some (none, g') ∧ PSt g' T n (aEnd T n σ) ∧ (∀ t i x, ¬ (t = 8 ∧ i = 0 ∧ 3 ≤ x ∧ x ≤ 8) → ¬ (t = 33 ∧ i = 0 ∧ 5 ≤ x ∧ x ≤ 6) → ¬ (t = 35 ∧ i = 0) → g'.1 t i x = g.1 t i x) ∧ g'.2 = g.2 ∧ (∀ k, g'.1 35 0 k = if a = 40 then g.1 35 0 k else if k = 0 then nI (a + 1) else if k = 1+4*a+3 then iI v2 else if k = 1+4*a+2 then iI v1 else if k = 1+4*a+1 then iI v0 else if k = 1+4*a then nI d else g.1 35 0 k) := by
  have hpn : p ≤ n := hP.2.2.1
  have hpl : f ≠ 0 → pl < tS T n p := fun z => Nat.lt_of_lt_of_le (hP.2.2.2.2.2.2 z) (tS_le hpn).1
  have w4 : g.1 8 0 4 = nI (tS T n p) := hP.2.1.1
  have gt := tE_gt (T := T) hw
  obtain ⟨g1, e1, p1, f1⟩ := (takes_M (s := 1) hn (by decide) hT hP).1 (12 + d) hK hq
  generalize tS T n p = w at *
  generalize tE T n w = e at *
  have c1 : pm_ev (166, 0, [vr 8 0, vi 17, vi 20, none], [], g) = some (some (vi (nI (rcW (12 + d)))), g1) := e1
  have cd : nI (rcW (12 + d)) - 17 = nI d := by
    have : ∀ d, d < 4 → nI (rcW (12 + d)) - 17 = nI d := by decide
    exact this d hd
  have k0 : g1.1 35 0 0 = nI a := (f1.1 35 0 0 (by omega) (by omega)).trans h0
  have st : ∃ g0, PSt g0 T n (rmS 40 a f pl w e) ∧ frL g g0 ∧ pm_ev (174, 0, [vr 8 0, none, none, none, none, none, none], [], g) = pm_ev (174, 41, [vr 8 0, none, vi (nI d), none, none, none, none], [], g0) := by
    rw [E_X9_nightLine, c1, cI_s, w4, E_X9_nightLine_13, p1.1, if_pos (by rfl), cd, show (0 : Int32).toNatClampNeg = 0 from rfl, k0, E_X9_nightLine_30]
    by_cases q : a = 40
    · subst q
      obtain ⟨g0, e0, p0, f0⟩ := room_M hn p1 gt hpl
      refine ⟨g0, ?_, f1.tr f0, ?_⟩
      · unfold rmS; rw [if_pos rfl]; exact p0
      · rw [if_neg (by decide), e0, cV_s]
    · refine ⟨g1, ?_, f1, ?_⟩
      · unfold rmS; rw [if_neg q, nt1_0]; exact p1
      · rw [if_pos (show nI a < 40 from by rw [show (40 : Int32) = nI 40 from rfl]; exact (nn_lt (by omega) (by decide)).mpr (by omega))]
  obtain ⟨g0, p0, f0, s0⟩ := st
  obtain ⟨g2, e2, p2, f2⟩ := nightN_M (Or.inl ⟨rfl, hd⟩) hn (hT.frL f0) p0
  rw [er] at e2 p2
  dsimp only at e2 p2
  have F := f0.tr f2
  obtain ⟨g3, e3, o3, l3, k3⟩ := night94_M (nI d) (iI v0) (iI v1) (iI v2) ha ((F.1 35 0 0 (by omega) (by omega)).trans h0)
  have p3 : PSt g3 T n σ := p2.fr (fun x _ _ => o3 8 0 x (by omega)) (fun x _ _ => o3 33 0 x (by omega))
  have T3 : TapM g3 n T := ⟨(o3 8 0 2 (by omega)).trans (hT.frL F).1, fun k hk => ⟨((hT.frL F).2 k hk).1, (o3 33 0 _ (by omega)).trans ((hT.frL F).2 k hk).2⟩⟩
  obtain ⟨g4, e4, p4, f4⟩ := endsLine_M hn T3 p3
  refine ⟨g4, ?_, p4, fun t i x h1 h2 h3 => ?_, ?_, fun k => ?_⟩
  · rw [s0, e2, e3, E_X9_nightLine_169, e4, cV_s]
  · rw [f4.1 t i x h1 h2, o3 t i x h3, F.1 t i x h1 h2]
  · rw [f4.2, l3, F.2]
  · rw [f4.1 35 0 k (by omega) (by omega), k3 k, F.1 35 0 k (by omega) (by omega)]
