def rmS (N a f pl w p : Nat) : LnS := .inr (p, nt1 f pl (if a = N then 3 else 0) w)
theorem logMan_M {g : PH} {T : Nat → Nat} {n p f pl w a : Nat} (hn : n ≤ 600) (hT : TapM g n T) (hP : PSt g T n (.inr (p, f, pl))) (hw : w < p) (hpw : f ≠ 0 → pl < w) (ha : a ≤ 6) (h0 : g.1 35 0 0 = nI a) {x : Nat} {σ : LnS} (e1 : aNum T n 0 10 (rmS 6 a f pl w p) = (x, σ)) : ∃ g', pm_ev (175, 0, [vr 8 0, vi (nI w), none], [], g) = some (none, g') ∧ PSt g' T n σ ∧ (∀ t i k, ¬ (t = 8 ∧ i = 0 ∧ 3 ≤ k ∧ k ≤ 10) → ¬ (t = 33 ∧ i = 0 ∧ 5 ≤ k ∧ k ≤ 6) → ¬ (t = 35 ∧ i = 0) → g'.1 t i k = g.1 t i k) ∧ g'.2 = g.2 ∧ (∀ k, g'.1 35 0 k = if a = 6 then g.1 35 0 k else if k = 0 then nI (a + 1) else if k = 4+a then nI x else g.1 35 0 k) := by
  have st : ∃ g0, PSt g0 T n (rmS 6 a f pl w p) ∧ frL g g0 ∧ pm_ev (175, 0, [vr 8 0, vi (nI w), none], [], g) = pm_bI (pm_ev (165, 0, [vr 8 0, vi (nI 0), vi (nI 10), none], [], g0)) fun r2 h1 => pm_ev (175, 31, [vr 8 0, none, none], [vi r2], h1) := by
    have c4 : g.1 35 0 ((0 : Int32).toNatClampNeg) = nI a := h0
    rw [E_X9_logMan, hP.1, if_pos (by rfl), c4, E_X9_logMan_13]
    by_cases q : a = 6
    · subst q
      obtain ⟨g0, e0, p0, f0⟩ := room_M hn hP hw hpw
      refine ⟨g0, ?_, f0, ?_⟩
      · unfold rmS; rw [if_pos rfl]; exact p0
      · rw [if_neg (by decide), e0, cV_s]; rfl
    · refine ⟨g, ?_, frL.rf g, ?_⟩
      · unfold rmS; rw [if_neg q, nt1_0]; exact hP
      · rw [if_pos (show nI a < 6 from by rw [show (6 : Int32) = nI 6 from rfl]; exact (nn_lt (by omega) (by decide)).mpr (by omega))]; rfl
  obtain ⟨g0, p0, f0, s0⟩ := st
  obtain ⟨g1, u1, p1, f1⟩ := numbered_M hn (hT.frL f0) p0 (lo := 0) (hi := 10) (by decide) (by decide)
  rw [e1] at u1 p1
  dsimp only at u1 p1
  have F : frK g g1 := (f0.tr f1).K
  have k0 : g1.1 35 0 0 = nI a := (F.1 35 0 0 (by omega) (by omega)).trans h0
  have s1 : pm_ev (175, 0, [vr 8 0, vi (nI w), none], [], g) = pm_ev (175, 38, [vr 8 0, none, vi (nI x)], [vi (nI a)], g1) := by
    rw [s0, u1, cI_s, E_X9_logMan_31, show (0 : Int32).toNatClampNeg = 0 from rfl, k0]
  by_cases q : a = 6
  · refine ⟨g1, ?_, p1, fun t i k h1 h2 _ => F.1 t i k h1 h2, F.2, fun k => ?_⟩
    · rw [s1, E_X9_logMan_38, q, if_neg (by decide)]
    · rw [if_pos q]; exact F.1 35 0 k (by omega) (by omega)
  · refine ⟨pm_sI (pm_sI g1 35 0 (4+a) (nI x)) 35 0 0 (nI (a + 1)), ?_, PSt.fr (fun k _ _ => ?_) (fun k _ _ => ?_) p1, fun t i k h1 h2 h3 => ?_, F.2, fun k => ?_⟩
    · rw [s1, E_X9_logMan_38, if_pos (show nI a < 6 from by rw [show (6 : Int32) = nI 6 from rfl]; exact (nn_lt (by omega) (by decide)).mpr (by omega)), show (0 : Int32).toNatClampNeg = 0 from rfl, k0, show (4 : Int32) = nI 4 from rfl, E_X9_logMan_55, nI_add, if_pos (inb_n (by omega) (by omega)), nn_clamp (by omega), E_X9_logMan_58, show (0 : Int32).toNatClampNeg = 0 from rfl, sI_pl _ _ _ _ _ (by omega), k0, E_X9_logMan_65, if_pos (by decide), show (1 : Int32) = nI 1 from rfl, nI_add]
      rfl
    · rw [sI_tag _ _ _ _ _ _ (by decide), sI_tag _ _ _ _ _ _ (by decide)]
    · rw [sI_tag _ _ _ _ _ _ (by decide), sI_tag _ _ _ _ _ _ (by decide)]
    · rw [← F.1 t i k h1 h2, pm_sI_at, if_neg (fun z => h3 ⟨z.1, z.2.1⟩), pm_sI_at, if_neg (fun z => h3 ⟨z.1, z.2.1⟩)]
    · rw [if_neg q, ← F.1 35 0 k (by omega) (by omega)]
      by_cases q1 : k = 0
      · subst q1; rw [sI_same, if_pos rfl]
      · rw [if_neg q1, sI_pl _ _ _ _ _ q1]
        by_cases q2 : k = 4+a
        · subst q2; rw [sI_same, if_pos rfl]
        · rw [if_neg q2, sI_pl _ _ _ _ _ q2]
theorem logFact_M {g : PH} {T : Nat → Nat} {n p f pl w a b : Nat} (hb : b ≤ 1) (hn : n ≤ 600) (hT : TapM g n T) (hP : PSt g T n (.inr (p, f, pl))) (hw : w < p) (hpw : f ≠ 0 → pl < w) (ha : a ≤ 10) (h0 : g.1 35 0 3 = nI a) {x : Nat} {σ : LnS} (e1 : aNum T n 0 23 (rmS 10 a f pl w p) = (x, σ)) : ∃ g', pm_ev (176, 0, [vr 8 0, vi (nI w), vi (nI b), none], [], g) = some (none, g') ∧ PSt g' T n σ ∧ (∀ t i k, ¬ (t = 8 ∧ i = 0 ∧ 3 ≤ k ∧ k ≤ 10) → ¬ (t = 33 ∧ i = 0 ∧ 5 ≤ k ∧ k ≤ 6) → ¬ (t = 35 ∧ i = 0) → g'.1 t i k = g.1 t i k) ∧ g'.2 = g.2 ∧ (∀ k, g'.1 35 0 k = if a = 10 then g.1 35 0 k else if k = 3 then nI (a + 1) else if k = 11+2*a then nI x else if k = 10+2*a then nI b else g.1 35 0 k) := by
  have st : ∃ g0, PSt g0 T n (rmS 10 a f pl w p) ∧ frL g g0 ∧ pm_ev (176, 0, [vr 8 0, vi (nI w), vi (nI b), none], [], g) = pm_bI (pm_ev (165, 0, [vr 8 0, vi (nI 0), vi (nI 23), none], [], g0)) fun r2 h1 => pm_ev (176, 31, [vr 8 0, none, vi (nI b), none], [vi r2], h1) := by
    have c4 : g.1 35 0 ((3 : Int32).toNatClampNeg) = nI a := h0
    rw [E_X9_logFact, hP.1, if_pos (by rfl), c4, E_X9_logFact_13]
    by_cases q : a = 10
    · subst q
      obtain ⟨g0, e0, p0, f0⟩ := room_M hn hP hw hpw
      refine ⟨g0, ?_, f0, ?_⟩
      · unfold rmS; rw [if_pos rfl]; exact p0
      · rw [if_neg (by decide), e0, cV_s]; rfl
    · refine ⟨g, ?_, frL.rf g, ?_⟩
      · unfold rmS; rw [if_neg q, nt1_0]; exact hP
      · rw [if_pos (show nI a < 10 from by rw [show (10 : Int32) = nI 10 from rfl]; exact (nn_lt (by omega) (by decide)).mpr (by omega))]; rfl
  obtain ⟨g0, p0, f0, s0⟩ := st
  obtain ⟨g1, u1, p1, f1⟩ := numbered_M hn (hT.frL f0) p0 (lo := 0) (hi := 23) (by decide) (by decide)
  rw [e1] at u1 p1
  dsimp only at u1 p1
  have F : frK g g1 := (f0.tr f1).K
  have k3 : g1.1 35 0 3 = nI a := (F.1 35 0 3 (by omega) (by omega)).trans h0
  have s1 : pm_ev (176, 0, [vr 8 0, vi (nI w), vi (nI b), none], [], g) = pm_ev (176, 38, [vr 8 0, none, vi (nI b), vi (nI x)], [vi (nI a)], g1) := by
    rw [s0, u1, cI_s, E_X9_logFact_31, show (3 : Int32).toNatClampNeg = 3 from rfl, k3]
  by_cases q : a = 10
  · refine ⟨g1, ?_, p1, fun t i k h1 h2 _ => F.1 t i k h1 h2, F.2, fun k => ?_⟩
    · rw [s1, E_X9_logFact_38, q, if_neg (by decide)]
    · rw [if_pos q]; exact F.1 35 0 k (by omega) (by omega)
  · have s2 : pm_ev (176, 38, [vr 8 0, none, vi (nI b), vi (nI x)], [vi (nI a)], g1) = pm_ev (176, 69, [vr 8 0, none, none, vi (nI x)], [], pm_sI g1 35 0 (10+2*a) (nI b)) := by
      rw [E_X9_logFact_38, if_pos (show nI a < 10 from by rw [show (10 : Int32) = nI 10 from rfl]; exact (nn_lt (by omega) (by decide)).mpr (by omega)), show (3 : Int32).toNatClampNeg = 3 from rfl, k3, show (2 : Int32) = nI 2 from rfl, show (10 : Int32) = nI 10 from rfl, E_X9_logFact_57, nI_mul, nI_add, if_pos (inb_n (by omega) (by omega)), if_pos (inb_n (by omega) (by omega)), nn_clamp (by omega)]
      have : b = 0 ∨ b = 1 := by omega
      rcases this with z | z <;> subst z
      · rw [if_pos (by rfl)]; rfl
      · rw [if_neg (by decide)]; rfl
    refine ⟨pm_sI (pm_sI (pm_sI g1 35 0 (10+2*a) (nI b)) 35 0 (11+2*a) (nI x)) 35 0 3 (nI (a + 1)), ?_, PSt.fr (fun k _ _ => ?_) (fun k _ _ => ?_) p1, fun t i k h1 h2 h3 => ?_, F.2, fun k => ?_⟩
    · rw [s1, s2, E_X9_logFact_69, show (3 : Int32).toNatClampNeg = 3 from rfl, sI_pl _ _ _ _ _ (by omega), k3, show (2 : Int32) = nI 2 from rfl, show (11 : Int32) = nI 11 from rfl, E_X9_logFact_82, nI_mul, nI_add, if_pos (inb_n (by omega) (by omega)), nn_clamp (by omega), E_X9_logFact_86, show (3 : Int32).toNatClampNeg = 3 from rfl, sI_pl _ _ _ _ _ (by omega), sI_pl _ _ _ _ _ (by omega), k3, E_X9_logFact_93, if_pos (by decide), show (1 : Int32) = nI 1 from rfl, nI_add]
      rfl
    · rw [sI_tag _ _ _ _ _ _ (by decide), sI_tag _ _ _ _ _ _ (by decide), sI_tag _ _ _ _ _ _ (by decide)]
    · rw [sI_tag _ _ _ _ _ _ (by decide), sI_tag _ _ _ _ _ _ (by decide), sI_tag _ _ _ _ _ _ (by decide)]
    · rw [← F.1 t i k h1 h2, pm_sI_at, if_neg (fun z => h3 ⟨z.1, z.2.1⟩), pm_sI_at, if_neg (fun z => h3 ⟨z.1, z.2.1⟩), pm_sI_at, if_neg (fun z => h3 ⟨z.1, z.2.1⟩)]
    · rw [if_neg q, ← F.1 35 0 k (by omega) (by omega)]
      by_cases q1 : k = 3
      · subst q1; rw [sI_same, if_pos rfl]
      · rw [if_neg q1, sI_pl _ _ _ _ _ q1]
        by_cases q2 : k = 11+2*a
        · subst q2; rw [sI_same, if_pos rfl]
        · rw [if_neg q2, sI_pl _ _ _ _ _ q2]
          by_cases q3 : k = 10+2*a
          · subst q3; rw [sI_same, if_pos rfl]
          · rw [if_neg q3, sI_pl _ _ _ _ _ q3]
