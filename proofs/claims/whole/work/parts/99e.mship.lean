theorem mrk.fr {g g' : PH} {x m : Nat} (h : g'.1 8 0 x = g.1 8 0 x) (hm : mrk g x m) : mrk g' x m := by
  obtain ⟨r, r1, r2, r3, r4⟩ := hm
  exact ⟨r, r1, r2, h.trans r3, r4⟩
theorem ship_M {g : PH} {T : Nat → Nat} {n p f pl w a : Nat} (hn : n ≤ 600) (hT : TapM g n T) (hP : PSt g T n (.inr (p, f, pl))) (hw : w < p) (hpw : f ≠ 0 → pl < w) (ha : a ≤ 4) (h5 : g.1 35 0 5 = nI a) {x y r u : Nat} {σ σ1 σ2 σ3 : LnS} (e1 : aNum T n 0 7 (gdS a f pl w p) = (x, σ1)) (e2 : aNum T n 0 7 σ1 = (y, σ2)) (e3 : aNum T n 0 9 σ2 = (r, σ3)) (e4 : aNum T n 0 9 σ3 = (u, σ)) : ∃ g', pm_ev (170, 0, [vr 8 0, vi (nI w), none, none, none, none, none], [], g) = some (none, g') ∧ PSt g' T n σ ∧ (∀ m, mrk g 9 m → mrk g' 9 (max m x)) ∧ (∀ m, mrk g 10 m → mrk g' 10 (max m y)) ∧ (∀ t i k, ¬ (t = 8 ∧ i = 0 ∧ 3 ≤ k ∧ k ≤ 10) → ¬ (t = 33 ∧ i = 0 ∧ 5 ≤ k ∧ k ≤ 6) → ¬ (t = 35 ∧ i = 0) → g'.1 t i k = g.1 t i k) ∧ g'.2 = g.2 ∧ (∀ k, g'.1 35 0 k = if a = 4 then g.1 35 0 k else if k = 5 then nI (a + 1) else if k = 14+4*a+2 then nI u else if k = 14+4*a+1 then nI r else if k = 14+4*a then nI (8 * y + x) else g.1 35 0 k) := by
  have st : ∃ g0, PSt g0 T n (gdS a f pl w p) ∧ frL g g0 ∧ pm_ev (170, 0, [vr 8 0, vi (nI w), none, none, none, none, none], [], g) = pm_bI (pm_ev (168, 0, [vr 8 0, none, none], [], g0)) fun r2 h1 => pm_ev (170, 30, [vr 8 0, none, vi (if a = 4 then 0 else 1), none, none, none, none], [vi r2], h1) := by
    have c4 : g.1 35 0 ((5 : Int32).toNatClampNeg) = nI a := h5
    rw [E_X9_shipLine, c4, E_X9_shipLine_6]
    by_cases q : a = 4
    · subst q
      obtain ⟨g0, e0, p0, f0⟩ := room_M hn hP hw hpw
      refine ⟨g0, ?_, f0, ?_⟩
      · unfold gdS; rw [if_pos rfl]; exact p0
      · rw [if_neg (by decide), e0, cV_s, if_pos rfl]
    · refine ⟨g, ?_, frL.rf g, ?_⟩
      · unfold gdS; rw [if_neg q, nt1_0]; exact hP
      · rw [if_pos (show nI a < 4 from by rw [show (4 : Int32) = nI 4 from rfl]; exact (nn_lt (by omega) (by decide)).mpr (by omega)), if_neg q]
  obtain ⟨g0, p0, f0, s0⟩ := st
  obtain ⟨g1, u1, p1, m9, m10, f1⟩ := cell_M hn (hT.frL f0) p0
  rw [e1] at u1 p1 m9 m10
  dsimp only at u1 p1 m9 m10
  rw [e2] at u1 p1 m10
  dsimp only at u1 p1 m10
  have T1 := (hT.frL f0).frK f1
  obtain ⟨g2, u2, p2, f2⟩ := numbered_M hn T1 p1 (lo := 0) (hi := 9) (by decide) (by decide)
  rw [e3] at u2 p2
  dsimp only at u2 p2
  obtain ⟨g3, u3, p3, f3⟩ := numbered_M hn (T1.frL f2) p2 (lo := 0) (hi := 9) (by decide) (by decide)
  rw [e4] at u3 p3
  dsimp only at u3 p3
  have f23 := f2.tr f3
  have F : frK g g3 := (f0.K.tr f1).tr f23.K
  have m9' : ∀ m, mrk g 9 m → mrk g3 9 (max m x) := fun m hm => (m9 m (hm.fr (f0.1 8 0 9 (by omega) (by omega)))).fr (f23.1 8 0 9 (by omega) (by omega))
  have m10' : ∀ m, mrk g 10 m → mrk g3 10 (max m y) := fun m hm => (m10 m (hm.fr (f0.1 8 0 10 (by omega) (by omega)))).fr (f23.1 8 0 10 (by omega) (by omega))
  have k5 : g3.1 35 0 5 = nI a := (F.1 35 0 5 (by omega) (by omega)).trans h5
  have s1 : pm_ev (170, 0, [vr 8 0, vi (nI w), none, none, none, none, none], [], g) = (if (if a = 4 then (0 : Int32) else 1) = 0 then some (none, g3) else pm_ev (170, 63, [vr 8 0, none, none, vi (nI (8 * y + x)), vi (nI r), vi (nI u), none], [vi (g3.1 35 0 ((5 : Int32).toNatClampNeg)), vi 4, vi 14], g3)) := by
    rw [s0, u1, cI_s, E_X9_shipLine_30]
    change pm_bI (pm_ev (165, 0, [vr 8 0, vi (nI 0), vi (nI 9), none], [], g1)) _ = _
    rw [u2, cI_s, E_X9_shipLine_38]
    change pm_bI (pm_ev (165, 0, [vr 8 0, vi (nI 0), vi (nI 9), none], [], g2)) _ = _
    rw [u3, cI_s]
  by_cases q : a = 4
  · refine ⟨g3, ?_, p3, m9', m10', fun t i k h1 h2 _ => F.1 t i k h1 h2, F.2, fun k => ?_⟩
    · rw [s1, if_pos q, if_pos rfl]
    · rw [if_pos q]; exact F.1 35 0 k (by omega) (by omega)
  · refine ⟨pm_sI (pm_sI (pm_sI (pm_sI g3 35 0 (14+4*a) (nI (8*y+x))) 35 0 (14+4*a+1) (nI r)) 35 0 (14+4*a+2) (nI u)) 35 0 5 (nI (a + 1)), ?_, PSt.fr (fun k _ _ => ?_) (fun k _ _ => ?_) p3, fun m hm => ?_, fun m hm => ?_, fun t i k h1 h2 h3 => ?_, F.2, fun k => ?_⟩
    · rw [s1, if_neg q, if_neg (by decide), show (5 : Int32).toNatClampNeg = 5 from rfl, k5, show (4 : Int32) = nI 4 from rfl, show (14 : Int32) = nI 14 from rfl, E_X9_shipLine_63, nI_mul, nI_add, if_pos (inb_n (by omega) (by omega)), nn_clamp (by omega), E_X9_shipLine_75, show (1 : Int32) = nI 1 from rfl, nI_add, if_pos (inb_n (by omega) (by omega)), nn_clamp (by omega), E_X9_shipLine_86, show (2 : Int32) = nI 2 from rfl, nI_add, if_pos (inb_n (by omega) (by omega)), nn_clamp (by omega), E_X9_shipLine_97, show (5 : Int32).toNatClampNeg = 5 from rfl, sI_pl _ _ _ _ _ (by omega), sI_pl _ _ _ _ _ (by omega), sI_pl _ _ _ _ _ (by omega), k5, E_X9_shipLine_104, if_pos (by decide), show (1 : Int32) = nI 1 from rfl, nI_add]
      rfl
    · rw [sI_tag _ _ _ _ _ _ (by decide), sI_tag _ _ _ _ _ _ (by decide), sI_tag _ _ _ _ _ _ (by decide), sI_tag _ _ _ _ _ _ (by decide)]
    · rw [sI_tag _ _ _ _ _ _ (by decide), sI_tag _ _ _ _ _ _ (by decide), sI_tag _ _ _ _ _ _ (by decide), sI_tag _ _ _ _ _ _ (by decide)]
    · exact m9' m hm
    · exact m10' m hm
    · rw [← F.1 t i k h1 h2, pm_sI_at, if_neg (fun z => h3 ⟨z.1, z.2.1⟩), pm_sI_at, if_neg (fun z => h3 ⟨z.1, z.2.1⟩), pm_sI_at, if_neg (fun z => h3 ⟨z.1, z.2.1⟩), pm_sI_at, if_neg (fun z => h3 ⟨z.1, z.2.1⟩)]
    · rw [if_neg q, ← F.1 35 0 k (by omega) (by omega)]
      by_cases q1 : k = 5
      · subst q1; rw [sI_same, if_pos rfl]
      · rw [if_neg q1, sI_pl _ _ _ _ _ q1]
        by_cases q2 : k = 14+4*a+2
        · subst q2; rw [sI_same, if_pos rfl]
        · rw [if_neg q2, sI_pl _ _ _ _ _ q2]
          by_cases q3 : k = 14+4*a+1
          · subst q3; rw [sI_same, if_pos rfl]
          · rw [if_neg q3, sI_pl _ _ _ _ _ q3]
            by_cases q4 : k = 14+4*a
            · subst q4; rw [sI_same, if_pos rfl]
            · rw [if_neg q4, sI_pl _ _ _ _ _ q4]
