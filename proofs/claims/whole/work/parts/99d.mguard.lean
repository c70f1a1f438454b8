theorem alsoP_M {g : PH} {T : Nat → Nat} {n p f pl k w : Nat} (hn : n ≤ 600) (hP : PSt g T n (.inr (p, f, pl))) (hk : 2 ≤ k) (hk6 : k ≤ 6) (hw : w < p) (hpw : f ≠ 0 → pl < w) : ∃ g', pm_ev (164, 0, [vr 8 0, vi (nI k), vi (nI w)], [], g) = some (none, g') ∧ PSt g' T n (.inr (p, nt1 f pl k w)) ∧ frL g g' := by
  obtain ⟨a, b, c, d, e, j, l⟩ := hP
  obtain ⟨g', e1, x5, x6, x7, fr⟩ := also_M a e j d hk hk6 (by omega) hpw
  refine ⟨g', e1, ⟨(fr.1 8 0 8 (by omega)).trans a, b.fr (fun x _ _ => fr.1 8 0 x (by omega)), c, x7, x5, x6, fun z => ?_⟩, fr.L⟩
  show (nt1 f pl k w).2 < p
  unfold nt1
  by_cases q : f = 0 ∧ k ≠ 0
  · rw [if_pos q]; exact hw
  · rw [if_neg q]; exact l (fun z => q ⟨z, by omega⟩)
/-- where a line begins: too many of a sort, or room for one more -/
theorem room_M {g : PH} {T : Nat → Nat} {n p f pl w : Nat} (hn : n ≤ 600) (hP : PSt g T n (.inr (p, f, pl))) (hw : w < p) (hpw : f ≠ 0 → pl < w) : ∃ g', pm_ev (164, 0, [vr 8 0, vi 3, vi (nI w)], [], g) = some (none, g') ∧ PSt g' T n (.inr (p, nt1 f pl 3 w)) ∧ frL g g' :=
  alsoP_M hn hP (by decide) (by decide) hw hpw
def gdS (a f pl w p : Nat) : LnS := .inr (p, nt1 f pl (if a = 4 then 3 else 0) w)
theorem guard_M {g : PH} {T : Nat → Nat} {n p f pl w a : Nat} (hn : n ≤ 600) (hT : TapM g n T) (hP : PSt g T n (.inr (p, f, pl))) (hw : w < p) (hpw : f ≠ 0 → pl < w) (ha : a ≤ 4) (h4 : g.1 35 0 4 = nI a) {x y r : Nat} {σ σ1 σ2 : LnS} (e1 : aNum T n 0 7 (gdS a f pl w p) = (x, σ1)) (e2 : aNum T n 0 7 σ1 = (y, σ2)) (e3 : aNum T n 0 7 σ2 = (r, σ)) : ∃ g', pm_ev (169, 0, [vr 8 0, vi (nI w), none, none, none], [], g) = some (none, g') ∧ PSt g' T n σ ∧ (∀ m, mrk g 9 m → mrk g' 9 (max m x)) ∧ (∀ m, mrk g 10 m → mrk g' 10 (max m y)) ∧ (∀ t i k, ¬ (t = 8 ∧ i = 0 ∧ 3 ≤ k ∧ k ≤ 10) → ¬ (t = 33 ∧ i = 0 ∧ 5 ≤ k ∧ k ≤ 6) → ¬ (t = 35 ∧ i = 0) → g'.1 t i k = g.1 t i k) ∧ g'.2 = g.2 ∧ (∀ k, g'.1 35 0 k = if a = 4 then g.1 35 0 k else if k = 4 then nI (a + 1) else if k = 6+2*a+1 then nI r else if k = 6+2*a then nI (8 * y + x) else g.1 35 0 k) := by
  -- the beginning
  have st : ∃ g0, PSt g0 T n (gdS a f pl w p) ∧ frL g g0 ∧ pm_ev (169, 0, [vr 8 0, vi (nI w), none, none, none], [], g) = pm_bI (pm_ev (168, 0, [vr 8 0, none, none], [], g0)) fun r2 h1 => pm_ev (169, 30, [vr 8 0, none, vi (if a = 4 then 0 else 1), none, none], [vi r2], h1) := by
    have c4 : g.1 35 0 ((4 : Int32).toNatClampNeg) = nI a := h4
    rw [E_X9_guardLine, c4, E_X9_guardLine_6]
    by_cases q : a = 4
    · subst q
      obtain ⟨g0, e0, p0, f0⟩ := room_M hn hP hw hpw
      refine ⟨g0, ?_, f0, ?_⟩
      · unfold gdS; rw [if_pos rfl]; exact p0
      · rw [if_neg (by decide), e0, cV_s, if_pos rfl]
    · refine ⟨g, ?_, frL.rf g, ?_⟩
      · unfold gdS; rw [if_neg q, nt1_0]; exact hP
      · rw [if_pos (show nI a < 4 from by rw [show (4 : Int32) = nI 4 from rfl]; exact (nn_lt (by omega) (by decide)).mpr (by omega)), if_neg q]
  obtain ⟨g0, p0, f0, s0⟩ := st
  obtain ⟨g1, u1, p1, m9, m10, f1⟩ := cell_M hn (hT.frL f0) p0
  rw [e1] at u1 p1 m9 m10
  dsimp only at u1 p1 m9 m10
  rw [e2] at u1 p1 m10
  dsimp only at u1 p1 m10
  obtain ⟨g2, u2, p2, f2⟩ := numbered_M hn ((hT.frL f0).frK f1) p1 (lo := 0) (hi := 7) (by decide) (by decide)
  rw [e3] at u2 p2
  dsimp only at u2 p2
  have F : frK g g2 := (f0.K.tr f1).tr f2.K
  have m9' : ∀ m, mrk g 9 m → mrk g2 9 (max m x) := fun m hm => by
    obtain ⟨r, r1, r2, r3, r4⟩ := hm
    obtain ⟨r', a1, a2, a3, a4⟩ := m9 m ⟨r, r1, r2, (f0.1 8 0 9 (by omega) (by omega)).trans r3, r4⟩
    exact ⟨r', a1, a2, (f2.1 8 0 9 (by omega) (by omega)).trans a3, a4⟩
  have m10' : ∀ m, mrk g 10 m → mrk g2 10 (max m y) := fun m hm => by
    obtain ⟨r, r1, r2, r3, r4⟩ := hm
    obtain ⟨r', a1, a2, a3, a4⟩ := m10 m ⟨r, r1, r2, (f0.1 8 0 10 (by omega) (by omega)).trans r3, r4⟩
    exact ⟨r', a1, a2, (f2.1 8 0 10 (by omega) (by omega)).trans a3, a4⟩
  have s1 : pm_ev (169, 0, [vr 8 0, vi (nI w), none, none, none], [], g) = pm_ev (169, 38, [vr 8 0, none, vi (if a = 4 then 0 else 1), vi (nI (8 * y + x)), none], [vi (nI r)], g2) := by
    rw [s0, u1, cI_s, E_X9_guardLine_30]
    change pm_bI (pm_ev (165, 0, [vr 8 0, vi (nI 0), vi (nI 7), none], [], g1)) _ = _
    rw [u2, cI_s]
  have k4 : g2.1 35 0 4 = nI a := (F.1 35 0 4 (by omega) (by omega)).trans h4
  by_cases q : a = 4
  · refine ⟨g2, ?_, p2, m9', m10', fun t i k h1 h2 _ => F.1 t i k h1 h2, F.2, fun k => ?_⟩
    · rw [s1, E_X9_guardLine_38, if_pos q, if_pos rfl]
    · rw [if_pos q]; exact F.1 35 0 k (by omega) (by omega)
  · refine ⟨pm_sI (pm_sI (pm_sI g2 35 0 (6+2*a) (nI (8*y+x))) 35 0 (6+2*a+1) (nI r)) 35 0 4 (nI (a + 1)), ?_, PSt.fr (fun k _ _ => ?_) (fun k _ _ => ?_) p2, fun m hm => ?_, fun m hm => ?_, fun t i k h1 h2 h3 => ?_, F.2, fun k => ?_⟩
    · rw [s1, E_X9_guardLine_38, if_neg q, if_neg (by decide), show (4 : Int32).toNatClampNeg = 4 from rfl, k4, show (2 : Int32) = nI 2 from rfl, show (6 : Int32) = nI 6 from rfl, E_X9_guardLine_58, nI_mul, nI_add, if_pos (inb_n (by omega) (by omega)), nn_clamp (by omega), E_X9_guardLine_62, show (4 : Int32).toNatClampNeg = 4 from rfl, sI_pl _ _ _ _ _ (by omega), k4, show (2 : Int32) = nI 2 from rfl, show (6 : Int32) = nI 6 from rfl, E_X9_guardLine_75, nI_mul, nI_add, show (1 : Int32) = nI 1 from rfl, nI_add, if_pos (inb_n (by omega) (by omega)), nn_clamp (by omega), E_X9_guardLine_82, show (4 : Int32).toNatClampNeg = 4 from rfl, sI_pl _ _ _ _ _ (by omega), sI_pl _ _ _ _ _ (by omega), k4, E_X9_guardLine_89, if_pos (by decide), show (1 : Int32) = nI 1 from rfl, nI_add]
      rfl
    · rw [sI_tag _ _ _ _ _ _ (by decide), sI_tag _ _ _ _ _ _ (by decide), sI_tag _ _ _ _ _ _ (by decide)]
    · rw [sI_tag _ _ _ _ _ _ (by decide), sI_tag _ _ _ _ _ _ (by decide), sI_tag _ _ _ _ _ _ (by decide)]
    · exact m9' m hm
    · exact m10' m hm
    · rw [← F.1 t i k h1 h2, pm_sI_at, if_neg (fun z => h3 ⟨z.1, z.2.1⟩), pm_sI_at, if_neg (fun z => h3 ⟨z.1, z.2.1⟩), pm_sI_at, if_neg (fun z => h3 ⟨z.1, z.2.1⟩)]
    · rw [if_neg q, ← F.1 35 0 k (by omega) (by omega)]
      by_cases q1 : k = 4
      · subst q1; rw [sI_same, if_pos rfl]
      · rw [if_neg q1, sI_pl _ _ _ _ _ q1]
        by_cases q2 : k = 6+2*a+1
        · subst q2; rw [sI_same, if_pos rfl]
        · rw [if_neg q2, sI_pl _ _ _ _ _ q2]
          by_cases q3 : k = 6+2*a
          · subst q3; rw [sI_same, if_pos rfl]
          · rw [if_neg q3, sI_pl _ _ _ _ _ q3]
