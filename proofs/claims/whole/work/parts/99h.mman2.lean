def mdS (a m f pl w p : Nat) : LnS := .inr (p, nt1 f pl (if a = 0 then 4 else if m = 4 then 3 else 0) w)
/-- a man where there is no ship -/
theorem man0_M {g : PH} {T : Nat → Nat} {n p f pl w d : Nat} (hd : d < 6) (hn : n ≤ 600) (hT : TapM g n T) (hP : PSt g T n (.inr (p, f, pl))) (hw : w < p) (hpw : f ≠ 0 → pl < w) (h5 : g.1 35 0 5 = nI 0) : ∃ g', pm_ev (172, 0, [vr 8 0, vi (nI w), vi (nI d), none, none, none, none, none], [], g) = some (none, g') ∧ PSt g' T n (mnR T n d (mdS 0 0 f pl w p)).2.2 ∧ frJ g g' := by
  obtain ⟨g0, e0, p0, f0⟩ := alsoP_M (k := 4) hn hP (by decide) (by decide) hw hpw
  obtain ⟨g1, e1, p1, f1, _⟩ := manA_M (nI 0 - 1) 0 hd hn (hT.frL f0) p0
  refine ⟨g1, ?_, p1, f0.J.tr f1⟩
  have c5 : g.1 35 0 ((5 : Int32).toNatClampNeg) = nI 0 := h5
  rw [E_X9_manLine, c5, E_X9_manLine_6, if_pos (by decide), E_X9_manLine_34, E_X9_manLine_35, if_pos (by decide)]
  change pm_bV (pm_ev (164, 0, [vr 8 0, vi (nI 4), vi (nI w)], [], g)) _ = _
  rw [e0, cV_s, E_X9_manLine_47, if_pos (by decide), e1, E_X9_manLine_117, if_pos rfl]
/-- a man of ship b -/
theorem man1_M {g : PH} {T : Nat → Nat} {n p f pl w d b m : Nat} (hd : d < 6) (hb : b < 4) (hm : m ≤ 4) (hn : n ≤ 600) (hT : TapM g n T) (hP : PSt g T n (.inr (p, f, pl))) (hw : w < p) (hpw : f ≠ 0 → pl < w) (h5 : g.1 35 0 5 = nI (b + 1)) (h3 : g.1 35 0 (14+4*b+3) = nI m) {v0 v1 : Nat} {σ : LnS} (er : mnR T n d (mdS (b + 1) m f pl w p) = (v0, v1, σ)) : ∃ g', pm_ev (172, 0, [vr 8 0, vi (nI w), vi (nI d), none, none, none, none, none], [], g) = some (none, g') ∧ PSt g' T n σ ∧ (∀ z : Int, -1 ≤ z → z ≤ 3 → g.1 8 0 11 = iI z → g'.1 8 0 11 = iI (if d = 5 then max z v0 else z)) ∧ (∀ t i x, ¬ (t = 8 ∧ i = 0 ∧ ((3 ≤ x ∧ x ≤ 8) ∨ x = 11)) → ¬ (t = 33 ∧ i = 0 ∧ 5 ≤ x ∧ x ≤ 6) → ¬ (t = 35 ∧ i = 0) → g'.1 t i x = g.1 t i x) ∧ g'.2 = g.2 ∧ (∀ k, g'.1 35 0 k = if m = 4 then g.1 35 0 k else if k = 14+4*b+3 then nI (m + 1) else if k = 30+12*b+3*m+2 then nI v1 else if k = 30+12*b+3*m+1 then nI v0 else if k = 30+12*b+3*m then nI d else g.1 35 0 k) := by
  have cb : nI (b + 1) - 1 = nI b := by
    have : ∀ b, b < 4 → nI (b + 1) - 1 = nI b := by decide
    exact this b hb
  have nb : ¬ nI b < 0 := by
    have : ∀ b, b < 4 → ¬ nI b < 0 := by decide
    exact this b hb
  have ib : pm_inb ((14 + (4 * nI b)) + 3) 161 = true := by
    have : ∀ b, b < 4 → pm_inb ((14 + (4 * nI b)) + 3) 161 = true := by decide
    exact this b hb
  have kb : ((14 + (4 * nI b)) + 3 : Int32) = nI (14+4*b+3) := by
    rw [show (4 : Int32) = nI 4 from rfl, show (14 : Int32) = nI 14 from rfl, show (3 : Int32) = nI 3 from rfl, nI_mul, nI_add, nI_add]
  have tb : ((14 + (4 * nI b)) + 3 : Int32).toNatClampNeg = 14+4*b+3 := by rw [kb, nn_clamp (by omega)]
  have st : ∃ g0, PSt g0 T n (mdS (b + 1) m f pl w p) ∧ frL g g0 ∧ pm_ev (172, 0, [vr 8 0, vi (nI w), vi (nI d), none, none, none, none, none], [], g) = pm_ev (172, 62, [vr 8 0, none, vi (nI d), vi (nI b), vi (if m = 4 then 0 else 1), none, none, none], [], g0) := by
    have c5 : g.1 35 0 ((5 : Int32).toNatClampNeg) = nI (b + 1) := h5
    rw [E_X9_manLine, c5, E_X9_manLine_6, cb, if_neg nb, if_pos ib, tb, h3, E_X9_manLine_26]
    by_cases q : m = 4
    · subst q
      obtain ⟨g0, e0, p0, f0⟩ := room_M hn hP hw hpw
      refine ⟨g0, ?_, f0, ?_⟩
      · unfold mdS; rw [if_neg (by omega), if_pos rfl]; exact p0
      · rw [if_neg (by decide), E_X9_manLine_34, E_X9_manLine_35, if_neg nb, E_X9_manLine_47, if_neg nb, if_pos rfl, e0, cV_s, if_pos rfl]
    · refine ⟨g, ?_, frL.rf g, ?_⟩
      · unfold mdS; rw [if_neg (by omega), if_neg q, nt1_0]; exact hP
      · rw [if_pos (show nI m < 4 from by rw [show (4 : Int32) = nI 4 from rfl]; exact (nn_lt (by omega) (by decide)).mpr (by omega)), E_X9_manLine_35, if_neg nb, E_X9_manLine_47, if_neg nb, if_neg (by decide), if_neg q]
  obtain ⟨g0, p0, f0, s0⟩ := st
  obtain ⟨g1, e1, p1, f1, z1⟩ := manA_M (nI b) (if m = 4 then 0 else 1) hd hn (hT.frL f0) p0
  rw [er] at e1 p1 z1
  dsimp only at e1 p1 z1
  have F : frJ g g1 := f0.J.tr f1
  have z1' : ∀ z : Int, -1 ≤ z → z ≤ 3 → g.1 8 0 11 = iI z → g1.1 8 0 11 = iI (if d = 5 then max z v0 else z) := fun z a1 a2 hz => z1 z a1 a2 ((f0.1 8 0 11 (by omega) (by omega)).trans hz)
  have k3 : g1.1 35 0 (14+4*b+3) = nI m := (F.1 35 0 _ (by omega) (by omega)).trans h3
  by_cases q : m = 4
  · refine ⟨g1, ?_, p1, z1', fun t i k h1 h2 _ => F.1 t i k h1 h2, F.2, fun k => ?_⟩
    · rw [s0, e1, E_X9_manLine_117, if_pos q, if_pos rfl]
    · rw [if_pos q]; exact F.1 35 0 k (by omega) (by omega)
  · have kk : (30 + (12 * nI b) : Int32) + 3 * nI m = nI (30+12*b+3*m) := by
      rw [show (12 : Int32) = nI 12 from rfl, show (30 : Int32) = nI 30 from rfl, show (3 : Int32) = nI 3 from rfl, nI_mul, nI_mul, nI_add, nI_add]
    refine ⟨pm_sI (pm_sI (pm_sI (pm_sI g1 35 0 (30+12*b+3*m) (nI d)) 35 0 (30+12*b+3*m+1) (nI v0)) 35 0 (30+12*b+3*m+2) (nI v1)) 35 0 (14+4*b+3) (nI (m + 1)), ?_, PSt.fr (fun k _ _ => ?_) (fun k _ _ => ?_) p1, fun z a1 a2 hz => ?_, fun t i k h1 h2 h3 => ?_, F.2, fun k => ?_⟩
    · rw [s0, e1, E_X9_manLine_117, if_neg q, if_neg (by decide), if_pos ib, tb, k3, E_X9_manLine_146, kk, if_pos (inb_n (by omega) (by omega)), nn_clamp (by omega), E_X9_manLine_158, show (1 : Int32) = nI 1 from rfl, nI_add, if_pos (inb_n (by omega) (by omega)), nn_clamp (by omega), E_X9_manLine_169, show (2 : Int32) = nI 2 from rfl, nI_add, if_pos (inb_n (by omega) (by omega)), nn_clamp (by omega), E_X9_manLine_180, if_pos ib, tb, sI_pl _ _ _ _ _ (by omega), sI_pl _ _ _ _ _ (by omega), sI_pl _ _ _ _ _ (by omega), k3, E_X9_manLine_194, if_pos ib, tb, show (1 : Int32) = nI 1 from rfl, nI_add]
    · rw [sI_tag _ _ _ _ _ _ (by decide), sI_tag _ _ _ _ _ _ (by decide), sI_tag _ _ _ _ _ _ (by decide), sI_tag _ _ _ _ _ _ (by decide)]
    · rw [sI_tag _ _ _ _ _ _ (by decide), sI_tag _ _ _ _ _ _ (by decide), sI_tag _ _ _ _ _ _ (by decide), sI_tag _ _ _ _ _ _ (by decide)]
    · exact z1' z a1 a2 hz
    · rw [← F.1 t i k h1 h2, pm_sI_at, if_neg (fun z => h3 ⟨z.1, z.2.1⟩), pm_sI_at, if_neg (fun z => h3 ⟨z.1, z.2.1⟩), pm_sI_at, if_neg (fun z => h3 ⟨z.1, z.2.1⟩), pm_sI_at, if_neg (fun z => h3 ⟨z.1, z.2.1⟩)]
    · rw [if_neg q, ← F.1 35 0 k (by omega) (by omega)]
      by_cases q1 : k = 14+4*b+3
      · subst q1; rw [sI_same, if_pos rfl]
      · rw [if_neg q1, sI_pl _ _ _ _ _ q1]
        by_cases q2 : k = 30+12*b+3*m+2
        · subst q2; rw [sI_same, if_pos rfl]
        · rw [if_neg q2, sI_pl _ _ _ _ _ q2]
          by_cases q3 : k = 30+12*b+3*m+1
          · subst q3; rw [sI_same, if_pos rfl]
          · rw [if_neg q3, sI_pl _ _ _ _ _ q3]
            by_cases q4 : k = 30+12*b+3*m
            · subst q4; rw [sI_same, if_pos rfl]
            · rw [if_neg q4, sI_pl _ _ _ _ _ q4]
