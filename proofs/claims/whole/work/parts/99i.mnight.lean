/-! ===== a night's line in the reference ===== -/
theorem night94_M {g : PH} {a : Nat} (x2 x3 x4 x5 : Int32) (ha : a ≤ 40) (h0 : g.1 35 0 0 = nI a) : ∃ g', pm_ev (174, 94, [vr 8 0, none, vi x2, vi x3, vi x4, none, none], [vi x5], g) = pm_ev (174, 169, [vr 8 0, none, none, none, none, none, none], [], g') ∧ (∀ t i k, ¬ (t = 35 ∧ i = 0) → g'.1 t i k = g.1 t i k) ∧ g'.2 = g.2 ∧ (∀ k, g'.1 35 0 k = if a = 40 then g.1 35 0 k else if k = 0 then nI (a + 1) else if k = 1+4*a+3 then x5 else if k = 1+4*a+2 then x4 else if k = 1+4*a+1 then x3 else if k = 1+4*a then x2 else g.1 35 0 k) := by
  have s1 : pm_ev (174, 94, [vr 8 0, none, vi x2, vi x3, vi x4, none, none], [vi x5], g) = pm_ev (174, 102, [vr 8 0, none, vi x2, vi x3, vi x4, vi x5, none], [vi (nI a)], g) := by
    rw [E_X9_nightLine_94, show (0 : Int32).toNatClampNeg = 0 from rfl, h0]
  by_cases q : a = 40
  · refine ⟨g, ?_, fun t i k _ => rfl, rfl, fun k => ?_⟩
    · rw [s1, E_X9_nightLine_102, q, if_neg (by decide)]
    · rw [if_pos q]
  · refine ⟨pm_sI (pm_sI (pm_sI (pm_sI (pm_sI g 35 0 (1+4*a) x2) 35 0 (1+4*a+1) x3) 35 0 (1+4*a+2) x4) 35 0 (1+4*a+3) x5) 35 0 0 (nI (a + 1)), ?_, fun t i k h3 => ?_, rfl, fun k => ?_⟩
    · rw [s1, E_X9_nightLine_102, if_pos (show nI a < 40 from by rw [show (40 : Int32) = nI 40 from rfl]; exact (nn_lt (by omega) (by decide)).mpr (by omega)), show (0 : Int32).toNatClampNeg = 0 from rfl, h0, show (4 : Int32) = nI 4 from rfl, show (1 : Int32) = nI 1 from rfl, E_X9_nightLine_115, nI_mul, nI_add, if_pos (inb_n (by omega) (by omega)), nn_clamp (by omega), E_X9_nightLine_127, show (1 : Int32) = nI 1 from rfl, nI_add, if_pos (inb_n (by omega) (by omega)), nn_clamp (by omega), E_X9_nightLine_137, show (2 : Int32) = nI 2 from rfl, nI_add, if_pos (inb_n (by omega) (by omega)), nn_clamp (by omega), E_X9_nightLine_148, show (3 : Int32) = nI 3 from rfl, nI_add, if_pos (inb_n (by omega) (by omega)), nn_clamp (by omega), E_X9_nightLine_159, show (0 : Int32).toNatClampNeg = 0 from rfl, sI_pl _ _ _ _ _ (by omega), sI_pl _ _ _ _ _ (by omega), sI_pl _ _ _ _ _ (by omega), sI_pl _ _ _ _ _ (by omega), h0, E_X9_nightLine_166, if_pos (by decide), show (1 : Int32) = nI 1 from rfl, nI_add]
      rfl
    · rw [pm_sI_at, if_neg (fun z => h3 ⟨z.1, z.2.1⟩), pm_sI_at, if_neg (fun z => h3 ⟨z.1, z.2.1⟩), pm_sI_at, if_neg (fun z => h3 ⟨z.1, z.2.1⟩), pm_sI_at, if_neg (fun z => h3 ⟨z.1, z.2.1⟩), pm_sI_at, if_neg (fun z => h3 ⟨z.1, z.2.1⟩)]
    · rw [if_neg q]
      by_cases q1 : k = 0
      · subst q1; rw [sI_same, if_pos rfl]
      · rw [if_neg q1, sI_pl _ _ _ _ _ q1]
        by_cases q2 : k = 1+4*a+3
        · subst q2; rw [sI_same, if_pos rfl]
        · rw [if_neg q2, sI_pl _ _ _ _ _ q2]
          by_cases q3 : k = 1+4*a+2
          · subst q3; rw [sI_same, if_pos rfl]
          · rw [if_neg q3, sI_pl _ _ _ _ _ q3]
            by_cases q4 : k = 1+4*a+1
            · subst q4; rw [sI_same, if_pos rfl]
            · rw [if_neg q4, sI_pl _ _ _ _ _ q4]
              by_cases q5 : k = 1+4*a
              · subst q5; rw [sI_same, if_pos rfl]
              · rw [if_neg q5, sI_pl _ _ _ _ _ q5]
