theorem CouM.sd {g : PH} {a : Nat} {σ : CrS} (hM : CouM g a σ) (v : Int32) : CouM (pm_sI g 8 0 36 v) a σ := hM.fr (fun t k ht => sI_tag _ _ _ _ _ _ ht) (fun k hk => sI_pl _ _ _ _ _ (by omega))
theorem draws_M {nx : Int32 → Int32} {rd : Int32 → Nat → Nat} (hR : RdOk nx rd) {σ : CrS} (hV : csV σ) (h6 : 0 < (σ.1 6).val) {g : PH} {a : Nat} (hM : CouM g a σ) : ∃ g', pm_ev (262, 0, [vr 8 0, none, none, none], [], g) = some (none, g') ∧ CouM g' a (aDrawC nx rd (g.1 8 0 36) σ) ∧ g'.1 8 0 36 = aDrawX nx rd (g.1 8 0 36) ∧ Fr scM g g' := by
  have hV1 := hV.1.1
  have m16 : g.1 8 0 16 = nI (σ.1 6).val := hM.1.2.2.2.2
  have s1 : ∀ (h : PH) v, (pm_sI h 8 0 36 v).1 8 0 36 = v := fun h v => sI_same _ _ _ _ _
  have fI : ∀ (h : PH) v, Fr scM h (pm_sI h 8 0 36 v) := fun h v => Fr.sI _ _ _ rfl
  have BB := hR.2.2
  unfold aDrawC aDrawX
  generalize hx : g.1 8 0 36 = x
  have r0 := hR.1 x _ h6
  have r8 := hR.1 (nx x) 8 (by decide)
  have r4 := hR.1 (nx (nx x)) 4 (by decide)
  have r10 := hR.1 (nx (nx (nx x))) 10 (by decide)
  have B0 := BB g _ h6 (by omega)
  rw [hx] at B0
  have B1 : ∀ h : PH, h.1 8 0 36 = nx x → pm_ev (261, 0, [vr 8 0, vi (nI 8)], [], h) = some (some (vi (nI (rd (nx x) 8))), pm_sI h 8 0 36 (nx (nx x))) := fun h e => by have := BB h 8 (by decide) (by decide); rw [e] at this; exact this
  have B2 : ∀ h : PH, h.1 8 0 36 = nx (nx x) → pm_ev (261, 0, [vr 8 0, vi (nI 4)], [], h) = some (some (vi (nI (rd (nx (nx x)) 4))), pm_sI h 8 0 36 (nx (nx (nx x)))) := fun h e => by have := BB h 4 (by decide) (by decide); rw [e] at this; exact this
  have B3 : ∀ h : PH, h.1 8 0 36 = nx (nx (nx x)) → pm_ev (261, 0, [vr 8 0, vi (nI 10)], [], h) = some (some (vi (nI (rd (nx (nx (nx x))) 10))), pm_sI h 8 0 36 (nx (nx (nx (nx x))))) := fun h e => by have := BB h 10 (by decide) (by decide); rw [e] at this; exact this
  clear BB
  generalize rd x (σ.1 6).val = s at *
  generalize rd (nx x) 8 = d at *
  generalize rd (nx (nx x)) 4 = k4 at *
  generalize rd (nx (nx (nx x))) 10 = m10 at *
  generalize nx (nx (nx (nx x))) = y4 at *
  generalize nx (nx (nx x)) = y3 at *
  generalize nx (nx x) = y2 at *
  generalize nx x = y1 at *
  have B1 := B1 _ (s1 g y1)
  have hM2 := (hM.sd y1).sd y2
  have f2 := (fI g y1).tr (fI (pm_sI g 8 0 36 y1) y2)
  have e2 := s1 (pm_sI g 8 0 36 y1) y2
  generalize pm_sI (pm_sI g 8 0 36 y1) 8 0 36 y2 = g2 at *
  rw [E_X9_draws, m16, B0, cI_s, show (8 : Int32) = nI 8 from rfl, B1, cI_s, E_X9_draws_15]
  unfold aDrwC aDrwX
  by_cases q0 : d < 4
  · obtain ⟨g', e, hM', f⟩ := does_M hV hM2 (kd := 0) (s := s) (b := d) (m := 0) (by decide) (by omega) (nI s) (nI d) (-1) (fun _ => rfl) (fun _ => ⟨rfl, q0⟩) (fun z => by omega)
    refine ⟨g', ?_, ?_, ?_, f2.tr f.1⟩
    · rw [show (4 : Int32) = nI 4 from rfl, if_pos ((nn_lt (by omega) (by decide)).mpr q0), show (0 : Int32) = nI 0 from rfl, e, cI_s]
    · rw [if_pos q0]; exact hM'
    · rw [if_neg (show ¬ d = 4 by omega), f.2 36 (by omega)]; exact e2
  · rw [if_neg (show ¬ nI d < (4 : Int32) from fun z => q0 ((nn_lt (b := 4) (by omega) (by decide)).mp z))]
    by_cases q1 : d = 4
    · have B2 := B2 _ e2
      have B3 := B3 _ (s1 g2 y3)
      have hM4 := (hM2.sd y3).sd y4
      have f4 := (fI g2 y3).tr (fI (pm_sI g2 8 0 36 y3) y4)
      have e4 := s1 (pm_sI g2 8 0 36 y3) y4
      generalize pm_sI (pm_sI g2 8 0 36 y3) 8 0 36 y4 = g4 at *
      obtain ⟨g', e, hM', f⟩ := does_M hV hM4 (kd := 1) (s := s) (b := k4) (m := m10) (by decide) (by omega) (nI s) (nI k4) (nI m10) (fun _ => rfl) (fun _ => ⟨rfl, r4⟩) (fun _ => ⟨rfl, by omega⟩)
      refine ⟨g', ?_, ?_, ?_, (f2.tr f4).tr f.1⟩
      · rw [if_pos (show nI d = (4 : Int32) by rw [q1]; rfl), show (4 : Int32) = nI 4 from rfl, B2, cI_s, show (10 : Int32) = nI 10 from rfl, B3, cI_s, E_X9_draws_54, show (1 : Int32) = nI 1 from rfl, e, cI_s]
      · rw [if_neg q0, if_pos q1]; exact hM'
      · rw [if_pos q1, f.2 36 (by omega)]; exact e4
    · rw [if_neg (show ¬ nI d = (4 : Int32) from fun z => q1 ((nn_eq (by omega) (by decide)).mp (z.trans (show (4 : Int32) = nI 4 from rfl))))]
      by_cases q2 : d = 5
      · obtain ⟨g', e, hM', f⟩ := does_M hV hM2 (kd := 2) (s := s) (b := 0) (m := 0) (by decide) (by omega) (nI s) (-1) (-1) (fun _ => rfl) (fun z => by omega) (fun z => by omega)
        refine ⟨g', ?_, ?_, ?_, f2.tr f.1⟩
        · rw [if_pos (show nI d = (5 : Int32) by rw [q2]; rfl), show (2 : Int32) = nI 2 from rfl, e, cI_s]
        · rw [if_neg q0, if_neg q1, if_pos q2]; exact hM'
        · rw [if_neg q1, f.2 36 (by omega)]; exact e2
      · rw [if_neg (show ¬ nI d = (5 : Int32) from fun z => q2 ((nn_eq (by omega) (by decide)).mp (z.trans (show (5 : Int32) = nI 5 from rfl))))]
        obtain ⟨g', e, hM', f⟩ := does_M hV hM2 (kd := 3) (s := 0) (b := 0) (m := 0) (by decide) (by decide) (nI s) (-1) (-1) (fun z => absurd rfl z) (fun z => by omega) (fun z => by omega)
        refine ⟨g', ?_, by rw [if_neg q0, if_neg q1, if_neg q2]; exact hM', ?_, f2.tr f.1⟩
        · rw [show (3 : Int32) = nI 3 from rfl, e, cI_s]
        · rw [if_neg q1, f.2 36 (by omega)]; exact e2
