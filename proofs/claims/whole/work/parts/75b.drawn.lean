theorem CouC.sd {h : PH} {σ : CrS} (hC : CouC h σ) (v : Int32) : CouC (pm_sI h 1 0 5 v) σ := by
  obtain ⟨a, b, c, d, e⟩ := hC
  exact ⟨a.fr (fun t k ht _ => sI_tag _ _ _ _ _ _ (by omega)) rfl, (sI_pl _ _ _ _ _ (by decide)).trans b, (sI_pl _ _ _ _ _ (by decide)).trans c, (sI_pl _ _ _ _ _ (by decide)).trans d, (sI_pl _ _ _ _ _ (by decide)).trans e⟩
theorem draw_13 {nx : Int32 → Int32} {rd : Int32 → Nat → Nat} (hR : RdOk nx rd) {σ : CrS} (hV : csV σ) (h6 : 0 < (σ.1 6).val) {h : PH} (hC : CouC h σ) {n k : Nat} (hn : n < 100) (hk : k < n) : ∃ h', pm_ev (31, 13, [vr 1 0, none, none, vi (nI n), vi (nI k), none, none, none, none], [], h) = pm_ev (31, 13, [vr 1 0, none, none, vi (nI n), vi (nI (k + 1)), none, none, none, none], [], h') ∧ CouC h' (aDrawC nx rd (h.1 1 0 5) σ) ∧ h'.1 1 0 5 = aDrawX nx rd (h.1 1 0 5) ∧ Fr crT h h' := by
  have hV1 := hV.1.1
  have c8 : h.1 0 9 8 = nI (σ.1 6).val := hC.1.1.2.2.2.2.2.1
  have s1 : ∀ (h : PH) v, (pm_sI h 1 0 5 v).1 1 0 5 = v := fun h v => sI_same _ _ _ _ _
  have fI : ∀ (h : PH) v, Fr crT h (pm_sI h 1 0 5 v) := fun h v => Fr.sI _ _ _ rfl
  have BB := hR.2.1
  unfold aDrawC aDrawX
  generalize hx : h.1 1 0 5 = x
  have r0 := hR.1 x _ h6
  have r8 := hR.1 (nx x) 8 (by decide)
  have r4 := hR.1 (nx (nx x)) 4 (by decide)
  have r10 := hR.1 (nx (nx (nx x))) 10 (by decide)
  have B0 := BB h _ h6 (by omega)
  rw [hx] at B0
  have B1 : ∀ h : PH, h.1 1 0 5 = nx x → pm_ev (32, 0, [vr 1 0, vi (nI 8)], [], h) = some (some (vi (nI (rd (nx x) 8))), pm_sI h 1 0 5 (nx (nx x))) := fun h e => by have := BB h 8 (by decide) (by decide); rw [e] at this; exact this
  have B2 : ∀ h : PH, h.1 1 0 5 = nx (nx x) → pm_ev (32, 0, [vr 1 0, vi (nI 4)], [], h) = some (some (vi (nI (rd (nx (nx x)) 4))), pm_sI h 1 0 5 (nx (nx (nx x)))) := fun h e => by have := BB h 4 (by decide) (by decide); rw [e] at this; exact this
  have B3 : ∀ h : PH, h.1 1 0 5 = nx (nx (nx x)) → pm_ev (32, 0, [vr 1 0, vi (nI 10)], [], h) = some (some (vi (nI (rd (nx (nx (nx x))) 10))), pm_sI h 1 0 5 (nx (nx (nx (nx x))))) := fun h e => by have := BB h 10 (by decide) (by decide); rw [e] at this; exact this
  clear BB
  generalize rd x (σ.1 6).val = s at *
  generalize rd (nx x) 8 = d at *
  generalize rd (nx (nx x)) 4 = k4 at *
  generalize rd (nx (nx (nx x))) 10 = m10 at *
  generalize nx (nx (nx (nx x))) = y4 at *
  generalize nx (nx (nx x)) = y3 at *
  generalize nx (nx x) = y2 at *
  generalize nx x = y1 at *
  have B1 := B1 _ (s1 h y1)
  have hC2 := (hC.sd y1).sd y2
  have f2 := (fI h y1).tr (fI (pm_sI h 1 0 5 y1) y2)
  have e2 := s1 (pm_sI h 1 0 5 y1) y2
  generalize pm_sI (pm_sI h 1 0 5 y1) 1 0 5 y2 = h2 at *
  have st : pm_ev (31, 13, [vr 1 0, none, none, vi (nI n), vi (nI k), none, none, none, none], [], h) = (if nI d < 4 then (pm_bI (pm_ev (33, 0, [vr 1 0, vi 0, vi (nI s), vi (nI d), vi (-1)], [], h2)) fun r7 h6 => pm_ev (31, 120, [vr 1 0, none, none, vi (nI n), vi (nI k), none, none, none, none], [], h6)) else pm_ev (31, 60, [vr 1 0, none, none, vi (nI n), vi (nI k), vi (nI s), vi (nI d), none, none], [], h2)) := by
    rw [E_X1_draw_13, if_pos ((nn_lt (by omega) (by omega)).mpr hk), c8, B0, cI_s, show (8 : Int32) = nI 8 from rfl, B1, cI_s]
  rw [st]
  have nxt : ∀ h', pm_ev (31, 120, [vr 1 0, none, none, vi (nI n), vi (nI k), none, none, none, none], [], h') = pm_ev (31, 13, [vr 1 0, none, none, vi (nI n), vi (nI (k + 1)), none, none, none, none], [], h') := fun h' => by rw [E_X1_draw_120, show (1 : Int32) = nI 1 from rfl, nI_add]
  unfold aDrwC aDrwX
  by_cases q0 : d < 4
  · obtain ⟨h', e, hC', f⟩ := act_C hV hC2 (kd := 0) (s := s) (b := d) (m := 0) (by decide) (by omega) (nI d) (-1) (fun _ => ⟨rfl, q0⟩) (fun z => by omega)
    refine ⟨h', ?_, ?_, ?_, f2.tr f.1⟩
    · rw [show (4 : Int32) = nI 4 from rfl, if_pos ((nn_lt (by omega) (by decide)).mpr q0), show (0 : Int32) = nI 0 from rfl, e, cI_s, nxt]
    · rw [if_pos q0]; exact hC'
    · rw [if_neg (show ¬ d = 4 by omega), f.2]; exact e2
  · rw [if_neg (show ¬ nI d < (4 : Int32) from fun z => q0 ((nn_lt (b := 4) (by omega) (by decide)).mp z)), E_X1_draw_60]
    by_cases q1 : d = 4
    · have B2 := B2 _ e2
      have B3 := B3 _ (s1 h2 y3)
      have hC4 := (hC2.sd y3).sd y4
      have f4 := (fI h2 y3).tr (fI (pm_sI h2 1 0 5 y3) y4)
      have e4 := s1 (pm_sI h2 1 0 5 y3) y4
      generalize pm_sI (pm_sI h2 1 0 5 y3) 1 0 5 y4 = h4 at *
      obtain ⟨h', e, hC', f⟩ := act_C hV hC4 (kd := 1) (s := s) (b := k4) (m := m10) (by decide) (by omega) (nI k4) (nI m10) (fun _ => ⟨rfl, r4⟩) (fun _ => ⟨rfl, by omega⟩)
      refine ⟨h', ?_, ?_, ?_, (f2.tr f4).tr f.1⟩
      · rw [if_pos (show nI d = (4 : Int32) by rw [q1]; rfl), show (4 : Int32) = nI 4 from rfl, B2, cI_s, show (10 : Int32) = nI 10 from rfl, B3, cI_s, show (1 : Int32) = nI 1 from rfl, e, cI_s, nxt]
      · rw [if_neg q0, if_pos q1]; exact hC'
      · rw [if_pos q1, f.2]; exact e4
    · rw [if_neg (show ¬ nI d = (4 : Int32) from fun z => q1 ((nn_eq (by omega) (by decide)).mp (z.trans (show (4 : Int32) = nI 4 from rfl)))), E_X1_draw_96]
      by_cases q2 : d = 5
      · obtain ⟨h', e, hC', f⟩ := act_C hV hC2 (kd := 2) (s := s) (b := 0) (m := 0) (by decide) (by omega) (-1) (-1) (fun z => by omega) (fun z => by omega)
        refine ⟨h', ?_, ?_, ?_, f2.tr f.1⟩
        · rw [if_pos (show nI d = (5 : Int32) by rw [q2]; rfl), show (2 : Int32) = nI 2 from rfl, e, cI_s, nxt]
        · rw [if_neg q0, if_neg q1, if_pos q2]; exact hC'
        · rw [if_neg q1, f.2]; exact e2
      · rw [if_neg (show ¬ nI d = (5 : Int32) from fun z => q2 ((nn_eq (by omega) (by decide)).mp (z.trans (show (5 : Int32) = nI 5 from rfl)))), E_X1_draw_115]
        have ed : aDo σ 3 0 0 0 = if σ.2.1 < 23 then (true, aPass σ) else (false, σ) := rfl
        by_cases hh : σ.2.1 < 23
        · obtain ⟨h', e, hC', f⟩ := pass_C hV hC2 hh
          refine ⟨h', ?_, ?_, ?_, f2.tr f.1⟩
          · rw [e, cI_s, nxt]
          · rw [if_neg q0, if_neg q1, if_neg q2, ed, if_pos hh]; exact hC'
          · rw [if_neg q1, f.2]; exact e2
        · have h24 := hV.2.1
          refine ⟨h2, ?_, ?_, ?_, f2⟩
          · rw [pass_C0 hC2 (by omega), cI_s, nxt]
          · rw [if_neg q0, if_neg q1, if_neg q2, ed, if_neg hh]; exact hC2
          · rw [if_neg q1]; exact e2
