/-- what a text begins with -/
def iniD (s : Nat) : DD := (fun i => if s = 0 then (if i = 0 ∨ i = 1 then 6 else if i = 4 then 1 else 0) else if s = 1 then 0 else (if i = 1 then 1 else 0), 0, 0, -1)
theorem iniD_V {s : Nat} (hs : s < 3) : rVs s (iniD s) := by
  have : s = 0 ∨ s = 1 ∨ s = 2 := by omega
  rcases this with e | e | e <;> subst e
  · refine ⟨by decide, fun g hg => absurd hg (Nat.not_lt_zero _), fun s hs => absurd hs (Nat.not_lt_zero _), fun i hi => ?_⟩
    have e : (iniD 0).1 (200 + i) = 0 := by
      show (if (0 : Nat) = 0 then (if 200 + i = 0 ∨ 200 + i = 1 then (6 : Fin 64) else if 200 + i = 4 then 1 else 0) else if (0 : Nat) = 1 then 0 else (if 200 + i = 1 then 1 else 0)) = 0
      rw [if_pos rfl, if_neg (by omega), if_neg (by omega)]
    rw [e]
    exact ⟨by decide, fun z => absurd z (by decide)⟩
  · exact ⟨by decide, fun k hk => absurd hk (Nat.not_lt_zero _)⟩
  · exact ⟨by decide, fun k hk => absurd hk (Nat.not_lt_zero _), fun k hk => absurd hk (Nat.not_lt_zero _)⟩
theorem rbegin_C (h : PH) {s : Nat} (hs : s < 3) : ∃ h', pm_ev (65, 0, [vr 4 0], [], h) = some (none, h') ∧ DCs s h' (iniD s) ∧ h'.1 4 0 8 = nI 0 ∧ h'.1 4 0 3 = nI 0 ∧ h'.1 4 0 4 = iI (-1) ∧ Fr rdT h h' := by
  generalize hH : pm_sI (pm_sI (pm_sI (pm_sI (pm_sI (pm_sI (pm_sI (pm_sI (pm_sI (pm_sI (pm_sI (pm_sI (pm_sI (pm_sL (pm_sI (pm_sI (pm_sI (pm_sI h 0 8 0 (nI 6)) 0 8 1 (nI 6)) 0 8 2 (nI 0)) 0 8 3 (nI 1)) 0 8 4 0) 0 8 5 (nI 0)) 0 8 8 (nI 0)) 3 8 0 (nI 0)) 2 8 0 (nI 0)) 2 8 2 (nI 1)) 2 8 3 (nI 0)) 2 8 4 (nI 0)) 4 0 3 (nI 0)) 4 0 4 (iI (-1))) 4 0 8 (nI 0)) 4 0 9 (nI 0)) 4 0 10 (nI 0)) 4 0 11 (iI (-1)) = h'
  have e : pm_ev (65, 0, [vr 4 0], [], h) = some (none, h') := by
    rw [E_X4_begin, E_X0_clear, cV_s, E_X2_clear, cV_s, ← hH]
    rfl
  refine ⟨h', e, ?_, ?_, ?_, ?_, ?_⟩
  · have : s = 0 ∨ s = 1 ∨ s = 2 := by omega
    rcases this with z | z | z <;> subst z
    · refine ⟨⟨⟨?_, ?_, ?_, ?_, ?_, ?_, ?_⟩, fun g hg => absurd hg (Nat.not_lt_zero _), fun s hs => absurd hs (Nat.not_lt_zero _)⟩, ?_, ?_, ?_⟩
      · rw [← hH]; simp (disch := omega) only [cU_ne, cU_eq, f64_v, sI_pl, sI_same, sI_tag, sI_2, sL_1, sL_tag, sL_same, sL_pl]; rfl
      · rw [← hH]; simp (disch := omega) only [cU_ne, cU_eq, f64_v, sI_pl, sI_same, sI_tag, sI_2, sL_1, sL_tag, sL_same, sL_pl]; rfl
      · rw [← hH]; simp (disch := omega) only [cU_ne, cU_eq, f64_v, sI_pl, sI_same, sI_tag, sI_2, sL_1, sL_tag, sL_same, sL_pl]; rfl
      · rw [← hH]; simp (disch := omega) only [cU_ne, cU_eq, f64_v, sI_pl, sI_same, sI_tag, sI_2, sL_1, sL_tag, sL_same, sL_pl]; rfl
      · rw [← hH]; simp (disch := omega) only [cU_ne, cU_eq, f64_v, sI_pl, sI_same, sI_tag, sI_2, sL_1, sL_tag, sL_same, sL_pl]; rfl
      · rw [← hH]; simp (disch := omega) only [cU_ne, cU_eq, f64_v, sI_pl, sI_same, sI_tag, sI_2, sL_1, sL_tag, sL_same, sL_pl]; rfl
      · rw [← hH]
        simp (disch := omega) only [cU_ne, cU_eq, f64_v, sI_pl, sI_same, sI_tag, sI_2, sL_1, sL_tag, sL_same, sL_pl]
        rw [lS_0]
        refine lS_cong (fun i _ => ?_)
        have e : (iniD 0).1 (200 + i) = 0 := by
          show (if (0 : Nat) = 0 then (if 200 + i = 0 ∨ 200 + i = 1 then (6 : Fin 64) else if 200 + i = 4 then 1 else 0) else if (0 : Nat) = 1 then 0 else (if 200 + i = 1 then 1 else 0)) = 0
          rw [if_pos rfl, if_neg (by omega), if_neg (by omega)]
        rw [e]; rfl
      · rw [← hH]; simp (disch := omega) only [cU_ne, cU_eq, f64_v, sI_pl, sI_same, sI_tag, sI_2, sL_1, sL_tag, sL_same, sL_pl]; rfl
      · rw [← hH]; simp (disch := omega) only [cU_ne, cU_eq, f64_v, sI_pl, sI_same, sI_tag, sI_2, sL_1, sL_tag, sL_same, sL_pl]; rfl
      · rw [← hH]; simp (disch := omega) only [cU_ne, cU_eq, f64_v, sI_pl, sI_same, sI_tag, sI_2, sL_1, sL_tag, sL_same, sL_pl]; rfl
    · refine ⟨?_, fun k hk => absurd hk (Nat.not_lt_zero _)⟩
      rw [← hH]; simp (disch := omega) only [cU_ne, cU_eq, f64_v, sI_pl, sI_same, sI_tag, sI_2, sL_1, sL_tag, sL_same, sL_pl]; rfl
    · refine ⟨⟨?_, ?_, ?_, ?_⟩, fun k hk => absurd hk (Nat.not_lt_zero _), fun k hk => absurd hk (Nat.not_lt_zero _)⟩
      · rw [← hH]; simp (disch := omega) only [cU_ne, cU_eq, f64_v, sI_pl, sI_same, sI_tag, sI_2, sL_1, sL_tag, sL_same, sL_pl]; rfl
      · rw [← hH]; simp (disch := omega) only [cU_ne, cU_eq, f64_v, sI_pl, sI_same, sI_tag, sI_2, sL_1, sL_tag, sL_same, sL_pl]; rfl
      · rw [← hH]; simp (disch := omega) only [cU_ne, cU_eq, f64_v, sI_pl, sI_same, sI_tag, sI_2, sL_1, sL_tag, sL_same, sL_pl]; rfl
      · rw [← hH]; simp (disch := omega) only [cU_ne, cU_eq, f64_v, sI_pl, sI_same, sI_tag, sI_2, sL_1, sL_tag, sL_same, sL_pl]; rfl
  · rw [← hH]; simp (disch := omega) only [cU_ne, cU_eq, f64_v, sI_pl, sI_same, sI_tag, sI_2, sL_1, sL_tag, sL_same, sL_pl]
  · rw [← hH]; simp (disch := omega) only [cU_ne, cU_eq, f64_v, sI_pl, sI_same, sI_tag, sI_2, sL_1, sL_tag, sL_same, sL_pl]
  · rw [← hH]; simp (disch := omega) only [cU_ne, cU_eq, f64_v, sI_pl, sI_same, sI_tag, sI_2, sL_1, sL_tag, sL_same, sL_pl]
  · rw [← hH]
    have fI : ∀ (h : PH) t i k v, rdT t i = true → Fr rdT h (pm_sI h t i k v) := fun h t i k v z => Fr.sI _ _ _ z
    exact ((((((((((((((((((fI _ 0 8 _ _ rfl).tr (fI _ 0 8 _ _ rfl)).tr (fI _ 0 8 _ _ rfl)).tr (fI _ 0 8 _ _ rfl)).tr (Fr.sL _ _ _ rfl)).tr (fI _ 0 8 _ _ rfl)).tr (fI _ 0 8 _ _ rfl)).tr (fI _ 3 8 _ _ rfl)).tr (fI _ 2 8 _ _ rfl)).tr (fI _ 2 8 _ _ rfl)).tr (fI _ 2 8 _ _ rfl)).tr (fI _ 2 8 _ _ rfl)).tr (fI _ 4 0 _ _ rfl)).tr (fI _ 4 0 _ _ rfl)).tr (fI _ 4 0 _ _ rfl)).tr (fI _ 4 0 _ _ rfl)).tr (fI _ 4 0 _ _ rfl)).tr (fI _ 4 0 _ _ rfl))
/-- the faults of a whole text: fault and place, 0 and whatever if none -/
def aFin (n s : Nat) (r : LnS × DD) : Nat × Nat :=
  match r.1 with
  | .inl w => (1, w)
  | .inr y => if s = 0 then
      nt1 (nt1 y.2.1 y.2.2 (if r.2.2.1 < (r.2.1 0).val ∧ r.2.2.2.1 < (r.2.1 1).val then 0 else 5) n).1 (nt1 y.2.1 y.2.2 (if r.2.2.1 < (r.2.1 0).val ∧ r.2.2.2.1 < (r.2.1 1).val then 0 else 5) n).2 (if r.2.2.2.2 < ((r.2.1 6).val : Int) then 0 else 6) n
      else (y.2.1, y.2.2)
theorem lookN_C {h : PH} {n f pl : Nat} {D : DD} (hn : n ≤ 600) (h3 : h.1 4 0 3 = nI f) (h4 : h.1 4 0 4 = plI f pl) (hf : f ≤ 6) (hD : DcC h D) (hV : rVc D) : ∃ h', pm_ev (83, 0, [vr 4 0, vi (nI n)], [], h) = some (none, h') ∧ h'.1 4 0 3 = nI (aFin n 0 (.inr (0, f, pl), D)).1 ∧ h'.1 4 0 4 = plI (aFin n 0 (.inr (0, f, pl), D)).1 (aFin n 0 (.inr (0, f, pl), D)).2 ∧ (aFin n 0 (.inr (0, f, pl), D)).1 ≤ 6 ∧ frR h h' := by
  obtain ⟨⟨⟨c0, c1, _, _, _, c8, _⟩, _⟩, m9, m10, m11⟩ := hD
  obtain ⟨⟨a0, a1, _, _, _, _, a6, a7, a8, a9, a10⟩, _⟩ := hV
  show ∃ h' : PH, _ ∧ h'.1 4 0 3 = nI (nt1 (nt1 f pl (if D.2.1 < (D.1 0).val ∧ D.2.2.1 < (D.1 1).val then 0 else 5) n).1 (nt1 f pl (if D.2.1 < (D.1 0).val ∧ D.2.2.1 < (D.1 1).val then 0 else 5) n).2 (if D.2.2.2 < ((D.1 6).val : Int) then 0 else 6) n).1 ∧ h'.1 4 0 4 = plI (nt1 (nt1 f pl (if D.2.1 < (D.1 0).val ∧ D.2.2.1 < (D.1 1).val then 0 else 5) n).1 (nt1 f pl (if D.2.1 < (D.1 0).val ∧ D.2.2.1 < (D.1 1).val then 0 else 5) n).2 (if D.2.2.2 < ((D.1 6).val : Int) then 0 else 6) n).1 (nt1 (nt1 f pl (if D.2.1 < (D.1 0).val ∧ D.2.2.1 < (D.1 1).val then 0 else 5) n).1 (nt1 f pl (if D.2.1 < (D.1 0).val ∧ D.2.2.1 < (D.1 1).val then 0 else 5) n).2 (if D.2.2.2 < ((D.1 6).val : Int) then 0 else 6) n).2 ∧ (nt1 (nt1 f pl (if D.2.1 < (D.1 0).val ∧ D.2.2.1 < (D.1 1).val then 0 else 5) n).1 (nt1 f pl (if D.2.1 < (D.1 0).val ∧ D.2.2.1 < (D.1 1).val then 0 else 5) n).2 (if D.2.2.2 < ((D.1 6).val : Int) then 0 else 6) n).1 ≤ 6 ∧ _
  have NC : ∀ (g : PH) (f pl k : Nat), g.1 4 0 3 = nI f → g.1 4 0 4 = plI f pl → f ≤ 6 → 2 ≤ k → k ≤ 6 → ∃ g', pm_ev (66, 0, [vr 4 0, vi (nI k), vi (nI n)], [], g) = some (none, g') ∧ g'.1 4 0 3 = nI (nt1 f pl k n).1 ∧ g'.1 4 0 4 = plI (nt1 f pl k n).1 (nt1 f pl k n).2 ∧ (nt1 f pl k n).1 ≤ 6 ∧ frR g g' := fun g f pl k x3 x4 xf k2 k6 => by
    obtain ⟨g', e, y3, y4, y6, yf, y2⟩ := note_C (w := n) x3 x4 xf k2 k6
    exact ⟨g', e, y3, y4, y6, ⟨fun t i x hx _ => yf t i x (fun w => hx ⟨w.1, w.2.1, by omega⟩), y2⟩⟩
  have l9 : (nI D.2.1 < nI (D.1 0).val) = (D.2.1 < (D.1 0).val) := propext (nn_lt (by omega) (by omega))
  have l10 : (nI D.2.2.1 < nI (D.1 1).val) = (D.2.2.1 < (D.1 1).val) := propext (nn_lt (by omega) (by omega))
  have l11 : (iI D.2.2.2 < nI (D.1 6).val) = (D.2.2.2 < ((D.1 6).val : Int)) := propext (in_lt (by omega) (by omega) (by omega))
  -- the second look
  have two : ∀ (g : PH) (f pl : Nat), frR h g → g.1 4 0 3 = nI f → g.1 4 0 4 = plI f pl → f ≤ 6 → ∃ h', (if g.1 4 0 11 < g.1 0 8 8 then some (none, g) else (pm_bV (pm_ev (66, 0, [vr 4 0, vi 6, vi (nI n)], [], g)) fun h1 => some (none, h1))) = some ((none : Option PV), h') ∧ h'.1 4 0 3 = nI (nt1 f pl (if D.2.2.2 < ((D.1 6).val : Int) then 0 else 6) n).1 ∧ h'.1 4 0 4 = plI (nt1 f pl (if D.2.2.2 < ((D.1 6).val : Int) then 0 else 6) n).1 (nt1 f pl (if D.2.2.2 < ((D.1 6).val : Int) then 0 else 6) n).2 ∧ (nt1 f pl (if D.2.2.2 < ((D.1 6).val : Int) then 0 else 6) n).1 ≤ 6 ∧ frR h h' := fun g f pl fg x3 x4 xf => by
    rw [fg.1 4 0 11 (by omega) (by omega), fg.1 0 8 8 (by omega) (by omega), m11, c8]
    by_cases q : D.2.2.2 < ((D.1 6).val : Int)
    · rw [if_pos (l11.mpr q), if_pos q, nt1_0]
      exact ⟨g, rfl, x3, x4, xf, fg⟩
    · rw [if_neg (fun z => q (l11.mp z)), if_neg q]
      obtain ⟨g', e, y3, y4, y6, yf⟩ := NC g f pl 6 x3 x4 xf (by decide) (by decide)
      exact ⟨g', by rw [show (6 : Int32) = nI 6 from rfl, e, cV_s], y3, y4, y6, fg.tr yf⟩
  rw [E_X4_lookForWhatIsNotThere, m9, c0, m10, c1]
  by_cases q : D.2.1 < (D.1 0).val ∧ D.2.2.1 < (D.1 1).val
  · rw [if_pos q, if_pos (l9.mpr q.1), if_pos (l10.mpr q.2), nt1_0]
    exact two h f pl (frR.rf h) h3 h4 hf
  · rw [if_neg q]
    obtain ⟨g1, e1, y3, y4, y6, yf⟩ := NC h f pl 5 h3 h4 hf (by decide) (by decide)
    have T2 := two g1 _ _ yf y3 y4 y6
    by_cases q1 : D.2.1 < (D.1 0).val
    · have q2 : ¬ D.2.2.1 < (D.1 1).val := fun z => q ⟨q1, z⟩
      rw [if_pos (l9.mpr q1), if_neg (fun z => q2 (l10.mp z)), show (5 : Int32) = nI 5 from rfl, e1, cV_s]
      exact T2
    · rw [if_neg (fun z => q1 (l9.mp z)), show (5 : Int32) = nI 5 from rfl, e1, cV_s]
      exact T2
