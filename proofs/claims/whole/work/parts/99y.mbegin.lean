/-! ===== the reference's text: its beginning ===== -/
def h0M (g : PH) : PH := pm_sI (pm_sI (pm_sI (pm_sI g 8 0 2 (g.1 33 0 4)) 33 0 4 0) 33 0 5 0) 33 0 6 (-1)
theorem h0M_33 (g : PH) {k : Nat} (hk : k < 4 ∨ 7 ≤ k) : (h0M g).1 33 0 k = g.1 33 0 k := by
  unfold h0M
  rw [sI_pl _ _ _ _ _ (by omega), sI_pl _ _ _ _ _ (by omega), sI_pl _ _ _ _ _ (by omega), sI_tag _ _ _ _ _ _ (by decide)]
theorem h0M_o (g : PH) {t i k : Nat} (h : ¬ (t = 8 ∧ i = 0 ∧ k = 2)) (h' : ¬ (t = 33 ∧ i = 0 ∧ 4 ≤ k ∧ k ≤ 6)) : (h0M g).1 t i k = g.1 t i k := by
  unfold h0M
  rw [pm_sI_at, if_neg (fun z => h' ⟨z.1, z.2.1, by omega⟩), pm_sI_at, if_neg (fun z => h' ⟨z.1, z.2.1, by omega⟩), pm_sI_at, if_neg (fun z => h' ⟨z.1, z.2.1, by omega⟩), pm_sI_at, if_neg (fun z => h ⟨z.1, z.2.1, z.2.2⟩)]
theorem h0M_4 (g : PH) : (h0M g).1 33 0 4 = nI 0 := by
  unfold h0M
  rw [sI_pl _ _ _ _ _ (by decide), sI_pl _ _ _ _ _ (by decide), sI_same]; rfl
theorem h0M_5 (g : PH) : (h0M g).1 33 0 5 = nI 0 := by
  unfold h0M
  rw [sI_pl _ _ _ _ _ (by decide), sI_same]; rfl
theorem h0M_6 (g : PH) : (h0M g).1 33 0 6 = iI (-1) := by
  unfold h0M
  rw [sI_same]; rfl
theorem h0M_2 (g : PH) : (h0M g).1 8 0 2 = g.1 33 0 4 := by
  unfold h0M
  rw [sI_tag _ _ _ _ _ _ (by decide), sI_tag _ _ _ _ _ _ (by decide), sI_tag _ _ _ _ _ _ (by decide), sI_same]
theorem text_M0 (g : PH) (a b : Int32) : pm_ev (181, 0, [vr 8 0, vi a, vi b, none, none], [], g) = pm_bI (pm_ev (153, 0, [vi a, vi 0, vi 2], [], h0M g)) fun r2 h1 => pm_ev (181, 38, [vr 8 0, vi a, vi b, none, none], [vi r2], h1) := by
  rw [E_X9_text, E_X9_text_7, E_X9_text_10, E_X9_text_17, E_X9_text_24, E_X9_text_32]
  rfl
/-- no such sort -/
theorem text_Mn (g : PH) {a : Int32} (b : Int32) (ha : a < 0 ∨ 2 < a) : pm_ev (181, 0, [vr 8 0, vi a, vi b, none, none], [], g) = some (some (vi (-2)), h0M g) := by
  rw [text_M0, E_X9_isIn]
  by_cases q : a < 0
  · rw [if_pos q, cI_s, E_X9_text_38, if_pos rfl, E_X9_text_68]
  · rw [if_neg q, if_pos (by rcases ha with z | z; exact absurd z q; exact z), cI_s, E_X9_text_38, if_pos rfl, E_X9_text_68]
theorem text_M1 (g : PH) {s : Nat} (b : Int32) (hs : s < 3) : pm_ev (181, 0, [vr 8 0, vi (nI s), vi b, none, none], [], g) = pm_ev (181, 38, [vr 8 0, vi (nI s), vi b, none, none], [vi 1], h0M g) := by
  rw [text_M0, E_X9_isIn]
  have h1 : ¬ nI s < 0 := by
    have : ∀ m, m < 3 → ¬ nI m < 0 := by decide
    exact this s hs
  have h2 : ¬ (2 : Int32) < nI s := by
    have : ∀ m, m < 3 → ¬ (2 : Int32) < nI m := by decide
    exact this s hs
  rw [if_neg h1, if_neg h2, cI_s]
/-- a sort, and room or not for a new one -/
theorem text_M2 {g : PH} {s m : Nat} (hs : s < 3) (hm : m ≤ 2) (h33 : g.1 33 0 s = nI m) : pm_ev (181, 0, [vr 8 0, vi (nI s), vi (-1), none, none], [], g) = if m < 2 then pm_ev (181, 71, [vr 8 0, vi (nI s), vi (-1), none, none], [], h0M g) else some (some (vi (-2)), h0M g) := by
  rw [text_M1 g _ hs, E_X9_text_38, if_neg (by decide), if_pos rfl, if_pos (inb_n (by omega) (by omega)), nn_clamp (by omega), h0M_33 g (by omega), h33, E_X9_text_52]
  by_cases q : m < 2
  · rw [if_pos (show nI m < 2 from by rw [show (2 : Int32) = nI 2 from rfl]; exact (nn_lt (by omega) (by decide)).mpr q), if_pos q]
  · rw [if_neg (show ¬ nI m < 2 from fun z => q (by rw [show (2 : Int32) = nI 2 from rfl] at z; exact (nn_lt (by omega) (by decide)).mp z)), if_neg q, E_X9_text_68]
theorem text_M3 {g : PH} {s m : Nat} {z : Int} (hs : s < 3) (hm : m ≤ 2) (h33 : g.1 33 0 s = nI m) (z1 : -2147483648 ≤ z) (z2 : z < 2147483648) (nz : z ≠ -1) : pm_ev (181, 0, [vr 8 0, vi (nI s), vi (iI z), none, none], [], g) = if 0 ≤ z ∧ z < m then pm_ev (181, 71, [vr 8 0, vi (nI s), vi (iI z), none, none], [], h0M g) else some (some (vi (-2)), h0M g) := by
  have n1 : ¬ iI z = -1 := by
    rw [show (-1 : Int32) = iI (-1) from rfl, iI_eq z1 z2 (by decide) (by decide)]; exact nz
  rw [text_M1 g _ hs, E_X9_text_38, if_neg (by decide), if_neg n1, E_X9_isOf, if_pos (inb_n (by omega) (by omega)), nn_clamp (by omega), h0M_33 g (by omega), h33, E_X9_isOf_8, show (0 : Int32) = nI 0 from rfl, show (1 : Int32) = nI 1 from rfl, nI_sub, isIn_ini _ z1 z2 (by decide) (by omega) (by omega), cI_s]
  by_cases q : 0 ≤ z ∧ z < m
  · have e : (decide (((0 : Nat) : Int) ≤ z) && decide (z ≤ (m : Int) - ((1 : Nat) : Int))) = true := by
      rw [Bool.and_eq_true, decide_eq_true_iff, decide_eq_true_iff]; omega
    rw [e, if_pos (by decide), cI_s, E_X9_text_65, if_neg (by decide), if_pos q]
  · have e : (decide (((0 : Nat) : Int) ≤ z) && decide (z ≤ (m : Int) - ((1 : Nat) : Int))) = false := by
      rw [Bool.and_eq_false_iff, decide_eq_false_iff_not, decide_eq_false_iff_not]; omega
    rw [e, if_pos (by decide), cI_s, E_X9_text_65, if_pos (by decide), if_neg q, E_X9_text_68]
/-- the table of the reading is emptied -/
theorem zero_98 (x1 x2 : Int32) : ∀ r k g, k + r = 161 → ∃ g' : PH, pm_ev (181, 98, [vr 8 0, vi x1, vi x2, vi (nI k), none], [], g) = pm_ev (181, 98, [vr 8 0, vi x1, vi x2, vi (nI 161), none], [], g') ∧ (∀ j, k ≤ j → j < 161 → g'.1 35 0 j = nI 0) ∧ (∀ t i j, ¬ (t = 35 ∧ i = 0 ∧ k ≤ j) → g'.1 t i j = g.1 t i j) ∧ g'.2 = g.2 := by
  intro r
  induction r with
  | zero =>
    intro k g hk
    have hk : k = 161 := by omega
    subst hk
    exact ⟨g, rfl, fun j h1 h2 => by omega, fun _ _ _ _ => rfl, rfl⟩
  | succ r ih =>
    intro k g hk
    obtain ⟨g', e, z, o, l⟩ := ih (k + 1) (pm_sI g 35 0 k (nI 0)) (by omega)
    refine ⟨g', ?_, fun j h1 h2 => ?_, fun t i j h => ?_, l⟩
    · rw [← e, E_X9_text_98, if_pos (show nI k < 161 from by rw [show (161 : Int32) = nI 161 from rfl]; exact (nn_lt (by omega) (by decide)).mpr (by omega)), if_pos (inb_n (by omega) (by omega)), nn_clamp (by omega), E_X9_text_112, show (1 : Int32) = nI 1 from rfl, nI_add]
      rfl
    · by_cases q : j = k
      · subst q
        rw [o 35 0 j (by omega), sI_same]
      · exact z j (by omega) h2
    · rw [o t i j (fun q => h ⟨q.1, q.2.1, by omega⟩), pm_sI_at, if_neg (fun q => h ⟨q.1, q.2.1, by omega⟩)]
theorem iniD_0 (i : Nat) (h0 : i ≠ 0) (h1 : i ≠ 1) (h4 : i ≠ 4) : (((iniD 0).1 i).val) = 0 := by
  show ((if (0 : Nat) = 0 then (if i = 0 ∨ i = 1 then 6 else if i = 4 then 1 else 0) else if (0 : Nat) = 1 then 0 else (if i = 1 then 1 else 0) : Fin 64)).val = 0
  rw [if_pos rfl, if_neg (by omega), if_neg h4]; rfl
/-- the empty thing -/
def ini35 (s j : Nat) : Int32 := if s = 0 then (if j = 0 ∨ j = 1 then nI 6 else if j = 3 then nI 1 else nI 0) else if s = 2 then (if j = 1 then nI 1 else nI 0) else nI 0
theorem ini35_0 (j : Nat) : ini35 0 j = if j = 0 ∨ j = 1 then nI 6 else if j = 3 then nI 1 else nI 0 := rfl
theorem ini_R {s : Nat} {g : PH} (hs : s < 3) (h : ∀ j, j < 161 → g.1 35 0 j = ini35 s j) (h9 : g.1 8 0 9 = iI (-1)) (h10 : g.1 8 0 10 = iI (-1)) (h11 : g.1 8 0 11 = iI (-1)) : BdS s (g.1 35 0) ∧ RdS s g (iniD s) := by
  have ss : s = 0 ∨ s = 1 ∨ s = 2 := by omega
  rcases ss with e | e | e <;> subst e
  · refine ⟨⟨⟨0, by decide, h 4 (by decide)⟩, ⟨0, by decide, h 5 (by decide)⟩, fun s hs => ⟨0, by decide, ?_⟩⟩, ⟨⟨⟨?_, ?_, ?_, ?_, ?_, ?_⟩, fun g hg => ?_, fun s hs => ?_, fun s h1 h2 => ?_, fun i hi => ?_⟩, ?_, ?_, h11⟩⟩
    · rw [h _ (by omega), ini35_0, if_neg (by omega), if_neg (by omega)]
    · exact h 0 (by decide)
    · exact h 1 (by decide)
    · exact h 2 (by decide)
    · exact h 3 (by decide)
    · exact h 4 (by decide)
    · exact h 5 (by decide)
    · exact absurd hg (Nat.not_lt_zero _)
    · exact absurd hs (Nat.not_lt_zero _)
    · rw [h _ (by omega), ini35_0, if_neg (by omega), if_neg (by omega)]
    · rw [h _ (by omega), ini35_0, if_neg (by omega), if_neg (by omega), iniD_0 _ (by omega) (by omega) (by omega)]
    · exact ⟨-1, by decide, by decide, h9, rfl⟩
    · exact ⟨-1, by decide, by decide, h10, rfl⟩
  · refine ⟨⟨0, by decide, h 0 (by decide)⟩, h 0 (by decide), fun k hk => absurd hk (Nat.not_lt_zero _)⟩
  · exact ⟨⟨⟨0, by decide, h 0 (by decide)⟩, ⟨0, by decide, h 3 (by decide)⟩⟩, ⟨h 0 (by decide), h 1 (by decide), h 2 (by decide), h 3 (by decide)⟩, fun k hk => absurd hk (Nat.not_lt_zero _), fun k hk => absurd hk (Nat.not_lt_zero _)⟩
theorem begin_M {g : PH} {T : Nat → Nat} {n s : Nat} (b : Int32) (hs : s < 3) (hn : n ≤ 600) (hT : TapM g n T) (h5 : g.1 33 0 5 = nI 0) (h6 : g.1 33 0 6 = iI (-1)) : ∃ g', pm_ev (181, 71, [vr 8 0, vi (nI s), vi b, none, none], [], g) = pm_ev (181, 161, [vr 8 0, vi (nI s), vi b, none, none], [], g') ∧ PSt g' T n (.inr (0, 0, 0)) ∧ TapM g' n T ∧ BdS s (g'.1 35 0) ∧ RdS s g' (iniD s) ∧ fr35 g g' := by
  have s1 : pm_ev (181, 71, [vr 8 0, vi (nI s), vi b, none, none], [], g) = pm_ev (181, 98, [vr 8 0, vi (nI s), vi b, vi (nI 0), none], [], pm_sI (pm_sI (pm_sI (pm_sI (pm_sI g 8 0 3 0) 8 0 8 0) 8 0 9 (-1)) 8 0 10 (-1)) 8 0 11 (-1)) := by
    rw [E_X9_text_71, E_X9_text_76, E_X9_text_81, E_X9_text_86, E_X9_text_91, E_X9_text_96]; rfl
  generalize hg1 : pm_sI (pm_sI (pm_sI (pm_sI (pm_sI g 8 0 3 0) 8 0 8 0) 8 0 9 (-1)) 8 0 10 (-1)) 8 0 11 (-1) = g1 at s1
  have o1 : ∀ t i k, ¬ (t = 8 ∧ i = 0 ∧ (k = 3 ∨ (8 ≤ k ∧ k ≤ 11))) → g1.1 t i k = g.1 t i k := fun t i k h => by
    rw [← hg1, pm_sI_at, if_neg (fun z => h ⟨z.1, z.2.1, by omega⟩), pm_sI_at, if_neg (fun z => h ⟨z.1, z.2.1, by omega⟩), pm_sI_at, if_neg (fun z => h ⟨z.1, z.2.1, by omega⟩), pm_sI_at, if_neg (fun z => h ⟨z.1, z.2.1, by omega⟩), pm_sI_at, if_neg (fun z => h ⟨z.1, z.2.1, by omega⟩)]
  have l1 : g1.2 = g.2 := by rw [← hg1]; rfl
  have x11 : g1.1 8 0 11 = iI (-1) := by rw [← hg1, sI_same]; rfl
  have x10 : g1.1 8 0 10 = iI (-1) := by rw [← hg1, sI_pl _ _ _ _ _ (by decide), sI_same]; rfl
  have x9 : g1.1 8 0 9 = iI (-1) := by rw [← hg1, sI_pl _ _ _ _ _ (by decide), sI_pl _ _ _ _ _ (by decide), sI_same]; rfl
  have x8 : g1.1 8 0 8 = nI 0 := by rw [← hg1, sI_pl _ _ _ _ _ (by decide), sI_pl _ _ _ _ _ (by decide), sI_pl _ _ _ _ _ (by decide), sI_same]; rfl
  have x3 : g1.1 8 0 3 = nI 0 := by rw [← hg1, sI_pl _ _ _ _ _ (by decide), sI_pl _ _ _ _ _ (by decide), sI_pl _ _ _ _ _ (by decide), sI_pl _ _ _ _ _ (by decide), sI_same]; rfl
  obtain ⟨g2, e2, z2, o2, l2⟩ := zero_98 (nI s) b 161 0 g1 (by decide)
  -- what is there at the beginning
  have st : ∃ g3, pm_ev (181, 98, [vr 8 0, vi (nI s), vi b, vi (nI 161), none], [], g2) = pm_ev (181, 157, [vr 8 0, vi (nI s), vi b, none, none], [], g3) ∧ (∀ j, j < 161 → g3.1 35 0 j = ini35 s j) ∧ (∀ t i k, ¬ (t = 35 ∧ i = 0) → g3.1 t i k = g2.1 t i k) ∧ g3.2 = g2.2 := by
    rw [E_X9_text_98, if_neg (by decide)]
    have ss : s = 0 ∨ s = 1 ∨ s = 2 := by omega
    rcases ss with e | e | e <;> subst e
    · refine ⟨pm_sI (pm_sI (pm_sI g2 35 0 0 (nI 6)) 35 0 1 (nI 6)) 35 0 3 (nI 1), ?_, fun j hj => ?_, fun t i k h => ?_, rfl⟩
      · rw [if_pos (by rfl), E_X9_text_130, E_X9_text_138, E_X9_text_145, if_neg (by decide)]; rfl
      · rw [ini35_0]
        by_cases q3 : j = 3
        · subst q3; rw [sI_same, if_neg (by decide), if_pos rfl]
        · rw [sI_pl _ _ _ _ _ q3]
          by_cases q1 : j = 1
          · subst q1; rw [sI_same, if_pos (by decide)]
          · rw [sI_pl _ _ _ _ _ q1]
            by_cases q0 : j = 0
            · subst q0; rw [sI_same, if_pos (by decide)]
            · rw [sI_pl _ _ _ _ _ q0, if_neg (by omega), if_neg q3]; exact z2 j (by omega) hj
      · rw [pm_sI_at, if_neg (fun z => h ⟨z.1, z.2.1⟩), pm_sI_at, if_neg (fun z => h ⟨z.1, z.2.1⟩), pm_sI_at, if_neg (fun z => h ⟨z.1, z.2.1⟩)]
    · refine ⟨g2, ?_, fun j hj => z2 j (by omega) hj, fun _ _ _ _ => rfl, rfl⟩
      rw [if_neg (by decide), E_X9_text_145, if_neg (by decide)]
    · refine ⟨pm_sI g2 35 0 1 (nI 1), ?_, fun j hj => ?_, fun t i k h => ?_, rfl⟩
      · rw [if_neg (by decide), E_X9_text_145, if_pos (by rfl)]; rfl
      · show _ = if j = 1 then nI 1 else nI 0
        by_cases q1 : j = 1
        · subst q1; rw [sI_same, if_pos rfl]
        · rw [sI_pl _ _ _ _ _ q1, if_neg q1]; exact z2 j (by omega) hj
      · rw [pm_sI_at, if_neg (fun z => h ⟨z.1, z.2.1⟩)]
  obtain ⟨g3, e3, z3, o3, l3⟩ := st
  have O : ∀ t i k, ¬ (t = 8 ∧ i = 0 ∧ (k = 3 ∨ (8 ≤ k ∧ k ≤ 11))) → ¬ (t = 35 ∧ i = 0) → g3.1 t i k = g.1 t i k := fun t i k h h' => by
    rw [o3 t i k h', o2 t i k (fun z => h' ⟨z.1, z.2.1⟩), o1 t i k h]
  have O8 : ∀ k, g3.1 8 0 k = g1.1 8 0 k := fun k => by rw [o3 8 0 k (by omega), o2 8 0 k (by omega)]
  have F3 : fr35 g g3 := ⟨fun t i x h1 _ h3 => O t i x (fun z => h1 ⟨z.1, z.2.1, by omega, by omega⟩) h3, by rw [l3, l2, l1]⟩
  have T3 := hT.o F3
  obtain ⟨g4, e4, f4, k4⟩ := advance_M hn n 0 g3 rfl (Nat.zero_le _) T3 ((O8 3).trans x3)
  have F4 : fr35 g3 g4 := f4.L.o
  have g35 : ∀ j, g4.1 35 0 j = g3.1 35 0 j := fun j => f4.1 35 0 j (by omega)
  have g8 : ∀ k, 8 ≤ k → g4.1 8 0 k = g1.1 8 0 k := fun k hk => (f4.1 8 0 k (by omega)).trans (O8 k)
  obtain ⟨B, R⟩ := ini_R (g := g4) hs (fun j hj => (g35 j).trans (z3 j hj)) ((g8 9 (by decide)).trans x9) ((g8 10 (by decide)).trans x10) ((g8 11 (by decide)).trans x11)
  refine ⟨g4, ?_, ⟨(g8 8 (by decide)).trans x8, k4, Nat.zero_le _, by decide, ?_, ?_, fun z => absurd rfl z⟩, T3.o F4, B, R, F3.tr F4⟩
  · rw [s1, e2, e3, E_X9_text_157, e4, cV_s]
  · rw [f4.1 33 0 5 (by omega), O 33 0 5 (by omega) (by omega)]; exact h5
  · rw [f4.1 33 0 6 (by omega), O 33 0 6 (by omega) (by omega)]; exact h6
