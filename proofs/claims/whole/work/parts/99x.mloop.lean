/-! ===== the reference's text: its lines ===== -/
def RdS (s : Nat) (g : PH) (D : DD) : Prop := if s = 0 then CdM g D else if s = 1 then RdN (g.1 35 0) D.1 else RdL (g.1 35 0) D.1
def BdS (s : Nat) (R : Nat → Int32) : Prop := if s = 0 then BdC R else if s = 1 then BdN R else BdL R
theorem lineK {T : Nat → Nat} {n q p f pl : Nat} {D D' : DD} {y : Nat × Nat × Nat} (h : aLineW T n q (p, f, pl) D = (.inr y, D')) (hy : y.2.1 ≠ 0) : D' = D := by
  unfold aLineW at h
  split at h
  · cases h
  · injection h with h1 h2
    injection h1 with h1
    subst h1
    rw [if_neg hy] at h2
    exact h2.symm
theorem aLine_V {T : Nat → Nat} {n s : Nat} {x y : Nat × Nat × Nat} {D D' : DD} (hs : s < 3) (hV : rVs s D) (h : aLine T n s x D = (.inr y, D')) : rVs s D' := by
  obtain ⟨p, f, pl⟩ := x
  by_cases k1 : tK T n (tS T n p) = 1
  · cases hq : wdC T s (tS T n p) (tE T n (tS T n p)) with
    | none =>
      have e : aLine T n s (p, f, pl) D = (.inl (tS T n p), D) := by unfold aLine; dsimp only; rw [if_pos k1, hq]
      rw [e] at h; cases h
    | some q =>
      have e : aLine T n s (p, f, pl) D = aLineW T n q (p, f, pl) D := by unfold aLine; dsimp only; rw [if_pos k1, hq]
      rw [e] at h
      obtain ⟨_, q1, q2⟩ := wd_rng hs k1 hq
      by_cases hy : y.2.1 = 0
      · obtain ⟨J1, J2⟩ := lineJ (T := T) (n := n) (q := q) (p := p) (f := f) (pl := pl) (D := D) rfl
        rw [h] at J1 J2
        obtain ⟨t1, t2, t3, t4, t5⟩ := J2 y J1.symm hy
        dsimp only at t1
        rw [t1]
        exact rVs_tell hs ⟨q1, q2⟩ hV t3 t4 t5
      · rw [lineK h hy]; exact hV
  · have e : aLine T n s (p, f, pl) D = (.inl (tS T n p), D) := by unfold aLine; dsimp only; rw [if_neg k1]
    rw [e] at h; cases h
theorem tK_4 (T : Nat → Nat) (n w : Nat) : tK T n w ≤ 4 := by
  unfold tK
  repeat' split
  all_goals omega
theorem tK_0 {T : Nat → Nat} {n w : Nat} (hw : w ≤ n) (h : tK T n w = 0) : w = n := by
  unfold tK at h
  split at h
  · split at h
    · cases h
    · split at h
      · split at h <;> cases h
      · split at h <;> cases h
  · omega
theorem LkM_5 {g : PH} {T : Nat → Nat} {n w : Nat} (h : LkM g T n w) (k0 : tK T n w ≠ 0) : ¬ g.1 8 0 5 = 0 := by
  have k4 := tK_4 T n w
  obtain ⟨_, _, _, y1, y2, y3, y4⟩ := h
  have : tK T n w = 1 ∨ tK T n w = 2 ∨ tK T n w = 3 ∨ tK T n w = 4 := by omega
  rcases this with z | z | z | z
  · rw [(y1 z).2]; split <;> decide
  · rw [(y2 z).2]; decide
  · rw [y3 z]; decide
  · rw [y4 z]; decide
theorem line_M {g : PH} {T : Nat → Nat} {n s : Nat} {x : Nat × Nat × Nat} {D : DD} (b : Int32) (hs : s < 3) (hn : n ≤ 600) (hT : TapM g n T) (hP : PSt g T n (.inr x)) (hB : BdS s (g.1 35 0)) (hV : rVs s D) (hD : x.2.1 = 0 → RdS s g D) (k0 : tK T n (tS T n x.1) ≠ 0) : ∃ g', pm_ev (181, 161, [vr 8 0, vi (nI s), vi b, none, none], [], g) = pm_ev (181, 161, [vr 8 0, vi (nI s), vi b, none, none], [], g') ∧ PSt g' T n (aLine T n s x D).1 ∧ BdS s (g'.1 35 0) ∧ (∀ y, (aLine T n s x D).1 = .inr y → y.2.1 = 0 → RdS s g' (aLine T n s x D).2) ∧ fr35 g g' := by
  obtain ⟨p, f, pl⟩ := x
  dsimp only at k0 hD
  have h8 := hP.1
  have h5 := LkM_5 hP.2.1 k0
  have ss : s = 0 ∨ s = 1 ∨ s = 2 := by omega
  rw [E_X9_text_161, h8, if_pos (by rfl), if_neg h5]
  rcases ss with e | e | e <;> subst e
  · obtain ⟨g', ev, P, B, R, F⟩ := coastLine_M hn hT hP hB hV hD
    refine ⟨g', ?_, P, B, R, F⟩
    rw [if_pos (by rfl), E_X9_text_204, ev, cV_s, E_X9_text_208]
  · obtain ⟨g', ev, P, B, R, F⟩ := nightLine_M hn hT hP hB hV hD
    refine ⟨g', ?_, P, B, R, F⟩
    rw [if_neg (by decide), if_pos (by rfl), E_X9_text_211, ev, cV_s, E_X9_text_215]
  · obtain ⟨g', ev, P, B, R, F⟩ := logLine_M hn hT hP hB hV hD
    refine ⟨g', ?_, P, B, R, F⟩
    rw [if_neg (by decide), if_neg (by decide), E_X9_text_218, ev, cV_s, E_X9_text_222]
theorem read_M {T : Nat → Nat} {n s : Nat} (b : Int32) (hs : s < 3) (hn : n ≤ 600) : ∀ r x D g, n - x.1 < r → TapM g n T → PSt g T n (.inr x) → BdS s (g.1 35 0) → rVs s D → (x.2.1 = 0 → RdS s g D) →
    ∃ g', pm_ev (181, 161, [vr 8 0, vi (nI s), vi b, none, none], [], g) = pm_ev (181, 225, [vr 8 0, vi (nI s), vi b, none, none], [], g') ∧ PSt g' T n (aText T n s r x D).1 ∧ (∀ y, (aText T n s r x D).1 = .inr y → tK T n (tS T n y.1) = 0 ∧ rVs s (aText T n s r x D).2 ∧ (y.2.1 = 0 → RdS s g' (aText T n s r x D).2)) ∧ fr35 g g' := by
  intro r
  induction r with
  | zero => intro x D g hr; omega
  | succ r ih =>
    intro x D g hr hT hP hB hV hD
    obtain ⟨p, f, pl⟩ := x
    have ea : aText T n s (r + 1) (p, f, pl) D = if tK T n (tS T n p) = 0 then (.inr (p, f, pl), D) else
      match aLine T n s (p, f, pl) D with
      | (.inl w, D') => (.inl w, D')
      | (.inr y, D') => aText T n s r y D' := rfl
    rw [ea]
    by_cases k0 : tK T n (tS T n p) = 0
    · rw [if_pos k0]
      refine ⟨g, ?_, hP, fun y hy => ?_, fr35.rf g⟩
      · rw [E_X9_text_161, hP.1, if_pos (by rfl), hP.2.1.2.2.1 k0, if_pos (by rfl)]
      · injection hy with hy
        subst hy
        exact ⟨k0, hV, hD⟩
    · rw [if_neg k0]
      obtain ⟨g1, ev, P1, B1, R1, F1⟩ := line_M b hs hn hT hP hB hV hD k0
      cases hL : aLine T n s (p, f, pl) D with
      | mk σ D1 =>
        rw [hL] at P1 R1
        dsimp only at P1 R1
        cases σ with
        | inl w =>
          refine ⟨g1, ?_, P1, fun y hy => (by cases hy), F1⟩
          rw [ev, E_X9_text_161, P1.1, if_neg (by decide)]
        | inr y =>
          have lt := aLine_p (show (p, f, pl).1 ≤ n from hP.2.2.1) hL
          dsimp only at lt hr
          obtain ⟨g2, ev2, P2, R2, F2⟩ := ih y D1 g1 (by omega) (hT.o F1) P1 B1 (aLine_V hs hV hL) (fun z => R1 y rfl z)
          exact ⟨g2, by rw [ev, ev2], P2, R2, F1.tr F2⟩
theorem mrk_lt {g : PH} {x m w : Nat} (h : mrk g x m) (hw : 2 ≤ w) (hw8 : w ≤ 8) : (g.1 8 0 x < nI w) = (m < w) := by
  obtain ⟨r, r1, r2, r3, r4⟩ := h
  rw [r3]
  exact propext ((in_lt (by omega) (by omega) (by omega)).trans (by omega))
theorem nt1_n {f pl k w : Nat} (h : f ≠ 0) : nt1 f pl k w = (f, pl) := if_neg (fun z => h z.1)
/-- the faults at the end -/
theorem fin_M {g : PH} {T : Nat → Nat} {n s : Nat} {r : LnS × DD} (b : Int32) (hs : s < 3) (hn : n ≤ 600) (hP : PSt g T n r.1) (hR : ∀ y, r.1 = .inr y → tK T n (tS T n y.1) = 0 ∧ rVs s r.2 ∧ (y.2.1 = 0 → RdS s g r.2)) : ∃ g', pm_ev (181, 225, [vr 8 0, vi (nI s), vi b, none, none], [], g) = pm_ev (181, 309, [vr 8 0, vi (nI s), vi b, none, none], [], g') ∧ g'.1 33 0 5 = nI (aFin n s r).1 ∧ g'.1 33 0 6 = plI (aFin n s r).1 (aFin n s r).2 ∧ (aFin n s r).1 ≤ 6 ∧ fr56 g g' := by
  obtain ⟨σ, D⟩ := r
  dsimp only at hP hR
  have skip : ∀ g : PH, ¬ g.1 33 0 5 = 0 → pm_ev (181, 273, [vr 8 0, vi (nI s), vi b, none, none], [], g) = pm_ev (181, 309, [vr 8 0, vi (nI s), vi b, none, none], [], g) := fun g h => by
    rw [E_X9_text_273, show (5 : Int32).toNatClampNeg = 5 from rfl, E_X9_text_279, if_neg h]
  have skip0 : ∀ g : PH, ¬ g.1 33 0 5 = 0 → pm_ev (181, 225, [vr 8 0, vi (nI s), vi b, none, none], [], g) = pm_ev (181, 309, [vr 8 0, vi (nI s), vi b, none, none], [], g) := fun g h => by
    rw [E_X9_text_225, show (5 : Int32).toNatClampNeg = 5 from rfl, E_X9_text_231, if_neg h, skip g h]
  have f0 : ∀ f, f ≤ 6 → f ≠ 0 → ¬ nI f = 0 := fun f h1 h2 z => h2 ((nn_eq (by omega) (by decide)).mp (z.trans (show (0 : Int32) = nI 0 from rfl)))
  cases σ with
  | inl w =>
    obtain ⟨h8, h5, h6⟩ := hP
    refine ⟨g, skip0 g (by rw [h5]; decide), h5, ?_, by show (1 : Nat) ≤ 6; decide, fun _ _ _ _ => rfl, rfl⟩
    rw [h6]; rfl
  | inr y =>
    obtain ⟨k0, hV, hD⟩ := hR y rfl
    obtain ⟨p, f, pl⟩ := y
    obtain ⟨h8, hL, hp, hf, h5, h6, h7⟩ := hP
    dsimp only at k0 hD
    have wn := tK_0 (tS_le hp).2 k0
    have w4 : g.1 8 0 4 = nI n := by rw [hL.1, wn]
    by_cases s0 : s = 0
    · subst s0
      have hV : rVc D := hV
      have ef : aFin n 0 (.inr (p, f, pl), D) = nt1 (nt1 f pl (if D.2.1 < (D.1 0).val ∧ D.2.2.1 < (D.1 1).val then 0 else 5) n).1 (nt1 f pl (if D.2.1 < (D.1 0).val ∧ D.2.2.1 < (D.1 1).val then 0 else 5) n).2 (if D.2.2.2 < ((D.1 6).val : Int) then 0 else 6) n := rfl
      rw [ef]
      by_cases ff : f = 0
      · obtain ⟨dR, d9, d10, d11⟩ := hD ff
        obtain ⟨⟨a0, a1, _, _, _, _, a6, a7, a8, a9, a10⟩, _⟩ := hV
        have l9 := mrk_lt d9 a0.1 a0.2
        have l10 := mrk_lt d10 a1.1 a1.2
        have l11 : (iI D.2.2.2 < nI (D.1 6).val) = (D.2.2.2 < ((D.1 6).val : Int)) := propext (in_lt (by omega) (by omega) (by omega))
        subst ff
        have go : pm_ev (181, 225, [vr 8 0, vi (nI 0), vi b, none, none], [], g) = if D.2.1 < (D.1 0).val then (if D.2.2.1 < (D.1 1).val then pm_ev (181, 273, [vr 8 0, vi (nI 0), vi b, none, none], [], g) else pm_ev (181, 264, [vr 8 0, vi (nI 0), vi b, none, none], [], g)) else pm_ev (181, 264, [vr 8 0, vi (nI 0), vi b, none, none], [], g) := by
          rw [E_X9_text_225, show (5 : Int32).toNatClampNeg = 5 from rfl, h5, E_X9_text_231, if_pos (by rfl), if_pos (by rfl), show (0 : Int32).toNatClampNeg = 0 from rfl, dR.1.1, E_X9_text_248, show (1 : Int32).toNatClampNeg = 1 from rfl, dR.1.2.1, E_X9_text_261]
          by_cases q1 : D.2.1 < (D.1 0).val
          · rw [if_pos (l9.mpr q1), if_pos q1]
            by_cases q2 : D.2.2.1 < (D.1 1).val
            · rw [if_pos (l10.mpr q2), if_pos q2]
            · rw [if_neg (fun z => q2 (l10.mp z)), if_neg q2]
          · rw [if_neg (fun z => q1 (l9.mp z)), if_neg q1]
        by_cases q : D.2.1 < (D.1 0).val ∧ D.2.2.1 < (D.1 1).val
        · rw [if_pos q, nt1_0]
          rw [if_pos q.1, if_pos q.2, E_X9_text_273, show (5 : Int32).toNatClampNeg = 5 from rfl, h5, E_X9_text_279, if_pos (by rfl), if_pos (by rfl), show (5 : Int32).toNatClampNeg = 5 from rfl, dR.1.2.2.2.2.2, d11, E_X9_text_296] at go
          rw [go]
          by_cases q2 : D.2.2.2 < ((D.1 6).val : Int)
          · rw [if_pos (l11.mpr q2), if_pos q2, nt1_0]
            exact ⟨g, rfl, h5, h6, hf, fun _ _ _ _ => rfl, rfl⟩
          · rw [if_neg (fun z => q2 (l11.mp z)), if_neg q2, w4]
            obtain ⟨g1, e1, x5, x6, x7, fr⟩ := also_M (k := 6) (w := n) h8 h5 h6 hf (by decide) (by decide) hn (fun z => absurd rfl z)
            exact ⟨g1, by rw [show (6 : Int32) = nI 6 from rfl, e1, cV_s], x5, x6, x7, fr⟩
        · rw [if_neg q]
          obtain ⟨g1, e1, x5, x6, x7, fr⟩ := also_M (k := 5) (w := n) h8 h5 h6 hf (by decide) (by decide) hn (fun z => absurd rfl z)
          have n5 : nt1 0 pl 5 n = (5, n) := rfl
          rw [n5] at x5 x6 x7 ⊢
          dsimp only at x5 x6 x7 ⊢
          rw [nt1_n (show (5 : Nat) ≠ 0 by decide)]
          have g5 : pm_ev (181, 264, [vr 8 0, vi (nI 0), vi b, none, none], [], g) = pm_ev (181, 309, [vr 8 0, vi (nI 0), vi b, none, none], [], g1) := by
            rw [E_X9_text_264, w4, show (5 : Int32) = nI 5 from rfl, e1, cV_s, skip g1 (by rw [x5]; decide)]
          refine ⟨g1, ?_, x5, x6, x7, fr⟩
          rw [go]
          by_cases q1 : D.2.1 < (D.1 0).val
          · rw [if_pos q1, if_neg (fun z => q ⟨q1, z⟩), g5]
          · rw [if_neg q1, g5]
      · rw [nt1_n ff]
        dsimp only
        rw [nt1_n ff]
        exact ⟨g, skip0 g (by rw [h5]; exact f0 f hf ff), h5, h6, hf, fun _ _ _ _ => rfl, rfl⟩
    · have ef : aFin n s (.inr (p, f, pl), D) = (f, pl) := by
        show (if s = 0 then _ else (f, pl)) = _
        rw [if_neg s0]
      have ns : ¬ nI s = 0 := f0 s (by omega) s0
      rw [ef]
      refine ⟨g, ?_, h5, h6, hf, fun _ _ _ _ => rfl, rfl⟩
      by_cases ff : f = 0
      · subst ff
        rw [E_X9_text_225, show (5 : Int32).toNatClampNeg = 5 from rfl, h5, E_X9_text_231, if_pos (by rfl), if_neg ns, E_X9_text_273, show (5 : Int32).toNatClampNeg = 5 from rfl, h5, E_X9_text_279, if_pos (by rfl), if_neg ns]
      · exact skip0 g (by rw [h5]; exact f0 f hf ff)
