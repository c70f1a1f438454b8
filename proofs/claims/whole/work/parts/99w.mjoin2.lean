/-! ===== the reference's lines of a night and of a log are aLine's ===== -/
def RdN (R : Nat → Int32) (n : AC) : Prop := R 0 = nI (n (0)).val ∧ ∀ k, k < (n (0)).val → R (1+4*k) = nI (n (10+k)).val ∧ R (1+4*k+1) = iI (((n (100+k)).val : Int) - 1) ∧ R (1+4*k+2) = iI (((n (200+k)).val : Int) - 1) ∧ R (1+4*k+3) = iI (((n (300+k)).val : Int) - 1)
def RdL (R : Nat → Int32) (l : AC) : Prop := (R 0 = nI (l (0)).val ∧ R 1 = nI (l (1)).val ∧ R 2 = nI (l (2)).val ∧ R 3 = nI (l (3)).val) ∧ (∀ k, k < (l (0)).val → R (4+k) = nI (l (10+k)).val) ∧ ∀ k, k < (l (3)).val → R (10+2*k) = nI (l (20+k)).val ∧ R (11+2*k) = nI (l (30+k)).val
theorem RdN_t {R R' : Nat → Int32} {c : AC} {d x y r : Nat} (h : RdN R c) (h0 : (c (0)).val < 40) (hd : d < 4) (bx : x < 64) (bY : y < 64) (br : r < 64) (hR : ∀ k, R' k = if k = 0 then nI ((c (0)).val + 1) else if k = 1+4*(c (0)).val+3 then iI ((r : Int) - 1) else if k = 1+4*(c (0)).val+2 then iI ((y : Int) - 1) else if k = 1+4*(c (0)).val+1 then iI ((x : Int) - 1) else if k = 1+4*(c (0)).val then nI d else R k) : RdN R' (cU (cU (cU (cU (cU c (10+(c (0)).val) (f64 d)) (100+(c (0)).val) (f64 x)) (200+(c (0)).val) (f64 y)) (300+(c (0)).val) (f64 r)) 0 (f64 ((c (0)).val + 1))) := by
  obtain ⟨m0, m1⟩ := h
  generalize ha : (c (0)).val = a at *
  refine ⟨?_, fun k hk => ?_⟩
  · simp (disch := omega) only [hR, cU_ne, cU_eq, f64_v, t_eq, f_eq, ↓reduceIte]
  · simp (disch := omega) only [cU_eq, f64_v] at hk
    by_cases q : k = a
    · subst q
      simp (disch := omega) only [hR, cU_ne, cU_eq, f64_v, t_eq, f_eq, ↓reduceIte]
      exact ⟨trivial, trivial, trivial, trivial⟩
    · simp (disch := omega) only [hR, cU_ne, cU_eq, f64_v, t_eq, f_eq, ↓reduceIte]
      exact m1 k (by omega)
theorem RdL_1 {R R' : Nat → Int32} {c : AC} {x : Nat} (hV : lV c) (h : RdL R c) (bx : x < 64) (hR : ∀ k, R' k = if k = 1 then nI x else R k) : RdL R' (cU c 1 (f64 x)) := by
  obtain ⟨⟨b0, b1, b2, b3, b4⟩, _, _⟩ := hV
  obtain ⟨⟨m0, m1, m2, m3⟩, mm, mf⟩ := h
  refine ⟨⟨?_, ?_, ?_, ?_⟩, fun k hk => ?_, fun k hk => ?_⟩
  · simp (disch := omega) only [hR, cU_ne, cU_eq, f64_v, t_eq, f_eq, ↓reduceIte]; exact m0
  · simp (disch := omega) only [hR, cU_ne, cU_eq, f64_v, t_eq, f_eq, ↓reduceIte]
  · simp (disch := omega) only [hR, cU_ne, cU_eq, f64_v, t_eq, f_eq, ↓reduceIte]; exact m2
  · simp (disch := omega) only [hR, cU_ne, cU_eq, f64_v, t_eq, f_eq, ↓reduceIte]; exact m3
  · simp (disch := omega) only [cU_ne] at hk
    simp (disch := omega) only [hR, cU_ne, cU_eq, f64_v, t_eq, f_eq, ↓reduceIte]; exact mm k hk
  · simp (disch := omega) only [cU_ne] at hk
    simp (disch := omega) only [hR, cU_ne, cU_eq, f64_v, t_eq, f_eq, ↓reduceIte]; exact mf k hk
theorem RdL_2 {R R' : Nat → Int32} {c : AC} {x : Nat} (hV : lV c) (h : RdL R c) (bx : x < 64) (hR : ∀ k, R' k = if k = 2 then nI x else R k) : RdL R' (cU c 2 (f64 x)) := by
  obtain ⟨⟨b0, b1, b2, b3, b4⟩, _, _⟩ := hV
  obtain ⟨⟨m0, m1, m2, m3⟩, mm, mf⟩ := h
  refine ⟨⟨?_, ?_, ?_, ?_⟩, fun k hk => ?_, fun k hk => ?_⟩
  · simp (disch := omega) only [hR, cU_ne, cU_eq, f64_v, t_eq, f_eq, ↓reduceIte]; exact m0
  · simp (disch := omega) only [hR, cU_ne, cU_eq, f64_v, t_eq, f_eq, ↓reduceIte]; exact m1
  · simp (disch := omega) only [hR, cU_ne, cU_eq, f64_v, t_eq, f_eq, ↓reduceIte]
  · simp (disch := omega) only [hR, cU_ne, cU_eq, f64_v, t_eq, f_eq, ↓reduceIte]; exact m3
  · simp (disch := omega) only [cU_ne] at hk
    simp (disch := omega) only [hR, cU_ne, cU_eq, f64_v, t_eq, f_eq, ↓reduceIte]; exact mm k hk
  · simp (disch := omega) only [cU_ne] at hk
    simp (disch := omega) only [hR, cU_ne, cU_eq, f64_v, t_eq, f_eq, ↓reduceIte]; exact mf k hk
theorem RdL_m {R R' : Nat → Int32} {c : AC} {x : Nat} (hV : lV c) (h : RdL R c) (h6 : (c (0)).val < 6) (bx : x < 64) (hR : ∀ k, R' k = if k = 0 then nI ((c (0)).val + 1) else if k = 4+(c (0)).val then nI x else R k) : RdL R' (cU (cU c (10+(c (0)).val) (f64 x)) 0 (f64 ((c (0)).val + 1))) := by
  obtain ⟨⟨b0, b1, b2, b3, b4⟩, _, _⟩ := hV
  obtain ⟨⟨m0, m1, m2, m3⟩, mm, mf⟩ := h
  generalize ha : (c (0)).val = a at *
  refine ⟨⟨?_, ?_, ?_, ?_⟩, fun k hk => ?_, fun k hk => ?_⟩
  · simp (disch := omega) only [hR, cU_ne, cU_eq, f64_v, t_eq, f_eq, ↓reduceIte]
  · simp (disch := omega) only [hR, cU_ne, cU_eq, f64_v, t_eq, f_eq, ↓reduceIte]; exact m1
  · simp (disch := omega) only [hR, cU_ne, cU_eq, f64_v, t_eq, f_eq, ↓reduceIte]; exact m2
  · simp (disch := omega) only [hR, cU_ne, cU_eq, f64_v, t_eq, f_eq, ↓reduceIte]; exact m3
  · simp (disch := omega) only [cU_eq, f64_v] at hk
    by_cases q : k = a
    · subst q
      simp (disch := omega) only [hR, cU_ne, cU_eq, f64_v, t_eq, f_eq, ↓reduceIte]
    · simp (disch := omega) only [hR, cU_ne, cU_eq, f64_v, t_eq, f_eq, ↓reduceIte]; exact mm k (by omega)
  · simp (disch := omega) only [cU_ne] at hk
    simp (disch := omega) only [hR, cU_ne, cU_eq, f64_v, t_eq, f_eq, ↓reduceIte]; exact mf k hk
theorem RdL_f {R R' : Nat → Int32} {c : AC} {x b : Nat} (hV : lV c) (h : RdL R c) (h6 : (c (3)).val < 10) (bx : x < 64) (bb : b < 64) (hR : ∀ k, R' k = if k = 3 then nI ((c (3)).val + 1) else if k = 11+2*(c (3)).val then nI x else if k = 10+2*(c (3)).val then nI b else R k) : RdL R' (cU (cU (cU c (20+(c (3)).val) (f64 b)) (30+(c (3)).val) (f64 x)) 3 (f64 ((c (3)).val + 1))) := by
  obtain ⟨⟨b0, b1, b2, b3, b4⟩, _, _⟩ := hV
  obtain ⟨⟨m0, m1, m2, m3⟩, mm, mf⟩ := h
  generalize ha : (c (3)).val = a at *
  refine ⟨⟨?_, ?_, ?_, ?_⟩, fun k hk => ?_, fun k hk => ?_⟩
  · simp (disch := omega) only [hR, cU_ne, cU_eq, f64_v, t_eq, f_eq, ↓reduceIte]; exact m0
  · simp (disch := omega) only [hR, cU_ne, cU_eq, f64_v, t_eq, f_eq, ↓reduceIte]; exact m1
  · simp (disch := omega) only [hR, cU_ne, cU_eq, f64_v, t_eq, f_eq, ↓reduceIte]; exact m2
  · simp (disch := omega) only [hR, cU_ne, cU_eq, f64_v, t_eq, f_eq, ↓reduceIte]
  · simp (disch := omega) only [cU_ne] at hk
    simp (disch := omega) only [hR, cU_ne, cU_eq, f64_v, t_eq, f_eq, ↓reduceIte]; exact mm k hk
  · simp (disch := omega) only [cU_eq, f64_v] at hk
    by_cases q : k = a
    · subst q
      simp (disch := omega) only [hR, cU_ne, cU_eq, f64_v, t_eq, f_eq, ↓reduceIte]
      exact ⟨trivial, trivial⟩
    · simp (disch := omega) only [hR, cU_ne, cU_eq, f64_v, t_eq, f_eq, ↓reduceIte]; exact mf k (by omega)
def BdN (R : Nat → Int32) : Prop := ∃ a, a ≤ 40 ∧ R 0 = nI a
def BdL (R : Nat → Int32) : Prop := (∃ a, a ≤ 6 ∧ R 0 = nI a) ∧ ∃ a, a ≤ 10 ∧ R 3 = nI a
theorem aTm_n {q : Nat} (hq : 12 ≤ q ∧ q < 16) (c : AC) : aTm q c = if (c (0)).val = 40 then 3 else 0 := by
  unfold aTm
  rw [if_neg (show ¬ q = 3 by omega), if_neg (show ¬ q = 4 by omega), if_neg (show ¬ (6 ≤ q ∧ q < 12) by omega), if_pos hq]
theorem aTell_n {q : Nat} (hq : 12 ≤ q ∧ q < 16) (v : Nat → Nat) (D : DD) : (aTell q v D).1 = cU (cU (cU (cU (cU D.1 (10+(D.1 0).val) (f64 (q-12))) (100+(D.1 0).val) (f64 (if 1 ≤ nN q then v 0 + 1 else 0))) (200+(D.1 0).val) (f64 (if 2 ≤ nN q then v 1 + 1 else 0))) (300+(D.1 0).val) (f64 (if 3 ≤ nN q then v 2 + 1 else 0))) 0 (f64 ((D.1 0).val + 1)) := by
  unfold aTell
  rw [if_neg (show ¬ q = 0 by omega), if_neg (show ¬ q = 5 by omega), if_neg (show ¬ q = 1 by omega), if_neg (show ¬ q = 2 by omega), if_neg (show ¬ q = 3 by omega), if_neg (show ¬ q = 4 by omega), if_neg (show ¬ q < 12 by omega), if_pos hq.2]
theorem fr8_o {g g' : PH} (h : ∀ t i x, ¬ (t = 8 ∧ i = 0 ∧ 3 ≤ x ∧ x ≤ 8) → ¬ (t = 33 ∧ i = 0 ∧ 5 ≤ x ∧ x ≤ 6) → ¬ (t = 35 ∧ i = 0) → g'.1 t i x = g.1 t i x) (l : g'.2 = g.2) : fr35 g g' := ⟨fun t i x h1 h2 h3 => h t i x (fun z => h1 ⟨z.1, z.2.1, z.2.2.1, by omega⟩) h2 h3, l⟩
theorem fr10_o {g g' : PH} (h : ∀ t i x, ¬ (t = 8 ∧ i = 0 ∧ 3 ≤ x ∧ x ≤ 10) → ¬ (t = 33 ∧ i = 0 ∧ 5 ≤ x ∧ x ≤ 6) → ¬ (t = 35 ∧ i = 0) → g'.1 t i x = g.1 t i x) (l : g'.2 = g.2) : fr35 g g' := ⟨fun t i x h1 h2 h3 => h t i x (fun z => h1 ⟨z.1, z.2.1, z.2.2.1, by omega⟩) h2 h3, l⟩
theorem up1 (b : Bool) (v : Nat) : (if b = true then (v : Int) else -1) = ((if b = true then v + 1 else 0 : Nat) : Int) - 1 := by
  cases b
  · rfl
  · rw [if_pos rfl, if_pos rfl]; omega
theorem up2 {P : Prop} [Decidable P] (v : Nat) : (if P then (v : Int) else -1) = ((if P then v + 1 else 0 : Nat) : Int) - 1 := by
  by_cases q : P
  · rw [if_pos q, if_pos q]; omega
  · rw [if_neg q, if_neg q]; rfl
theorem nightLn {g : PH} {T : Nat → Nat} {n p f pl d : Nat} {D : DD} (hd : d < 4) (hn : n ≤ 600) (hT : TapM g n T) (hP : PSt g T n (.inr (p, f, pl))) (hB : BdN (g.1 35 0)) (hV : nV D.1) (hD : f = 0 → RdN (g.1 35 0) D.1) (hw : tS T n p < n) (k1 : tK T n (tS T n p) = 1) (hq : wdC T 1 (tS T n p) (tE T n (tS T n p)) = some (12 + d)) : ∃ g', pm_ev (174, 0, [vr 8 0, none, none, none, none, none, none], [], g) = some (none, g') ∧ PSt g' T n (aLineW T n (12 + d) (p, f, pl) D).1 ∧ BdN (g'.1 35 0) ∧ (∀ y, (aLineW T n (12 + d) (p, f, pl) D).1 = .inr y → y.2.1 = 0 → RdN (g'.1 35 0) (aLineW T n (12 + d) (p, f, pl) D).2.1) ∧ fr35 g g' := by
  obtain ⟨a, ha, h0⟩ := id hB
  have v40 := hV.1
  have ac : f = 0 → a = (D.1 0).val := fun z => (nn_eq (by omega) (by omega)).mp (h0.symm.trans (hD z).1)
  have tmq := aTm_n (q := 12 + d) (by omega) D.1
  have st : rmS 40 a f pl (tS T n p) (tE T n (tS T n p)) = .inr (tE T n (tS T n p), nt1 f pl (aTm (12 + d) D.1) (tS T n p)) := by
    unfold rmS
    rw [nt1_same (k' := aTm (12 + d) D.1) (fun z => by rw [tmq, ac z])]
  obtain ⟨s1, s2, s3, s4⟩ := nnR_s (T := T) (n := n) (σ := rmS 40 a f pl (tS T n p) (tE T n (tS T n p))) hd
  rcases er : nnR T n d (rmS 40 a f pl (tS T n p) (tE T n (tS T n p))) with ⟨v0, v1, v2, σ⟩
  rw [er, st] at s1 s2 s3 s4
  obtain ⟨g', ev, P, o, l, K⟩ := nightL_M hd hn hT hP hw k1 hq ha h0 er
  obtain ⟨J1, J2⟩ := lineJ (T := T) (n := n) (q := 12 + d) (p := p) (f := f) (pl := pl) (D := D) rfl
  generalize hL : aNs T n (12 + d) (nN (12 + d)) 0 (.inr (tE T n (tS T n p), nt1 f pl (aTm (12 + d) D.1) (tS T n p))) = LL at *
  obtain ⟨L, σ'⟩ := LL
  dsimp only at *
  subst s1
  refine ⟨g', ev, by rw [J1]; exact P, ?_, fun y' hy z => ?_, fr8_o o l⟩
  · by_cases q : a = 40
    · exact ⟨a, ha, by rw [K, if_pos q]; exact h0⟩
    · exact ⟨a + 1, by omega, by rw [K, if_neg q, if_pos rfl]⟩
  · rw [J1] at hy
    obtain ⟨t1, t2, t3, t4, t5⟩ := J2 y' hy z
    rw [t1, aTell_n (by omega)]
    have ab := ac t2
    have n40 : (D.1 0).val ≠ 40 := fun z => by
      rw [tmq, if_pos z] at t3
      cases t3
    subst ab
    simp only [if_neg n40] at K
    rw [up2] at s2 s3 s4
    rw [s2, s3, s4] at K
    have bd : ∀ j, L.getD j 0 ≤ 23 := fun j => by
      by_cases jj : j < nN (12 + d)
      · have := (t64_v (12 + d) (by omega) j (by have := (t63_v (12 + d) (by omega)).2; omega)).2
        have := t4 j jj
        omega
      · rw [t5 j (by omega)]; omega
    have b0 := bd 0
    have b1 := bd 1
    have b2 := bd 2
    rw [Nat.add_sub_cancel_left]
    exact RdN_t (hD t2) (by omega) hd (by split <;> omega) (by split <;> omega) (by split <;> omega) K
theorem nightLine_M {g : PH} {T : Nat → Nat} {n p f pl : Nat} {D : DD} (hn : n ≤ 600) (hT : TapM g n T) (hP : PSt g T n (.inr (p, f, pl))) (hB : BdN (g.1 35 0)) (hV : nV D.1) (hD : f = 0 → RdN (g.1 35 0) D.1) : ∃ g', pm_ev (174, 0, [vr 8 0, none, none, none, none, none, none], [], g) = some (none, g') ∧ PSt g' T n (aLine T n 1 (p, f, pl) D).1 ∧ BdN (g'.1 35 0) ∧ (∀ y, (aLine T n 1 (p, f, pl) D).1 = .inr y → y.2.1 = 0 → RdN (g'.1 35 0) (aLine T n 1 (p, f, pl) D).2.1) ∧ fr35 g g' := by
  have wr : ¬ (tK T n (tS T n p) = 1 ∧ ∃ q, wdC T 1 (tS T n p) (tE T n (tS T n p)) = some q) → aLine T n 1 (p, f, pl) D = (.inl (tS T n p), D) → ∃ g', pm_ev (174, 0, [vr 8 0, none, none, none, none, none, none], [], g) = some (none, g') ∧ PSt g' T n (aLine T n 1 (p, f, pl) D).1 ∧ BdN (g'.1 35 0) ∧ (∀ y, (aLine T n 1 (p, f, pl) D).1 = .inr y → y.2.1 = 0 → RdN (g'.1 35 0) (aLine T n 1 (p, f, pl) D).2.1) ∧ fr35 g g' := fun nq e => by
    obtain ⟨a, ha, h0⟩ := id hB
    obtain ⟨g', ev, P, o, l, k0⟩ := nightW_M hn hT hP nq ha h0
    rw [e]
    exact ⟨g', ev, P, ⟨_, by split <;> omega, k0⟩, fun y h => (by cases h), fr8_o o l⟩
  by_cases k1 : tK T n (tS T n p) = 1
  · cases hq : wdC T 1 (tS T n p) (tE T n (tS T n p)) with
    | none => exact wr (fun ⟨_, q, z⟩ => by rw [hq] at z; cases z) (by unfold aLine; dsimp only; rw [if_pos k1, hq])
    | some q =>
      have e : aLine T n 1 (p, f, pl) D = aLineW T n q (p, f, pl) D := by unfold aLine; dsimp only; rw [if_pos k1, hq]
      obtain ⟨wn, q1, q2⟩ := wd_rng (by decide) k1 hq
      have q1 : 12 ≤ q := q1
      have q2 : q < 16 := q2
      rw [e]
      obtain ⟨d, hd⟩ : ∃ d, q = 12 + d := ⟨q - 12, by omega⟩
      subst hd
      exact nightLn (by omega) hn hT hP hB hV hD wn k1 hq
  · exact wr (fun z => k1 z.1) (by unfold aLine; dsimp only; rw [if_neg k1])
/-- what a line of a log gives in the reference -/
def LoLn (T : Nat → Nat) (n q p f pl : Nat) (D : DD) (g : PH) : Prop := ∃ g', pm_ev (177, 0, [vr 8 0, none, none], [], g) = some (none, g') ∧ PSt g' T n (aLineW T n q (p, f, pl) D).1 ∧ BdL (g'.1 35 0) ∧ (∀ y, (aLineW T n q (p, f, pl) D).1 = .inr y → y.2.1 = 0 → RdL (g'.1 35 0) (aLineW T n q (p, f, pl) D).2.1) ∧ fr35 g g'
theorem loLn_17 {g : PH} {T : Nat → Nat} {n p f pl : Nat} {D : DD} (hn : n ≤ 600) (hT : TapM g n T) (hP : PSt g T n (.inr (p, f, pl))) (hB : BdL (g.1 35 0)) (hV : lV D.1) (hD : f = 0 → RdL (g.1 35 0) D.1) (k1 : tK T n (tS T n p) = 1) (hq : wdC T 2 (tS T n p) (tE T n (tS T n p)) = some 17) : LoLn T n 17 p f pl D g := by
  rcases e1 : aNum T n (lO 17) (mO 17 0) (.inr (tE T n (tS T n p), f, pl)) with ⟨x, σ⟩
  obtain ⟨g', ev, P, o, l, K⟩ := logN_M (Or.inl rfl) hn hT hP k1 hq e1
  have a0 : aTm 17 D.1 = 0 := rfl
  have hN : aNs T n 17 (nN 17) 0 (.inr (tE T n (tS T n p), nt1 f pl (aTm 17 D.1) (tS T n p))) = ([x], σ) := by
    rw [a0, nt1_0]
    exact aNs_1 rfl e1
  obtain ⟨J1, J2⟩ := lineJ hN
  obtain ⟨⟨a, a1, a2⟩, ⟨b, b1, b2⟩⟩ := hB
  refine ⟨g', ev, by rw [J1]; exact P, ⟨⟨a, a1, ?_⟩, ⟨b, b1, ?_⟩⟩, fun y' hy z => ?_, fr8_o o l⟩
  · rw [K, if_neg (by decide)]; exact a2
  · rw [K, if_neg (by decide)]; exact b2
  · rw [J1] at hy
    obtain ⟨t1, t2, t3, t4, _⟩ := J2 y' hy z
    rw [t1]
    have b0 : 1 ≤ x ∧ x ≤ 6 := t4 0 (by decide)
    exact RdL_1 (x := x) hV (hD t2) (by omega) K
theorem loLn_18 {g : PH} {T : Nat → Nat} {n p f pl : Nat} {D : DD} (hn : n ≤ 600) (hT : TapM g n T) (hP : PSt g T n (.inr (p, f, pl))) (hB : BdL (g.1 35 0)) (hV : lV D.1) (hD : f = 0 → RdL (g.1 35 0) D.1) (k1 : tK T n (tS T n p) = 1) (hq : wdC T 2 (tS T n p) (tE T n (tS T n p)) = some 18) : LoLn T n 18 p f pl D g := by
  rcases e1 : aNum T n (lO 18) (mO 18 0) (.inr (tE T n (tS T n p), f, pl)) with ⟨x, σ⟩
  obtain ⟨g', ev, P, o, l, K⟩ := logN_M (Or.inr rfl) hn hT hP k1 hq e1
  have a0 : aTm 18 D.1 = 0 := rfl
  have hN : aNs T n 18 (nN 18) 0 (.inr (tE T n (tS T n p), nt1 f pl (aTm 18 D.1) (tS T n p))) = ([x], σ) := by
    rw [a0, nt1_0]
    exact aNs_1 rfl e1
  obtain ⟨J1, J2⟩ := lineJ hN
  obtain ⟨⟨a, a1, a2⟩, ⟨b, b1, b2⟩⟩ := hB
  refine ⟨g', ev, by rw [J1]; exact P, ⟨⟨a, a1, ?_⟩, ⟨b, b1, ?_⟩⟩, fun y' hy z => ?_, fr8_o o l⟩
  · rw [K, if_neg (by decide)]; exact a2
  · rw [K, if_neg (by decide)]; exact b2
  · rw [J1] at hy
    obtain ⟨t1, t2, t3, t4, _⟩ := J2 y' hy z
    rw [t1]
    have b0 : 0 ≤ x ∧ x ≤ 9 := t4 0 (by decide)
    exact RdL_2 (x := x) hV (hD t2) (by omega) K
theorem loLn_16 {g : PH} {T : Nat → Nat} {n p f pl : Nat} {D : DD} (hn : n ≤ 600) (hT : TapM g n T) (hP : PSt g T n (.inr (p, f, pl))) (hB : BdL (g.1 35 0)) (hV : lV D.1) (hD : f = 0 → RdL (g.1 35 0) D.1) (hw : tS T n p < n) (k1 : tK T n (tS T n p) = 1) (hq : wdC T 2 (tS T n p) (tE T n (tS T n p)) = some 16) : LoLn T n 16 p f pl D g := by
  obtain ⟨⟨a, ha, h0⟩, ⟨b, b1, b2⟩⟩ := hB
  have v6 := hV.1.1
  have ac : f = 0 → a = (D.1 0).val := fun z => (nn_eq (by omega) (by omega)).mp (h0.symm.trans (hD z).1.1)
  have st : rmS 6 a f pl (tS T n p) (tE T n (tS T n p)) = .inr (tE T n (tS T n p), nt1 f pl (aTm 16 D.1) (tS T n p)) := by
    unfold rmS
    rw [nt1_same (k' := aTm 16 D.1) (fun z => by rw [ac z]; rfl)]
  rcases e1 : aNum T n 0 10 (rmS 6 a f pl (tS T n p) (tE T n (tS T n p))) with ⟨x, σ⟩
  obtain ⟨g', ev, P, o, l, K⟩ := logM_M hn hT hP hw k1 hq ha h0 e1
  have hN : aNs T n 16 (nN 16) 0 (.inr (tE T n (tS T n p), nt1 f pl (aTm 16 D.1) (tS T n p))) = ([x], σ) := by
    rw [← st]
    exact aNs_1 rfl e1
  obtain ⟨J1, J2⟩ := lineJ hN
  refine ⟨g', ev, by rw [J1]; exact P, ?_, fun y' hy z => ?_, fr10_o o l⟩
  · by_cases q : a = 6
    · exact ⟨⟨a, ha, by rw [K, if_pos q]; exact h0⟩, ⟨b, b1, by rw [K, if_pos q]; exact b2⟩⟩
    · exact ⟨⟨a + 1, by omega, by rw [K, if_neg q, if_pos rfl]⟩, ⟨b, b1, by rw [K, if_neg q, if_neg (by omega), if_neg (by omega)]; exact b2⟩⟩
  · rw [J1] at hy
    obtain ⟨t1, t2, t3, t4, _⟩ := J2 y' hy z
    rw [t1]
    have b0 : 0 ≤ x ∧ x ≤ 10 := t4 0 (by decide)
    have ab := ac t2
    have n6 : (D.1 0).val ≠ 6 := fun z => by
      have t3 : (if (D.1 0).val = 6 then 3 else 0) = 0 := t3
      rw [if_pos z] at t3
      cases t3
    subst ab
    simp only [if_neg n6] at K
    exact RdL_m (x := x) hV (hD t2) (by omega) (by omega) K
theorem loLn_f {g : PH} {T : Nat → Nat} {n p f pl q : Nat} {D : DD} (hq2 : q = 19 ∨ q = 20) (hn : n ≤ 600) (hT : TapM g n T) (hP : PSt g T n (.inr (p, f, pl))) (hB : BdL (g.1 35 0)) (hV : lV D.1) (hD : f = 0 → RdL (g.1 35 0) D.1) (hw : tS T n p < n) (k1 : tK T n (tS T n p) = 1) (hq : wdC T 2 (tS T n p) (tE T n (tS T n p)) = some q) : LoLn T n q p f pl D g := by
  obtain ⟨⟨b, b1, b2⟩, ⟨a, ha, h0⟩⟩ := hB
  have v6 := hV.1.2.2.2.2
  have ac : f = 0 → a = (D.1 3).val := fun z => (nn_eq (by omega) (by omega)).mp (h0.symm.trans (hD z).1.2.2.2)
  have tmq : aTm q D.1 = if (D.1 3).val = 10 then 3 else 0 := by
    rcases hq2 with e | e <;> subst e <;> rfl
  have st : rmS 10 a f pl (tS T n p) (tE T n (tS T n p)) = .inr (tE T n (tS T n p), nt1 f pl (aTm q D.1) (tS T n p)) := by
    unfold rmS
    rw [nt1_same (k' := aTm q D.1) (fun z => by rw [ac z, tmq])]
  rcases e1 : aNum T n 0 23 (rmS 10 a f pl (tS T n p) (tE T n (tS T n p))) with ⟨x, σ⟩
  obtain ⟨g', ev, P, o, l, K⟩ := logF_M hq2 hn hT hP hw k1 hq ha h0 e1
  have hN : aNs T n q (nN q) 0 (.inr (tE T n (tS T n p), nt1 f pl (aTm q D.1) (tS T n p))) = ([x], σ) := by
    rw [← st]
    rcases hq2 with e | e <;> subst e <;> exact aNs_1 rfl e1
  obtain ⟨J1, J2⟩ := lineJ hN
  refine ⟨g', ev, by rw [J1]; exact P, ?_, fun y' hy z => ?_, fr10_o o l⟩
  · by_cases q0 : a = 10
    · exact ⟨⟨b, b1, by rw [K, if_pos q0]; exact b2⟩, ⟨a, ha, by rw [K, if_pos q0]; exact h0⟩⟩
    · exact ⟨⟨b, b1, by rw [K, if_neg q0, if_neg (by omega), if_neg (by omega), if_neg (by omega)]; exact b2⟩, ⟨a + 1, by omega, by rw [K, if_neg q0, if_pos rfl]⟩⟩
  · rw [J1] at hy
    obtain ⟨t1, t2, t3, t4, _⟩ := J2 y' hy z
    rw [t1]
    have b0 : 0 ≤ x ∧ x ≤ 23 := by
      rcases hq2 with e | e <;> subst e <;> exact t4 0 (by decide)
    have ab := ac t2
    have n6 : (D.1 3).val ≠ 10 := fun z => by
      rw [tmq, if_pos z] at t3
      cases t3
    subst ab
    simp only [if_neg n6] at K
    have at' : (aTell q (fun j => [x].getD j 0) D).1 = cU (cU (cU D.1 (20+(D.1 3).val) (f64 (if q = 19 then 1 else 0))) (30+(D.1 3).val) (f64 x)) 3 (f64 ((D.1 3).val + 1)) := by
      rcases hq2 with e | e <;> subst e <;> rfl
    rw [at']
    exact RdL_f hV (hD t2) (by omega) (by omega) (by split <;> omega) K
theorem logLine_M {g : PH} {T : Nat → Nat} {n p f pl : Nat} {D : DD} (hn : n ≤ 600) (hT : TapM g n T) (hP : PSt g T n (.inr (p, f, pl))) (hB : BdL (g.1 35 0)) (hV : lV D.1) (hD : f = 0 → RdL (g.1 35 0) D.1) : ∃ g', pm_ev (177, 0, [vr 8 0, none, none], [], g) = some (none, g') ∧ PSt g' T n (aLine T n 2 (p, f, pl) D).1 ∧ BdL (g'.1 35 0) ∧ (∀ y, (aLine T n 2 (p, f, pl) D).1 = .inr y → y.2.1 = 0 → RdL (g'.1 35 0) (aLine T n 2 (p, f, pl) D).2.1) ∧ fr35 g g' := by
  have wr : ¬ (tK T n (tS T n p) = 1 ∧ ∃ q, wdC T 2 (tS T n p) (tE T n (tS T n p)) = some q) → aLine T n 2 (p, f, pl) D = (.inl (tS T n p), D) → ∃ g', pm_ev (177, 0, [vr 8 0, none, none], [], g) = some (none, g') ∧ PSt g' T n (aLine T n 2 (p, f, pl) D).1 ∧ BdL (g'.1 35 0) ∧ (∀ y, (aLine T n 2 (p, f, pl) D).1 = .inr y → y.2.1 = 0 → RdL (g'.1 35 0) (aLine T n 2 (p, f, pl) D).2.1) ∧ fr35 g g' := fun nq e => by
    obtain ⟨g', ev, P, F⟩ := logW_M hn hT hP nq
    obtain ⟨⟨a, a1, a2⟩, ⟨b, b1, b2⟩⟩ := hB
    rw [e]
    exact ⟨g', ev, P, ⟨⟨a, a1, (F.1 35 0 _ (by omega) (by omega)).trans a2⟩, ⟨b, b1, (F.1 35 0 _ (by omega) (by omega)).trans b2⟩⟩, fun y h => (by cases h), F.o⟩
  by_cases k1 : tK T n (tS T n p) = 1
  · cases hq : wdC T 2 (tS T n p) (tE T n (tS T n p)) with
    | none => exact wr (fun ⟨_, q, z⟩ => by rw [hq] at z; cases z) (by unfold aLine; dsimp only; rw [if_pos k1, hq])
    | some q =>
      have e : aLine T n 2 (p, f, pl) D = aLineW T n q (p, f, pl) D := by unfold aLine; dsimp only; rw [if_pos k1, hq]
      obtain ⟨wn, q1, q2⟩ := wd_rng (by decide) k1 hq
      have q1 : 16 ≤ q := q1
      have q2 : q < 21 := q2
      rw [e]
      have : q = 16 ∨ q = 17 ∨ q = 18 ∨ q = 19 ∨ q = 20 := by omega
      rcases this with z | z | z | z | z <;> subst z
      · exact loLn_16 hn hT hP hB hV hD wn k1 hq
      · exact loLn_17 hn hT hP hB hV hD k1 hq
      · exact loLn_18 hn hT hP hB hV hD k1 hq
      · exact loLn_f (Or.inl rfl) hn hT hP hB hV hD wn k1 hq
      · exact loLn_f (Or.inr rfl) hn hT hP hB hV hD wn k1 hq
  · exact wr (fun z => k1 z.1) (by unfold aLine; dsimp only; rw [if_neg k1])
