/-! ===== the reference's lines of a coast are aLine's ===== -/
theorem wd_rng {T : Nat → Nat} {n p s q : Nat} (hs : s < 3) (k1 : tK T n (tS T n p) = 1) (hq : wdC T s (tS T n p) (tE T n (tS T n p)) = some q) : tS T n p < n ∧ loW s ≤ q ∧ q < hiW s := by
  have wn : tS T n p < n := by
    unfold tK at k1
    split at k1
    · assumption
    · omega
  have let1 : ∀ i, tS T n p ≤ i → i < tE T n (tS T n p) → isL (T i) = true := fun i h1 h2 => by
    have z := k1
    unfold tK at z
    rw [if_pos wn] at z
    split at z
    · rename_i q1
      unfold tE at h2
      rw [if_pos wn, if_pos q1] at h2
      exact run_in (P := fun i => isL (T i)) (n := n) _ _ rfl i h1 h2
    · split at z
      · split at z <;> omega
      · split at z <;> omega
  obtain ⟨q1, q2, _⟩ := (wd_wc hs let1).1 q hq
  exact ⟨wn, q1, q2⟩
theorem aEnd_f {T : Nat → Nat} {n : Nat} {σ : LnS} {y : Nat × Nat × Nat} (h : aEnd T n σ = .inr y) : ∃ x, σ = .inr x ∧ x.2.1 = y.2.1 := by
  cases σ with
  | inl w => cases h
  | inr x =>
    obtain ⟨p, f, pl⟩ := x
    have h : (if tK T n (tS T n p) = 3 then (.inr (tE T n (tS T n p), f, pl) : LnS) else .inl (tS T n p)) = .inr y := h
    split at h
    · injection h with h
      rw [← h]
      exact ⟨_, rfl, rfl⟩
    · cases h
theorem lineJ {T : Nat → Nat} {n q p f pl : Nat} {D : DD} {σ : LnS} {L : List Nat} (hN : aNs T n q (nN q) 0 (.inr (tE T n (tS T n p), nt1 f pl (aTm q D.1) (tS T n p))) = (L, σ)) : (aLineW T n q (p, f, pl) D).1 = aEnd T n σ ∧ ∀ y, aEnd T n σ = .inr y → y.2.1 = 0 → (aLineW T n q (p, f, pl) D).2 = aTell q (fun j => L.getD j 0) D ∧ f = 0 ∧ aTm q D.1 = 0 ∧ (∀ j, j < nN q → lO q ≤ L.getD j 0 ∧ L.getD j 0 ≤ mO q j) ∧ ∀ j, nN q ≤ j → L.getD j 0 = 0 := by
  have E : aNs T n q (nN q) 0 (.inr (tE T n (tS T n p), (nt1 f pl (aTm q D.1) (tS T n p)).1, (nt1 f pl (aTm q D.1) (tS T n p)).2)) = (L, σ) := hN
  unfold aLineW
  dsimp only
  rw [E]
  dsimp only
  cases hE : aEnd T n σ with
  | inl w => exact ⟨rfl, fun y h => by cases h⟩
  | inr y =>
    refine ⟨rfl, fun y' h z => ?_⟩
    injection h with h
    subst h
    obtain ⟨x, hx, xf⟩ := aEnd_f hE
    have hx2 : (aNs T n q (nN q) 0 (.inr (tE T n (tS T n p), (nt1 f pl (aTm q D.1) (tS T n p)).1, (nt1 f pl (aTm q D.1) (tS T n p)).2))).2 = .inr x := by rw [E]; exact hx
    have fz := aNs_f _ _ _ _ hx2 (xf.trans z)
    obtain ⟨v1, v2⟩ := aNs_v _ _ _ _ hx2 (xf.trans z)
    rw [E] at v1 v2
    obtain ⟨f0, t0⟩ := nt1_z fz
    refine ⟨if_pos z, f0, t0, fun j hj => ?_, v2⟩
    have := v1 j hj
    rw [Nat.zero_add] at this
    exact this
theorem aNs_1 {T : Nat → Nat} {n q x : Nat} {σ σ1 : LnS} (hq : nN q = 1) (e1 : aNum T n (lO q) (mO q 0) σ = (x, σ1)) : aNs T n q (nN q) 0 σ = ([x], σ1) := by
  rw [hq]
  show ([(aNum T n (lO q) (mO q 0) σ).1], (aNum T n (lO q) (mO q 0) σ).2) = _
  rw [e1]
theorem aNs_2 {T : Nat → Nat} {n q x y : Nat} {σ σ1 σ2 : LnS} (hq : nN q = 2) (e1 : aNum T n (lO q) (mO q 0) σ = (x, σ1)) (e2 : aNum T n (lO q) (mO q 1) σ1 = (y, σ2)) : aNs T n q (nN q) 0 σ = ([x, y], σ2) := by
  rw [hq]
  show ([(aNum T n (lO q) (mO q 0) σ).1, (aNum T n (lO q) (mO q 1) (aNum T n (lO q) (mO q 0) σ).2).1], (aNum T n (lO q) (mO q 1) (aNum T n (lO q) (mO q 0) σ).2).2) = _
  rw [e1]; dsimp only; rw [e2]
theorem aNs_3 {T : Nat → Nat} {n q x y r : Nat} {σ σ1 σ2 σ3 : LnS} (hq : nN q = 3) (e1 : aNum T n (lO q) (mO q 0) σ = (x, σ1)) (e2 : aNum T n (lO q) (mO q 1) σ1 = (y, σ2)) (e3 : aNum T n (lO q) (mO q 2) σ2 = (r, σ3)) : aNs T n q (nN q) 0 σ = ([x, y, r], σ3) := by
  rw [hq]
  show ([(aNum T n (lO q) (mO q 0) σ).1, (aNum T n (lO q) (mO q 1) (aNum T n (lO q) (mO q 0) σ).2).1, (aNum T n (lO q) (mO q 2) (aNum T n (lO q) (mO q 1) (aNum T n (lO q) (mO q 0) σ).2).2).1], (aNum T n (lO q) (mO q 2) (aNum T n (lO q) (mO q 1) (aNum T n (lO q) (mO q 0) σ).2).2).2) = _
  rw [e1]; dsimp only; rw [e2]; dsimp only; rw [e3]
theorem aNs_4 {T : Nat → Nat} {n q x y r u : Nat} {σ σ1 σ2 σ3 σ4 : LnS} (hq : nN q = 4) (e1 : aNum T n (lO q) (mO q 0) σ = (x, σ1)) (e2 : aNum T n (lO q) (mO q 1) σ1 = (y, σ2)) (e3 : aNum T n (lO q) (mO q 2) σ2 = (r, σ3)) (e4 : aNum T n (lO q) (mO q 3) σ3 = (u, σ4)) : aNs T n q (nN q) 0 σ = ([x, y, r, u], σ4) := by
  rw [hq]
  show ([(aNum T n (lO q) (mO q 0) σ).1, (aNum T n (lO q) (mO q 1) (aNum T n (lO q) (mO q 0) σ).2).1, (aNum T n (lO q) (mO q 2) (aNum T n (lO q) (mO q 1) (aNum T n (lO q) (mO q 0) σ).2).2).1, (aNum T n (lO q) (mO q 3) (aNum T n (lO q) (mO q 2) (aNum T n (lO q) (mO q 1) (aNum T n (lO q) (mO q 0) σ).2).2).2).1], (aNum T n (lO q) (mO q 3) (aNum T n (lO q) (mO q 2) (aNum T n (lO q) (mO q 1) (aNum T n (lO q) (mO q 0) σ).2).2).2).2) = _
  rw [e1]; dsimp only; rw [e2]; dsimp only; rw [e3]; dsimp only; rw [e4]
/-- the bounds of the counts in the table of the reading -/
def BdC (R : Nat → Int32) : Prop := (∃ a, a ≤ 4 ∧ R 4 = nI a) ∧ (∃ a, a ≤ 4 ∧ R 5 = nI a) ∧ ∀ s, s < 4 → ∃ m, m ≤ 4 ∧ R (14+4*s+3) = nI m
def CdM (g : PH) (D : DD) : Prop := RdC (g.1 35 0) D.1 ∧ mrk g 9 D.2.1 ∧ mrk g 10 D.2.2.1 ∧ g.1 8 0 11 = iI D.2.2.2
theorem BdC.o {R R' : Nat → Int32} (h4 : R' 4 = R 4) (h5 : R' 5 = R 5) (h : ∀ s, s < 4 → R' (14+4*s+3) = R (14+4*s+3)) (hB : BdC R) : BdC R' := by
  obtain ⟨⟨a, a1, a2⟩, ⟨b, b1, b2⟩, m⟩ := hB
  refine ⟨⟨a, a1, h4.trans a2⟩, ⟨b, b1, h5.trans b2⟩, fun s hs => ?_⟩
  obtain ⟨x, x1, x2⟩ := m s hs
  exact ⟨x, x1, (h s hs).trans x2⟩
/-- what a line of a coast gives in the reference -/
def CoLn (T : Nat → Nat) (n q p f pl : Nat) (D : DD) (g : PH) : Prop := ∃ g', pm_ev (173, 0, [vr 8 0, none, none], [], g) = some (none, g') ∧ PSt g' T n (aLineW T n q (p, f, pl) D).1 ∧ BdC (g'.1 35 0) ∧ (∀ y, (aLineW T n q (p, f, pl) D).1 = .inr y → y.2.1 = 0 → CdM g' (aLineW T n q (p, f, pl) D).2) ∧ fr35 g g'
theorem coLn_0 {g : PH} {T : Nat → Nat} {n p f pl : Nat} {D : DD} (hn : n ≤ 600) (hT : TapM g n T) (hP : PSt g T n (.inr (p, f, pl))) (hB : BdC (g.1 35 0)) (hV : rVc D) (hD : f = 0 → CdM g D) (k1 : tK T n (tS T n p) = 1) (hq : wdC T 0 (tS T n p) (tE T n (tS T n p)) = some 0) : CoLn T n 0 p f pl D g := by
  rcases e1 : aNum T n 2 8 (.inr (tE T n (tS T n p), f, pl)) with ⟨x, σ1⟩
  rcases e2 : aNum T n 2 8 σ1 with ⟨y, σ⟩
  obtain ⟨g', ev, P, o, l, K⟩ := coast0_M hn hT hP k1 hq e1 e2
  have a0 : aTm 0 D.1 = 0 := rfl
  have hN : aNs T n 0 (nN 0) 0 (.inr (tE T n (tS T n p), nt1 f pl (aTm 0 D.1) (tS T n p))) = ([x, y], σ) := by
    rw [a0, nt1_0]
    exact aNs_2 rfl e1 e2
  obtain ⟨J1, J2⟩ := lineJ hN
  have F : fr35 g g' := ⟨fun t i x h1 h2 h3 => o t i x (fun z => h1 ⟨z.1, z.2.1, z.2.2.1, by omega⟩) h2 h3, l⟩
  refine ⟨g', ev, by rw [J1]; exact P, hB.o ?_ ?_ (fun s hs => ?_), fun y' hy z => ?_, F⟩
  · rw [K, if_neg (by decide), if_neg (by decide)]
  · rw [K, if_neg (by decide), if_neg (by decide)]
  · rw [K, if_neg (by omega), if_neg (by omega)]
  · rw [J1] at hy
    obtain ⟨t1, t2, t3, t4, _⟩ := J2 y' hy z
    rw [t1]
    obtain ⟨dR, d9, d10, d11⟩ := hD t2
    have b0 : 2 ≤ x ∧ x ≤ 8 := t4 0 (by decide)
    have b1 : 2 ≤ y ∧ y ≤ 8 := t4 1 (by decide)
    exact ⟨RdC_0 hV.b dR b0.2 b1.2 K, d9.fr (o 8 0 9 (by omega) (by omega) (by omega)), d10.fr (o 8 0 10 (by omega) (by omega) (by omega)), (o 8 0 11 (by omega) (by omega) (by omega)).trans d11⟩
theorem coLn_5 {g : PH} {T : Nat → Nat} {n p f pl : Nat} {D : DD} (hn : n ≤ 600) (hT : TapM g n T) (hP : PSt g T n (.inr (p, f, pl))) (hB : BdC (g.1 35 0)) (hV : rVc D) (hD : f = 0 → CdM g D) (k1 : tK T n (tS T n p) = 1) (hq : wdC T 0 (tS T n p) (tE T n (tS T n p)) = some 5) : CoLn T n 5 p f pl D g := by
  rcases e1 : aNum T n 1 20 (.inr (tE T n (tS T n p), f, pl)) with ⟨x, σ⟩
  obtain ⟨g', ev, P, o, l, K⟩ := coast5_M hn hT hP k1 hq e1
  have a0 : aTm 5 D.1 = 0 := rfl
  have hN : aNs T n 5 (nN 5) 0 (.inr (tE T n (tS T n p), nt1 f pl (aTm 5 D.1) (tS T n p))) = ([x], σ) := by
    rw [a0, nt1_0]
    exact aNs_1 rfl e1
  obtain ⟨J1, J2⟩ := lineJ hN
  have F : fr35 g g' := ⟨fun t i x h1 h2 h3 => o t i x (fun z => h1 ⟨z.1, z.2.1, z.2.2.1, by omega⟩) h2 h3, l⟩
  refine ⟨g', ev, by rw [J1]; exact P, hB.o ?_ ?_ (fun s hs => ?_), fun y' hy z => ?_, F⟩
  · rw [K, if_neg (by decide)]
  · rw [K, if_neg (by decide)]
  · rw [K, if_neg (by omega)]
  · rw [J1] at hy
    obtain ⟨t1, t2, t3, t4, _⟩ := J2 y' hy z
    rw [t1]
    obtain ⟨dR, d9, d10, d11⟩ := hD t2
    have b0 : 1 ≤ x ∧ x ≤ 20 := t4 0 (by decide)
    exact ⟨RdC_5 hV.b dR b0.2 K, d9.fr (o 8 0 9 (by omega) (by omega) (by omega)), d10.fr (o 8 0 10 (by omega) (by omega) (by omega)), (o 8 0 11 (by omega) (by omega) (by omega)).trans d11⟩
theorem coLn_1 {g : PH} {T : Nat → Nat} {n p f pl : Nat} {D : DD} (hn : n ≤ 600) (hT : TapM g n T) (hP : PSt g T n (.inr (p, f, pl))) (hB : BdC (g.1 35 0)) (hV : rVc D) (hD : f = 0 → CdM g D) (k1 : tK T n (tS T n p) = 1) (hq : wdC T 0 (tS T n p) (tE T n (tS T n p)) = some 1) : CoLn T n 1 p f pl D g := by
  rcases e1 : aNum T n 0 7 (.inr (tE T n (tS T n p), f, pl)) with ⟨x, σ1⟩
  rcases e2 : aNum T n 0 7 σ1 with ⟨y, σ⟩
  obtain ⟨g', ev, P, m9, m10, o, l, K⟩ := coast12_M (Or.inl rfl) hn hT hP k1 hq e1 e2
  rw [if_pos rfl, if_pos rfl] at K
  have a0 : aTm 1 D.1 = 0 := rfl
  have hN : aNs T n 1 (nN 1) 0 (.inr (tE T n (tS T n p), nt1 f pl (aTm 1 D.1) (tS T n p))) = ([x, y], σ) := by
    rw [a0, nt1_0]
    exact aNs_2 rfl e1 e2
  obtain ⟨J1, J2⟩ := lineJ hN
  have F : fr35 g g' := ⟨fun t i x h1 h2 h3 => o t i x (fun z => h1 ⟨z.1, z.2.1, z.2.2.1, by omega⟩) h2 h3, l⟩
  refine ⟨g', ev, by rw [J1]; exact P, hB.o ?_ ?_ (fun s hs => ?_), fun y' hy z => ?_, F⟩
  · rw [K, if_neg (by decide)]
  · rw [K, if_neg (by decide)]
  · rw [K, if_neg (by omega)]
  · rw [J1] at hy
    obtain ⟨t1, t2, t3, t4, _⟩ := J2 y' hy z
    rw [t1]
    obtain ⟨dR, d9, d10, d11⟩ := hD t2
    have b0 : 0 ≤ x ∧ x ≤ 7 := t4 0 (by decide)
    have b1 : 0 ≤ y ∧ y ≤ 7 := t4 1 (by decide)
    exact ⟨RdC_1 hV.b dR b0.2 b1.2 K, m9 _ d9, m10 _ d10, (o 8 0 11 (by omega) (by omega) (by omega)).trans d11⟩
theorem coLn_2 {g : PH} {T : Nat → Nat} {n p f pl : Nat} {D : DD} (hn : n ≤ 600) (hT : TapM g n T) (hP : PSt g T n (.inr (p, f, pl))) (hB : BdC (g.1 35 0)) (hV : rVc D) (hD : f = 0 → CdM g D) (k1 : tK T n (tS T n p) = 1) (hq : wdC T 0 (tS T n p) (tE T n (tS T n p)) = some 2) : CoLn T n 2 p f pl D g := by
  rcases e1 : aNum T n 0 7 (.inr (tE T n (tS T n p), f, pl)) with ⟨x, σ1⟩
  rcases e2 : aNum T n 0 7 σ1 with ⟨y, σ⟩
  obtain ⟨g', ev, P, m9, m10, o, l, K⟩ := coast12_M (Or.inr rfl) hn hT hP k1 hq e1 e2
  rw [if_neg (by decide), if_neg (by decide)] at K
  have a0 : aTm 2 D.1 = 0 := rfl
  have hN : aNs T n 2 (nN 2) 0 (.inr (tE T n (tS T n p), nt1 f pl (aTm 2 D.1) (tS T n p))) = ([x, y], σ) := by
    rw [a0, nt1_0]
    exact aNs_2 rfl e1 e2
  obtain ⟨J1, J2⟩ := lineJ hN
  have F : fr35 g g' := ⟨fun t i x h1 h2 h3 => o t i x (fun z => h1 ⟨z.1, z.2.1, z.2.2.1, by omega⟩) h2 h3, l⟩
  refine ⟨g', ev, by rw [J1]; exact P, hB.o ?_ ?_ (fun s hs => ?_), fun y' hy z => ?_, F⟩
  · rw [K, if_neg (by omega)]
  · rw [K, if_neg (by omega)]
  · rw [K, if_neg (by omega)]
  · rw [J1] at hy
    obtain ⟨t1, t2, t3, t4, _⟩ := J2 y' hy z
    rw [t1]
    obtain ⟨dR, d9, d10, d11⟩ := hD t2
    have b0 : 0 ≤ x ∧ x ≤ 7 := t4 0 (by decide)
    have b1 : 0 ≤ y ∧ y ≤ 7 := t4 1 (by decide)
    exact ⟨RdC_2 hV.b dR b0.2 b1.2 K, m9 _ d9, m10 _ d10, (o 8 0 11 (by omega) (by omega) (by omega)).trans d11⟩
theorem coLn_3 {g : PH} {T : Nat → Nat} {n p f pl : Nat} {D : DD} (hn : n ≤ 600) (hT : TapM g n T) (hP : PSt g T n (.inr (p, f, pl))) (hB : BdC (g.1 35 0)) (hV : rVc D) (hD : f = 0 → CdM g D) (hw : tS T n p < n) (k1 : tK T n (tS T n p) = 1) (hq : wdC T 0 (tS T n p) (tE T n (tS T n p)) = some 3) : CoLn T n 3 p f pl D g := by
  obtain ⟨⟨a, ha, h4⟩, hB5, hBm⟩ := id hB
  have c4 := hV.b.1
  have ac : f = 0 → a = (D.1 5).val := fun z => by
    have := (hD z).1.1.2.2.2.2.1
    exact (nn_eq (by omega) (by omega)).mp (h4.symm.trans this)
  have st : gdS a f pl (tS T n p) (tE T n (tS T n p)) = .inr (tE T n (tS T n p), nt1 f pl (aTm 3 D.1) (tS T n p)) := by
    unfold gdS
    rw [nt1_same (k' := aTm 3 D.1) (fun z => by rw [ac z]; rfl)]
  rcases e1 : aNum T n 0 7 (gdS a f pl (tS T n p) (tE T n (tS T n p))) with ⟨x, σ1⟩
  rcases e2 : aNum T n 0 7 σ1 with ⟨y, σ2⟩
  rcases e3 : aNum T n 0 7 σ2 with ⟨r, σ⟩
  obtain ⟨g', ev, P, m9, m10, o, l, K⟩ := coast3_M hn hT hP hw k1 hq ha h4 e1 e2 e3
  have hN : aNs T n 3 (nN 3) 0 (.inr (tE T n (tS T n p), nt1 f pl (aTm 3 D.1) (tS T n p))) = ([x, y, r], σ) := by
    rw [← st]
    exact aNs_3 rfl e1 e2 e3
  obtain ⟨J1, J2⟩ := lineJ hN
  have F : fr35 g g' := ⟨fun t i x h1 h2 h3 => o t i x (fun z => h1 ⟨z.1, z.2.1, z.2.2.1, by omega⟩) h2 h3, l⟩
  refine ⟨g', ev, by rw [J1]; exact P, ?_, fun y' hy z => ?_, F⟩
  · by_cases q : a = 4
    · exact hB.o (by rw [K, if_pos q]) (by rw [K, if_pos q]) (fun s hs => by rw [K, if_pos q])
    · obtain ⟨b, b1, b2⟩ := hB5
      refine ⟨⟨a + 1, by omega, by rw [K, if_neg q, if_pos rfl]⟩, ⟨b, b1, ?_⟩, fun s hs => ?_⟩
      · rw [K, if_neg q, if_neg (by omega), if_neg (by omega), if_neg (by omega)]; exact b2
      · obtain ⟨m, m1, m2⟩ := hBm s hs
        refine ⟨m, m1, ?_⟩
        rw [K, if_neg q, if_neg (by omega), if_neg (by omega), if_neg (by omega)]; exact m2
  · rw [J1] at hy
    obtain ⟨t1, t2, t3, t4, _⟩ := J2 y' hy z
    rw [t1]
    obtain ⟨dR, d9, d10, d11⟩ := hD t2
    have b0 : 0 ≤ x ∧ x ≤ 7 := t4 0 (by decide)
    have b1 : 0 ≤ y ∧ y ≤ 7 := t4 1 (by decide)
    have b2 : 0 ≤ r ∧ r ≤ 7 := t4 2 (by decide)
    have ac := ac t2
    have n4 : (D.1 5).val ≠ 4 := fun z => by
      have t3 : (if (D.1 5).val = 4 then 3 else 0) = 0 := t3
      rw [if_pos z] at t3
      cases t3
    subst ac
    simp only [if_neg n4] at K
    exact ⟨RdC_3 hV.b dR b0.2 b1.2 b2.2 (by omega) K, m9 _ d9, m10 _ d10, (o 8 0 11 (by omega) (by omega) (by omega)).trans d11⟩
theorem coLn_4 {g : PH} {T : Nat → Nat} {n p f pl : Nat} {D : DD} (hn : n ≤ 600) (hT : TapM g n T) (hP : PSt g T n (.inr (p, f, pl))) (hB : BdC (g.1 35 0)) (hV : rVc D) (hD : f = 0 → CdM g D) (hw : tS T n p < n) (k1 : tK T n (tS T n p) = 1) (hq : wdC T 0 (tS T n p) (tE T n (tS T n p)) = some 4) : CoLn T n 4 p f pl D g := by
  obtain ⟨hB4, ⟨a, ha, h5⟩, hBm⟩ := id hB
  have c6 := hV.b.2.1
  have ac : f = 0 → a = (D.1 6).val := fun z => by
    have := (hD z).1.1.2.2.2.2.2
    exact (nn_eq (by omega) (by omega)).mp (h5.symm.trans this)
  have st : gdS a f pl (tS T n p) (tE T n (tS T n p)) = .inr (tE T n (tS T n p), nt1 f pl (aTm 4 D.1) (tS T n p)) := by
    unfold gdS
    rw [nt1_same (k' := aTm 4 D.1) (fun z => by rw [ac z]; rfl)]
  rcases e1 : aNum T n 0 7 (gdS a f pl (tS T n p) (tE T n (tS T n p))) with ⟨x, σ1⟩
  rcases e2 : aNum T n 0 7 σ1 with ⟨y, σ2⟩
  rcases e3 : aNum T n 0 9 σ2 with ⟨r, σ3⟩
  rcases e4 : aNum T n 0 9 σ3 with ⟨u, σ⟩
  obtain ⟨g', ev, P, m9, m10, o, l, K⟩ := coast4_M hn hT hP hw k1 hq ha h5 e1 e2 e3 e4
  have hN : aNs T n 4 (nN 4) 0 (.inr (tE T n (tS T n p), nt1 f pl (aTm 4 D.1) (tS T n p))) = ([x, y, r, u], σ) := by
    rw [← st]
    exact aNs_4 rfl e1 e2 e3 e4
  obtain ⟨J1, J2⟩ := lineJ hN
  have F : fr35 g g' := ⟨fun t i x h1 h2 h3 => o t i x (fun z => h1 ⟨z.1, z.2.1, z.2.2.1, by omega⟩) h2 h3, l⟩
  refine ⟨g', ev, by rw [J1]; exact P, ?_, fun y' hy z => ?_, F⟩
  · by_cases q : a = 4
    · exact hB.o (by rw [K, if_pos q]) (by rw [K, if_pos q]) (fun s hs => by rw [K, if_pos q])
    · obtain ⟨b, b1, b2⟩ := hB4
      refine ⟨⟨b, b1, ?_⟩, ⟨a + 1, by omega, by rw [K, if_neg q, if_pos rfl]⟩, fun s hs => ?_⟩
      · rw [K, if_neg q, if_neg (by omega), if_neg (by omega), if_neg (by omega), if_neg (by omega)]; exact b2
      · obtain ⟨m, m1, m2⟩ := hBm s hs
        refine ⟨m, m1, ?_⟩
        rw [K, if_neg q, if_neg (by omega), if_neg (by omega), if_neg (by omega), if_neg (by omega)]; exact m2
  · rw [J1] at hy
    obtain ⟨t1, t2, t3, t4, _⟩ := J2 y' hy z
    rw [t1]
    obtain ⟨dR, d9, d10, d11⟩ := hD t2
    have b0 : 0 ≤ x ∧ x ≤ 7 := t4 0 (by decide)
    have b1 : 0 ≤ y ∧ y ≤ 7 := t4 1 (by decide)
    have b2 : 0 ≤ r ∧ r ≤ 9 := t4 2 (by decide)
    have b3 : 0 ≤ u ∧ u ≤ 9 := t4 3 (by decide)
    have ac := ac t2
    have n4 : (D.1 6).val ≠ 4 := fun z => by
      have t3 : (if (D.1 6).val = 4 then 3 else 0) = 0 := t3
      rw [if_pos z] at t3
      cases t3
    subst ac
    simp only [if_neg n4] at K
    exact ⟨RdC_4 hV.b dR b0.2 b1.2 b2.2 b3.2 (by omega) K, m9 _ d9, m10 _ d10, (o 8 0 11 (by omega) (by omega) (by omega)).trans d11⟩
theorem aTm_m {q : Nat} (hq : 6 ≤ q ∧ q < 12) (c : AC) : aTm q c = if (c (6)).val = 0 then 4 else if (c (80+((c (6)).val-1))).val = 4 then 3 else 0 := by
  unfold aTm
  rw [if_neg (show ¬ q = 3 by omega), if_neg (show ¬ q = 4 by omega), if_pos hq]
theorem aTell_m {q : Nat} (hq : 6 ≤ q ∧ q < 12) (v : Nat → Nat) (D : DD) : aTell q v D = (cU (cU (cU (cU D.1 (100+(4*((D.1 6).val-1)+(D.1 (80+((D.1 6).val-1))).val)) (f64 (q-6))) (120+(4*((D.1 6).val-1)+(D.1 (80+((D.1 6).val-1))).val)) (f64 (v 0))) (140+(4*((D.1 6).val-1)+(D.1 (80+((D.1 6).val-1))).val)) (f64 (v 1))) (80+((D.1 6).val-1)) (f64 ((D.1 (80+((D.1 6).val-1))).val + 1)), D.2.1, D.2.2.1, if q = 11 then max D.2.2.2 (v 0) else D.2.2.2) := by
  unfold aTell
  rw [if_neg (show ¬ q = 0 by omega), if_neg (show ¬ q = 5 by omega), if_neg (show ¬ q = 1 by omega), if_neg (show ¬ q = 2 by omega), if_neg (show ¬ q = 3 by omega), if_neg (show ¬ q = 4 by omega), if_pos hq.2]
theorem coLn_m {g : PH} {T : Nat → Nat} {n p f pl d : Nat} {D : DD} (hd : d < 6) (hn : n ≤ 600) (hT : TapM g n T) (hP : PSt g T n (.inr (p, f, pl))) (hB : BdC (g.1 35 0)) (hV : rVc D) (hD : f = 0 → CdM g D) (hw : tS T n p < n) (k1 : tK T n (tS T n p) = 1) (hq : wdC T 0 (tS T n p) (tE T n (tS T n p)) = some (6 + d)) : CoLn T n (6 + d) p f pl D g := by
  obtain ⟨hB4, ⟨a, ha, h5⟩, hBm⟩ := id hB
  have c6 := hV.b.2.1
  have ac : f = 0 → a = (D.1 6).val := fun z => by
    have := (hD z).1.1.2.2.2.2.2
    exact (nn_eq (by omega) (by omega)).mp (h5.symm.trans this)
  have tmq := aTm_m (q := 6 + d) (by omega) D.1
  cases a with
  | zero =>
    have st : mdS 0 0 f pl (tS T n p) (tE T n (tS T n p)) = .inr (tE T n (tS T n p), nt1 f pl (aTm (6 + d) D.1) (tS T n p)) := by
      unfold mdS
      rw [nt1_same (k' := aTm (6 + d) D.1) (fun z => by rw [tmq, if_pos rfl, if_pos (ac z).symm])]
    obtain ⟨g', ev, P, F⟩ := coastM0_M hd hn hT hP hw k1 hq h5
    rw [mnR_s hd, st] at P
    dsimp only at P
    obtain ⟨J1, J2⟩ := lineJ (T := T) (n := n) (q := 6 + d) (p := p) (f := f) (pl := pl) (D := D) rfl
    refine ⟨g', ev, by rw [J1]; exact P, hB.o ?_ ?_ (fun s hs => ?_), fun y' hy z => ?_, F.o⟩
    · exact F.1 35 0 _ (by omega) (by omega)
    · exact F.1 35 0 _ (by omega) (by omega)
    · exact F.1 35 0 _ (by omega) (by omega)
    · rw [J1] at hy
      obtain ⟨_, t2, t3, _⟩ := J2 y' hy z
      rw [tmq, if_pos (ac t2).symm] at t3
      cases t3
  | succ b =>
    obtain ⟨m, hm, h3⟩ := hBm b (by omega)
    have mc : f = 0 → m = (D.1 (80+((D.1 6).val-1))).val := fun z => by
      have ab := ac z
      have h1 := ((hD z).1.2.2.1 b (by omega)).1.2.2.2
      have h2 := hV.b.2.2 b (by omega)
      rw [← ab, Nat.add_sub_cancel]
      exact (nn_eq (by omega) (by omega)).mp (h3.symm.trans h1)
    have st : mdS (b + 1) m f pl (tS T n p) (tE T n (tS T n p)) = .inr (tE T n (tS T n p), nt1 f pl (aTm (6 + d) D.1) (tS T n p)) := by
      unfold mdS
      rw [nt1_same (k' := aTm (6 + d) D.1) (fun z => by rw [tmq, if_neg (show ¬ b + 1 = 0 by omega), if_neg (show ¬ (D.1 6).val = 0 by have := ac z; omega), ← mc z])]
    have er := mnR_s (T := T) (n := n) (σ := mdS (b + 1) m f pl (tS T n p) (tE T n (tS T n p))) hd
    obtain ⟨g', ev, P, Z, o, l, K⟩ := coastM1_M hd (by omega) hm hn hT hP hw k1 hq h5 h3 er
    rw [st] at P K Z
    obtain ⟨J1, J2⟩ := lineJ (T := T) (n := n) (q := 6 + d) (p := p) (f := f) (pl := pl) (D := D) rfl
    generalize hL : aNs T n (6 + d) (nN (6 + d)) 0 (.inr (tE T n (tS T n p), nt1 f pl (aTm (6 + d) D.1) (tS T n p))) = LL at *
    obtain ⟨L, σ⟩ := LL
    dsimp only at *
    have F : fr35 g g' := ⟨fun t i x h1 h2 h3 => o t i x (fun z => h1 ⟨z.1, z.2.1, by omega, by omega⟩) h2 h3, l⟩
    refine ⟨g', ev, by rw [J1]; exact P, ?_, fun y' hy z => ?_, F⟩
    · by_cases q : m = 4
      · exact hB.o (by rw [K, if_pos q]) (by rw [K, if_pos q]) (fun s hs => by rw [K, if_pos q])
      · obtain ⟨b4, b1, b2⟩ := hB4
        refine ⟨⟨b4, b1, ?_⟩, ⟨b + 1, ha, ?_⟩, fun s hs => ?_⟩
        · rw [K, if_neg q, if_neg (by omega), if_neg (by omega), if_neg (by omega), if_neg (by omega)]; exact b2
        · rw [K, if_neg q, if_neg (by omega), if_neg (by omega), if_neg (by omega), if_neg (by omega)]; exact h5
        · by_cases sb : s = b
          · subst sb
            exact ⟨m + 1, by omega, by rw [K, if_neg q, if_pos rfl]⟩
          · obtain ⟨m', m1, m2⟩ := hBm s hs
            refine ⟨m', m1, ?_⟩
            rw [K, if_neg q, if_neg (by omega), if_neg (by omega), if_neg (by omega), if_neg (by omega)]; exact m2
    · rw [J1] at hy
      obtain ⟨t1, t2, t3, t4, t5⟩ := J2 y' hy z
      rw [t1, aTell_m (by omega)]
      obtain ⟨dR, d9, d10, d11⟩ := hD t2
      have ab := ac t2
      have mm := mc t2
      have a1 : (D.1 6).val - 1 = b := by omega
      rw [a1] at mm
      have m4 : m ≠ 4 := fun z => by
        rw [tmq, if_neg (by omega), a1, ← mm, if_pos z] at t3
        cases t3
      simp only [if_neg m4] at K
      have bnd : L.getD 0 0 ≤ 9 ∧ L.getD 1 0 ≤ 23 := by
        have dd : d = 0 ∨ d = 1 ∨ d = 2 ∨ d = 3 ∨ d = 4 ∨ d = 5 := by omega
        rcases dd with e | e | e | e | e | e <;> subst e
        · have x : 0 ≤ L.getD 0 0 ∧ L.getD 0 0 ≤ 9 := t4 0 (by decide)
          have y := t5 1 (by decide)
          omega
        · have x := t5 0 (by decide)
          have y := t5 1 (by decide)
          omega
        · have x : 0 ≤ L.getD 0 0 ∧ L.getD 0 0 ≤ 9 := t4 0 (by decide)
          have y : 0 ≤ L.getD 1 0 ∧ L.getD 1 0 ≤ 23 := t4 1 (by decide)
          omega
        · have x : 0 ≤ L.getD 0 0 ∧ L.getD 0 0 ≤ 9 := t4 0 (by decide)
          have y := t5 1 (by decide)
          omega
        · have x := t5 0 (by decide)
          have y := t5 1 (by decide)
          omega
        · have x : 0 ≤ L.getD 0 0 ∧ L.getD 0 0 ≤ 3 := t4 0 (by decide)
          have y := t5 1 (by decide)
          omega
      refine ⟨?_, d9.fr (o 8 0 9 (by omega) (by omega) (by omega)), d10.fr (o 8 0 10 (by omega) (by omega) (by omega)), ?_⟩
      · dsimp only
        rw [a1, ← mm, Nat.add_sub_cancel_left]
        exact RdC_m hV.b dR ab.symm mm.symm (by omega) hd bnd.1 bnd.2 K
      · have z1 := Z D.2.2.2 hV.1.2.2.2.2.2.2.2.2.2.1 hV.1.2.2.2.2.2.2.2.2.2.2 d11
        dsimp only
        rw [z1]
        congr 1
        by_cases d5 : d = 5
        · rw [if_pos d5, if_pos (by omega)]
        · rw [if_neg d5, if_neg (by omega)]
theorem coastLine_M {g : PH} {T : Nat → Nat} {n p f pl : Nat} {D : DD} (hn : n ≤ 600) (hT : TapM g n T) (hP : PSt g T n (.inr (p, f, pl))) (hB : BdC (g.1 35 0)) (hV : rVc D) (hD : f = 0 → CdM g D) : ∃ g', pm_ev (173, 0, [vr 8 0, none, none], [], g) = some (none, g') ∧ PSt g' T n (aLine T n 0 (p, f, pl) D).1 ∧ BdC (g'.1 35 0) ∧ (∀ y, (aLine T n 0 (p, f, pl) D).1 = .inr y → y.2.1 = 0 → CdM g' (aLine T n 0 (p, f, pl) D).2) ∧ fr35 g g' := by
  have wr : ¬ (tK T n (tS T n p) = 1 ∧ ∃ q, wdC T 0 (tS T n p) (tE T n (tS T n p)) = some q) → aLine T n 0 (p, f, pl) D = (.inl (tS T n p), D) → ∃ g', pm_ev (173, 0, [vr 8 0, none, none], [], g) = some (none, g') ∧ PSt g' T n (aLine T n 0 (p, f, pl) D).1 ∧ BdC (g'.1 35 0) ∧ (∀ y, (aLine T n 0 (p, f, pl) D).1 = .inr y → y.2.1 = 0 → CdM g' (aLine T n 0 (p, f, pl) D).2) ∧ fr35 g g' := fun nq e => by
    obtain ⟨g', ev, P, F⟩ := coastW_M hn hT hP nq
    rw [e]
    refine ⟨g', ev, P, hB.o ?_ ?_ (fun s hs => ?_), fun y h => (by cases h), F.o⟩
    · exact F.1 35 0 _ (by omega) (by omega)
    · exact F.1 35 0 _ (by omega) (by omega)
    · exact F.1 35 0 _ (by omega) (by omega)
  by_cases k1 : tK T n (tS T n p) = 1
  · cases hq : wdC T 0 (tS T n p) (tE T n (tS T n p)) with
    | none => exact wr (fun ⟨_, q, z⟩ => by rw [hq] at z; cases z) (by unfold aLine; dsimp only; rw [if_pos k1, hq])
    | some q =>
      have e : aLine T n 0 (p, f, pl) D = aLineW T n q (p, f, pl) D := by unfold aLine; dsimp only; rw [if_pos k1, hq]
      obtain ⟨wn, q1, q2⟩ := wd_rng (by decide) k1 hq
      have q2 : q < 12 := q2
      rw [e]
      have : q = 0 ∨ q = 1 ∨ q = 2 ∨ q = 3 ∨ q = 4 ∨ q = 5 ∨ ∃ d, d < 6 ∧ q = 6 + d := by
        by_cases z : 6 ≤ q
        · exact Or.inr (Or.inr (Or.inr (Or.inr (Or.inr (Or.inr ⟨q - 6, by omega, by omega⟩)))))
        · omega
      rcases this with z | z | z | z | z | z | ⟨d, hd, z⟩ <;> subst z
      · exact coLn_0 hn hT hP hB hV hD k1 hq
      · exact coLn_1 hn hT hP hB hV hD k1 hq
      · exact coLn_2 hn hT hP hB hV hD k1 hq
      · exact coLn_3 hn hT hP hB hV hD wn k1 hq
      · exact coLn_4 hn hT hP hB hV hD wn k1 hq
      · exact coLn_5 hn hT hP hB hV hD k1 hq
      · exact coLn_m hd hn hT hP hB hV hD wn k1 hq
  · exact wr (fun z => k1 z.1) (by unfold aLine; dsimp only; rw [if_neg k1])
