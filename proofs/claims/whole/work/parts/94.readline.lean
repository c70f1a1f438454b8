theorem tell_C {s q : Nat} {D : DD} {v : Nat → Nat} {h : PH} (hs : s < 3) (hq : loW s ≤ q ∧ q < hiW s) (hD : DCs s h D) (hV : rVs s D) (tm : aTm q D.1 = 0) (hv : ∀ k, k < nN q → lO q ≤ v k ∧ v k ≤ mO q k) (hz : ∀ k, nN q ≤ k → v k = 0) (hn : ∀ j, j < nN q → h.1 24 0 j = nI (v j)) (hm : ∀ j, nN q ≤ j → j < 4 → h.1 24 0 j = iI (-1)) : ∃ h', pm_ev (79, 0, [vr 4 0, vi (nI q)], [], h) = some (none, h') ∧ DCs s h' (aTell q v D) ∧ frT h h' := by
  have : s = 0 ∨ s = 1 ∨ s = 2 := by omega
  rcases this with e | e | e <;> subst e
  · have hq : q < 12 := hq.2
    have hD : DcC h D := hD
    have hV : rVc D := hV
    have DE := deed_C h (show q < 21 by omega)
    rw [decide_eq_false (show ¬ (12 ≤ q ∧ q < 16) by omega)] at DE
    have K := kind_C h (show q < 21 by omega)
    obtain ⟨⟨a0, a1, a2, a3, a4, a5, a6, a7, a8, a9, a10⟩, gu, sh, ro⟩ := hV
    have s80 : ∀ s, s < (D.1 6).val → (D.1 (80+s)).val ≤ 4 := fun s hs => (sh s hs).2.2.2.2.1
    have start : pm_ev (79, 0, [vr 4 0, vi (nI q)], [], h) = (if bI (decide (6 ≤ q ∧ q < 12)) = 0 then (pm_bV (pm_ev (81, 0, [vr 4 0, vi (nI q), none], [], h)) fun h5 => some (none, h5)) else (pm_bV (pm_ev (80, 0, [vr 4 0, vi (nI q - 6)], [], h)) fun h6 => some (none, h6))) := by
      rw [E_X4_tell, DE, cI_s, if_pos (by rfl), show (16 : Int32) = nI 16 from rfl, if_pos ((nn_lt (by omega) (by decide)).mpr (by omega)), K, cI_s]
    rw [start]
    by_cases qk : 6 ≤ q ∧ q < 12
    · rw [decide_eq_true qk, if_neg (show ¬ bI true = (0 : Int32) by decide), show (6 : Int32) = nI 6 from rfl, nn_sub qk.1]
      have tm' : (D.1 6).val ≠ 0 ∧ (D.1 (80+((D.1 6).val-1))).val ≠ 4 := by
        unfold aTm at tm
        rw [if_neg (show ¬ q = 3 by omega), if_neg (show ¬ q = 4 by omega), if_pos qk] at tm
        split at tm
        · cases tm
        · split at tm
          · cases tm
          · exact ⟨by assumption, by assumption⟩
      have k4 := s80 ((D.1 6).val-1) (by omega)
      have mx : ∀ j, j < 4 → v j < 100 → (if h.1 24 0 j < 0 then 0 else h.1 24 0 j) = nI (v j) := fun j hj hb => by
        by_cases w : j < nN q
        · rw [hn j w, if_neg (show ¬ nI (v j) < 0 by rw [show (0 : Int32) = nI 0 from rfl, nn_lt (by omega) (by decide)]; omega)]
        · rw [hm j (by omega) hj, hz j (by omega), if_pos (by decide)]; rfl
      have bnd : v 0 ≤ 9 ∧ v 1 ≤ 23 ∧ (q = 11 → 0 < nN q) := by
        have qs : q = 6 ∨ q = 7 ∨ q = 8 ∨ q = 9 ∨ q = 10 ∨ q = 11 := by omega
        rcases qs with z | z | z | z | z | z <;> subst z
        · have x : 0 ≤ v 0 ∧ v 0 ≤ 9 := hv 0 (by decide)
          have y := hz 1 (by decide)
          omega
        · have x := hz 0 (by decide)
          have y := hz 1 (by decide)
          omega
        · have x : 0 ≤ v 0 ∧ v 0 ≤ 9 := hv 0 (by decide)
          have y : 0 ≤ v 1 ∧ v 1 ≤ 23 := hv 1 (by decide)
          omega
        · have x : 0 ≤ v 0 ∧ v 0 ≤ 9 := hv 0 (by decide)
          have y := hz 1 (by decide)
          omega
        · have x := hz 0 (by decide)
          have y := hz 1 (by decide)
          omega
        · have x : 0 ≤ v 0 ∧ v 0 ≤ 3 := hv 0 (by decide)
          have y := hz 1 (by decide)
          exact ⟨by omega, by omega, fun _ => by decide⟩
      obtain ⟨h', e, d, f⟩ := tellsC_man qk hD (mx 0 (by decide) (by omega)) (mx 1 (by decide) (by omega)) (fun z => hn 0 (bnd.2.2 z)) bnd.1 bnd.2.1 a5 ⟨by omega, a6⟩ s80 (by omega) ⟨a9, a10⟩
      exact ⟨h', by rw [e, cV_s], d, f⟩
    · rw [decide_eq_false qk, if_pos (show bI false = (0 : Int32) from rfl)]
      have fin : ∀ {P : PH → Prop}, (∃ h', pm_ev (81, 0, [vr 4 0, vi (nI q), none], [], h) = some (none, h') ∧ P h') → ∃ h', (pm_bV (pm_ev (81, 0, [vr 4 0, vi (nI q), none], [], h)) fun h5 => some (none, h5)) = some (none, h') ∧ P h' := fun ⟨h', e, p⟩ => ⟨h', by rw [e, cV_s], p⟩
      apply fin
      have qs : q = 0 ∨ q = 1 ∨ q = 2 ∨ q = 3 ∨ q = 4 ∨ q = 5 := by omega
      rcases qs with z | z | z | z | z | z <;> subst z
      · have b0 : 2 ≤ v 0 ∧ v 0 ≤ 8 := hv 0 (by decide)
        have b1 : 2 ≤ v 1 ∧ v 1 ≤ 8 := hv 1 (by decide)
        exact tellsC_0 hD (hn 0 (by decide)) (hn 1 (by decide)) b0.2 b1.2
      · have b0 : 0 ≤ v 0 ∧ v 0 ≤ 7 := hv 0 (by decide)
        have b1 : 0 ≤ v 1 ∧ v 1 ≤ 7 := hv 1 (by decide)
        exact tellsC_1 hD a7 a8 (hn 0 (by decide)) (hn 1 (by decide)) b0.2 b1.2
      · have b0 : 0 ≤ v 0 ∧ v 0 ≤ 7 := hv 0 (by decide)
        have b1 : 0 ≤ v 1 ∧ v 1 ≤ 7 := hv 1 (by decide)
        exact tellsC_2 hD a7 a8 (hn 0 (by decide)) (hn 1 (by decide)) b0.2 b1.2 ⟨a5, a6, s80⟩
      · have b0 : 0 ≤ v 0 ∧ v 0 ≤ 7 := hv 0 (by decide)
        have b1 : 0 ≤ v 1 ∧ v 1 ≤ 7 := hv 1 (by decide)
        have b2 : 0 ≤ v 2 ∧ v 2 ≤ 7 := hv 2 (by decide)
        have h5 : (D.1 5).val < 4 := by
          have tm : (if (D.1 5).val = 4 then 3 else 0) = 0 := tm
          split at tm
          · cases tm
          · omega
        exact tellsC_3 hD a7 a8 (hn 0 (by decide)) (hn 1 (by decide)) (hn 2 (by decide)) b0.2 b1.2 b2.2 h5 ⟨a6, s80⟩
      · have b0 : 0 ≤ v 0 ∧ v 0 ≤ 7 := hv 0 (by decide)
        have b1 : 0 ≤ v 1 ∧ v 1 ≤ 7 := hv 1 (by decide)
        have b2 : 0 ≤ v 2 ∧ v 2 ≤ 9 := hv 2 (by decide)
        have b3 : 0 ≤ v 3 ∧ v 3 ≤ 9 := hv 3 (by decide)
        have h6 : (D.1 6).val < 4 := by
          have tm : (if (D.1 6).val = 4 then 3 else 0) = 0 := tm
          split at tm
          · cases tm
          · omega
        exact tellsC_4 hD a7 a8 (hn 0 (by decide)) (hn 1 (by decide)) (hn 2 (by decide)) (hn 3 (by decide)) b0.2 b1.2 b2.2 b3.2 a5 h6 s80
      · have b0 : 1 ≤ v 0 ∧ v 0 ≤ 20 := hv 0 (by decide)
        exact tellsC_5 hD (hn 0 (by decide)) b0.2
  · have hq : 12 ≤ q ∧ q < 16 := hq
    have hD : NightC h 8 D.1 := hD
    have hV : nV D.1 := hV
    have DE := deed_C h (show q < 21 by omega)
    rw [decide_eq_true hq] at DE
    have h40 : (D.1 0).val < 40 := by
      unfold aTm at tm
      rw [if_neg (show ¬ q = 3 by omega), if_neg (show ¬ q = 4 by omega), if_neg (show ¬ (6 ≤ q ∧ q < 12) by omega), if_pos hq] at tm
      have := hV.1
      split at tm
      · cases tm
      · omega
    have vb : ∀ j, j < 3 → v j ≤ 23 := fun j hj => by
      by_cases w : j < nN q
      · have := hv j w
        have := (t64_v q (by omega) j (by omega)).2
        omega
      · have := hz j (by omega)
        omega
    have xx : ∀ j, j < 3 → h.1 24 0 j = iI (((if j + 1 ≤ nN q then v j + 1 else 0 : Nat) : Int) - 1) := fun j hj => by
      by_cases w : j < nN q
      · rw [hn j w, if_pos (by omega), show (((v j + 1 : Nat) : Int) - 1) = (v j : Int) by omega, iI_nat]
      · rw [hm j (by omega) (by omega), if_neg (by omega)]; rfl
    obtain ⟨h', e, d, f⟩ := tellsN hq hD h40 (xx 0 (by decide)) (xx 1 (by decide)) (xx 2 (by decide)) (vb 0 (by decide)) (vb 1 (by decide)) (vb 2 (by decide))
    refine ⟨h', ?_, d, f⟩
    rw [E_X4_tell, DE, cI_s, if_neg (by decide), show (12 : Int32) = nI 12 from rfl, nn_sub hq.1]
    rw [show (0 : Int32).toNatClampNeg = 0 from rfl, show (1 : Int32).toNatClampNeg = 1 from rfl, show (2 : Int32).toNatClampNeg = 2 from rfl, e, cV_s]
  · have hq : 16 ≤ q ∧ q < 21 := hq
    have hD : LogC h 8 D.1 := hD
    have hV : lV D.1 := hV
    have DE := deed_C h hq.2
    rw [decide_eq_false (show ¬ (12 ≤ q ∧ q < 16) by omega)] at DE
    obtain ⟨⟨l0, _, _, _, l3⟩, _⟩ := hV
    have n1 : 0 < nN q := by
      have qs : q = 16 ∨ q = 17 ∨ q = 18 ∨ q = 19 ∨ q = 20 := by omega
      rcases qs with z | z | z | z | z <;> subst z <;> decide
    have b0 : v 0 ≤ 23 := by
      have := hv 0 n1
      have := (t64_v q hq.2 0 (by decide)).2
      omega
    obtain ⟨h', e, d, f⟩ := tellsL hq hD (fun z => by
      subst z
      have tm : (if (D.1 0).val = 6 then 3 else 0) = 0 := tm
      split at tm
      · cases tm
      · omega) (fun z => by
      unfold aTm at tm
      rw [if_neg (show ¬ q = 3 by omega), if_neg (show ¬ q = 4 by omega), if_neg (show ¬ (6 ≤ q ∧ q < 12) by omega), if_neg (show ¬ (12 ≤ q ∧ q < 16) by omega), if_neg (show ¬ q = 16 by omega), if_pos z] at tm
      split at tm
      · cases tm
      · omega) l0 l3 (hn 0 n1) b0
    refine ⟨h', ?_, d, f⟩
    rw [E_X4_tell, DE, cI_s, if_pos (by rfl), show (16 : Int32) = nI 16 from rfl, if_neg (fun z => by have := (nn_lt (by omega) (by decide)).mp z; omega), e, cV_s]
