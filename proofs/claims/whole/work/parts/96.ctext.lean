def aText (T : Nat → Nat) (n s : Nat) : Nat → (Nat × Nat × Nat) → DD → LnS × DD
  | 0, x, D => (.inr x, D)
  | r + 1, x, D => if tK T n (tS T n x.1) = 0 then (.inr x, D) else
      match aLine T n s x D with
      | (.inl w, D') => (.inl w, D')
      | (.inr y, D') => aText T n s r y D'
theorem aNum_p {T : Nat → Nat} {n lo hi : Nat} {x y : Nat × Nat × Nat} (hx : x.1 ≤ n) (h : (aNum T n lo hi (.inr x)).2 = .inr y) : x.1 ≤ y.1 ∧ y.1 ≤ n := by
  obtain ⟨p, f, pl⟩ := x
  have hw := tS_le (T := T) hx
  have he := tE_le (T := T) hw.2
  dsimp only at hw he
  have e : aNum T n lo hi (.inr (p, f, pl)) = if tK T n (tS T n p) = 2 then
      (if lo ≤ nuF T (tS T n p) (tE T n (tS T n p) - tS T n p) ∧ nuF T (tS T n p) (tE T n (tS T n p) - tS T n p) ≤ hi then (nuF T (tS T n p) (tE T n (tS T n p) - tS T n p), .inr (tE T n (tS T n p), f, pl)) else (lo, .inr (tE T n (tS T n p), (nt1 f pl 2 (tS T n p)).1, (nt1 f pl 2 (tS T n p)).2)))
      else (lo, .inl (tS T n p)) := rfl
  rw [e] at h
  split at h
  · split at h
    · injection h with h
      subst h
      dsimp only
      omega
    · injection h with h
      subst h
      dsimp only
      omega
  · cases h
theorem aNs_p {T : Nat → Nat} {n q : Nat} : ∀ r k x y, x.1 ≤ n → (aNs T n q r k (.inr x)).2 = .inr y → x.1 ≤ y.1 ∧ y.1 ≤ n
  | 0, k, x, y, hx, h => by
    have h : (Sum.inr x : LnS) = .inr y := h
    injection h with h
    subst h
    exact ⟨Nat.le_refl _, hx⟩
  | r + 1, k, x, y, hx, h => by
    have h : (aNs T n q r (k + 1) (aNum T n (lO q) (mO q k) (.inr x)).2).2 = .inr y := h
    cases q2 : (aNum T n (lO q) (mO q k) (.inr x)).2 with
    | inl w => rw [q2, aNs_inl] at h; cases h
    | inr x2 =>
      rw [q2] at h
      have a := aNum_p hx q2
      have b := aNs_p r (k + 1) x2 y a.2 h
      omega
theorem aLine_p {T : Nat → Nat} {n s : Nat} {x y : Nat × Nat × Nat} {D D' : DD} (hx : x.1 ≤ n) (h : aLine T n s x D = (.inr y, D')) : x.1 < y.1 ∧ y.1 ≤ n := by
  have hw := tS_le (T := T) hx
  have he := tE_le (T := T) hw.2
  unfold aLine at h
  split at h
  · rename_i k1
    have wn : tS T n x.1 < n := by
      unfold tK at k1
      split at k1
      · assumption
      · omega
    have wg := tE_gt (T := T) wn
    split at h
    · cases h
    · rename_i q hq
      unfold aLineW at h
      split at h
      · cases h
      · rename_i y' hy
        injection h with h1 h2
        injection h1 with h1
        subst h1
        cases hz : (aNs T n q (nN q) 0 (.inr (tE T n (tS T n x.1), (nt1 x.2.1 x.2.2 (aTm q D.1) (tS T n x.1)).1, (nt1 x.2.1 x.2.2 (aTm q D.1) (tS T n x.1)).2))).2 with
        | inl w => rw [hz] at hy; cases hy
        | inr z =>
          rw [hz] at hy
          have a := aNs_p _ _ _ _ he.2 hz
          dsimp only at a
          obtain ⟨p', f', pl'⟩ := z
          have hy : (if tK T n (tS T n p') = 3 then .inr (tE T n (tS T n p'), f', pl') else .inl (tS T n p') : LnS) = .inr y' := hy
          have hw' := tS_le (T := T) (show p' ≤ n from a.2)
          have he' := tE_le (T := T) hw'.2
          split at hy
          · injection hy with hy
            subst hy
            dsimp only at a ⊢
            omega
          · cases hy
  · cases h
theorem read_7 {T : Nat → Nat} {n s : Nat} (hn : n ≤ 600) (hs : s < 3) : ∀ r x D h k, n - x.1 < r → k ≤ x.1 → StC h → TapC h n T → PCt h n x → DCs s h D → rVs s D →
    (∀ y D', aText T n s r x D = (.inr y, D') → ∃ h', pm_ev (64, 7, [vr 4 0, vr 26 0, vi (nI n), vi (nI s), vi (nI k)], [], h) = (if s = 0 then (pm_bV (pm_ev (83, 0, [vr 4 0, vi (nI n)], [], h')) fun h2 => some (none, h2)) else some (none, h')) ∧ h'.1 4 0 3 = nI y.2.1 ∧ h'.1 4 0 4 = plI y.2.1 y.2.2 ∧ y.2.1 ≤ 6 ∧ (y.2.1 ≠ 0 → y.2.2 < n) ∧ DCs s h' D' ∧ rVs s D' ∧ Fr rdT h h') ∧
    (∀ w D', aText T n s r x D = (.inl w, D') → ∃ h', pm_ev (64, 7, [vr 4 0, vr 26 0, vi (nI n), vi (nI s), vi (nI k)], [], h) = some (none, h') ∧ h'.1 4 0 3 = nI 1 ∧ h'.1 4 0 4 = nI w ∧ Fr rdT h h') := by
  intro r
  induction r with
  | zero => intro x D h k hr; omega
  | succ r ih =>
    intro x D h k hr hk hS hT hP hD hV
    obtain ⟨p, f, pl⟩ := x
    obtain ⟨h8, h3, h4, hp, hf, hpl⟩ := hP
    dsimp only at h8 h3 h4 hp hf hpl hr hk
    have hw := tS_le (T := T) hp
    have he := tE_le (T := T) hw.2
    have AD := advance_C hT hn hp h8
    have k4 : tK T n (tS T n p) ≤ 4 := by
      unfold tK
      repeat' split
      all_goals omega
    have f1 := frR.ad h (tK T n (tS T n p)) (tS T n p) (tE T n (tS T n p))
    have v6 : ∀ H k w e, (adC H k w e).1 4 0 6 = nI k := fun H k w e => sI_same _ _ _ _ _
    have v8 : ∀ H k w e, (adC H k w e).1 4 0 8 = nI e := fun H k w e => by unfold adC; rw [sI_pl _ _ _ _ _ (by decide), sI_same]
    have v7 : ∀ H k w e, (adC H k w e).1 4 0 7 = nI w := fun H k w e => by unfold adC; rw [sI_pl _ _ _ _ _ (by decide), sI_pl _ _ _ _ _ (by decide), sI_same]
    have v34 : ∀ H k w e x, x = 3 ∨ x = 4 → (adC H k w e).1 4 0 x = H.1 4 0 x := fun H k w e x hx => by
      unfold adC
      rw [sI_pl _ _ _ _ _ (by omega), sI_pl _ _ _ _ _ (by omega), sI_pl _ _ _ _ _ (by omega)]
    have a6 := v6 h (tK T n (tS T n p)) (tS T n p) (tE T n (tS T n p))
    have a7 := v7 h (tK T n (tS T n p)) (tS T n p) (tE T n (tS T n p))
    have a8 := v8 h (tK T n (tS T n p)) (tS T n p) (tE T n (tS T n p))
    have a3 := (v34 h (tK T n (tS T n p)) (tS T n p) (tE T n (tS T n p)) 3 (by omega)).trans h3
    have a4 := (v34 h (tK T n (tS T n p)) (tS T n p) (tE T n (tS T n p)) 4 (by omega)).trans h4
    generalize adC h (tK T n (tS T n p)) (tS T n p) (tE T n (tS T n p)) = h1 at *
    have zs : (nI s = 0) = (s = 0) := propext ⟨fun z => (nn_eq (by omega) (by decide)).mp (z.trans (show (0 : Int32) = nI 0 from rfl)), fun z => by rw [z]; rfl⟩
    have st : pm_ev (64, 7, [vr 4 0, vr 26 0, vi (nI n), vi (nI s), vi (nI k)], [], h) = (if h1.1 4 0 6 = 0 then (if nI s = 0 then (pm_bV (pm_ev (83, 0, [vr 4 0, vi (nI n)], [], h1)) fun h4 => some (none, h4)) else some (none, h1)) else (pm_bI (pm_ev (70, 0, [vr 4 0, vr 26 0, vi (nI n), vi (nI s), none, none], [], h1)) fun r6 h5 => (if r6 = 0 then some (none, (pm_sI (pm_sI h5 4 0 3 1) 4 0 4 (h5.1 4 0 7))) else pm_ev (64, 7, [vr 4 0, vr 26 0, vi (nI n), vi (nI s), vi (nI k + 1)], [], h5)))) := by
      rw [E_X4_read_7, show (600 : Int32) = nI 600 from rfl, if_neg (fun z => by have := (nn_lt (by decide) (by omega)).mp z; omega), AD, cV_s]
    have ea : aText T n s (r + 1) (p, f, pl) D = if tK T n (tS T n p) = 0 then (.inr (p, f, pl), D) else
      match aLine T n s (p, f, pl) D with
      | (.inl w, D') => (.inl w, D')
      | (.inr y, D') => aText T n s r y D' := rfl
    rw [ea]
    by_cases k0 : tK T n (tS T n p) = 0
    · rw [if_pos k0]
      refine ⟨fun y D' e => ?_, fun w D' e => (by cases e)⟩
      injection e with e1 e2
      injection e1 with e1
      subst e1
      subst e2
      refine ⟨h1, ?_, a3, a4, hf, fun z => by have := hpl z; dsimp only; omega, hD.frR f1, hV, f1.D⟩
      rw [st, a6, k0, if_pos (by rfl)]
      by_cases s0 : s = 0
      · rw [if_pos s0, if_pos (zs.mpr s0)]
      · rw [if_neg s0, if_neg (fun z => s0 (zs.mp z))]
    · rw [if_neg k0]
      obtain ⟨A, B⟩ := readLine_C (pl := pl) hn hs (hS.frR f1) (hT.frR f1) hp hf hpl a6 a7 a8 a3 a4 (hD.frR f1) hV
      rw [if_neg (show ¬ h1.1 4 0 6 = 0 by rw [a6]; exact fun z => k0 ((nn_eq (by omega) (by decide)).mp (z.trans (show (0 : Int32) = nI 0 from rfl))))] at st
      cases hL : aLine T n s (p, f, pl) D with
      | mk σ D1 =>
        cases σ with
        | inl w =>
          refine ⟨fun y D' e => (by cases e), fun w' D' e => ?_⟩
          injection e with e1 e2
          injection e1 with e1
          subst e1
          obtain ⟨h2, g2, x7, f2⟩ := B w D1 hL
          refine ⟨pm_sI (pm_sI h2 4 0 3 (nI 1)) 4 0 4 (nI w), ?_, ?_, sI_same _ _ _ _ _, (f1.D.tr f2).tr ((Fr.sI _ _ _ rfl).tr (Fr.sI _ _ _ rfl))⟩
          · rw [st, g2, cI_s, if_pos (by rfl), x7]; rfl
          · rw [sI_pl _ _ _ _ _ (by decide), sI_same]
        | inr y =>
          obtain ⟨h2, g2, P2, D2, V2, f2⟩ := A y D1 hL
          have ap := aLine_p (show (p, f, pl).1 ≤ n from hp) hL
          dsimp only at ap
          have S2 : StC h2 := ⟨fun i x => ((f1.D.tr f2) 61 i (by unfold rdT; simp [show Nat.ble 61 23 = false from rfl]) x).1.trans (hS.1 i x), fun x => ((f1.D.tr f2) 62 0 rfl x).1.trans (hS.2.1 x), fun x => ((f1.D.tr f2) 63 0 rfl x).1.trans (hS.2.2.1 x), fun x => ((f1.D.tr f2) 64 0 rfl x).1.trans (hS.2.2.2 x)⟩
          have T2 : TapC h2 n T := fun x hx => ⟨(hT x hx).1, ((f1.D.tr f2) 26 0 rfl x).1.trans (hT x hx).2⟩
          obtain ⟨A2, B2⟩ := ih y D1 h2 (k + 1) (by omega) (by omega) S2 T2 P2 D2 V2
          have st2 : pm_ev (64, 7, [vr 4 0, vr 26 0, vi (nI n), vi (nI s), vi (nI k)], [], h) = pm_ev (64, 7, [vr 4 0, vr 26 0, vi (nI n), vi (nI s), vi (nI (k + 1))], [], h2) := by
            rw [st, g2, cI_s, if_neg (by decide), show (1 : Int32) = nI 1 from rfl, nI_add]
          rw [st2]
          refine ⟨fun y' D' e => ?_, fun w D' e => ?_⟩
          · obtain ⟨h', g3, z1, z2, z3, z4, z5, z6, f3⟩ := A2 y' D' e
            exact ⟨h', g3, z1, z2, z3, z4, z5, z6, (f1.D.tr f2).tr f3⟩
          · obtain ⟨h', g3, z1, z2, f3⟩ := B2 w D' e
            exact ⟨h', g3, z1, z2, (f1.D.tr f2).tr f3⟩
