/-- the numbers of a line -/
def aNs (T : Nat → Nat) (n q : Nat) : Nat → Nat → LnS → List Nat × LnS
  | 0, _, σ => ([], σ)
  | r + 1, k, σ => ((aNum T n (lO q) (mO q k) σ).1 :: (aNs T n q r (k + 1) (aNum T n (lO q) (mO q k) σ).2).1, (aNs T n q r (k + 1) (aNum T n (lO q) (mO q k) σ).2).2)
theorem aNum_f {T : Nat → Nat} {n lo hi : Nat} {x y : Nat × Nat × Nat} (h : (aNum T n lo hi (.inr x)).2 = .inr y) : y.2.1 = 0 → x.2.1 = 0 := by
  obtain ⟨p, f, pl⟩ := x
  intro z
  have e : aNum T n lo hi (.inr (p, f, pl)) = if tK T n (tS T n p) = 2 then
      (if lo ≤ nuF T (tS T n p) (tE T n (tS T n p) - tS T n p) ∧ nuF T (tS T n p) (tE T n (tS T n p) - tS T n p) ≤ hi then (nuF T (tS T n p) (tE T n (tS T n p) - tS T n p), .inr (tE T n (tS T n p), f, pl)) else (lo, .inr (tE T n (tS T n p), (nt1 f pl 2 (tS T n p)).1, (nt1 f pl 2 (tS T n p)).2)))
      else (lo, .inl (tS T n p)) := rfl
  rw [e] at h
  split at h
  · split at h
    · injection h with h
      rw [← h] at z
      exact z
    · injection h with h
      rw [← h] at z
      dsimp only at z ⊢
      unfold nt1 at z
      split at z
      · cases z
      · exact z
  · cases h
theorem aNs_inl (T : Nat → Nat) (n q w : Nat) : ∀ r k, (aNs T n q r k (.inl w)).2 = .inl w
  | 0, _ => rfl
  | r + 1, k => aNs_inl T n q w r (k + 1)
theorem aNs_f {T : Nat → Nat} {n q : Nat} : ∀ r k x y, (aNs T n q r k (.inr x)).2 = .inr y → y.2.1 = 0 → x.2.1 = 0
  | 0, k, x, y, h, z => by
    have h : (Sum.inr x : LnS) = .inr y := h
    injection h with h
    rw [h]; exact z
  | r + 1, k, x, y, h, z => by
    have h : (aNs T n q r (k + 1) (aNum T n (lO q) (mO q k) (.inr x)).2).2 = .inr y := h
    cases q2 : (aNum T n (lO q) (mO q k) (.inr x)).2 with
    | inl w => rw [q2, aNs_inl] at h; cases h
    | inr x2 =>
      rw [q2] at h
      exact aNum_f q2 (aNs_f r (k + 1) x2 y h z)
theorem nums_37 {T : Nat → Nat} {n q : Nat} (hn : n ≤ 600) (hq : q < 21) : ∀ r k x h, k + r = nN q → StC h → TapC h n T → PCt h n x →
    (∀ y, (aNs T n q r k (.inr x)).2 = .inr y → ∃ h', pm_ev (70, 37, [vr 4 0, vr 26 0, vi (nI n), none, vi (nI q), vi (nI k)], [], h) = pm_ev (70, 37, [vr 4 0, vr 26 0, vi (nI n), none, vi (nI q), vi (nI (nN q))], [], h') ∧ PCt h' n y ∧ frR h h' ∧ (∀ j, j < k → h'.1 24 0 j = h.1 24 0 j) ∧ (y.2.1 = 0 → ∀ j, j < r → h'.1 24 0 (k + j) = nI ((aNs T n q r k (.inr x)).1.getD j 0))) ∧
    (∀ w, (aNs T n q r k (.inr x)).2 = .inl w → ∃ h', pm_ev (70, 37, [vr 4 0, vr 26 0, vi (nI n), none, vi (nI q), vi (nI k)], [], h) = some (some (vi (nI 0)), h') ∧ h'.1 4 0 7 = nI w ∧ frR h h') := by
  intro r
  induction r with
  | zero =>
    intro k x h hk hS hT hP
    have hk : k = nN q := by omega
    subst hk
    refine ⟨fun y hy => ?_, fun w hw => ?_⟩
    · have hy : (Sum.inr x : LnS) = .inr y := hy
      injection hy with hy
      subst hy
      exact ⟨h, rfl, hP, frR.rf h, fun _ _ => rfl, fun _ j hj => by omega⟩
    · have hw : (Sum.inr x : LnS) = .inl w := hw
      cases hw
  | succ r ih =>
    intro k x h hk hS hT hP
    obtain ⟨A, B⟩ := num_37 (k := k) hS hT hn hq (by omega) hP
    have es : ∀ σ, aNs T n q (r + 1) k σ = ((aNum T n (lO q) (mO q k) σ).1 :: (aNs T n q r (k + 1) (aNum T n (lO q) (mO q k) σ).2).1, (aNs T n q r (k + 1) (aNum T n (lO q) (mO q k) σ).2).2) := fun _ => rfl
    rw [es]
    by_cases k2 : tK T n (tS T n x.1) = 2
    · obtain ⟨h1, y1, e1, g1, P1, f1, o1, v1⟩ := A k2
      have e2 : (aNum T n (lO q) (mO q k) (.inr x)).2 = .inr y1 := by rw [e1]
      rw [e2]
      obtain ⟨C, D⟩ := ih (k + 1) y1 h1 (by omega) (hS.frR f1) (hT.frR f1) P1
      refine ⟨fun y hy => ?_, fun w hw => ?_⟩
      · obtain ⟨h', g2, P2, f2, o2, v2⟩ := C y hy
        refine ⟨h', g1.trans g2, P2, f1.tr f2, fun j hj => (o2 j (by omega)).trans (o1 j (by omega)), fun z j hj => ?_⟩
        cases j with
        | zero =>
          rw [Nat.add_zero, o2 k (by omega), v1 (aNs_f _ _ _ _ hy z)]
          rfl
        | succ j =>
          have := v2 z j (by omega)
          rw [show k + (j + 1) = k + 1 + j by omega, this]
          rfl
      · obtain ⟨h', g2, x7, f2⟩ := D w hw
        exact ⟨h', g1.trans g2, x7, f1.tr f2⟩
    · obtain ⟨h1, e1, g1, x7, f1⟩ := B k2
      rw [e1]
      refine ⟨fun y hy => ?_, fun w hw => ?_⟩
      · rw [aNs_inl] at hy; cases hy
      · rw [aNs_inl] at hw
        injection hw with hw
        subst hw
        exact ⟨h1, g1, x7, f1⟩
/-- the places behind the numbers -/
theorem fill_37 {n q : Nat} (hq : q < 21) {x : Nat × Nat × Nat} : ∀ r k h, k + r = 4 → nN q ≤ k → StC h → PCt h n x → ∃ h', pm_ev (70, 37, [vr 4 0, vr 26 0, vi (nI n), none, vi (nI q), vi (nI k)], [], h) = pm_ev (70, 37, [vr 4 0, vr 26 0, vi (nI n), none, vi (nI q), vi (nI 4)], [], h') ∧ PCt h' n x ∧ frR h h' ∧ (∀ j, j < k → h'.1 24 0 j = h.1 24 0 j) ∧ (∀ j, k ≤ j → j < 4 → h'.1 24 0 j = iI (-1)) := by
  intro r
  induction r with
  | zero =>
    intro k h hk _ _ hP
    have hk : k = 4 := by omega
    subst hk
    exact ⟨h, rfl, hP, frR.rf h, fun _ _ => rfl, fun j _ _ => by omega⟩
  | succ r ih =>
    intro k h hk hk2 hS hP
    obtain ⟨c1, c2⟩ := t63_v q hq
    have hk4 : k < 4 := by omega
    have f1 : frR h (pm_sI h 24 0 k (iI (-1))) := frR.s24 _ _ _
    obtain ⟨h8, h3, h4, hp, hf, h7⟩ := hP
    obtain ⟨h', e, P', f2, o2, v2⟩ := ih (k + 1) (pm_sI h 24 0 k (iI (-1))) (by omega) (by omega) (hS.frR f1) ⟨(sI_tag _ _ _ _ _ _ (by decide)).trans h8, (sI_tag _ _ _ _ _ _ (by decide)).trans h3, (sI_tag _ _ _ _ _ _ (by decide)).trans h4, hp, hf, h7⟩
    refine ⟨h', ?_, P', f1.tr f2, fun j hj => ?_, fun j h1 h2 => ?_⟩
    · rw [← e, E_X4_readLine_37, show (4 : Int32) = nI 4 from rfl, if_pos ((nn_lt (by omega) (by decide)).mpr hk4), if_pos (inb_n hk4 (by omega)), nn_clamp (by omega), E_X4_readLine_55, if_pos (inb_n hq (by omega)), nn_clamp (by omega), sI_tag _ _ _ _ _ _ (by decide), (hS.2.2.1 q).trans c1, E_X4_readLine_63, if_neg (fun z => by have := (nn_lt (by omega) (by omega)).mp z; omega), show (1 : Int32) = nI 1 from rfl, nI_add, negn1]
    · rw [o2 j (by omega), sI_pl _ _ _ _ _ (by omega)]
    · by_cases z : j = k
      · subst z; rw [o2 j (by omega), sI_same]
      · exact v2 j (by omega) h2
/-- a line behind its word: the class -/
theorem line_37 {T : Nat → Nat} {n q : Nat} (hn : n ≤ 600) (hq : q < 21) {x : Nat × Nat × Nat} {h : PH} (hS : StC h) (hT : TapC h n T) (hP : PCt h n x) :
    (∀ y, aEnd T n (aNs T n q (nN q) 0 (.inr x)).2 = .inr y → ∃ h', pm_ev (70, 37, [vr 4 0, vr 26 0, vi (nI n), none, vi (nI q), vi (nI 0)], [], h) = (if y.2.1 = 0 then (pm_bV (pm_ev (79, 0, [vr 4 0, vi (nI q)], [], h')) fun h5 => some (some (vi (nI 1)), h5)) else some (some (vi (nI 1)), h')) ∧ PCt h' n y ∧ frR h h' ∧ (y.2.1 = 0 → (∀ j, j < nN q → h'.1 24 0 j = nI ((aNs T n q (nN q) 0 (.inr x)).1.getD j 0)) ∧ ∀ j, nN q ≤ j → j < 4 → h'.1 24 0 j = iI (-1))) ∧
    (∀ w, aEnd T n (aNs T n q (nN q) 0 (.inr x)).2 = .inl w → ∃ h', pm_ev (70, 37, [vr 4 0, vr 26 0, vi (nI n), none, vi (nI q), vi (nI 0)], [], h) = some (some (vi (nI 0)), h') ∧ h'.1 4 0 7 = nI w ∧ frR h h') := by
  obtain ⟨c1, c2⟩ := t63_v q hq
  obtain ⟨A, B⟩ := nums_37 (T := T) hn hq (nN q) 0 x h (Nat.zero_add _) hS hT hP
  cases hσ : (aNs T n q (nN q) 0 (.inr x)).2 with
  | inl w =>
    refine ⟨fun y hy => (by cases hy), fun w' hw' => ?_⟩
    have hw' : (Sum.inl w : LnS) = .inl w' := hw'
    injection hw' with hw'
    subst hw'
    exact B w hσ
  | inr z =>
    obtain ⟨h1, e1, P1, f1, _, v1⟩ := A z hσ
    obtain ⟨h2, e2, P2, f2, o2, v2⟩ := fill_37 (n := n) hq (4 - nN q) (nN q) h1 (by omega) (Nat.le_refl _) (hS.frR f1) P1
    obtain ⟨p, f, pl⟩ := z
    obtain ⟨h8, h3, h4, hp, hf, h7⟩ := P2
    dsimp only at h8 h3 h4 hp hf h7
    have hw := tS_le (T := T) hp
    have he := tE_le (T := T) hw.2
    have f12 := f1.tr f2
    have AD := advance_C (hT.frR f12) hn hp h8
    have f3 := frR.ad h2 (tK T n (tS T n p)) (tS T n p) (tE T n (tS T n p))
    have v6 : ∀ H k w e, (adC H k w e).1 4 0 6 = nI k := fun H k w e => sI_same _ _ _ _ _
    have v8 : ∀ H k w e, (adC H k w e).1 4 0 8 = nI e := fun H k w e => by unfold adC; rw [sI_pl _ _ _ _ _ (by decide), sI_same]
    have v7 : ∀ H k w e, (adC H k w e).1 4 0 7 = nI w := fun H k w e => by unfold adC; rw [sI_pl _ _ _ _ _ (by decide), sI_pl _ _ _ _ _ (by decide), sI_same]
    have vo : ∀ H k w e t x, (t ≠ 4 ∨ x = 3 ∨ x = 4) → (adC H k w e).1 t 0 x = H.1 t 0 x := fun H k w e t x hx => by
      unfold adC
      rcases hx with z | z
      · rw [sI_tag _ _ _ _ _ _ z, sI_tag _ _ _ _ _ _ z, sI_tag _ _ _ _ _ _ z]
      · by_cases t4 : t = 4
        · subst t4
          rw [sI_pl _ _ _ _ _ (by omega), sI_pl _ _ _ _ _ (by omega), sI_pl _ _ _ _ _ (by omega)]
        · rw [sI_tag _ _ _ _ _ _ t4, sI_tag _ _ _ _ _ _ t4, sI_tag _ _ _ _ _ _ t4]
    have k4 : tK T n (tS T n p) ≤ 4 := by
      unfold tK
      repeat' split
      all_goals omega
    have st : pm_ev (70, 37, [vr 4 0, vr 26 0, vi (nI n), none, vi (nI q), vi (nI 0)], [], h) = (if (adC h2 (tK T n (tS T n p)) (tS T n p) (tE T n (tS T n p))).1 4 0 6 = 3 then (if (adC h2 (tK T n (tS T n p)) (tS T n p) (tE T n (tS T n p))).1 4 0 3 = 0 then (pm_bV (pm_ev (79, 0, [vr 4 0, vi (nI q)], [], adC h2 (tK T n (tS T n p)) (tS T n p) (tE T n (tS T n p)))) fun h5 => some (some (vi (nI 1)), h5)) else some (some (vi (nI 1)), adC h2 (tK T n (tS T n p)) (tS T n p) (tE T n (tS T n p)))) else some (some (vi (nI 0)), adC h2 (tK T n (tS T n p)) (tS T n p) (tE T n (tS T n p)))) := by
      rw [e1, e2, E_X4_readLine_37, if_neg (by decide), AD, cV_s]
      rfl
    have ae : aEnd T n (.inr (p, f, pl)) = if tK T n (tS T n p) = 3 then .inr (tE T n (tS T n p), f, pl) else .inl (tS T n p) := rfl
    rw [ae, st, v6, vo _ _ _ _ 4 3 (by omega), h3]
    by_cases k3 : tK T n (tS T n p) = 3
    · rw [if_pos k3, k3, if_pos (by rfl)]
      refine ⟨fun y hy => ?_, fun w hw => (by cases hw)⟩
      injection hy with hy
      subst hy
      have wn : tS T n p < n := by
        unfold tK at k3
        split at k3
        · assumption
        · omega
      have wg := tE_gt (T := T) wn
      rw [k3] at f3
      refine ⟨adC h2 3 (tS T n p) (tE T n (tS T n p)), ?_, ⟨v8 _ _ _ _, ?_, ?_, he.2, hf, fun z => by have := h7 z; dsimp only; omega⟩, f12.tr f3, fun z => ⟨fun j hj => ?_, fun j h1 h2 => ?_⟩⟩
      · dsimp only
        by_cases f0 : f = 0
        · subst f0
          rw [if_pos (show nI 0 = (0 : Int32) from rfl), if_pos rfl]
        · rw [if_neg (show ¬ nI f = 0 from fun z => f0 ((nn_eq (by omega) (by decide)).mp (z.trans (show (0 : Int32) = nI 0 from rfl)))), if_neg f0]
      · rw [vo _ _ _ _ 4 3 (by omega)]; exact h3
      · rw [vo _ _ _ _ 4 4 (by omega)]; exact h4
      · rw [vo _ _ _ _ 24 j (by omega), o2 j hj]
        have := v1 z j hj
        rw [Nat.zero_add] at this
        exact this
      · rw [vo _ _ _ _ 24 j (by omega)]; exact v2 j h1 h2
    · rw [if_neg k3, if_neg (show ¬ nI (tK T n (tS T n p)) = 3 from fun z => k3 ((nn_eq (by omega) (by decide)).mp (z.trans (show (3 : Int32) = nI 3 from rfl))))]
      refine ⟨fun y hy => (by cases hy), fun w hw => ?_⟩
      injection hw with hw
      subst hw
      exact ⟨_, rfl, v7 _ _ _ _, f12.tr f3⟩
