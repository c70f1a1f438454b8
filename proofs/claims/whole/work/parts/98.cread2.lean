/-- what a text of sort s comes to -/
def aRes (T : Nat → Nat) (n s : Nat) : LnS × DD := aText T n s (n + 1) (0, 0, 0) (iniD s)
/-- told without a fault: it is a coast, a night, a log -/
def gdV (s : Nat) (c : AC) : Prop := if s = 0 then cV c else if s = 1 then nV c else lV c
theorem nt1_z {f pl k w : Nat} (h : (nt1 f pl k w).1 = 0) : f = 0 ∧ k = 0 := by
  unfold nt1 at h
  split at h
  · rename_i q
    exact absurd h q.2
  · rename_i q
    have h : f = 0 := h
    refine ⟨h, ?_⟩
    by_cases z : k = 0
    · exact z
    · exact absurd ⟨h, z⟩ q
theorem read_C {T : Nat → Nat} {n s : Nat} (hn : n ≤ 600) (hs : s < 3) {h : PH} (hS : StC h) (hT : TapC h n T) : ∃ h', pm_ev (64, 0, [vr 4 0, vr 26 0, vi (nI n), vi (nI s), none], [], h) = some (none, h') ∧ h'.1 4 0 3 = nI (aFin n s (aRes T n s)).1 ∧ h'.1 4 0 4 = plI (aFin n s (aRes T n s)).1 (aFin n s (aRes T n s)).2 ∧ (aFin n s (aRes T n s)).1 ≤ 6 ∧ ((aFin n s (aRes T n s)).1 = 0 → DCs s h' (aRes T n s).2 ∧ gdV s (aRes T n s).2.1) ∧ Fr rdT h h' := by
  obtain ⟨h1, e1, d1, x8, x3, x4, f1⟩ := rbegin_C h hs
  have S1 : StC h1 := ⟨fun i x => (f1 61 i (by unfold rdT; simp [show Nat.ble 61 23 = false from rfl]) x).1.trans (hS.1 i x), fun x => (f1 62 0 rfl x).1.trans (hS.2.1 x), fun x => (f1 63 0 rfl x).1.trans (hS.2.2.1 x), fun x => (f1 64 0 rfl x).1.trans (hS.2.2.2 x)⟩
  have T1 : TapC h1 n T := fun x hx => ⟨(hT x hx).1, (f1 26 0 rfl x).1.trans (hT x hx).2⟩
  have P1 : PCt h1 n (0, 0, 0) := ⟨x8, x3, x4, Nat.zero_le _, by decide, fun z => absurd rfl z⟩
  obtain ⟨A, B⟩ := read_7 hn hs (n + 1) (0, 0, 0) (iniD s) h1 0 (by dsimp only; omega) (Nat.le_refl _) S1 T1 P1 d1 (iniD_V hs)
  have st : pm_ev (64, 0, [vr 4 0, vr 26 0, vi (nI n), vi (nI s), none], [], h) = pm_ev (64, 7, [vr 4 0, vr 26 0, vi (nI n), vi (nI s), vi (nI 0)], [], h1) := by
    rw [E_X4_read, e1, cV_s]; rfl
  rw [st]
  change (∀ y D', aRes T n s = (.inr y, D') → _) at A
  change (∀ w D', aRes T n s = (.inl w, D') → _) at B
  cases hR : aRes T n s with
  | mk σ D' =>
    cases σ with
    | inl w =>
      obtain ⟨h2, g2, y3, y4, f2⟩ := B w D' hR
      refine ⟨h2, g2, y3, ?_, by show 1 ≤ 6; decide, fun z => absurd z (by show ¬ (1 : Nat) = 0; decide), f1.tr f2⟩
      rw [y4]; rfl
    | inr y =>
      obtain ⟨h2, g2, y3, y4, y6, yl, d2, v2, f2⟩ := A y D' hR
      obtain ⟨p, f, pl⟩ := y
      dsimp only at y3 y4 y6 yl
      by_cases s0 : s = 0
      · subst s0
        rw [if_pos rfl] at g2
        have d2 : DcC h2 D' := d2
        have v2 : rVc D' := v2
        obtain ⟨h3, e3, z3, z4, z6, f3⟩ := lookN_C hn y3 y4 y6 d2 v2
        have ef : aFin n 0 (.inr (p, f, pl), D') = aFin n 0 (.inr (0, f, pl), D') := rfl
        rw [ef]
        refine ⟨h3, by rw [g2, e3, cV_s], z3, z4, z6, fun z => ?_, (f1.tr f2).tr f3.D⟩
        have z : (nt1 (nt1 f pl (if D'.2.1 < (D'.1 0).val ∧ D'.2.2.1 < (D'.1 1).val then 0 else 5) n).1 (nt1 f pl (if D'.2.1 < (D'.1 0).val ∧ D'.2.2.1 < (D'.1 1).val then 0 else 5) n).2 (if D'.2.2.2 < ((D'.1 6).val : Int) then 0 else 6) n).1 = 0 := z
        obtain ⟨u1, u2⟩ := nt1_z z
        obtain ⟨u3, u4⟩ := nt1_z u1
        have q1 : D'.2.1 < (D'.1 0).val ∧ D'.2.2.1 < (D'.1 1).val := by
          by_cases w : D'.2.1 < (D'.1 0).val ∧ D'.2.2.1 < (D'.1 1).val
          · exact w
          · rw [if_neg w] at u4; cases u4
        have q2 : D'.2.2.2 < ((D'.1 6).val : Int) := by
          by_cases w : D'.2.2.2 < ((D'.1 6).val : Int)
          · exact w
          · rw [if_neg w] at u2; cases u2
        exact ⟨DCs.frR (s := 0) f3 d2, rVc_cV v2 q1.1 q1.2 q2⟩
      · rw [if_neg s0] at g2
        have ef : aFin n s (.inr (p, f, pl), D') = (f, pl) := by
          show (if s = 0 then _ else (f, pl)) = _
          rw [if_neg s0]
        rw [ef]
        refine ⟨h2, g2, y3, y4, y6, fun _ => ⟨d2, ?_⟩, f1.tr f2⟩
        unfold gdV
        unfold rVs at v2
        rw [if_neg s0] at v2 ⊢
        exact v2
