/-! ===== a line, a text: the class ===== -/
def aLineW (T : Nat → Nat) (n q : Nat) (x : Nat × Nat × Nat) (D : DD) : LnS × DD :=
  match aEnd T n (aNs T n q (nN q) 0 (.inr (tE T n (tS T n x.1), (nt1 x.2.1 x.2.2 (aTm q D.1) (tS T n x.1)).1, (nt1 x.2.1 x.2.2 (aTm q D.1) (tS T n x.1)).2))).2 with
  | .inl w => (.inl w, D)
  | .inr y => (.inr y, if y.2.1 = 0 then aTell q (fun j => (aNs T n q (nN q) 0 (.inr (tE T n (tS T n x.1), (nt1 x.2.1 x.2.2 (aTm q D.1) (tS T n x.1)).1, (nt1 x.2.1 x.2.2 (aTm q D.1) (tS T n x.1)).2))).1.getD j 0) D else D)
def aLine (T : Nat → Nat) (n s : Nat) (x : Nat × Nat × Nat) (D : DD) : LnS × DD :=
  if tK T n (tS T n x.1) = 1 then
    match wdC T s (tS T n x.1) (tE T n (tS T n x.1)) with
    | none => (.inl (tS T n x.1), D)
    | some q => aLineW T n q x D
  else (.inl (tS T n x.1), D)
def rdT (t i : Nat) : Bool := (i == 0 && (t == 4 || t == 24)) || (i == 8 && (t == 0 || t == 2 || t == 3 || (Nat.ble 10 t && Nat.ble t 23)))
theorem rdT_f {t i : Nat} (h : rdT t i = false) : ¬ (i = 0 ∧ (t = 4 ∨ t = 24)) ∧ ¬ (i = 8 ∧ (t = 0 ∨ t = 2 ∨ t = 3 ∨ (10 ≤ t ∧ t ≤ 23))) := by
  constructor
  · rintro ⟨rfl, e⟩
    rcases e with rfl | rfl <;> cases h
  · rintro ⟨rfl, e⟩
    rcases e with rfl | rfl | rfl | e
    · cases h
    · cases h
    · cases h
    · unfold rdT at h
      rw [Nat.ble_eq_true_of_le e.1, Nat.ble_eq_true_of_le e.2] at h
      simp at h
theorem frR.D {a b : PH} (h : frR a b) : Fr rdT a b := fun t i ht x => by
  have := rdT_f ht
  exact ⟨h.1 t i x (fun z => this.1 ⟨z.2.1, Or.inl z.1⟩) (fun z => this.1 ⟨z.2, Or.inr z.1⟩), by rw [h.2]⟩
theorem frT.D {a b : PH} (h : frT a b) : Fr rdT a b := fun t i ht x => by
  have := rdT_f ht
  exact ⟨h.1 t i x (fun z => this.1 ⟨z.2.1, Or.inl z.1⟩) this.2, h.2 t i x (fun z => this.2 ⟨z.2, Or.inl z.1⟩)⟩
theorem DCs.fr {s : Nat} {h h' : PH} {D : DD} (h1 : ∀ t x, h'.1 t 8 x = h.1 t 8 x) (h2 : ∀ x, 9 ≤ x → x ≤ 11 → h'.1 4 0 x = h.1 4 0 x) (h3 : h'.2 = h.2) (hD : DCs s h D) : DCs s h' D := by
  unfold DCs at hD ⊢
  split
  · rename_i z
    rw [if_pos z] at hD
    obtain ⟨a, b, c, d⟩ := hD
    exact ⟨a.fr (fun t k _ _ => h1 t k) (by rw [h3]), (h2 9 (by decide) (by decide)).trans b, (h2 10 (by decide) (by decide)).trans c, (h2 11 (by decide) (by decide)).trans d⟩
  · rename_i z
    rw [if_neg z] at hD
    split
    · rename_i z1
      rw [if_pos z1] at hD
      exact hD.fr (fun k => h1 3 k) (fun k => h1 22 k) (fun k => h1 23 k)
    · rename_i z1
      rw [if_neg z1] at hD
      exact hD.fr (fun k => h1 2 k) (fun k => h1 19 k) (fun k => h1 20 k) (fun k => h1 21 k)
theorem DCs.frR {s : Nat} {h h' : PH} {D : DD} (hf : frR h h') (hD : DCs s h D) : DCs s h' D := hD.fr (fun t x => hf.1 t 8 x (by omega) (by omega)) (fun x h1 h2 => hf.1 4 0 x (by omega) (by omega)) hf.2
theorem readLine_C {T : Nat → Nat} {n s : Nat} (hn : n ≤ 600) (hs : s < 3) {p f pl : Nat} {D : DD} {h : PH} (hS : StC h) (hT : TapC h n T) (hp : p ≤ n) (hf : f ≤ 6) (hpl : f ≠ 0 → pl < p) (h6 : h.1 4 0 6 = nI (tK T n (tS T n p))) (h7 : h.1 4 0 7 = nI (tS T n p)) (h8 : h.1 4 0 8 = nI (tE T n (tS T n p))) (h3 : h.1 4 0 3 = nI f) (h4 : h.1 4 0 4 = plI f pl) (hD : DCs s h D) (hV : rVs s D) :
    (∀ y D', aLine T n s (p, f, pl) D = (.inr y, D') → ∃ h', pm_ev (70, 0, [vr 4 0, vr 26 0, vi (nI n), vi (nI s), none, none], [], h) = some (some (vi (nI 1)), h') ∧ PCt h' n y ∧ DCs s h' D' ∧ rVs s D' ∧ Fr rdT h h') ∧
    (∀ w D', aLine T n s (p, f, pl) D = (.inl w, D') → ∃ h', pm_ev (70, 0, [vr 4 0, vr 26 0, vi (nI n), vi (nI s), none, none], [], h) = some (some (vi (nI 0)), h') ∧ h'.1 4 0 7 = nI w ∧ Fr rdT h h') := by
  have hw := tS_le (T := T) hp
  have he := tE_le (T := T) hw.2
  have k4 : tK T n (tS T n p) ≤ 4 := by
    unfold tK
    repeat' split
    all_goals omega
  unfold aLine
  dsimp only
  by_cases k1 : tK T n (tS T n p) = 1
  · rw [if_pos k1]
    have WH := wordHere_C hS hT hn h7 h8 he.2 he.1 hs
    have wn : tS T n p < n := by
      unfold tK at k1
      split at k1
      · assumption
      · omega
    have wg := tE_gt (T := T) wn
    have st : pm_ev (70, 0, [vr 4 0, vr 26 0, vi (nI n), vi (nI s), none, none], [], h) = (if oN (wdC T s (tS T n p) (tE T n (tS T n p))) = (-1) then some (some (vi 0), h) else (pm_bV (pm_ev (78, 0, [vr 4 0, vi (oN (wdC T s (tS T n p) (tE T n (tS T n p)))), none, none], [], h)) fun h3 => pm_ev (70, 37, [vr 4 0, vr 26 0, vi (nI n), none, vi (oN (wdC T s (tS T n p) (tE T n (tS T n p)))), vi 0], [], h3))) := by
      rw [E_X4_readLine, h6, k1, if_pos (by rfl), WH, cI_s]
    cases hq : wdC T s (tS T n p) (tE T n (tS T n p)) with
    | none =>
      rw [hq] at st
      refine ⟨fun y D' e => (by cases e), fun w D' e => ?_⟩
      injection e with e1 e2
      injection e1 with e1
      subst e1
      exact ⟨h, by rw [st, if_pos (by rfl)]; rfl, h7, Fr.rfl'⟩
    | some q =>
      rw [hq] at st
      have let1 : ∀ i, tS T n p ≤ i → i < tE T n (tS T n p) → isL (T i) = true := fun i h1 h2 => by
        have z := k1
        unfold tK at z
        rw [if_pos wn] at z
        split at z
        · rename_i q1
          unfold tE at h2
          rw [if_pos wn, if_pos q1] at h2
          exact run_in (P := fun i => isL (T i)) (n := n) _ _ rfl i h1 h2
        · split at z
          · split at z <;> omega
          · split at z <;> omega
      obtain ⟨q1, q2, _⟩ := (wd_wc hs let1).1 q hq
      have q21 : q < 21 := by
        have : hiW s ≤ 21 := by
          unfold hiW
          repeat' split
          all_goals omega
        omega
      have TM : pm_ev (78, 0, [vr 4 0, vi (nI q), none, none], [], h) = tmR h (aTm q D.1) := by
        have : s = 0 ∨ s = 1 ∨ s = 2 := by omega
        rcases this with z | z | z <;> subst z
        · exact tooMany_0 q2 hD hV
        · exact tooMany_12 (s := 1) (Or.inl ⟨rfl, q1, q2⟩) hD hV
        · exact tooMany_12 (s := 2) (Or.inr ⟨rfl, q1, q2⟩) hD hV
      have tk : aTm q D.1 = 0 ∨ (2 ≤ aTm q D.1 ∧ aTm q D.1 ≤ 6) := by
        unfold aTm
        repeat' split
        all_goals omega
      -- what is noted at the word
      have NT : ∃ h1, tmR h (aTm q D.1) = some (none, h1) ∧ h1.1 4 0 3 = nI (nt1 f pl (aTm q D.1) (tS T n p)).1 ∧ h1.1 4 0 4 = plI (nt1 f pl (aTm q D.1) (tS T n p)).1 (nt1 f pl (aTm q D.1) (tS T n p)).2 ∧ (nt1 f pl (aTm q D.1) (tS T n p)).1 ≤ 6 ∧ h1.1 4 0 8 = h.1 4 0 8 ∧ frR h h1 := by
        rcases tk with z | z
        · rw [z, nt1_0]
          exact ⟨h, rfl, h3, h4, hf, rfl, frR.rf h⟩
        · obtain ⟨h1, e1, y3, y4, y6, yf, y2⟩ := note_C (k := aTm q D.1) (w := tS T n p) h3 h4 hf z.1 z.2
          refine ⟨h1, ?_, y3, y4, y6, yf 4 0 8 (by omega), ⟨fun t i x hx _ => yf t i x (fun w => hx ⟨w.1, w.2.1, by omega⟩), y2⟩⟩
          unfold tmR
          rw [if_neg (by omega), h7, e1, cV_s]
      obtain ⟨h1, e1, y3, y4, y6, y8, f1⟩ := NT
      have P1 : PCt h1 n (tE T n (tS T n p), (nt1 f pl (aTm q D.1) (tS T n p)).1, (nt1 f pl (aTm q D.1) (tS T n p)).2) := ⟨y8.trans h8, y3, y4, he.2, y6, fun z => by
        dsimp only at z ⊢
        unfold nt1 at z ⊢
        split
        · exact wg
        · rename_i q3
          rw [if_neg q3] at z
          have := hpl z
          dsimp only
          omega⟩
      obtain ⟨A, B⟩ := line_37 (T := T) hn q21 (hS.frR f1) (hT.frR f1) P1
      have st2 : pm_ev (70, 0, [vr 4 0, vr 26 0, vi (nI n), vi (nI s), none, none], [], h) = pm_ev (70, 37, [vr 4 0, vr 26 0, vi (nI n), none, vi (nI q), vi (nI 0)], [], h1) := by
        rw [st, show oN (some q) = nI q from rfl, if_neg (show ¬ nI q = (-1 : Int32) from fun z => by rw [neg1, ni_eq (by omega) (by decide) (by decide)] at z; omega), TM, e1, cV_s]
        rfl
      rw [st2]
      show (∀ y D', aLineW T n q (p, f, pl) D = (.inr y, D') → _) ∧ (∀ w D', aLineW T n q (p, f, pl) D = (.inl w, D') → _)
      unfold aLineW
      dsimp only
      generalize hN : aNs T n q (nN q) 0 (.inr (tE T n (tS T n p), (nt1 f pl (aTm q D.1) (tS T n p)).1, (nt1 f pl (aTm q D.1) (tS T n p)).2)) = NS at *
      cases hσ : aEnd T n NS.2 with
      | inl w =>
        refine ⟨fun y D' e => (by cases e), fun w' D' e => ?_⟩
        injection e with e1 e2
        injection e1 with e1
        subst e1
        obtain ⟨h', g1, x7, f2⟩ := B w hσ
        exact ⟨h', g1, x7, (f1.tr f2).D⟩
      | inr y =>
        refine ⟨fun y' D' e => ?_, fun w D' e => (by cases e)⟩
        injection e with e1 e2
        injection e1 with e1
        subst e1
        obtain ⟨h2, g1, P2, f2, v2⟩ := A y hσ
        have f12 := f1.tr f2
        by_cases y0 : y.2.1 = 0
        · rw [if_pos y0] at e2 g1
          subst e2
          -- no fault so far
          have hy : ∃ z, NS.2 = .inr z ∧ z.2.1 = 0 := by
            cases hz : NS.2 with
            | inl w => rw [hz] at hσ; cases hσ
            | inr z =>
              refine ⟨z, rfl, ?_⟩
              rw [hz] at hσ
              obtain ⟨p', f', pl'⟩ := z
              have hσ : (if tK T n (tS T n p') = 3 then .inr (tE T n (tS T n p'), f', pl') else .inl (tS T n p') : LnS) = .inr y := hσ
              split at hσ
              · injection hσ with hσ
                rw [← hσ] at y0
                exact y0
              · cases hσ
          obtain ⟨z, hz, z0⟩ := hy
          have hz2 : (aNs T n q (nN q) 0 (.inr (tE T n (tS T n p), (nt1 f pl (aTm q D.1) (tS T n p)).1, (nt1 f pl (aTm q D.1) (tS T n p)).2))).2 = .inr z := by rw [hN]; exact hz
          have vb := aNs_v _ _ _ _ hz2 z0
          rw [hN] at vb
          have n0 := aNs_f _ _ _ _ hz2 z0
          dsimp only at n0
          have tm : aTm q D.1 = 0 := by
            rcases tk with w | w
            · exact w
            · unfold nt1 at n0
              split at n0
              · exact n0
              · rename_i q3
                exact absurd ⟨n0, by omega⟩ q3
          obtain ⟨v3, v4⟩ := v2 y0
          have vb1 : ∀ k, k < nN q → lO q ≤ NS.1.getD k 0 ∧ NS.1.getD k 0 ≤ mO q k := fun k hk => by have := vb.1 k hk; rw [Nat.zero_add] at this; exact this
          obtain ⟨h', e', d', f3⟩ := tell_C (v := fun j => NS.1.getD j 0) hs ⟨q1, q2⟩ (hD.frR f12) hV tm vb1 vb.2 v3 v4
          refine ⟨h', ?_, ?_, d', rVs_tell hs ⟨q1, q2⟩ hV tm vb1 vb.2, f12.D.tr f3.D⟩
          · rw [g1, e', cV_s]
          · obtain ⟨a1, a2, a3, a4, a5, a6⟩ := P2
            exact ⟨(f3.1 4 0 8 (by omega) (by omega)).trans a1, (f3.1 4 0 3 (by omega) (by omega)).trans a2, (f3.1 4 0 4 (by omega) (by omega)).trans a3, a4, a5, a6⟩
        · rw [if_neg y0] at e2 g1
          subst e2
          exact ⟨h2, g1, P2, hD.frR f12, hV, f12.D⟩
  · rw [if_neg k1]
    refine ⟨fun y D' e => (by cases e), fun w D' e => ?_⟩
    injection e with e1 e2
    injection e1 with e1
    subst e1
    refine ⟨h, ?_, h7, Fr.rfl'⟩
    rw [E_X4_readLine, h6, if_neg (show ¬ nI (tK T n (tS T n p)) = 1 from fun z => k1 ((nn_eq (by omega) (by decide)).mp (z.trans (show (1 : Int32) = nI 1 from rfl))))]
    rfl
