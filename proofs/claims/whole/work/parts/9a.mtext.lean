/-! ===== the reference's text ===== -/
def gdM (s : Nat) (g : PH) (a : Nat) (c : AC) : Prop := if s = 0 then CoastMs g a c ∧ CoastMd g a c else if s = 1 then NightM g a c else LogM g a c
def frX (g g' : PH) : Prop := (∀ t i x, ¬ (t = 8 ∧ i = 0) → ¬ (t = 33 ∧ i = 0 ∧ 4 ≤ x ∧ x ≤ 6) → ¬ (t = 35 ∧ i = 0) → g'.1 t i x = g.1 t i x) ∧ g'.2 = g.2
def frY (s k : Nat) (g g' : PH) : Prop := (∀ t i x, ¬ (t = 8 ∧ i = 0) → ¬ (t = 33 ∧ i = 0 ∧ 4 ≤ x ∧ x ≤ 6) → ¬ (t = 35 ∧ i = 0) → ¬ (t = 33 ∧ i = 0 ∧ x = s) → ¬ (t = 33 ∧ i = 0 ∧ plS s k ≤ x ∧ x < plS s k + szS s) → g'.1 t i x = g.1 t i x) ∧ g'.2 = g.2
/-- what a text that is taken in leaves in the reference -/
def TxM (T : Nat → Nat) (n s k m : Nat) (g g' : PH) (v : PV) : Prop :=
  g'.1 33 0 4 = nI 0 ∧ g'.1 33 0 5 = nI (aFin n s (aRes T n s)).1 ∧ g'.1 33 0 6 = plI (aFin n s (aRes T n s)).1 (aFin n s (aRes T n s)).2 ∧
  (((aFin n s (aRes T n s)).1 ≠ 0 ∧ v = vi (-1) ∧ frX g g') ∨
   ((aFin n s (aRes T n s)).1 = 0 ∧ v = vi (nI k) ∧ g'.1 33 0 s = nI (max m (k + 1)) ∧ gdM s g' (plS s k) (aRes T n s).2.1 ∧ frY s k g g'))
theorem h0M_fr (g : PH) : frX g (h0M g) := ⟨fun t i x h1 h2 _ => h0M_o g (fun z => h1 ⟨z.1, z.2.1⟩) h2, rfl⟩
theorem aFin_0 {n s : Nat} {r : LnS × DD} (h : (aFin n s r).1 = 0) : ∃ y, r.1 = .inr y ∧ y.2.1 = 0 := by
  obtain ⟨σ, D⟩ := r
  cases σ with
  | inl w =>
    have h : (1 : Nat) = 0 := h
    cases h
  | inr y =>
    refine ⟨y, rfl, ?_⟩
    by_cases s0 : s = 0
    · subst s0
      have h : (nt1 (nt1 y.2.1 y.2.2 (if D.2.1 < (D.1 0).val ∧ D.2.2.1 < (D.1 1).val then 0 else 5) n).1 (nt1 y.2.1 y.2.2 (if D.2.1 < (D.1 0).val ∧ D.2.2.1 < (D.1 1).val then 0 else 5) n).2 (if D.2.2.2 < ((D.1 6).val : Int) then 0 else 6) n).1 = 0 := h
      exact (nt1_z (nt1_z h).1).1
    · have ef : aFin n s (.inr y, D) = (y.2.1, y.2.2) := by
        show (if s = 0 then _ else (y.2.1, y.2.2)) = _
        rw [if_neg s0]
      rw [ef] at h
      exact h
theorem night_R {g : PH} {a : Nat} {c : AC} (hv : nV c) (ha : a < 4900) (hR : RdN (g.1 35 0) c) (hc : ∀ j, j < 161 → g.1 33 0 (a + j) = g.1 35 0 j) : NightM g a c := by
  have h40 := hv.1
  obtain ⟨m0, m1⟩ := hR
  refine ⟨⟨(hc 0 (by decide)).trans m0, ha⟩, fun k hk => ?_⟩
  obtain ⟨x0, x1, x2, x3⟩ := m1 k hk
  refine ⟨?_, ?_, ?_, ?_⟩
  · rw [show a+1+4*k = a+(1+4*k) by omega, hc _ (by omega)]; exact x0
  · rw [show a+2+4*k = a+(1+4*k+1) by omega, hc _ (by omega)]; exact x1
  · rw [show a+3+4*k = a+(1+4*k+2) by omega, hc _ (by omega)]; exact x2
  · rw [show a+4+4*k = a+(1+4*k+3) by omega, hc _ (by omega)]; exact x3
theorem log_R {g : PH} {a : Nat} {c : AC} (hv : lV c) (ha : a < 5000) (hR : RdL (g.1 35 0) c) (hc : ∀ j, j < 30 → g.1 33 0 (a + j) = g.1 35 0 j) : LogM g a c := by
  have hV := hv.1
  obtain ⟨⟨m0, m1, m2, m3⟩, mm, mf⟩ := hR
  refine ⟨⟨(hc 0 (by decide)).trans m0, (hc 1 (by decide)).trans m1, (hc 2 (by decide)).trans m2, (hc 3 (by decide)).trans m3, ha⟩, fun k hk => ?_, fun k hk => ⟨?_, ?_⟩⟩
  · rw [show a+4+k = a+(4+k) by omega, hc _ (by omega)]; exact mm k hk
  · rw [show a+10+2*k = a+(10+2*k) by omega, hc _ (by omega)]; exact (mf k hk).1
  · rw [show a+11+2*k = a+(11+2*k) by omega, hc _ (by omega)]; exact (mf k hk).2
/-- it is copied, and a coast's cells are numbered anew -/
theorem take_M {g : PH} {s k : Nat} {D : DD} (hs : s < 3) (hk : k < 2) (hV : gdV s D.1) (hR : if s = 0 then RdC (g.1 35 0) D.1 else if s = 1 then RdN (g.1 35 0) D.1 else RdL (g.1 35 0) D.1) : ∃ g', pm_ev (181, 354, [vr 8 0, vi (nI s), none, vi (nI k), vi (nI 0)], [], g) = some (some (vi (nI k)), g') ∧ gdM s g' (plS s k) D.1 ∧ frP (plS s k) (plS s k + szS s) g g' := by
  obtain ⟨b1, b2, b3⟩ := pl_sz hs hk
  obtain ⟨g1, e1, z1, f1⟩ := copy_354 hs hk (szS s) 0 g (Nat.zero_add _)
  have t35 : g1.1 35 0 = g.1 35 0 := funext fun j => f1.1 35 0 j (by omega)
  have hc : ∀ j, j < szS s → g1.1 33 0 (plS s k + j) = g1.1 35 0 j := fun j hj => by rw [t35]; exact z1 j (Nat.zero_le _) hj
  have st : pm_ev (181, 354, [vr 8 0, vi (nI s), none, vi (nI k), vi (nI 0)], [], g) = (if nI s = 0 then (pm_bI (pm_ev (178, 0, [vi 0, vi (nI k)], [], g1)) fun r16 h15 => pm_ev (181, 399, [vr 8 0, vi (nI s), none, vi (nI k), none], [vi r16, vr 8 0], h15)) else pm_ev (181, 402, [none, none, none, vi (nI k), none], [], g1)) := by
    rw [e1, E_X9_text_354, size_M g1 hs, cI_s, E_X9_text_360, if_neg (fun z => by have := (nn_lt (by omega) (by omega)).mp z; omega)]
  rw [Nat.add_zero] at f1
  have ss : s = 0 ∨ s = 1 ∨ s = 2 := by omega
  rcases ss with e | e | e <;> subst e
  · rw [if_pos rfl] at hR
    have hV : cV D.1 := hV
    obtain ⟨g2, e2, c1, c2, f2⟩ := settles_M (g := g1) (a := plS 0 k) (by omega) hV (by rw [t35]; exact hR) hc
    refine ⟨g2, ?_, ⟨c1, c2⟩, f1.tr f2⟩
    rw [st, if_pos (by rfl), show (0 : Int32) = nI 0 from rfl, place_M g1 (by decide), cI_s, E_X9_text_399, e2, cV_s, E_X9_text_402]
  · rw [if_neg (by decide), if_pos rfl] at hR
    refine ⟨g1, ?_, ?_, f1⟩
    · rw [st, if_neg (by decide), E_X9_text_402]
    · exact night_R (a := plS 1 k) hV (by omega) (by rw [t35]; exact hR) hc
  · rw [if_neg (by decide), if_neg (by decide)] at hR
    refine ⟨g1, ?_, ?_, f1⟩
    · rw [st, if_neg (by decide), E_X9_text_402]
    · exact log_R (a := plS 2 k) hV (by omega) (by rw [t35]; exact hR) hc
/-- a sort and a number: the text is read -/
theorem text_Mg {T : Nat → Nat} {g : PH} {n s k m : Nat} {b : Int32} (hn : n ≤ 600) (hs : s < 3) (hm : m ≤ 2) (h4 : g.1 33 0 4 = nI n) (hT : ∀ j, j < n → T j < 256 ∧ g.1 33 0 (10 + j) = nI (T j)) (h33 : g.1 33 0 s = nI m) (hb : (b = -1 ∧ k = m ∧ m < 2) ∨ (b = nI k ∧ k < m)) (hV : (aFin n s (aRes T n s)).1 = 0 → gdV s (aRes T n s).2.1) : ∃ v g', TxM T n s k m g g' v ∧ pm_ev (181, 0, [vr 8 0, vi (nI s), vi b, none, none], [], g) = some (some v, g') := by
  have hk : k < 2 := by rcases hb with z | z <;> omega
  have s0 : pm_ev (181, 0, [vr 8 0, vi (nI s), vi b, none, none], [], g) = pm_ev (181, 71, [vr 8 0, vi (nI s), vi b, none, none], [], h0M g) := by
    rcases hb with ⟨q1, q2, q3⟩ | ⟨q1, q2⟩
    · subst q1
      rw [text_M2 hs hm h33, if_pos q3]
    · subst q1
      have := text_M3 (g := g) (s := s) (m := m) (z := (k : Int)) hs hm h33 (by omega) (by omega) (by omega)
      rw [if_pos (by omega), iI_nat] at this
      exact this
  have T0 : TapM (h0M g) n T := ⟨(h0M_2 g).trans h4, fun j hj => ⟨(hT j hj).1, (h0M_33 g (by omega)).trans (hT j hj).2⟩⟩
  obtain ⟨g1, e1, P1, T1, B1, R1, F1⟩ := begin_M b hs hn T0 (h0M_5 g) (h0M_6 g)
  obtain ⟨g2, e2, P2, R2, F2⟩ := read_M b hs hn (n + 1) (0, 0, 0) (iniD s) g1 (by dsimp only; omega) T1 P1 B1 (iniD_V hs) (fun _ => R1)
  change PSt g2 T n (aRes T n s).1 at P2
  change ∀ y, (aRes T n s).1 = .inr y → tK T n (tS T n y.1) = 0 ∧ rVs s (aRes T n s).2 ∧ (y.2.1 = 0 → RdS s g2 (aRes T n s).2) at R2
  obtain ⟨g3, e3, x5, x6, x7, F3⟩ := fin_M b hs hn P2 R2
  have F12 := F1.tr F2
  have X3 : frX g g3 := ⟨fun t i x h1 h2 h3 => by
    rw [F3.1 t i x (fun z => h2 ⟨z.1, z.2.1, by omega, by omega⟩), F12.1 t i x (fun z => h1 ⟨z.1, z.2.1⟩) (fun z => h2 ⟨z.1, z.2.1, by omega, by omega⟩) h3, (h0M_fr g).1 t i x h1 h2 h3], by rw [F3.2, F12.2]; exact (h0M_fr g).2⟩
  have x4 : g3.1 33 0 4 = nI 0 := by
    rw [F3.1 33 0 4 (by omega), F12.1 33 0 4 (by omega) (by omega) (by omega)]
    exact h0M_4 g
  rw [s0, e1, e2, e3]
  generalize hr : aRes T n s = r at *
  by_cases q : (aFin n s r).1 = 0
  · rw [q] at x5
    have k33 : g3.1 33 0 s = nI m := (X3.1 33 0 s (by omega) (by omega) (by omega)).trans h33
    obtain ⟨g4, e4, k4, o4, l4⟩ := store_M hs hm x5 k33 hb
    obtain ⟨y, y1, y2⟩ := aFin_0 q
    obtain ⟨_, _, Rd⟩ := R2 y y1
    have Rd := Rd y2
    have t35 : g4.1 35 0 = g2.1 35 0 := funext fun j => by rw [o4 35 0 j (by omega), F3.1 35 0 j (by omega)]
    have Rd4 : if s = 0 then RdC (g4.1 35 0) r.2.1 else if s = 1 then RdN (g4.1 35 0) r.2.1 else RdL (g4.1 35 0) r.2.1 := by
      unfold RdS at Rd
      rw [t35]
      by_cases s0 : s = 0
      · rw [if_pos s0] at Rd ⊢; exact Rd.1
      · rw [if_neg s0] at Rd ⊢; exact Rd
    obtain ⟨g5, e5, c5, f5⟩ := take_M hs hk (hV q) Rd4
    obtain ⟨b1, b2, b3⟩ := pl_sz hs hk
    refine ⟨vi (nI k), g5, ⟨?_, ?_, ?_, Or.inr ⟨?_, rfl, ?_, ?_, ?_⟩⟩, by rw [e4, e5]⟩
    · rw [f5.1 33 0 4 (by omega), o4 33 0 4 (by omega)]; exact x4
    · rw [hr, f5.1 33 0 5 (by omega), o4 33 0 5 (by omega), q]; exact x5
    · rw [hr, f5.1 33 0 6 (by omega), o4 33 0 6 (by omega)]; exact x6
    · rw [hr]; exact q
    · rw [f5.1 33 0 s (by omega)]; exact k4
    · rw [hr]; exact c5
    · refine ⟨fun t i x h1 h2 h3 h4 h5 => ?_, by rw [f5.2, l4]; exact X3.2⟩
      rw [f5.1 t i x h5, o4 t i x h4]; exact X3.1 t i x h1 h2 h3
  · refine ⟨vi (-1), g3, ⟨x4, by rw [hr]; exact x5, by rw [hr]; exact x6, Or.inl ⟨by rw [hr]; exact q, rfl, X3⟩⟩, ?_⟩
    rw [E_X9_text_309, show (5 : Int32).toNatClampNeg = 5 from rfl, x5, E_X9_text_315, if_neg (fun z => q ((nn_eq (by omega) (by decide)).mp (z.trans (show (0 : Int32) = nI 0 from rfl))))]
