/-! ===== lines of a text in the reference: what it writes into its table of the reading ===== -/
theorem aNum_le {T : Nat → Nat} {n lo hi : Nat} (h : lo ≤ hi) (σ : LnS) : lo ≤ (aNum T n lo hi σ).1 ∧ (aNum T n lo hi σ).1 ≤ hi := by
  cases σ with
  | inl w => exact ⟨Nat.le_refl _, h⟩
  | inr x =>
    obtain ⟨p, f, pl⟩ := x
    have e : aNum T n lo hi (.inr (p, f, pl)) = if tK T n (tS T n p) = 2 then
      (if lo ≤ nuF T (tS T n p) (tE T n (tS T n p) - tS T n p) ∧ nuF T (tS T n p) (tE T n (tS T n p) - tS T n p) ≤ hi then (nuF T (tS T n p) (tE T n (tS T n p) - tS T n p), .inr (tE T n (tS T n p), f, pl)) else (lo, .inr (tE T n (tS T n p), (nt1 f pl 2 (tS T n p)).1, (nt1 f pl 2 (tS T n p)).2)))
      else (lo, .inl (tS T n p)) := rfl
    rw [e]
    by_cases q1 : tK T n (tS T n p) = 2
    · rw [if_pos q1]
      by_cases q2 : lo ≤ nuF T (tS T n p) (tE T n (tS T n p) - tS T n p) ∧ nuF T (tS T n p) (tE T n (tS T n p) - tS T n p) ≤ hi
      · rw [if_pos q2]; exact q2
      · rw [if_neg q2]; exact ⟨Nat.le_refl _, h⟩
    · rw [if_neg q1]; exact ⟨Nat.le_refl _, h⟩
/-- a mark that begins below 0 -/
def mrk (g : PH) (x m : Nat) : Prop := ∃ r : Int, -1 ≤ r ∧ r ≤ 7 ∧ g.1 8 0 x = iI r ∧ (m : Int) = max r 0
theorem mrk_max {r : Int} {m v : Nat} (h1 : -1 ≤ r) (h2 : r ≤ 7) (hv : v ≤ 7) (hm : (m : Int) = max r 0) : ∃ r' : Int, -1 ≤ r' ∧ r' ≤ 7 ∧ (if iI r < nI v then nI v else iI r) = iI r' ∧ ((max m v : Nat) : Int) = max r' 0 := by
  by_cases q : r < v
  · refine ⟨v, by omega, by omega, ?_, by omega⟩
    rw [if_pos ((in_lt (by omega) (by omega) (by omega)).mpr q), iI_nat]
  · refine ⟨r, h1, h2, ?_, by omega⟩
    rw [if_neg (fun z => q ((in_lt (by omega) (by omega) (by omega)).mp z))]
/-- only the fields of the reading and two marks change -/
def frK (g g' : PH) : Prop := (∀ t i x, ¬ (t = 8 ∧ i = 0 ∧ 3 ≤ x ∧ x ≤ 10) → ¬ (t = 33 ∧ i = 0 ∧ 5 ≤ x ∧ x ≤ 6) → g'.1 t i x = g.1 t i x) ∧ g'.2 = g.2
theorem frK.rf (g : PH) : frK g g := ⟨fun _ _ _ _ _ => rfl, rfl⟩
theorem frK.tr {a b c : PH} (h1 : frK a b) (h2 : frK b c) : frK a c := ⟨fun t i x h h' => (h2.1 t i x h h').trans (h1.1 t i x h h'), h2.2.trans h1.2⟩
theorem frL.K {a b : PH} (h : frL a b) : frK a b := ⟨fun t i x h1 h2 => h.1 t i x (fun z => h1 ⟨z.1, z.2.1, z.2.2.1, by omega⟩) h2, h.2⟩
theorem frK.s8 (g : PH) {x : Nat} (hx : 9 ≤ x ∧ x ≤ 10) (v : Int32) : frK g (pm_sI g 8 0 x v) := ⟨fun t i y h _ => by rw [pm_sI_at, if_neg (fun q => h ⟨q.1, q.2.1, by omega⟩)], rfl⟩
theorem TapM.frK {g g' : PH} {n : Nat} {T : Nat → Nat} (hf : frK g g') (hT : TapM g n T) : TapM g' n T := ⟨(hf.1 8 0 2 (by omega) (by omega)).trans hT.1, fun k hk => ⟨(hT.2 k hk).1, (hf.1 33 0 _ (by omega) (by omega)).trans (hT.2 k hk).2⟩⟩
theorem PSt.fr {g g' : PH} {T : Nat → Nat} {n : Nat} {σ : LnS} (h1 : ∀ x, 3 ≤ x → x ≤ 8 → g'.1 8 0 x = g.1 8 0 x) (h2 : ∀ x, 5 ≤ x → x ≤ 6 → g'.1 33 0 x = g.1 33 0 x) (h : PSt g T n σ) : PSt g' T n σ := by
  cases σ with
  | inl w => exact ⟨(h1 8 (by decide) (by decide)).trans h.1, (h2 5 (by decide) (by decide)).trans h.2.1, (h2 6 (by decide) (by decide)).trans h.2.2⟩
  | inr x =>
    obtain ⟨p, f, pl⟩ := x
    obtain ⟨a, b, c, d, e, k, l⟩ := h
    exact ⟨(h1 8 (by decide) (by decide)).trans a, b.fr (fun x y z => h1 x y (by omega)), c, d, (h2 5 (by decide) (by decide)).trans e, (h2 6 (by decide) (by decide)).trans k, l⟩
theorem cell15_M (g : PH) (x y : Int32) : pm_ev (168, 15, [vr 8 0, vi x, none], [vi y], g) = some (some (vi ((8 * y) + x)), pm_sI (pm_sI g 8 0 9 (if g.1 8 0 9 < x then x else g.1 8 0 9)) 8 0 10 (if g.1 8 0 10 < y then y else g.1 8 0 10)) := by
  rw [E_X9_cellTold_15]
  by_cases q1 : g.1 8 0 9 < x
  · rw [if_pos q1, if_pos q1]
    by_cases q2 : g.1 8 0 10 < y
    · rw [if_pos q2, if_pos q2]
    · rw [if_neg q2, if_neg q2]
  · rw [if_neg q1, if_neg q1]
    by_cases q2 : g.1 8 0 10 < y
    · rw [if_pos q2, if_pos q2]
    · rw [if_neg q2, if_neg q2]
/-- a cell is told -/
theorem cell_M {g : PH} {T : Nat → Nat} {n : Nat} {σ : LnS} (hn : n ≤ 600) (hT : TapM g n T) (hP : PSt g T n σ) : ∃ g', pm_ev (168, 0, [vr 8 0, none, none], [], g) = some (some (vi (nI (8 * (aNum T n 0 7 (aNum T n 0 7 σ).2).1 + (aNum T n 0 7 σ).1))), g') ∧ PSt g' T n (aNum T n 0 7 (aNum T n 0 7 σ).2).2 ∧ (∀ m, mrk g 9 m → mrk g' 9 (max m (aNum T n 0 7 σ).1)) ∧ (∀ m, mrk g 10 m → mrk g' 10 (max m (aNum T n 0 7 (aNum T n 0 7 σ).2).1)) ∧ frK g g' := by
  obtain ⟨g1, e1, p1, f1⟩ := numbered_M hn hT hP (lo := 0) (hi := 7) (by decide) (by decide)
  obtain ⟨g2, e2, p2, f2⟩ := numbered_M hn (hT.frL f1) p1 (lo := 0) (hi := 7) (by decide) (by decide)
  have b1 := (aNum_le (T := T) (n := n) (show 0 ≤ 7 by decide) σ).2
  have b2 := (aNum_le (T := T) (n := n) (show 0 ≤ 7 by decide) (aNum T n 0 7 σ).2).2
  have F : frL g g2 := f1.tr f2
  generalize hx : (aNum T n 0 7 σ).1 = x at *
  generalize hσ : (aNum T n 0 7 σ).2 = σ1 at *
  generalize hy : (aNum T n 0 7 σ1).1 = y at *
  generalize (aNum T n 0 7 σ1).2 = σ2 at *
  refine ⟨pm_sI (pm_sI g2 8 0 9 (if g2.1 8 0 9 < nI x then nI x else g2.1 8 0 9)) 8 0 10 (if g2.1 8 0 10 < nI y then nI y else g2.1 8 0 10), ?_, PSt.fr (fun k h1 h2 => ?_) (fun k h1 h2 => ?_) p2, fun m hm => ?_, fun m hm => ?_, ?_⟩
  · rw [E_X9_cellTold]
    change pm_bI (pm_ev (165, 0, [vr 8 0, vi (nI 0), vi (nI 7), none], [], g)) _ = _
    rw [e1, cI_s]
    change pm_bI (pm_ev (165, 0, [vr 8 0, vi (nI 0), vi (nI 7), none], [], g1)) _ = _
    rw [e2, cI_s, cell15_M, show (8 : Int32) = nI 8 from rfl, nI_mul, nI_add]
  · rw [sI_pl _ _ _ _ _ (by omega), sI_pl _ _ _ _ _ (by omega)]
  · rw [sI_tag _ _ _ _ _ _ (by decide), sI_tag _ _ _ _ _ _ (by decide)]
  · obtain ⟨r, r1, r2, r3, r4⟩ := hm
    have e9 : g2.1 8 0 9 = iI r := (F.1 8 0 9 (by omega) (by omega)).trans r3
    obtain ⟨r', a1, a2, a3, a4⟩ := mrk_max r1 r2 b1 r4
    refine ⟨r', a1, a2, ?_, a4⟩
    rw [sI_pl _ _ _ _ _ (by decide), sI_same, e9]; exact a3
  · obtain ⟨r, r1, r2, r3, r4⟩ := hm
    have e9 : g2.1 8 0 10 = iI r := (F.1 8 0 10 (by omega) (by omega)).trans r3
    obtain ⟨r', a1, a2, a3, a4⟩ := mrk_max r1 r2 b2 r4
    refine ⟨r', a1, a2, ?_, a4⟩
    rw [sI_same, e9]; exact a3
  · exact (F.K.tr (frK.s8 _ (by decide) _)).tr (frK.s8 _ (by decide) _)
