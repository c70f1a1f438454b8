/-! ===== lines: what both do with the tokens =====
inl w: wrong at w; inr (p, f, pl): the tokens up to p are read, fault f at place pl -/
abbrev LnS : Type := Nat ⊕ (Nat × Nat × Nat)
def plI (f pl : Nat) : Int32 := if f = 0 then iI (-1) else nI pl
/-- the first fault stays -/
def nt1 (f pl k w : Nat) : Nat × Nat := if f = 0 ∧ k ≠ 0 then (k, w) else (f, pl)
def aNum (T : Nat → Nat) (n lo hi : Nat) : LnS → Nat × LnS
  | .inl w => (lo, .inl w)
  | .inr (p, f, pl) => if tK T n (tS T n p) = 2 then
      (if lo ≤ nuF T (tS T n p) (tE T n (tS T n p) - tS T n p) ∧ nuF T (tS T n p) (tE T n (tS T n p) - tS T n p) ≤ hi then (nuF T (tS T n p) (tE T n (tS T n p) - tS T n p), .inr (tE T n (tS T n p), f, pl)) else (lo, .inr (tE T n (tS T n p), (nt1 f pl 2 (tS T n p)).1, (nt1 f pl 2 (tS T n p)).2)))
      else (lo, .inl (tS T n p))
def aEnd (T : Nat → Nat) (n : Nat) : LnS → LnS
  | .inl w => .inl w
  | .inr (p, f, pl) => if tK T n (tS T n p) = 3 then .inr (tE T n (tS T n p), f, pl) else .inl (tS T n p)
/-- how the reference's fields show it -/
def PSt (g : PH) (T : Nat → Nat) (n : Nat) : LnS → Prop
  | .inl w => g.1 8 0 8 = nI 1 ∧ g.1 33 0 5 = nI 1 ∧ g.1 33 0 6 = nI w
  | .inr (p, f, pl) => g.1 8 0 8 = nI 0 ∧ LkM g T n (tS T n p) ∧ p ≤ n ∧ f ≤ 6 ∧ g.1 33 0 5 = nI f ∧ g.1 33 0 6 = plI f pl ∧ (f ≠ 0 → pl < p)
/-- only the fields of the reading change -/
def frL (g g' : PH) : Prop := (∀ t i x, ¬ (t = 8 ∧ i = 0 ∧ 3 ≤ x ∧ x ≤ 8) → ¬ (t = 33 ∧ i = 0 ∧ 5 ≤ x ∧ x ≤ 6) → g'.1 t i x = g.1 t i x) ∧ g'.2 = g.2
theorem frL.rf (g : PH) : frL g g := ⟨fun _ _ _ _ _ => rfl, rfl⟩
theorem frL.tr {a b c : PH} (h1 : frL a b) (h2 : frL b c) : frL a c := ⟨fun t i x h h' => (h2.1 t i x h h').trans (h1.1 t i x h h'), h2.2.trans h1.2⟩
theorem fr3.L {a b : PH} (h : fr3 a b) : frL a b := ⟨fun t i x h1 _ => h.1 t i x (fun z => h1 ⟨z.1, z.2.1, z.2.2.1, by omega⟩), h.2⟩
theorem frL.s8 (g : PH) (v : Int32) : frL g (pm_sI g 8 0 8 v) := ⟨fun t i y h _ => by rw [pm_sI_at, if_neg (fun q => h ⟨q.1, q.2.1, by omega⟩)], rfl⟩
theorem frL.s33 (g : PH) {x : Nat} (hx : 5 ≤ x ∧ x ≤ 6) (v : Int32) : frL g (pm_sI g 33 0 x v) := ⟨fun t i y _ h => by rw [pm_sI_at, if_neg (fun q => h ⟨q.1, q.2.1, by omega⟩)], rfl⟩
theorem TapM.frL {g g' : PH} {n : Nat} {T : Nat → Nat} (hf : frL g g') (hT : TapM g n T) : TapM g' n T := ⟨(hf.1 8 0 2 (by omega) (by omega)).trans hT.1, fun k hk => ⟨(hT.2 k hk).1, (hf.1 33 0 _ (by omega) (by omega)).trans (hT.2 k hk).2⟩⟩
theorem LkM.fr {g g' : PH} {T : Nat → Nat} {n w : Nat} (hf : ∀ x, 3 ≤ x → x ≤ 7 → g'.1 8 0 x = g.1 8 0 x) (h : LkM g T n w) : LkM g' T n w := by
  unfold LkM at h ⊢
  rw [hf 3 (by decide) (by decide), hf 4 (by decide) (by decide), hf 5 (by decide) (by decide), hf 6 (by decide) (by decide), hf 7 (by decide) (by decide)]
  exact h
def aBad (T : Nat → Nat) (n : Nat) : LnS → LnS
  | .inl w => .inl w
  | .inr (p, _, _) => .inl (tS T n p)
theorem ends_M {g : PH} {T : Nat → Nat} {n : Nat} {σ : LnS} (hP : PSt g T n σ) : ∃ g', pm_ev (163, 0, [vr 8 0], [], g) = some (none, g') ∧ PSt g' T n (aBad T n σ) ∧ frL g g' := by
  rw [E_X9_ends]
  cases σ with
  | inl w =>
    obtain ⟨h8, h5, h6⟩ := hP
    rw [h8, if_neg (by decide)]
    exact ⟨g, rfl, ⟨h8, h5, h6⟩, frL.rf g⟩
  | inr x =>
    obtain ⟨p, f, pl⟩ := x
    obtain ⟨h8, hL, hp, hf, h5, h6, _⟩ := hP
    rw [h8, if_pos (by rfl), hL.1]
    refine ⟨_, rfl, ⟨?_, ?_, ?_⟩, ((frL.s8 _ _).tr (frL.s33 _ (by decide) _)).tr (frL.s33 _ (by decide) _)⟩
    · rw [sI_tag _ _ _ _ _ _ (by decide), sI_tag _ _ _ _ _ _ (by decide), sI_same]; rfl
    · rw [sI_pl _ _ _ _ _ (by decide)]
      exact sI_same _ _ _ _ _
    · exact sI_same _ _ _ _ _
def fr56 (g g' : PH) : Prop := (∀ t i x, ¬ (t = 33 ∧ i = 0 ∧ 5 ≤ x ∧ x ≤ 6) → g'.1 t i x = g.1 t i x) ∧ g'.2 = g.2
theorem fr56.L {a b : PH} (h : fr56 a b) : frL a b := ⟨fun t i x _ h2 => h.1 t i x h2, h.2⟩
theorem nt1_0 (f pl w : Nat) : nt1 f pl 0 w = (f, pl) := if_neg (fun z => z.2 rfl)
theorem also_M {g : PH} {f pl k w : Nat} (h8 : g.1 8 0 8 = nI 0) (h5 : g.1 33 0 5 = nI f) (h6 : g.1 33 0 6 = plI f pl) (hf : f ≤ 6) (hk : 2 ≤ k) (hk6 : k ≤ 6) (hw : w ≤ 600) (hpw : f ≠ 0 → pl < w) : ∃ g', pm_ev (164, 0, [vr 8 0, vi (nI k), vi (nI w)], [], g) = some (none, g') ∧ g'.1 33 0 5 = nI (nt1 f pl k w).1 ∧ g'.1 33 0 6 = plI (nt1 f pl k w).1 (nt1 f pl k w).2 ∧ (nt1 f pl k w).1 ≤ 6 ∧ fr56 g g' := by
  unfold nt1
  by_cases q : f = 0
  · subst q
    rw [if_pos ⟨rfl, by omega⟩]
    refine ⟨pm_sI (pm_sI g 33 0 5 (nI k)) 33 0 6 (nI w), ?_, ?_, ?_, hk6, fun t i x hx => ?_, rfl⟩
    · rw [E_X9_also, h8, if_pos (by rfl), E_X9_also_13, show (5 : Int32).toNatClampNeg = 5 from rfl, h5, if_pos (by rfl)]; rfl
    · rw [sI_pl _ _ _ _ _ (by decide), sI_same]
    · rw [sI_same]
      show nI w = plI k w
      unfold plI
      rw [if_neg (by omega)]
    · rw [pm_sI_at, if_neg (fun z => hx ⟨z.1, z.2.1, by omega⟩), pm_sI_at, if_neg (fun z => hx ⟨z.1, z.2.1, by omega⟩)]
  · rw [if_neg (fun z => q z.1)]
    refine ⟨g, ?_, h5, h6, hf, fun _ _ _ _ => rfl, rfl⟩
    have e6 : g.1 33 0 6 = nI pl := by rw [h6]; unfold plI; rw [if_neg q]
    have n5 : ¬ nI f = 0 := fun z => q ((nn_eq (by omega) (by decide)).mp (z.trans (show (0 : Int32) = nI 0 from rfl)))
    have := hpw q
    rw [E_X9_also, h8, if_pos (by rfl), E_X9_also_13, show (5 : Int32).toNatClampNeg = 5 from rfl, h5, if_neg n5, E_X9_also_23, show (6 : Int32).toNatClampNeg = 6 from rfl, e6, if_pos ((nn_lt (by omega) (by omega)).mpr this)]
theorem nuF_lt {T : Nat → Nat} {w m : Nat} (hm : m ≤ 2) (h : ∀ i, i < m → T (w + i) < 256) : nuF T w m < 5000 := by
  have : m = 0 ∨ m = 1 ∨ m = 2 := by omega
  rcases this with e | e | e <;> subst e
  · show 0 < 5000; decide
  · have := h 0 (by decide)
    show 10 * 0 + (T (w + 0) - 48) < 5000
    omega
  · have a := h 0 (by decide)
    have b := h 1 (by decide)
    show 10 * (10 * 0 + (T (w + 0) - 48)) + (T (w + 1) - 48) < 5000
    omega
theorem tK_2 {T : Nat → Nat} {n w : Nat} (h : tK T n w = 2) : w < n ∧ tE T n w - w ≤ 2 := by
  unfold tK at h
  split at h
  · rename_i q
    refine ⟨q, ?_⟩
    split at h
    · omega
    · rename_i q1
      split at h
      · rename_i q2
        split at h
        · rename_i q3
          unfold tE
          rw [if_pos q, if_neg q1, if_pos q2]
          exact q3
        · omega
      · split at h <;> omega
  · omega
theorem numbered_M {g : PH} {T : Nat → Nat} {n : Nat} {σ : LnS} (hn : n ≤ 600) (hT : TapM g n T) (hP : PSt g T n σ) {lo hi : Nat} (hlo : lo ≤ 2) (hhi : hi ≤ 100) : ∃ g', pm_ev (165, 0, [vr 8 0, vi (nI lo), vi (nI hi), none], [], g) = some (some (vi (nI (aNum T n lo hi σ).1)), g') ∧ PSt g' T n (aNum T n lo hi σ).2 ∧ frL g g' := by
  cases σ with
  | inl w =>
    obtain ⟨g', e, p', f⟩ := ends_M hP
    obtain ⟨h8, h5, h6⟩ := hP
    refine ⟨g', ?_, p', f⟩
    rw [E_X9_numbered, h8, if_neg (by decide), e, cV_s]
    rfl
  | inr x =>
    obtain ⟨p, f, pl⟩ := x
    obtain ⟨h8, hL, hp, hf, h5, h6, h7⟩ := id hP
    have hw := tS_le (T := T) hp
    have he := tE_le (T := T) hw.2
    show ∃ g', _ = some (some (vi (nI (if tK T n (tS T n p) = 2 then _ else _ : Nat × LnS).1)), g') ∧ PSt g' T n (if tK T n (tS T n p) = 2 then _ else _ : Nat × LnS).2 ∧ _
    by_cases q : tK T n (tS T n p) = 2
    · rw [if_pos q]
      obtain ⟨x6, x5⟩ := hL.2.2.2.2.1 q
      obtain ⟨wn, wl⟩ := tK_2 q
      have nl := nuF_lt (T := T) (w := tS T n p) wl (fun i hi => (hT.2 _ (by omega)).1)
      have wg := tE_gt (T := T) wn
      have x3 := hL.2.1
      have x4 := hL.1
      have I := fun g => isIn_nnn g (x := nuF T (tS T n p) (tE T n (tS T n p) - tS T n p)) (lo := lo) (hi := hi) (by omega) (by omega) (by omega)
      -- the next token
      have adv : ∀ g1 f1 pl1, g1.1 8 0 8 = nI 0 → LkM g1 T n (tS T n p) → f1 ≤ 6 → g1.1 33 0 5 = nI f1 → g1.1 33 0 6 = plI f1 pl1 → TapM g1 n T → (f1 ≠ 0 → pl1 < tE T n (tS T n p)) → ∃ g2, pm_ev (162, 0, [vr 8 0, none, none, none], [], g1) = some (none, g2) ∧ PSt g2 T n (.inr (tE T n (tS T n p), f1, pl1)) ∧ frL g1 g2 := fun g1 f1 pl1 a8 aL af a5 a6 hT1 hpl => by
        obtain ⟨g2, e2, f2, l2⟩ := advance_M hn _ (tE T n (tS T n p)) g1 rfl he.2 hT1 aL.2.1
        exact ⟨g2, e2, ⟨(f2.1 8 0 8 (by omega)).trans a8, l2, he.2, af, (f2.1 33 0 5 (by omega)).trans a5, (f2.1 33 0 6 (by omega)).trans a6, hpl⟩, f2.L⟩
      rw [E_X9_numbered, h8, if_pos (by rfl), x5, if_pos (by rfl), x6, I, cI_s]
      generalize hv : nuF T (tS T n p) (tE T n (tS T n p) - tS T n p) = v at *
      by_cases q2 : lo ≤ v ∧ v ≤ hi
      · rw [if_pos q2, decide_eq_true q2.1, decide_eq_true q2.2, if_neg (by decide), E_X9_numbered_44]
        obtain ⟨g2, e2, P2, f2⟩ := adv g f pl h8 hL hf h5 h6 hT (fun z => by have := h7 z; omega)
        refine ⟨g2, ?_, P2, f2⟩
        rw [e2, cV_s, I, cI_s, decide_eq_true q2.1, decide_eq_true q2.2, E_X9_numbered_54, if_neg (by decide)]
      · have b : (decide (lo ≤ v) && decide (v ≤ hi)) = false := by
          rw [← Bool.decide_and]; exact decide_eq_false q2
        rw [if_neg q2, b, if_pos (by rfl), x4]
        obtain ⟨g1, e1, a5, a6, a7, f1⟩ := also_M (k := 2) (w := tS T n p) h8 h5 h6 hf (by decide) (by decide) (by omega) (fun z => by have := h7 z; omega)
        obtain ⟨g2, e2, P2, f2⟩ := adv g1 _ _ ((f1.1 8 0 8 (by omega)).trans h8) (hL.fr (fun x _ _ => f1.1 8 0 x (by omega))) a7 a5 a6 (hT.frL f1.L) (fun z => by
          unfold nt1 at z ⊢
          split
          · exact wg
          · rename_i q3
            rw [if_neg q3] at z
            have := h7 z
            omega)
        refine ⟨g2, ?_, P2, f1.L.tr f2⟩
        rw [show (2 : Int32) = nI 2 from rfl, e1, cV_s, E_X9_numbered_44, e2, cV_s, I, cI_s, b, E_X9_numbered_54, if_pos (by rfl)]
    · rw [if_neg q]
      obtain ⟨g', e, p', f'⟩ := ends_M hP
      refine ⟨g', ?_, p', f'⟩
      have n5 : ¬ g.1 8 0 5 = 1 := by
        have k4 : tK T n (tS T n p) ≤ 4 := by
          unfold tK
          repeat' split
          all_goals omega
        obtain ⟨_, _, y0, y1, _, y3, y4⟩ := hL
        have : tK T n (tS T n p) = 0 ∨ tK T n (tS T n p) = 1 ∨ tK T n (tS T n p) = 3 ∨ tK T n (tS T n p) = 4 := by omega
        rcases this with z | z | z | z
        · rw [y0 z]; decide
        · rw [(y1 z).2]; split <;> decide
        · rw [y3 z]; decide
        · rw [y4 z]; decide
      rw [E_X9_numbered, h8, if_pos (by rfl), if_neg n5, e, cV_s]
/-- a word of the sort, or not -/
theorem takes_M {g : PH} {T : Nat → Nat} {n p f pl s : Nat} (hn : n ≤ 600) (hs : s < 3) (hT : TapM g n T) (hP : PSt g T n (.inr (p, f, pl))) :
    (∀ q, tK T n (tS T n p) = 1 → wdC T s (tS T n p) (tE T n (tS T n p)) = some q → ∃ g', pm_ev (166, 0, [vr 8 0, vi (nI (loR s)), vi (nI (hiR s)), none], [], g) = some (some (vi (nI (rcW q))), g') ∧ PSt g' T n (.inr (tE T n (tS T n p), f, pl)) ∧ frL g g') ∧
    (¬ (tK T n (tS T n p) = 1 ∧ ∃ q, wdC T s (tS T n p) (tE T n (tS T n p)) = some q) → ∃ g', pm_ev (166, 0, [vr 8 0, vi (nI (loR s)), vi (nI (hiR s)), none], [], g) = some (some (vi (nI 0)), g') ∧ PSt g' T n (.inl (tS T n p)) ∧ frL g g') := by
  obtain ⟨h8, hL, hp, hf, h5, h6, h7⟩ := id hP
  have hw := tS_le (T := T) hp
  have he := tE_le (T := T) hw.2
  have lr : loR s ≤ 17 ∧ hiR s ≤ 20 := by
    unfold loR hiR
    constructor
    · repeat' split
      all_goals omega
    · repeat' split
      all_goals omega
  have let1 : tK T n (tS T n p) = 1 → ∀ i, tS T n p ≤ i → i < tE T n (tS T n p) → isL (T i) = true := fun z i h1 h2 => by
    unfold tK at z
    split at z
    · rename_i q0
      split at z
      · rename_i q1
        unfold tE at h2
        rw [if_pos q0, if_pos q1] at h2
        exact run_in (P := fun i => isL (T i)) (n := n) _ _ rfl i h1 h2
      · split at z
        · split at z <;> omega
        · split at z <;> omega
    · omega
  have wl : ∀ w e, wcM T w e ≤ 99 := fun w e => by
    unfold wcM
    split
    · exact wcv_le _
    · omega
  have lo1 : 1 ≤ loR s := by
    unfold loR
    repeat' split
    all_goals omega
  constructor
  · intro q k1 hq
    obtain ⟨x7, x5⟩ := hL.2.2.2.1 k1
    obtain ⟨a1, a2, a3⟩ := (wd_wc hs (let1 k1)).1 q hq
    have rng : loR s ≤ rcW q ∧ rcW q ≤ hiR s ∧ rcW q ≠ 99 := by
      have : s = 0 ∨ s = 1 ∨ s = 2 := by omega
      rcases this with z | z | z <;> subst z
      · have a1 : 0 ≤ q := a1
        have a2 : q < 12 := a2
        show 1 ≤ rcW q ∧ rcW q ≤ 12 ∧ rcW q ≠ 99
        unfold rcW
        repeat' split
        all_goals omega
      · have a1 : 12 ≤ q := a1
        have a2 : q < 16 := a2
        show 17 ≤ rcW q ∧ rcW q ≤ 20 ∧ rcW q ≠ 99
        unfold rcW
        repeat' split
        all_goals omega
      · have a1 : 16 ≤ q := a1
        have a2 : q < 21 := a2
        show 12 ≤ rcW q ∧ rcW q ≤ 16 ∧ rcW q ≠ 99
        unfold rcW
        repeat' split
        all_goals omega
    rw [a3] at x7 x5
    rw [if_neg rng.2.2] at x5
    have wn : tS T n p < n := by
      unfold tK at k1
      split at k1
      · assumption
      · omega
    have wg := tE_gt (T := T) wn
    have I := isIn_nnn g (x := rcW q) (lo := loR s) (hi := hiR s) (by omega) (by omega) (by omega)
    rw [decide_eq_true rng.1, decide_eq_true rng.2.1] at I
    obtain ⟨g2, e2, f2, l2⟩ := advance_M hn _ (tE T n (tS T n p)) g rfl he.2 hT hL.2.1
    refine ⟨g2, ?_, ⟨(f2.1 8 0 8 (by omega)).trans h8, l2, he.2, hf, (f2.1 33 0 5 (by omega)).trans h5, (f2.1 33 0 6 (by omega)).trans h6, fun z => by have := h7 z; omega⟩, f2.L⟩
    rw [E_X9_takes, h8, if_pos (by rfl), x5, if_pos (by rfl), x7, I, cI_s, if_neg (by decide), e2, cV_s, E_X9_takes_42, x7]
  · intro nq
    obtain ⟨g', e, p', f'⟩ := ends_M hP
    refine ⟨g', ?_, p', f'⟩
    rw [E_X9_takes, h8, if_pos (by rfl)]
    by_cases q3 : g.1 8 0 5 = 3
    · have k1 : tK T n (tS T n p) = 1 := by
        have k4 : tK T n (tS T n p) ≤ 4 := by
          unfold tK
          repeat' split
          all_goals omega
        obtain ⟨_, _, y0, y1, y2, y3, y4⟩ := hL
        have : tK T n (tS T n p) = 0 ∨ tK T n (tS T n p) = 1 ∨ tK T n (tS T n p) = 2 ∨ tK T n (tS T n p) = 3 ∨ tK T n (tS T n p) = 4 := by omega
        rcases this with z | z | z | z | z
        · rw [y0 z] at q3; exact absurd q3 (by decide)
        · exact z
        · rw [(y2 z).2] at q3; exact absurd q3 (by decide)
        · rw [y3 z] at q3; exact absurd q3 (by decide)
        · rw [y4 z] at q3; exact absurd q3 (by decide)
      obtain ⟨x7, x5⟩ := hL.2.2.2.1 k1
      have no : wdC T s (tS T n p) (tE T n (tS T n p)) = none := by
        cases z : wdC T s (tS T n p) (tE T n (tS T n p)) with
        | none => rfl
        | some q => exact absurd ⟨k1, q, z⟩ nq
      have nr := (wd_wc hs (let1 k1)).2 no
      have I := isIn_nnn g (x := wcM T (tS T n p) (tE T n (tS T n p))) (lo := loR s) (hi := hiR s) (by have := wl (tS T n p) (tE T n (tS T n p)); omega) (by omega) (by omega)
      rw [← Bool.decide_and, decide_eq_false nr] at I
      rw [q3, if_pos (by rfl), x7, I, cI_s, if_pos (by rfl), e, cV_s, E_X9_takes_31]
      rfl
    · rw [if_neg q3, e, cV_s, E_X9_takes_31]
      rfl
theorem endsLine_M {g : PH} {T : Nat → Nat} {n : Nat} {σ : LnS} (hn : n ≤ 600) (hT : TapM g n T) (hP : PSt g T n σ) : ∃ g', pm_ev (167, 0, [vr 8 0], [], g) = some (none, g') ∧ PSt g' T n (aEnd T n σ) ∧ frL g g' := by
  cases σ with
  | inl w =>
    obtain ⟨g', e, p', f⟩ := ends_M hP
    obtain ⟨h8, h5, h6⟩ := hP
    refine ⟨g', ?_, p', f⟩
    rw [E_X9_endsLine, h8, if_neg (by decide), e, cV_s]
  | inr x =>
    obtain ⟨p, f, pl⟩ := x
    obtain ⟨h8, hL, hp, hf, h5, h6, h7⟩ := id hP
    have hw := tS_le (T := T) hp
    have he := tE_le (T := T) hw.2
    show ∃ g', _ ∧ PSt g' T n (if tK T n (tS T n p) = 3 then .inr (tE T n (tS T n p), f, pl) else .inl (tS T n p)) ∧ _
    by_cases q : tK T n (tS T n p) = 3
    · rw [if_pos q]
      have x5 := hL.2.2.2.2.2.1 q
      have wn : tS T n p < n := by
        unfold tK at q
        split at q
        · assumption
        · omega
      have wg := tE_gt (T := T) wn
      obtain ⟨g2, e2, f2, l2⟩ := advance_M hn _ (tE T n (tS T n p)) g rfl he.2 hT hL.2.1
      refine ⟨g2, ?_, ⟨(f2.1 8 0 8 (by omega)).trans h8, l2, he.2, hf, (f2.1 33 0 5 (by omega)).trans h5, (f2.1 33 0 6 (by omega)).trans h6, fun z => by have := h7 z; omega⟩, f2.L⟩
      rw [E_X9_endsLine, h8, if_pos (by rfl), x5, if_pos (by rfl), e2, cV_s]
    · rw [if_neg q]
      obtain ⟨g', e, p', f'⟩ := ends_M hP
      refine ⟨g', ?_, p', f'⟩
      have n5 : ¬ g.1 8 0 5 = 2 := by
        have k4 : tK T n (tS T n p) ≤ 4 := by
          unfold tK
          repeat' split
          all_goals omega
        obtain ⟨_, _, y0, y1, y2, _, y4⟩ := hL
        have : tK T n (tS T n p) = 0 ∨ tK T n (tS T n p) = 1 ∨ tK T n (tS T n p) = 2 ∨ tK T n (tS T n p) = 4 := by omega
        rcases this with z | z | z | z
        · rw [y0 z]; decide
        · rw [(y1 z).2]; split <;> decide
        · rw [(y2 z).2]; decide
        · rw [y4 z]; decide
      rw [E_X9_endsLine, h8, if_pos (by rfl), if_neg n5, e, cV_s]
