/-! ===== all that is told, and its images =====
a told thing of the class has number t (0 now, k + 1 the image k); the reference's table is shifted by vM -/
def RC (h : PH) (t : Nat) (g : PH) : Prop := ∃ nc : Nat, nc ≤ 2 ∧ h.1 27 t 0 = nI nc ∧ g.1 33 0 0 = nI nc ∧ ∀ k, k < nc → ∃ c, cV c ∧ CoastC h (k + (2*t+0)) c ∧ CoastMs g (610 + 142 * k) c ∧ CoastMd g (610 + 142 * k) c
def RN (h : PH) (t : Nat) (g : PH) : Prop := ∃ nn : Nat, nn ≤ 2 ∧ h.1 27 t 1 = nI nn ∧ g.1 33 0 1 = nI nn ∧ ∀ k, k < nn → ∃ n, nV n ∧ NightC h (k + (2*t+0)) n ∧ NightM g (894 + 161 * k) n
def RL (h : PH) (t : Nat) (g : PH) : Prop := ∃ nl : Nat, nl ≤ 2 ∧ h.1 27 t 2 = nI nl ∧ g.1 33 0 2 = nI nl ∧ ∀ k, k < nl → ∃ l, lV l ∧ LogC h (k + (2*t+0)) l ∧ LogM g (1216 + 30 * k) l
def RT (h : PH) (t : Nat) (g : PH) : Prop := ∃ len : Nat, len ≤ 600 ∧ h.1 6 t 1 = nI len ∧ g.1 33 0 4 = nI len ∧ (∀ k, k < len → ∃ b, b < 256 ∧ h.1 26 t k = nI b ∧ g.1 33 0 (10 + k) = nI b) ∧ h.1 6 t 2 = g.1 33 0 5 ∧ h.1 6 t 3 = g.1 33 0 6
def RR (h : PH) (t : Nat) (g : PH) : Prop := RC h t g ∧ RN h t g ∧ RL h t g ∧ RT h t g
theorem RC_now {h : PH} (r : RC h 0 h) : NowC h := r
theorem RN_now {h : PH} (r : RN h 0 h) : NowN h := r
theorem RL_now {h : PH} (r : RL h 0 h) : NowL h := r
def vM (h : PH) (t : Nat) : PH := (fun a b c => if a = 33 then h.1 33 b (1276 * t + c) else h.1 a b c, h.2)
theorem vM_33 (h : PH) (t b c : Nat) : (vM h t).1 33 b c = h.1 33 b (1276 * t + c) := by
  show (if (33 : Nat) = 33 then h.1 33 b (1276 * t + c) else h.1 33 b c) = _
  rw [if_pos rfl]
theorem CoastMs.frb {h h' : PH} {a : Nat} {c : AC} (hv : cV c) (he : ∀ k, k < 142 → h'.1 33 0 (a+k) = h.1 33 0 (a+k)) (hm : CoastMs h a c) : CoastMs h' a c := by
  have hV1 := hv.1
  obtain ⟨⟨m0, m1, m2, m3, m4, m5, ha⟩, m6, m7, m8⟩ := hm
  refine ⟨⟨(he 0 (by decide)).trans m0, (he 1 (by decide)).trans m1, (he 2 (by decide)).trans m2, (he 3 (by decide)).trans m3, (he 4 (by decide)).trans m4, (he 5 (by decide)).trans m5, ha⟩, fun g hg => ?_, fun s hs => ?_, fun x y hx hy => ?_⟩
  · have h1 := he (6+2*g) (by omega)
    have h2 := he (6+2*g+1) (by omega)
    rw [← Nat.add_assoc] at h1
    rw [← Nat.add_assoc, ← Nat.add_assoc] at h2
    rw [h1, h2]; exact m6 g hg
  · have h1 := he (14+4*s+2) (by omega)
    have h2 := he (14+4*s+3) (by omega)
    rw [← Nat.add_assoc, ← Nat.add_assoc] at h1 h2
    rw [h1, h2]; exact m7 s hs
  · have hl := (cell_lt hv hx hy).2
    have h1 := he (78+((c (0)).val*y+x)) (by omega)
    rw [← Nat.add_assoc] at h1
    rw [h1]; exact m8 x y hx hy
theorem CoastMd.frb {h h' : PH} {a : Nat} {c : AC} (hv : cV c) (he : ∀ k, k < 142 → h'.1 33 0 (a+k) = h.1 33 0 (a+k)) (hm : CoastMd h a c) : CoastMd h' a c := by
  have hV1 := hv.1
  intro s hs
  obtain ⟨⟨m0, m1⟩, m2⟩ := hm s hs
  have v5 := (hv.2.2.1 s hs).2.2.2.2.1
  have h1 := he (14+4*s+0) (by omega)
  have h2 := he (14+4*s+1) (by omega)
  rw [← Nat.add_assoc, ← Nat.add_assoc] at h1 h2
  refine ⟨⟨h1.trans m0, h2.trans m1⟩, fun k hk => ?_⟩
  have e1 := he (30+(12*s+3*k)) (by omega)
  have e2 := he (30+(12*s+3*k+1)) (by omega)
  have e3 := he (30+(12*s+3*k+2)) (by omega)
  rw [← Nat.add_assoc] at e1 e2 e3
  rw [e1, e2, e3]
  exact m2 k hk
theorem NightM.frb {h h' : PH} {a : Nat} {n : AC} (hv : nV n) (he : ∀ k, k < 161 → h'.1 33 0 (a+k) = h.1 33 0 (a+k)) (hm : NightM h a n) : NightM h' a n := by
  have hv0 := hv.1
  obtain ⟨⟨m0, ha⟩, m1⟩ := hm
  refine ⟨⟨(he 0 (by decide)).trans m0, ha⟩, fun k hk => ?_⟩
  have e1 := he (1+4*k) (by omega)
  have e2 := he (2+4*k) (by omega)
  have e3 := he (3+4*k) (by omega)
  have e4 := he (4+4*k) (by omega)
  rw [← Nat.add_assoc] at e1 e2 e3 e4
  rw [e1, e2, e3, e4]
  exact m1 k hk
theorem LogM.frb {h h' : PH} {a : Nat} {l : AC} (hv : lV l) (he : ∀ k, k < 30 → h'.1 33 0 (a+k) = h.1 33 0 (a+k)) (hm : LogM h a l) : LogM h' a l := by
  have hV1 := hv.1
  obtain ⟨⟨m0, m1, m2, m3, ha⟩, m4, m5⟩ := hm
  refine ⟨⟨(he 0 (by decide)).trans m0, (he 1 (by decide)).trans m1, (he 2 (by decide)).trans m2, (he 3 (by decide)).trans m3, ha⟩, fun k hk => ?_, fun k hk => ?_⟩
  · have e1 := he (4+k) (by omega)
    rw [← Nat.add_assoc] at e1
    rw [e1]; exact m4 k hk
  · have e1 := he (10+2*k) (by omega)
    have e2 := he (11+2*k) (by omega)
    rw [← Nat.add_assoc] at e1 e2
    rw [e1, e2]; exact m5 k hk
/-- what is told goes over from t to t' -/
theorem RR.mv {h h' g g' : PH} {t t' : Nat} (hC : ∀ k, k < 2 → ∀ c, cV c → CoastC h (k + (2*t+0)) c → CoastC h' (k + (2*t'+0)) c) (hN : ∀ k, k < 2 → ∀ n, nV n → NightC h (k + (2*t+0)) n → NightC h' (k + (2*t'+0)) n) (hL : ∀ k, k < 2 → ∀ l, lV l → LogC h (k + (2*t+0)) l → LogC h' (k + (2*t'+0)) l)
    (h27 : ∀ k, k < 3 → h'.1 27 t' k = h.1 27 t k) (h6 : ∀ k, 1 ≤ k → k ≤ 3 → h'.1 6 t' k = h.1 6 t k) (h26 : ∀ k, k < 600 → h'.1 26 t' k = h.1 26 t k) (g33 : ∀ k, k < 1276 → g'.1 33 0 k = g.1 33 0 k) (r : RR h t g) : RR h' t' g' := by
  obtain ⟨⟨nc, c1, c2, c3, c4⟩, ⟨nn, n1, n2, n3, n4⟩, ⟨nl, l1, l2, l3, l4⟩, ⟨len, t1, t2, t3, t4, t5, t6⟩⟩ := r
  refine ⟨⟨nc, c1, (h27 0 (by decide)).trans c2, (g33 0 (by decide)).trans c3, fun k hk => ?_⟩, ⟨nn, n1, (h27 1 (by decide)).trans n2, (g33 1 (by decide)).trans n3, fun k hk => ?_⟩, ⟨nl, l1, (h27 2 (by decide)).trans l2, (g33 2 (by decide)).trans l3, fun k hk => ?_⟩, ⟨len, t1, (h6 1 (by decide) (by decide)).trans t2, (g33 4 (by decide)).trans t3, fun k hk => ?_, ?_, ?_⟩⟩
  · obtain ⟨c, x1, x2, x3, x4⟩ := c4 k hk
    exact ⟨c, x1, hC k (by omega) c x1 x2, x3.frb x1 (fun i hi => g33 _ (by omega)), x4.frb x1 (fun i hi => g33 _ (by omega))⟩
  · obtain ⟨n, x1, x2, x3⟩ := n4 k hk
    exact ⟨n, x1, hN k (by omega) n x1 x2, x3.frb x1 (fun i hi => g33 _ (by omega))⟩
  · obtain ⟨l, x1, x2, x3⟩ := l4 k hk
    exact ⟨l, x1, hL k (by omega) l x1 x2, x3.frb x1 (fun i hi => g33 _ (by omega))⟩
  · obtain ⟨b, x1, x2, x3⟩ := t4 k hk
    exact ⟨b, x1, (h26 k (by omega)).trans x2, (g33 _ (by omega)).trans x3⟩
  · rw [h6 2 (by decide) (by decide), g33 5 (by decide)]; exact t5
  · rw [h6 3 (by decide) (by decide), g33 6 (by decide)]; exact t6
/-- the cells of a told thing of the class -/
def toT (o t i : Nat) : Bool := (i == o && (t == 6 || t == 26 || t == 27)) || ((i == 2*o || i == 2*o+1) && (t == 0 || t == 2 || t == 3 || (Nat.ble 10 t && Nat.ble t 23)))
theorem RR.keep {h h' g g' : PH} {t : Nat} {T : Nat → Nat → Bool} (hf : Fr T h h') (hT : ∀ a i, T a i = true → toT t a i = false) (g33 : ∀ k, k < 1276 → g'.1 33 0 k = g.1 33 0 k) (r : RR h t g) : RR h' t g' := by
  have nT : ∀ a i, toT t a i = true → T a i = false := fun a i e => by
    cases q : T a i
    · rfl
    · rw [hT a i q] at e; cases e
  have co : ∀ a k, k < 2 → (a = 0 ∨ a = 2 ∨ a = 3 ∨ (10 ≤ a ∧ a ≤ 23)) → T a (k + (2*t+0)) = false := fun a k hk ha => nT _ _ (by
    unfold toT
    have e1 : ((k + (2*t+0)) == 2*t || (k + (2*t+0)) == 2*t+1) = true := by
      have : k = 0 ∨ k = 1 := by omega
      rcases this with e | e <;> subst e <;> simp <;> omega
    rw [e1, Bool.true_and]
    rcases ha with e | e | e | e
    · subst e; simp
    · subst e; simp
    · subst e; simp
    · rw [Nat.ble_eq_true_of_le e.1, Nat.ble_eq_true_of_le e.2]; simp)
  have o6 : ∀ a, (a = 6 ∨ a = 26 ∨ a = 27) → T a t = false := fun a ha => nT _ _ (by unfold toT; rcases ha with e | e | e <;> subst e <;> simp)
  refine r.mv (fun k hk c _ x => x.fr (fun a i h1 h2 => (hf a _ (co a k hk (by omega)) i).1) ((hf 0 _ (co 0 k hk (by omega)) 4).2)) (fun k hk n _ x => x.fr (fun i => (hf 3 _ (co 3 k hk (by omega)) i).1) (fun i => (hf 22 _ (co 22 k hk (by omega)) i).1) (fun i => (hf 23 _ (co 23 k hk (by omega)) i).1)) (fun k hk l _ x => x.fr (fun i => (hf 2 _ (co 2 k hk (by omega)) i).1) (fun i => (hf 19 _ (co 19 k hk (by omega)) i).1) (fun i => (hf 20 _ (co 20 k hk (by omega)) i).1) (fun i => (hf 21 _ (co 21 k hk (by omega)) i).1)) (fun k _ => (hf 27 t (o6 27 (by omega)) k).1) (fun k _ _ => (hf 6 t (o6 6 (by omega)) k).1) (fun k _ => (hf 26 t (o6 26 (by omega)) k).1) g33
/-- the invariant of a run of calls -/
def Inv (h : PH) : Prop := RR h 0 h ∧ ∀ k, k < 3 → ∃ b : Bool, h.1 32 0 k = bI b ∧ h.1 34 0 k = bI b ∧ (b = true → RR h (k + 1) (vM h (k + 1)))
def rest44 (h h' : PH) : Prop := ∀ t i k, 44 ≤ t → h'.1 t i k = h.1 t i k ∧ h'.2 t i k = h.2 t i k
theorem scB_toT {t a i : Nat} (ht : t ≤ 3) (h : scB a i = true) : toT t a i = false := by
  cases q : toT t a i
  · rfl
  · exfalso
    unfold toT at q
    unfold scB scM scC at h
    simp only [Bool.or_eq_true, Bool.and_eq_true, beq_iff_eq] at q h
    have b1 : ∀ x y, Nat.ble x y = true → x ≤ y := fun x y z => Nat.le_of_ble_eq_true z
    rcases q with ⟨q1, q2⟩ | ⟨q1, q2⟩
    · rcases h with (h | h) | h
      · omega
      · have := b1 _ _ h.1; have := b1 _ _ h.2; omega
      · rcases h with ((((h | h) | h) | h) | h) | h
        · omega
        · omega
        · omega
        · omega
        · omega
        · rcases h.2 with (h2 | h2) | h2
          · rcases h2 with h2 | h2 <;> omega
          · omega
          · have := b1 _ _ h2.1; have := b1 _ _ h2.2; omega
    · rcases h with (h | h) | h
      · rcases q2 with ((q2 | q2) | q2) | q2
        · omega
        · omega
        · omega
        · have := b1 _ _ q2.1; omega
      · have := b1 _ _ h.1
        rcases q2 with ((q2 | q2) | q2) | q2
        · omega
        · omega
        · omega
        · have := b1 _ _ q2.2; omega
      · rcases h with ((((h | h) | h) | h) | h) | h
        · rcases q2 with ((q2 | q2) | q2) | q2
          · omega
          · omega
          · omega
          · have := b1 _ _ q2.1; omega
        · rcases q2 with ((q2 | q2) | q2) | q2
          · omega
          · omega
          · omega
          · have := b1 _ _ q2.1; omega
        · rcases q2 with ((q2 | q2) | q2) | q2
          · omega
          · omega
          · omega
          · have := b1 _ _ q2.1; omega
        · rcases q2 with ((q2 | q2) | q2) | q2
          · omega
          · omega
          · omega
          · have := b1 _ _ q2.2; omega
        · rcases q2 with ((q2 | q2) | q2) | q2
          · omega
          · omega
          · omega
          · have := b1 _ _ q2.2; omega
        · have := b1 _ _ h.1; omega
theorem Inv.fr {h h' : PH} (hf : Fr scB h h') (hI : Inv h) : Inv h' := by
  obtain ⟨r0, rk⟩ := hI
  refine ⟨r0.keep hf (fun a i e => scB_toT (by decide) e) (fun k _ => (hf 33 0 rfl k).1), fun k hk => ?_⟩
  obtain ⟨b, b1, b2, b3⟩ := rk k hk
  exact ⟨b, ((hf 32 0 rfl k).1).trans b1, ((hf 34 0 rfl k).1).trans b2, fun q => (b3 q).keep hf (fun a i e => scB_toT (by omega) e) (fun i _ => by rw [vM_33, vM_33]; exact (hf 33 0 rfl _).1)⟩
theorem rest_scB {h h' : PH} (hf : Fr scB h h') : rest44 h h' := fun t i k ht => hf t i (by
  unfold scB scM scC
  have e1 : Nat.ble t 43 = false := by
    cases q : Nat.ble t 43
    · rfl
    · have := Nat.le_of_ble_eq_true q; omega
  have e2 : Nat.ble t 23 = false := by
    cases q : Nat.ble t 23
    · rfl
    · have := Nat.le_of_ble_eq_true q; omega
  rw [e1, e2]
  have n : ∀ x, x < 44 → (t == x) = false := fun x hx => by rw [beq_eq_false_iff_ne]; omega
  rw [n 8 (by decide), n 1 (by decide), n 4 (by decide), n 5 (by decide), n 24 (by decide), n 25 (by decide), n 0 (by decide), n 2 (by decide), n 3 (by decide)]
  simp) k
/-- both answer alike, and the invariant stays -/
def SameI (σC σM : PH → PS) (h : PH) : Prop := ∃ v h1 h2, pm_ev (σC h) = some (some v, h1) ∧ pm_ev (σM h1) = some (some v, h2) ∧ Inv h2 ∧ rest44 h h2 ∧ rest44 h h1
theorem Same2.toI {σC σM : PH → PS} {h : PH} (hI : Inv h) (hs : Same2 σC σM h) : SameI σC σM h := by
  obtain ⟨v, h1, h2, e1, e2, f1, f2⟩ := hs
  have f := f1.cB.tr f2.mB
  exact ⟨v, h1, h2, e1, e2, hI.fr f, rest_scB f, rest_scB f1.cB⟩
