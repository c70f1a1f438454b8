/-! ===== text: both answer alike ===== -/
theorem RC_keep {h h2 : PH} (r : RC h 0 h) (h27 : h2.1 27 0 0 = h.1 27 0 0) (h33 : h2.1 33 0 0 = h.1 33 0 0) (f : ∀ t i, i < 2 → (t = 0 ∨ (10 ≤ t ∧ t ≤ 18)) → ∀ x, h2.1 t i x = h.1 t i x ∧ h2.2 t i x = h.2 t i x) (g : ∀ x, 610 ≤ x → x < 894 → h2.1 33 0 x = h.1 33 0 x) : RC h2 0 h2 := by
  obtain ⟨nc, c1, c2, c3, c4⟩ := r
  refine ⟨nc, c1, h27.trans c2, h33.trans c3, fun k hk => ?_⟩
  obtain ⟨c, x1, x2, x3, x4⟩ := c4 k hk
  exact ⟨c, x1, x2.fr (fun t i h1 h2 => (f t _ (by omega) (by omega) i).1) (f 0 _ (by omega) (by omega) 4).2, x3.frb x1 (fun i hi => g _ (by omega) (by omega)), x4.frb x1 (fun i hi => g _ (by omega) (by omega))⟩
theorem RN_keep {h h2 : PH} (r : RN h 0 h) (h27 : h2.1 27 0 1 = h.1 27 0 1) (h33 : h2.1 33 0 1 = h.1 33 0 1) (f : ∀ t i, i < 2 → (t = 3 ∨ t = 22 ∨ t = 23) → ∀ x, h2.1 t i x = h.1 t i x ∧ h2.2 t i x = h.2 t i x) (g : ∀ x, 894 ≤ x → x < 1216 → h2.1 33 0 x = h.1 33 0 x) : RN h2 0 h2 := by
  obtain ⟨nc, c1, c2, c3, c4⟩ := r
  refine ⟨nc, c1, h27.trans c2, h33.trans c3, fun k hk => ?_⟩
  obtain ⟨c, x1, x2, x3⟩ := c4 k hk
  exact ⟨c, x1, x2.fr (fun i => (f 3 _ (by omega) (by omega) i).1) (fun i => (f 22 _ (by omega) (by omega) i).1) (fun i => (f 23 _ (by omega) (by omega) i).1), x3.frb x1 (fun i hi => g _ (by omega) (by omega))⟩
theorem RL_keep {h h2 : PH} (r : RL h 0 h) (h27 : h2.1 27 0 2 = h.1 27 0 2) (h33 : h2.1 33 0 2 = h.1 33 0 2) (f : ∀ t i, i < 2 → (t = 2 ∨ (19 ≤ t ∧ t ≤ 21)) → ∀ x, h2.1 t i x = h.1 t i x ∧ h2.2 t i x = h.2 t i x) (g : ∀ x, 1216 ≤ x → x < 1276 → h2.1 33 0 x = h.1 33 0 x) : RL h2 0 h2 := by
  obtain ⟨nc, c1, c2, c3, c4⟩ := r
  refine ⟨nc, c1, h27.trans c2, h33.trans c3, fun k hk => ?_⟩
  obtain ⟨c, x1, x2, x3⟩ := c4 k hk
  exact ⟨c, x1, x2.fr (fun i => (f 2 _ (by omega) (by omega) i).1) (fun i => (f 19 _ (by omega) (by omega) i).1) (fun i => (f 20 _ (by omega) (by omega) i).1) (fun i => (f 21 _ (by omega) (by omega) i).1), x3.frb x1 (fun i hi => g _ (by omega) (by omega))⟩
theorem RC_put {h h2 : PH} {k m : Nat} {c : AC} (r : RC h 0 h) (hk : k < 2) (hkm : k ≤ m) (hm : m ≤ 2) (hm27 : h.1 27 0 0 = nI m) (h27 : h2.1 27 0 0 = nI (max m (k + 1))) (h33 : h2.1 33 0 0 = nI (max m (k + 1))) (f : ∀ t i, i < 2 → i ≠ k → (t = 0 ∨ (10 ≤ t ∧ t ≤ 18)) → ∀ x, h2.1 t i x = h.1 t i x ∧ h2.2 t i x = h.2 t i x) (g : ∀ x, 610 ≤ x → x < 894 → ¬ (610+142*k ≤ x ∧ x < 610+142*k+142) → h2.1 33 0 x = h.1 33 0 x) (v1 : cV c) (v2 : CoastC h2 k c) (v3 : CoastMs h2 (610+142*k) c) (v4 : CoastMd h2 (610+142*k) c) : RC h2 0 h2 := by
  obtain ⟨nc, c1, c2, c3, c4⟩ := r
  have e : nc = m := (nn_eq (by omega) (by omega)).mp (c2.symm.trans hm27)
  subst e
  refine ⟨max nc (k + 1), by omega, h27, h33, fun j hj => ?_⟩
  by_cases q : j = k
  · subst q
    exact ⟨c, v1, v2, v3, v4⟩
  · obtain ⟨c, x1, x2, x3, x4⟩ := c4 j (by omega)
    exact ⟨c, x1, x2.fr (fun t i h1 h2 => (f t _ (by omega) (by omega) (by omega) i).1) (f 0 _ (by omega) (by omega) (by omega) 4).2, x3.frb x1 (fun i hi => g _ (by omega) (by omega) (by omega)), x4.frb x1 (fun i hi => g _ (by omega) (by omega) (by omega))⟩
theorem RN_put {h h2 : PH} {k m : Nat} {c : AC} (r : RN h 0 h) (hk : k < 2) (hkm : k ≤ m) (hm : m ≤ 2) (hm27 : h.1 27 0 1 = nI m) (h27 : h2.1 27 0 1 = nI (max m (k + 1))) (h33 : h2.1 33 0 1 = nI (max m (k + 1))) (f : ∀ t i, i < 2 → i ≠ k → (t = 3 ∨ t = 22 ∨ t = 23) → ∀ x, h2.1 t i x = h.1 t i x ∧ h2.2 t i x = h.2 t i x) (g : ∀ x, 894 ≤ x → x < 1216 → ¬ (894+161*k ≤ x ∧ x < 894+161*k+161) → h2.1 33 0 x = h.1 33 0 x) (v1 : nV c) (v2 : NightC h2 k c) (v3 : NightM h2 (894+161*k) c) : RN h2 0 h2 := by
  obtain ⟨nc, c1, c2, c3, c4⟩ := r
  have e : nc = m := (nn_eq (by omega) (by omega)).mp (c2.symm.trans hm27)
  subst e
  refine ⟨max nc (k + 1), by omega, h27, h33, fun j hj => ?_⟩
  by_cases q : j = k
  · subst q
    exact ⟨c, v1, v2, v3⟩
  · obtain ⟨c, x1, x2, x3⟩ := c4 j (by omega)
    exact ⟨c, x1, x2.fr (fun i => (f 3 _ (by omega) (by omega) (by omega) i).1) (fun i => (f 22 _ (by omega) (by omega) (by omega) i).1) (fun i => (f 23 _ (by omega) (by omega) (by omega) i).1), x3.frb x1 (fun i hi => g _ (by omega) (by omega) (by omega))⟩
theorem RL_put {h h2 : PH} {k m : Nat} {c : AC} (r : RL h 0 h) (hk : k < 2) (hkm : k ≤ m) (hm : m ≤ 2) (hm27 : h.1 27 0 2 = nI m) (h27 : h2.1 27 0 2 = nI (max m (k + 1))) (h33 : h2.1 33 0 2 = nI (max m (k + 1))) (f : ∀ t i, i < 2 → i ≠ k → (t = 2 ∨ (19 ≤ t ∧ t ≤ 21)) → ∀ x, h2.1 t i x = h.1 t i x ∧ h2.2 t i x = h.2 t i x) (g : ∀ x, 1216 ≤ x → x < 1276 → ¬ (1216+30*k ≤ x ∧ x < 1216+30*k+30) → h2.1 33 0 x = h.1 33 0 x) (v1 : lV c) (v2 : LogC h2 k c) (v3 : LogM h2 (1216+30*k) c) : RL h2 0 h2 := by
  obtain ⟨nc, c1, c2, c3, c4⟩ := r
  have e : nc = m := (nn_eq (by omega) (by omega)).mp (c2.symm.trans hm27)
  subst e
  refine ⟨max nc (k + 1), by omega, h27, h33, fun j hj => ?_⟩
  by_cases q : j = k
  · subst q
    exact ⟨c, v1, v2, v3⟩
  · obtain ⟨c, x1, x2, x3⟩ := c4 j (by omega)
    exact ⟨c, x1, x2.fr (fun i => (f 2 _ (by omega) (by omega) (by omega) i).1) (fun i => (f 19 _ (by omega) (by omega) (by omega) i).1) (fun i => (f 20 _ (by omega) (by omega) (by omega) i).1) (fun i => (f 21 _ (by omega) (by omega) (by omega) i).1), x3.frb x1 (fun i hi => g _ (by omega) (by omega) (by omega))⟩
/-- the images stay -/
theorem Inv.mk2 {h h2 : PH} (hI : Inv h) (r0 : RR h2 0 h2) (f : ∀ t i, 2 ≤ i → i ≤ 7 → t ≤ 23 → ∀ x, h2.1 t i x = h.1 t i x ∧ h2.2 t i x = h.2 t i x) (f6 : ∀ t i, 1 ≤ i → i ≤ 3 → (t = 6 ∨ t = 26 ∨ t = 27) → ∀ x, h2.1 t i x = h.1 t i x) (g : ∀ x, 1276 ≤ x → h2.1 33 0 x = h.1 33 0 x) (h32 : ∀ x, h2.1 32 0 x = h.1 32 0 x) (h34 : ∀ x, h2.1 34 0 x = h.1 34 0 x) : Inv h2 := by
  refine ⟨r0, fun k hk => ?_⟩
  obtain ⟨b, b1, b2, b3⟩ := hI.2 k hk
  refine ⟨b, (h32 k).trans b1, (h34 k).trans b2, fun q => (b3 q).mv (fun j hj c _ x => x.fr (fun t i h1 h2 => (f t _ (by omega) (by omega) (by omega) i).1) (f 0 _ (by omega) (by omega) (by omega) 4).2) (fun j hj n _ x => x.fr (fun i => (f 3 _ (by omega) (by omega) (by omega) i).1) (fun i => (f 22 _ (by omega) (by omega) (by omega) i).1) (fun i => (f 23 _ (by omega) (by omega) (by omega) i).1)) (fun j hj l _ x => x.fr (fun i => (f 2 _ (by omega) (by omega) (by omega) i).1) (fun i => (f 19 _ (by omega) (by omega) (by omega) i).1) (fun i => (f 20 _ (by omega) (by omega) (by omega) i).1) (fun i => (f 21 _ (by omega) (by omega) (by omega) i).1)) (fun x _ => f6 27 _ (by omega) (by omega) (by omega) x) (fun x _ _ => f6 6 _ (by omega) (by omega) (by omega) x) (fun x _ => f6 26 _ (by omega) (by omega) (by omega) x) (fun x hx => ?_)⟩
  rw [vM_33, vM_33]
  exact g _ (by omega)
/-- nothing is taken in -/
def frN (h h2 : PH) : Prop := (∀ t i, ¬ (i = 0 ∧ (t = 4 ∨ t = 6 ∨ t = 8 ∨ t = 24 ∨ t = 33 ∨ t = 35)) → ¬ (i = 8 ∧ t ≤ 23) → ∀ x, h2.1 t i x = h.1 t i x ∧ h2.2 t i x = h.2 t i x) ∧ ∀ x, ¬ (4 ≤ x ∧ x ≤ 6) → h2.1 33 0 x = h.1 33 0 x
theorem frN.r {h h2 : PH} (f : frN h h2) : rest44 h h2 := fun t i k ht => f.1 t i (by omega) (by omega) k
theorem Inv.txN {h h2 : PH} (hI : Inv h) (f : frN h h2) (t1 : h2.1 6 0 1 = nI 0) (t4 : h2.1 33 0 4 = nI 0) (t5 : h2.1 6 0 2 = h2.1 33 0 5) (t6 : h2.1 6 0 3 = h2.1 33 0 6) : Inv h2 := by
  obtain ⟨rc, rn, rl, rt⟩ := id hI.1
  obtain ⟨fa, fb⟩ := f
  refine hI.mk2 ⟨RC_keep rc (fa 27 0 (by omega) (by omega) 0).1 (fb 0 (by omega)) (fun t i h1 h2 => fa t i (by omega) (by omega)) (fun x h1 h2 => fb x (by omega)), RN_keep rn (fa 27 0 (by omega) (by omega) 1).1 (fb 1 (by omega)) (fun t i h1 h2 => fa t i (by omega) (by omega)) (fun x h1 h2 => fb x (by omega)), RL_keep rl (fa 27 0 (by omega) (by omega) 2).1 (fb 2 (by omega)) (fun t i h1 h2 => fa t i (by omega) (by omega)) (fun x h1 h2 => fb x (by omega)), ⟨0, by omega, t1, t4, fun k hk => absurd hk (Nat.not_lt_zero _), t5, t6⟩⟩ (fun t i h1 h2 h3 => fa t i (by omega) (by omega)) (fun t i h1 h2 h3 x => (fa t i (by omega) (by omega) x).1) (fun x hx => fb x (by omega)) (fun x => (fa 32 0 (by omega) (by omega) x).1) (fun x => (fa 34 0 (by omega) (by omega) x).1)
/-- one is taken in -/
def kP (s t : Nat) : Prop := (s = 0 ∧ (t = 0 ∨ (10 ≤ t ∧ t ≤ 18))) ∨ (s = 1 ∧ (t = 3 ∨ t = 22 ∨ t = 23)) ∨ (s = 2 ∧ (t = 2 ∨ (19 ≤ t ∧ t ≤ 21)))
def frS (s k : Nat) (h h2 : PH) : Prop := (∀ t i, ¬ (i = 0 ∧ (t = 4 ∨ t = 6 ∨ t = 8 ∨ t = 24 ∨ t = 27 ∨ t = 33 ∨ t = 35)) → ¬ (i = 8 ∧ t ≤ 23) → ¬ (i = k ∧ kP s t) → ∀ x, h2.1 t i x = h.1 t i x ∧ h2.2 t i x = h.2 t i x) ∧ (∀ x, x ≠ s → h2.1 27 0 x = h.1 27 0 x) ∧ ∀ x, ¬ (4 ≤ x ∧ x ≤ 6) → x ≠ s → ¬ (plS s k ≤ x ∧ x < plS s k + szS s) → h2.1 33 0 x = h.1 33 0 x
theorem frS.r {s k : Nat} {h h2 : PH} (f : frS s k h h2) : rest44 h h2 := fun t i j ht => f.1 t i (by omega) (by omega) (fun z => by have := z.2; unfold kP at this; omega) j
theorem Inv.txS {h h2 : PH} {s k m : Nat} {c : AC} (hs : s < 3) (hk : k < 2) (hkm : k ≤ m) (hm : m ≤ 2) (hI : Inv h) (h27 : h.1 27 0 s = nI m) (f : frS s k h h2) (c27 : h2.1 27 0 s = nI (max m (k + 1))) (c33 : h2.1 33 0 s = nI (max m (k + 1))) (v1 : gdV s c) (v2 : gdC s h2 k c) (v3 : gdM s h2 (plS s k) c) (t1 : h2.1 6 0 1 = nI 0) (t4 : h2.1 33 0 4 = nI 0) (t5 : h2.1 6 0 2 = h2.1 33 0 5) (t6 : h2.1 6 0 3 = h2.1 33 0 6) : Inv h2 := by
  obtain ⟨rc, rn, rl, rt⟩ := id hI.1
  obtain ⟨b1, b2, b3⟩ := pl_sz hs hk
  obtain ⟨fa, fb, fc⟩ := f
  have rt2 : RT h2 0 h2 := ⟨0, by omega, t1, t4, fun k hk => absurd hk (Nat.not_lt_zero _), t5, t6⟩
  have nk : ∀ t i, 28 ≤ t ∨ 2 ≤ i → ¬ (i = k ∧ kP s t) := fun t i h z => by
    have := z.2
    unfold kP at this
    omega
  have fin : RC h2 0 h2 → RN h2 0 h2 → RL h2 0 h2 → Inv h2 := fun a b c => hI.mk2 ⟨a, b, c, rt2⟩ (fun t i h1 h2 h3 => fa t i (by omega) (by omega) (nk t i (by omega))) (fun t i h1 h2 h3 x => (fa t i (by omega) (by omega) (fun z => by have := z.2; unfold kP at this; omega) x).1) (fun x hx => fc x (by omega) (by omega) (by omega)) (fun x => (fa 32 0 (by omega) (by omega) (nk _ _ (by omega)) x).1) (fun x => (fa 34 0 (by omega) (by omega) (nk _ _ (by omega)) x).1)
  have ss : s = 0 ∨ s = 1 ∨ s = 2 := by omega
  rcases ss with e | e | e <;> subst e
  · have fc : ∀ x, ¬ (4 ≤ x ∧ x ≤ 6) → x ≠ 0 → ¬ (610+142*k ≤ x ∧ x < 610+142*k+142) → h2.1 33 0 x = h.1 33 0 x := fc
    exact fin (RC_put rc hk hkm hm h27 c27 c33 (fun t i h1 h2 h3 => fa t i (by omega) (by omega) (by omega)) (fun x h1 h2 h3 => fc x (by omega) (by omega) h3) v1 v2 v3.1 v3.2)
      (RN_keep rn (fb 1 (by omega)) (fc 1 (by omega) (by omega) (by omega)) (fun t i h1 h2 => fa t i (by omega) (by omega) (fun z => by have := z.2; unfold kP at this; omega)) (fun x h1 h2 => fc x (by omega) (by omega) (by omega)))
      (RL_keep rl (fb 2 (by omega)) (fc 2 (by omega) (by omega) (by omega)) (fun t i h1 h2 => fa t i (by omega) (by omega) (fun z => by have := z.2; unfold kP at this; omega)) (fun x h1 h2 => fc x (by omega) (by omega) (by omega)))
  · have fc : ∀ x, ¬ (4 ≤ x ∧ x ≤ 6) → x ≠ 1 → ¬ (894+161*k ≤ x ∧ x < 894+161*k+161) → h2.1 33 0 x = h.1 33 0 x := fc
    exact fin (RC_keep rc (fb 0 (by omega)) (fc 0 (by omega) (by omega) (by omega)) (fun t i h1 h2 => fa t i (by omega) (by omega) (fun z => by have := z.2; unfold kP at this; omega)) (fun x h1 h2 => fc x (by omega) (by omega) (by omega)))
      (RN_put rn hk hkm hm h27 c27 c33 (fun t i h1 h2 h3 => fa t i (by omega) (by omega) (by omega)) (fun x h1 h2 h3 => fc x (by omega) (by omega) h3) v1 v2 v3)
      (RL_keep rl (fb 2 (by omega)) (fc 2 (by omega) (by omega) (by omega)) (fun t i h1 h2 => fa t i (by omega) (by omega) (fun z => by have := z.2; unfold kP at this; omega)) (fun x h1 h2 => fc x (by omega) (by omega) (by omega)))
  · have fc : ∀ x, ¬ (4 ≤ x ∧ x ≤ 6) → x ≠ 2 → ¬ (1216+30*k ≤ x ∧ x < 1216+30*k+30) → h2.1 33 0 x = h.1 33 0 x := fc
    exact fin (RC_keep rc (fb 0 (by omega)) (fc 0 (by omega) (by omega) (by omega)) (fun t i h1 h2 => fa t i (by omega) (by omega) (fun z => by have := z.2; unfold kP at this; omega)) (fun x h1 h2 => fc x (by omega) (by omega) (by omega)))
      (RN_keep rn (fb 1 (by omega)) (fc 1 (by omega) (by omega) (by omega)) (fun t i h1 h2 => fa t i (by omega) (by omega) (fun z => by have := z.2; unfold kP at this; omega)) (fun x h1 h2 => fc x (by omega) (by omega) (by omega)))
      (RL_put rl hk hkm hm h27 c27 c33 (fun t i h1 h2 h3 => fa t i (by omega) (by omega) (by omega)) (fun x h1 h2 h3 => fc x (by omega) (by omega) h3) v1 v2 v3)
theorem rd6_f {t i : Nat} (h1 : ¬ (i = 0 ∧ (t = 4 ∨ t = 6 ∨ t = 24))) (h2 : ¬ (i = 8 ∧ t ≤ 23)) : rd6 t i = false := by
  cases q : rd6 t i
  · rfl
  · exfalso
    unfold rd6 rdT at q
    simp only [Bool.or_eq_true, Bool.and_eq_true, beq_iff_eq] at q
    have b1 : ∀ x y, Nat.ble x y = true → x ≤ y := fun x y z => Nat.le_of_ble_eq_true z
    rcases q with (⟨q1, q2⟩ | ⟨q1, q2⟩) | q
    · omega
    · rcases q2 with ((q2 | q2) | q2) | q2
      · omega
      · omega
      · omega
      · have := b1 _ _ q2.2; omega
    · omega
theorem kT_f {s k t i : Nat} (hs : s < 3) (h : ¬ (i = k ∧ kP s t)) : kT s k t i = false := by
  cases q : kT s k t i
  · rfl
  · exfalso
    have b1 : ∀ x y, Nat.ble x y = true → x ≤ y := fun x y z => Nat.le_of_ble_eq_true z
    have ss : s = 0 ∨ s = 1 ∨ s = 2 := by omega
    rcases ss with e | e | e <;> subst e
    · have q : (i == k && (t == 0 || (Nat.ble 10 t && Nat.ble t 18))) = true := q
      simp only [Bool.or_eq_true, Bool.and_eq_true, beq_iff_eq] at q
      refine h ⟨q.1, Or.inl ⟨rfl, ?_⟩⟩
      rcases q.2 with z | z
      · exact Or.inl z
      · exact Or.inr ⟨b1 _ _ z.1, b1 _ _ z.2⟩
    · have q : (i == k && (t == 3 || t == 22 || t == 23)) = true := q
      simp only [Bool.or_eq_true, Bool.and_eq_true, beq_iff_eq] at q
      exact h ⟨q.1, Or.inr (Or.inl ⟨rfl, by omega⟩)⟩
    · have q : (i == k && (t == 2 || t == 19 || t == 20 || t == 21)) = true := q
      simp only [Bool.or_eq_true, Bool.and_eq_true, beq_iff_eq] at q
      exact h ⟨q.1, Or.inr (Or.inr ⟨rfl, by omega⟩)⟩
theorem tkT_f {s k t i : Nat} (hs : s < 3) (h1 : ¬ (i = 0 ∧ (t = 4 ∨ t = 6 ∨ t = 24 ∨ t = 27))) (h2 : ¬ (i = 8 ∧ t ≤ 23)) (h3 : ¬ (i = k ∧ kP s t)) : tkT s k t i = false := by
  unfold tkT
  rw [rd6_f (by omega) h2, kT_f hs h3, Bool.false_or, Bool.or_false]
  cases q : (t == 27 && i == 0)
  · rfl
  · simp only [Bool.and_eq_true, beq_iff_eq] at q
    omega
/-- the call is refused -/
theorem text_no {h : PH} (hI : Inv h) {a b : Int32} (e1 : pm_ev (110, 0, [vr 7 0, vi a, vi b, none, none, none, none], [], h) = some (some (vi (-2)), h0T h)) (e2 : pm_ev (181, 0, [vr 8 0, vi a, vi b, none, none], [], h0T h) = some (some (vi (-2)), h0M (h0T h))) : SameI (fun h => (110, 0, [vr 7 0, vi a, vi b, none, none, none, none], [], h)) (fun h => (181, 0, [vr 8 0, vi a, vi b, none, none], [], h)) h := by
  have f1 := h0T_fr h
  have o1 : ∀ t i x, ¬ (t = 6 ∧ i = 0) → (h0T h).1 t i x = h.1 t i x ∧ (h0T h).2 t i x = h.2 t i x := fun t i x hh => f1 t i (by
    cases q : (t == 6 && i == 0)
    · exact q
    · simp only [Bool.and_eq_true, beq_iff_eq] at q
      exact absurd q hh) x
  have f2 := h0M_fr (h0T h)
  have f : frN h (h0M (h0T h)) := by
    refine ⟨fun t i h1 h2 x => ⟨?_, ?_⟩, fun x hx => ?_⟩
    · rw [f2.1 t i x (by omega) (by omega) (by omega)]; exact (o1 t i x (by omega)).1
    · rw [f2.2]; exact (o1 t i x (by omega)).2
    · rw [f2.1 33 0 x (by omega) (by omega) (by omega)]; exact (o1 33 0 x (by omega)).1
  have k6 : ∀ x, (h0M (h0T h)).1 6 0 x = (h0T h).1 6 0 x := fun x => f2.1 6 0 x (by omega) (by omega) (by omega)
  refine ⟨vi (-2), h0T h, h0M (h0T h), e1, e2, hI.txN f ?_ (h0M_4 _) ?_ ?_, f.r, fun t i x ht => o1 t i x (by omega)⟩
  · rw [k6]; unfold h0T; rw [sI_same]; rfl
  · rw [k6, h0M_5]; unfold h0T; rw [sI_pl _ _ _ _ _ (by decide), sI_pl _ _ _ _ _ (by decide), sI_same]; rfl
  · rw [k6, h0M_6]; unfold h0T; rw [sI_pl _ _ _ _ _ (by decide), sI_same]; rfl
/-- the text is read -/
theorem text_go {h : PH} (hI : Inv h) (hS : StC h) {s k m : Nat} {b : Int32} (hs : s < 3) (hm : m ≤ 2) (h27 : h.1 27 0 s = nI m) (h33 : h.1 33 0 s = nI m) (hb : (b = -1 ∧ k = m ∧ m < 2) ∨ (b = nI k ∧ k < m)) : SameI (fun h => (110, 0, [vr 7 0, vi (nI s), vi b, none, none, none, none], [], h)) (fun h => (181, 0, [vr 8 0, vi (nI s), vi b, none, none], [], h)) h := by
  obtain ⟨_, _, _, len, t1, t2, t3, t4, t5, t6⟩ := id hI.1
  have hk : k < 2 := by rcases hb with z | z <;> omega
  have hkm : k ≤ m := by rcases hb with z | z <;> omega
  have TC : TapC h len (fun j => (h.1 26 0 j).toNatClampNeg) := fun j hj => by
    obtain ⟨x, x1, x2, x3⟩ := t4 j hj
    dsimp only
    rw [x2, nn_clamp (by omega)]
    exact ⟨x1, rfl⟩
  have TM : ∀ j, j < len → (fun j => (h.1 26 0 j).toNatClampNeg) j < 256 ∧ h.1 33 0 (10 + j) = nI ((fun j => (h.1 26 0 j).toNatClampNeg) j) := fun j hj => by
    obtain ⟨x, x1, x2, x3⟩ := t4 j hj
    dsimp only
    rw [x2, nn_clamp (by omega)]
    exact ⟨x1, x3⟩
  generalize (fun j => (h.1 26 0 j).toNatClampNeg) = T at TC TM
  obtain ⟨v, h1, tx, e1⟩ := text_Cg (k := k) b t1 hs hm hS TC t2 h27 hb
  obtain ⟨y1, y2, y3, yy⟩ := tx
  -- the reference's table is as it was
  have M : ∀ x, h1.1 33 0 x = h.1 33 0 x := fun x => by
    rcases yy with ⟨_, _, F⟩ | ⟨_, _, _, _, _, _, F⟩
    · exact (F 33 0 (rd6_f (by omega) (by omega)) x).1
    · exact (F 33 0 (tkT_f hs (by omega) (by omega) (fun z => by have := z.2; unfold kP at this; omega)) x).1
  have gv : (aFin len s (aRes T len s)).1 = 0 → gdV s (aRes T len s).2.1 := fun z => by
    rcases yy with ⟨q, _⟩ | ⟨_, _, _, _, q, _⟩
    · exact absurd z q
    · exact q
  obtain ⟨v', h2, tm, e2⟩ := text_Mg (T := T) (g := h1) (k := k) (b := b) t1 hs hm ((M 4).trans t3) (fun j hj => ⟨(TM j hj).1, (M _).trans (TM j hj).2⟩) ((M s).trans h33) hb gv
  obtain ⟨z1, z2, z3, zz⟩ := tm
  rcases yy with ⟨q, qv, F⟩ | ⟨q, qv, q27, q27', qg, qc, F⟩
  · rcases zz with ⟨p, pv, G⟩ | ⟨p, _⟩
    · subst qv; subst pv
      have f : frN h h2 := by
        refine ⟨fun t i a1 a2 x => ⟨?_, ?_⟩, fun x hx => ?_⟩
        · rw [G.1 t i x (by omega) (by omega) (by omega)]; exact (F t i (rd6_f (by omega) a2) x).1
        · rw [G.2]; exact (F t i (rd6_f (by omega) a2) x).2
        · rw [G.1 33 0 x (by omega) (by omega) (by omega)]; exact M x
      have k6 : ∀ x, h2.1 6 0 x = h1.1 6 0 x := fun x => G.1 6 0 x (by omega) (by omega) (by omega)
      exact ⟨vi (-1), h1, h2, e1, e2, hI.txN f ((k6 1).trans y1) z1 (by rw [k6, y2, z2]) (by rw [k6, y3, z3]), f.r, fun t i x ht => F t i (rd6_f (by omega) (by omega)) x⟩
    · exact absurd p q
  · rcases zz with ⟨p, _⟩ | ⟨p, pv, p33, pg, G⟩
    · exact absurd q p
    · subst qv; subst pv
      obtain ⟨b1, b2, b3⟩ := pl_sz hs hk
      have f : frS s k h h2 := by
        refine ⟨fun t i a1 a2 a3 x => ⟨?_, ?_⟩, fun x hx => ?_, fun x hx1 hx2 hx3 => ?_⟩
        · rw [G.1 t i x (by omega) (by omega) (by omega) (by omega) (by omega)]; exact (F t i (tkT_f hs (by omega) a2 a3) x).1
        · rw [G.2]; exact (F t i (tkT_f hs (by omega) a2 a3) x).2
        · rw [G.1 27 0 x (by omega) (by omega) (by omega) (by omega) (by omega)]; exact q27' x hx
        · rw [G.1 33 0 x (by omega) (by omega) (by omega) (by omega) (by omega)]; exact M x
      have k6 : ∀ x, h2.1 6 0 x = h1.1 6 0 x := fun x => G.1 6 0 x (by omega) (by omega) (by omega) (by omega) (by omega)
      have k27 : h2.1 27 0 s = nI (max m (k + 1)) := by rw [G.1 27 0 s (by omega) (by omega) (by omega) (by omega) (by omega)]; exact q27
      have gc : gdC s h2 k (aRes T len s).2.1 := qc.fr (fun t ht i => G.1 t k i (by omega) (by omega) (by omega) (by omega) (by omega)) (by rw [G.2])
      exact ⟨vi (nI k), h1, h2, e1, e2, hI.txS hs hk hkm hm h27 f k27 p33 qg gc pg ((k6 1).trans y1) z1 (by rw [k6, y2, z2]) (by rw [k6, y3, z3]), f.r, fun t i x ht => F t i (tkT_f hs (by omega) (by omega) (fun z => by have := z.2; unfold kP at this; omega)) x⟩
theorem q_text {h : PH} (hI : Inv h) (hS : StC h) (a b : Int32) : SameI (fun h => (110, 0, [vr 7 0, vi a, vi b, none, none, none, none], [], h)) (fun h => (181, 0, [vr 8 0, vi a, vi b, none, none], [], h)) h := by
  rcases ix a (show 3 < 2147483648 by omega) with ⟨z, rfl, z1, z2⟩ | ⟨s, rfl, k1, k2⟩ | ⟨s, rfl, hs⟩
  · have l : iI z < 0 := by rw [show (0 : Int32) = nI 0 from rfl, in_lt (by omega) (by omega) (by omega)]; omega
    exact text_no hI (text_Cn h b (Or.inl l)) (text_Mn _ b (Or.inl l))
  · have l1 : ¬ nI s < 3 := by rw [show (3 : Int32) = nI 3 from rfl, nn_lt (by omega) (by omega)]; omega
    have l2 : (2 : Int32) < nI s := by rw [show (2 : Int32) = nI 2 from rfl, nn_lt (by omega) (by omega)]; omega
    exact text_no hI (text_Cn h b (Or.inr l1)) (text_Mn _ b (Or.inr l2))
  · have hh : ∃ m, m ≤ 2 ∧ h.1 27 0 s = nI m ∧ h.1 33 0 s = nI m := by
      obtain ⟨⟨nc, c1, c2, c3, _⟩, ⟨nn, n1, n2, n3, _⟩, ⟨nl, l1, l2, l3, _⟩, _⟩ := id hI.1
      have ss : s = 0 ∨ s = 1 ∨ s = 2 := by omega
      rcases ss with e | e | e <;> subst e
      · exact ⟨nc, c1, c2, c3⟩
      · exact ⟨nn, n1, n2, n3⟩
      · exact ⟨nl, l1, l2, l3⟩
    obtain ⟨m, hm, h27, h33⟩ := hh
    have g33 : (h0T h).1 33 0 s = nI m := (h0T_fr h 33 0 rfl s).1.trans h33
    by_cases b1 : b = -1
    · by_cases m2 : m < 2
      · exact text_go hI hS hs hm h27 h33 (Or.inl ⟨b1, rfl, m2⟩)
      · subst b1
        refine text_no hI (text_Cb _ hs hm h27 (Or.inl ⟨rfl, by omega⟩)) ?_
        rw [text_M2 hs hm g33, if_neg m2]
    · rcases ix b (show m < 2147483648 by omega) with ⟨z, rfl, z1, z2⟩ | ⟨k, rfl, k1, k2⟩ | ⟨k, rfl, hk⟩
      · have nz : z ≠ -1 := fun e => b1 (by rw [e]; rfl)
        have l : iI z < 0 := by rw [show (0 : Int32) = nI 0 from rfl, in_lt (by omega) (by omega) (by omega)]; omega
        refine text_no hI (text_Cb _ hs hm h27 (Or.inr ⟨b1, Or.inl l⟩)) ?_
        rw [text_M3 hs hm g33 (by omega) (by omega) nz, if_neg (by omega)]
      · have l : ¬ nI k < nI m := by rw [nn_lt (by omega) (by omega)]; omega
        refine text_no hI (text_Cb _ hs hm h27 (Or.inr ⟨b1, Or.inr l⟩)) ?_
        rw [← iI_nat k, text_M3 (z := (k : Int)) hs hm g33 (by omega) (by omega) (by omega), if_neg (by omega)]
      · exact text_go hI hS hs hm h27 h33 (Or.inr ⟨rfl, hk⟩)
