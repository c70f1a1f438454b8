/-! ===== the reference's text: it is taken in ===== -/
def plS (s k : Nat) : Nat := if s = 0 then 610+142*k else if s = 1 then 894+161*k else 1216+30*k
def szS (s : Nat) : Nat := if s = 0 then 142 else if s = 1 then 161 else 30
theorem pl_sz {s k : Nat} (hs : s < 3) (hk : k < 2) : 610 ≤ plS s k ∧ plS s k + szS s ≤ 1276 ∧ szS s ≤ 161 := by
  have ss : s = 0 ∨ s = 1 ∨ s = 2 := by omega
  rcases ss with e | e | e <;> subst e
  · show 610 ≤ 610+142*k ∧ 610+142*k + 142 ≤ 1276 ∧ 142 ≤ 161
    omega
  · show 610 ≤ 894+161*k ∧ 894+161*k + 161 ≤ 1276 ∧ 161 ≤ 161
    omega
  · show 610 ≤ 1216+30*k ∧ 1216+30*k + 30 ≤ 1276 ∧ 30 ≤ 161
    omega
theorem place_M (g : PH) {s k : Nat} (hs : s < 3) : pm_ev (178, 0, [vi (nI s), vi (nI k)], [], g) = some (some (vi (nI (plS s k))), g) := by
  rw [E_X9_placeOf]
  have ss : s = 0 ∨ s = 1 ∨ s = 2 := by omega
  rcases ss with e | e | e <;> subst e
  · rw [if_pos (by rfl), show (142 : Int32) = nI 142 from rfl, show (610 : Int32) = nI 610 from rfl, nI_mul, nI_add]; rfl
  · rw [if_neg (by decide), if_pos (by rfl), show (161 : Int32) = nI 161 from rfl, show (894 : Int32) = nI 894 from rfl, nI_mul, nI_add]; rfl
  · rw [if_neg (by decide), if_neg (by decide), show (30 : Int32) = nI 30 from rfl, show (1216 : Int32) = nI 1216 from rfl, nI_mul, nI_add]; rfl
theorem size_M (g : PH) {s : Nat} (hs : s < 3) : pm_ev (179, 0, [vi (nI s)], [], g) = some (some (vi (nI (szS s))), g) := by
  rw [E_X9_sizeOf]
  have ss : s = 0 ∨ s = 1 ∨ s = 2 := by omega
  rcases ss with e | e | e <;> subst e
  · rw [if_pos (by rfl)]; rfl
  · rw [if_neg (by decide), if_pos (by rfl)]; rfl
  · rw [if_neg (by decide), if_neg (by decide)]; rfl
/-- only the table's cells from a to b change -/
def frP (a b : Nat) (g g' : PH) : Prop := (∀ t x j, ¬ (t = 33 ∧ x = 0 ∧ a ≤ j ∧ j < b) → g'.1 t x j = g.1 t x j) ∧ g'.2 = g.2
theorem frP.rf (a b : Nat) (g : PH) : frP a b g g := ⟨fun _ _ _ _ => rfl, rfl⟩
theorem frP.tr {a b : Nat} {x y z : PH} (h1 : frP a b x y) (h2 : frP a b y z) : frP a b x z := ⟨fun t i j h => (h2.1 t i j h).trans (h1.1 t i j h), h2.2.trans h1.2⟩
theorem frP.w {a b a' b' : Nat} {x y : PH} (h1 : a' ≤ a) (h2 : b ≤ b') (h : frP a b x y) : frP a' b' x y := ⟨fun t i j q => h.1 t i j (fun z => q ⟨z.1, z.2.1, by omega, by omega⟩), h.2⟩
theorem frP.s {a b p : Nat} (g : PH) (v : Int32) (h : a ≤ p ∧ p < b) : frP a b g (pm_sI g 33 0 p v) := ⟨fun t i j q => by rw [pm_sI_at, if_neg (fun z => q ⟨z.1, z.2.1, by omega, by omega⟩)], rfl⟩
theorem copy_354 {s k : Nat} (hs : s < 3) (hk : k < 2) : ∀ r i g, i + r = szS s → ∃ g' : PH, pm_ev (181, 354, [vr 8 0, vi (nI s), none, vi (nI k), vi (nI i)], [], g) = pm_ev (181, 354, [vr 8 0, vi (nI s), none, vi (nI k), vi (nI (szS s))], [], g') ∧ (∀ j, i ≤ j → j < szS s → g'.1 33 0 (plS s k + j) = g.1 35 0 j) ∧ frP (plS s k + i) (plS s k + szS s) g g' := by
  obtain ⟨b1, b2, b3⟩ := pl_sz hs hk
  intro r
  induction r with
  | zero =>
    intro i g hi
    have hi : i = szS s := by omega
    subst hi
    exact ⟨g, rfl, fun j h1 h2 => by omega, frP.rf _ _ g⟩
  | succ r ih =>
    intro i g hi
    obtain ⟨g', e, z, f⟩ := ih (i + 1) (pm_sI g 33 0 (plS s k + i) (g.1 35 0 i)) (by omega)
    refine ⟨g', ?_, fun j h1 h2 => ?_, (frP.s g _ (by omega)).tr (f.w (by omega) (Nat.le_refl _))⟩
    · rw [← e, E_X9_text_354, size_M g hs, cI_s, E_X9_text_360, if_pos ((nn_lt (by omega) (by omega)).mpr (by omega)), place_M g hs, cI_s, E_X9_text_372, if_pos (inb_n (by omega) (by omega)), nn_clamp (by omega), E_X9_text_382, nI_add, if_pos (inb_n (by omega) (by omega)), nn_clamp (by omega), E_X9_text_383, show (1 : Int32) = nI 1 from rfl, nI_add]
    · by_cases q : j = i
      · subst q
        rw [f.1 33 0 _ (by omega), sI_same]
      · rw [z j (by omega) h2, sI_tag _ _ _ _ _ _ (by decide)]
/-- the place for it -/
theorem store_M {g : PH} {s k m : Nat} {b : Int32} (hs : s < 3) (hm : m ≤ 2) (h5 : g.1 33 0 5 = nI 0) (h33 : g.1 33 0 s = nI m) (hb : (b = -1 ∧ k = m ∧ m < 2) ∨ (b = nI k ∧ k < m)) : ∃ g', pm_ev (181, 309, [vr 8 0, vi (nI s), vi b, none, none], [], g) = pm_ev (181, 354, [vr 8 0, vi (nI s), none, vi (nI k), vi (nI 0)], [], g') ∧ g'.1 33 0 s = nI (max m (k + 1)) ∧ (∀ t i j, ¬ (t = 33 ∧ i = 0 ∧ j = s) → g'.1 t i j = g.1 t i j) ∧ g'.2 = g.2 := by
  have c1 : pm_ev (181, 309, [vr 8 0, vi (nI s), vi b, none, none], [], g) = (if b = (-1) then (if pm_inb (nI s) 5104 = true then pm_ev (181, 331, [vr 8 0, vi (nI s), vi b, none, none], [vi (g.1 33 0 (nI s).toNatClampNeg)], g) else none) else pm_ev (181, 335, [vr 8 0, vi (nI s), vi b, none, none], [vi b], g)) := by
    rw [E_X9_text_309, show (5 : Int32).toNatClampNeg = 5 from rfl, h5, E_X9_text_315, if_pos (by rfl)]
  rw [c1]
  rcases hb with ⟨q1, q2, q3⟩ | ⟨q1, q2⟩
  · subst q2
    refine ⟨pm_sI g 33 0 s (nI (k + 1)), ?_, ?_, fun t i j h => ?_, rfl⟩
    · rw [if_pos q1, if_pos (inb_n (by omega) (by omega)), nn_clamp (by omega), h33, E_X9_text_331, E_X9_text_335, if_pos q1, if_pos (inb_n (by omega) (by omega)), nn_clamp (by omega), h33, E_X9_text_348, if_pos (inb_n (by omega) (by omega)), nn_clamp (by omega), show (1 : Int32) = nI 1 from rfl, nI_add, E_X9_text_351]
      rfl
    · rw [sI_same, Nat.max_eq_right (by omega)]
    · rw [pm_sI_at, if_neg (fun z => h ⟨z.1, z.2.1, z.2.2⟩)]
  · subst q1
    have n1 : ¬ nI k = -1 := by
      have : ∀ m, m < 2 → ¬ nI m = -1 := by decide
      exact this k (by omega)
    refine ⟨g, ?_, ?_, fun _ _ _ _ => rfl, rfl⟩
    · rw [if_neg n1, E_X9_text_335, if_neg n1, E_X9_text_351]
      rfl
    · rw [h33, Nat.max_eq_left (by omega)]
/-! ===== the cells are numbered anew ===== -/
def stI (w v : Int32) : Int32 := (w * (v / 8)) + (v - v / 8 * 8)
theorem stI_n : ∀ w, w < 9 → ∀ i, i < 64 → stI (nI w) (nI i) = nI (w * (i / 8) + i % 8) := by decide +kernel
theorem settled_M (g : PH) (a b : Int32) : pm_ev (182, 0, [vr 8 0, vi a, vi b], [], g) = some (some (vi (stI b a)), g) := E_X9_settled g a b
theorem stG {a : Nat} (ha : a < 4900) (w : Int32) : ∀ r i g, i + r = 4 → ∃ g', pm_ev (183, 30, [vr 8 0, vi (nI a), vi w, vi (nI i)], [], g) = pm_ev (183, 74, [vr 8 0, vi (nI a), vi w, vi (nI 0)], [], g') ∧ (∀ j, i ≤ j → j < 4 → g'.1 33 0 (a+6+2*j) = stI w (g.1 33 0 (a+6+2*j))) ∧ (∀ t x p, ¬ (t = 33 ∧ x = 0 ∧ ∃ j, i ≤ j ∧ j < 4 ∧ p = a+6+2*j) → g'.1 t x p = g.1 t x p) ∧ g'.2 = g.2 := by
  intro r
  induction r with
  | zero =>
    intro i g hi
    have hi : i = 4 := by omega
    subst hi
    refine ⟨g, ?_, fun j h1 h2 => by omega, fun _ _ _ _ => rfl, rfl⟩
    rw [E_X9_settles_30, if_neg (by decide)]
    rfl
  | succ r ih =>
    intro i g hi
    obtain ⟨g', e, z, o, l⟩ := ih (i + 1) (pm_sI g 33 0 (a+6+2*i) (stI w (g.1 33 0 (a+6+2*i)))) (by omega)
    have k1 : ((nI a + 6) + (2 * nI i) : Int32) = nI (a+6+2*i) := by
      rw [show (6 : Int32) = nI 6 from rfl, show (2 : Int32) = nI 2 from rfl, nI_mul, nI_add, nI_add]
    refine ⟨g', ?_, fun j h1 h2 => ?_, fun t x p h => ?_, l⟩
    · rw [← e, E_X9_settles_30, if_pos (show nI i < 4 from by rw [show (4 : Int32) = nI 4 from rfl]; exact (nn_lt (by omega) (by decide)).mpr (by omega)), k1, if_pos (inb_n (by omega) (by omega)), nn_clamp (by omega), E_X9_settles_61, settled_M, cI_s, E_X9_settles_65, if_pos (inb_n (by omega) (by omega)), nn_clamp (by omega), E_X9_settles_66, show (1 : Int32) = nI 1 from rfl, nI_add]
    · by_cases q : j = i
      · subst q
        rw [o 33 0 _ (fun ⟨_, _, y, y1, y2, y3⟩ => by omega), sI_same]
      · rw [z j (by omega) h2, sI_pl _ _ _ _ _ (by omega)]
    · rw [o t x p (fun ⟨q1, q2, y, y1, y2, y3⟩ => h ⟨q1, q2, y, by omega, y2, y3⟩), pm_sI_at, if_neg (fun q => h ⟨q.1, q.2.1, i, by omega, by omega, q.2.2⟩)]
theorem stSh {a : Nat} (ha : a < 4900) (w : Int32) : ∀ r i g, i + r = 4 → ∃ g', pm_ev (183, 74, [vr 8 0, vi (nI a), vi w, vi (nI i)], [], g) = pm_ev (183, 118, [vr 8 0, vi (nI a), vi w, vi (nI 0)], [], g') ∧ (∀ j, i ≤ j → j < 4 → g'.1 33 0 (a+14+4*j) = stI w (g.1 33 0 (a+14+4*j))) ∧ (∀ t x p, ¬ (t = 33 ∧ x = 0 ∧ ∃ j, i ≤ j ∧ j < 4 ∧ p = a+14+4*j) → g'.1 t x p = g.1 t x p) ∧ g'.2 = g.2 := by
  intro r
  induction r with
  | zero =>
    intro i g hi
    have hi : i = 4 := by omega
    subst hi
    refine ⟨g, ?_, fun j h1 h2 => by omega, fun _ _ _ _ => rfl, rfl⟩
    rw [E_X9_settles_74, if_neg (by decide)]
    rfl
  | succ r ih =>
    intro i g hi
    obtain ⟨g', e, z, o, l⟩ := ih (i + 1) (pm_sI g 33 0 (a+14+4*i) (stI w (g.1 33 0 (a+14+4*i)))) (by omega)
    have k1 : ((nI a + 14) + (4 * nI i) : Int32) = nI (a+14+4*i) := by
      rw [show (14 : Int32) = nI 14 from rfl, show (4 : Int32) = nI 4 from rfl, nI_mul, nI_add, nI_add]
    refine ⟨g', ?_, fun j h1 h2 => ?_, fun t x p h => ?_, l⟩
    · rw [← e, E_X9_settles_74, if_pos (show nI i < 4 from by rw [show (4 : Int32) = nI 4 from rfl]; exact (nn_lt (by omega) (by decide)).mpr (by omega)), k1, if_pos (inb_n (by omega) (by omega)), nn_clamp (by omega), E_X9_settles_105, settled_M, cI_s, E_X9_settles_109, if_pos (inb_n (by omega) (by omega)), nn_clamp (by omega), E_X9_settles_110, show (1 : Int32) = nI 1 from rfl, nI_add]
    · by_cases q : j = i
      · subst q
        rw [o 33 0 _ (fun ⟨_, _, y, y1, y2, y3⟩ => by omega), sI_same]
      · rw [z j (by omega) h2, sI_pl _ _ _ _ _ (by omega)]
    · rw [o t x p (fun ⟨q1, q2, y, y1, y2, y3⟩ => h ⟨q1, q2, y, by omega, y2, y3⟩), pm_sI_at, if_neg (fun q => h ⟨q.1, q.2.1, i, by omega, by omega, q.2.2⟩)]
theorem stZ {a : Nat} (ha : a < 4900) (w : Int32) : ∀ r i g, i + r = 64 → ∃ g', pm_ev (183, 118, [vr 8 0, vi (nI a), vi w, vi (nI i)], [], g) = pm_ev (183, 144, [vr 8 0, vi (nI a), vi w, vi (nI 0)], [], g') ∧ (∀ j, i ≤ j → j < 64 → g'.1 33 0 (a+78+j) = nI 0) ∧ frP (a+78+i) (a+142) g g' := by
  intro r
  induction r with
  | zero =>
    intro i g hi
    have hi : i = 64 := by omega
    subst hi
    refine ⟨g, ?_, fun j h1 h2 => by omega, frP.rf _ _ g⟩
    rw [E_X9_settles_118, if_neg (by decide)]
    rfl
  | succ r ih =>
    intro i g hi
    obtain ⟨g', e, z, f⟩ := ih (i + 1) (pm_sI g 33 0 (a+78+i) (nI 0)) (by omega)
    have k1 : ((nI a + 78) + nI i : Int32) = nI (a+78+i) := by
      rw [show (78 : Int32) = nI 78 from rfl, nI_add, nI_add]
    refine ⟨g', ?_, fun j h1 h2 => ?_, (frP.s g _ (by omega)).tr (f.w (by omega) (Nat.le_refl _))⟩
    · rw [← e, E_X9_settles_118, if_pos (show nI i < 64 from by rw [show (64 : Int32) = nI 64 from rfl]; exact (nn_lt (by omega) (by decide)).mpr (by omega)), k1, if_pos (inb_n (by omega) (by omega)), nn_clamp (by omega), E_X9_settles_136, show (1 : Int32) = nI 1 from rfl, nI_add]
      rfl
    · by_cases q : j = i
      · subst q
        rw [f.1 33 0 _ (by omega), sI_same]
      · exact z j (by omega) h2
theorem cell_u {w x y i : Nat} (h2 : 2 ≤ w) (h8 : w ≤ 8) (hx : x < w) (hi : i % 8 < w) (e : w * (i / 8) + i % 8 = w * y + x) : i = 8 * y + x := by
  have : w = 2 ∨ w = 3 ∨ w = 4 ∨ w = 5 ∨ w = 6 ∨ w = 7 ∨ w = 8 := by omega
  rcases this with z | z | z | z | z | z | z <;> subst z <;> omega
theorem stR {a : Nat} (ha : a < 4900) {c : AC} (hv : cV c) : ∀ r i g, i + r = 64 → (∀ j, j < 64 → g.1 35 0 (78+j) = nI (c (200+j)).val) → ∃ g', pm_ev (183, 144, [vr 8 0, vi (nI a), vi (nI (c (0)).val), vi (nI i)], [], g) = some (none, g') ∧ (∀ x y, x < (c (0)).val → y < (c (1)).val → g'.1 33 0 (a+78+((c (0)).val*y+x)) = if i ≤ 8*y+x ∧ (c (200+(8*y+x))).val = 1 then nI 1 else g.1 33 0 (a+78+((c (0)).val*y+x))) ∧ frP (a+78) (a+142) g g' := by
  have hV1 := hv.1
  intro r
  induction r with
  | zero =>
    intro i g hi _
    have hi : i = 64 := by omega
    subst hi
    refine ⟨g, ?_, fun x y hx hy => ?_, frP.rf _ _ g⟩
    · rw [E_X9_settles_144, if_neg (by decide)]
    · rw [if_neg (by omega)]
  | succ r ih =>
    intro i g hi h35
    have st : pm_ev (183, 144, [vr 8 0, vi (nI a), vi (nI (c (0)).val), vi (nI i)], [], g) = pm_ev (183, 159, [vr 8 0, vi (nI a), vi (nI (c (0)).val), vi (nI i)], [vi (nI (c (200+i)).val)], g) := by
      rw [E_X9_settles_144, if_pos (show nI i < 64 from by rw [show (64 : Int32) = nI 64 from rfl]; exact (nn_lt (by omega) (by decide)).mpr (by omega)), show (78 : Int32) = nI 78 from rfl, nI_add, if_pos (inb_n (by omega) (by omega)), nn_clamp (by omega), h35 i (by omega)]
    obtain ⟨r1, r2⟩ := hv.2.2.2 i (by omega)
    rw [st, E_X9_settles_159]
    by_cases q : (c (200+i)).val = 1
    · obtain ⟨x1, y1⟩ := r2 q
      have cl := (cell_lt hv x1 y1).2
      obtain ⟨g', e, z, f⟩ := ih (i + 1) (pm_sI g 33 0 (a+78+((c (0)).val * (i / 8) + i % 8)) (nI 1)) (by omega) (fun j hj => by rw [sI_tag _ _ _ _ _ _ (by decide)]; exact h35 j hj)
      refine ⟨g', ?_, fun x y hx hy => ?_, (frP.s g _ (by omega)).tr f⟩
      · rw [q, if_pos (by rfl), settled_M, cI_s, stI_n _ (by omega) i (by omega), E_X9_settles_177, show (78 : Int32) = nI 78 from rfl, nI_add, nI_add, if_pos (inb_n (by omega) (by omega)), nn_clamp (by omega), E_X9_settles_180, show (1 : Int32) = nI 1 from rfl, nI_add, e]
      · rw [z x y hx hy]
        by_cases q1 : i = 8 * y + x
        · have d1 : i / 8 = y := by omega
          have d2 : i % 8 = x := by omega
          rw [if_neg (by omega), d1, d2, sI_same, if_pos ⟨by omega, by rw [← q1]; exact q⟩]
        · have ne : a+78+((c (0)).val*y+x) ≠ a+78+((c (0)).val * (i / 8) + i % 8) := fun z => q1 (cell_u (w := (c (0)).val) (by omega) (by omega) hx (by omega) (by omega))
          rw [sI_pl _ _ _ _ _ ne]
          by_cases q2 : i + 1 ≤ 8 * y + x ∧ (c (200+(8*y+x))).val = 1
          · rw [if_pos q2, if_pos ⟨by omega, q2.2⟩]
          · rw [if_neg q2, if_neg (fun z => q2 ⟨by omega, z.2⟩)]
    · obtain ⟨g', e, z, f⟩ := ih (i + 1) g (by omega) h35
      refine ⟨g', ?_, fun x y hx hy => ?_, f⟩
      · have n1 : ¬ nI (c (200+i)).val = 1 := fun z => q ((nn_eq (by omega) (by decide)).mp (z.trans (show (1 : Int32) = nI 1 from rfl)))
        rw [if_neg n1, E_X9_settles_180, show (1 : Int32) = nI 1 from rfl, nI_add, e]
      · rw [z x y hx hy]
        by_cases q1 : i = 8 * y + x
        · rw [if_neg (by omega), if_neg (fun z => q (by rw [q1]; exact z.2))]
        · by_cases q2 : i + 1 ≤ 8 * y + x ∧ (c (200+(8*y+x))).val = 1
          · rw [if_pos q2, if_pos ⟨by omega, q2.2⟩]
          · rw [if_neg q2, if_neg (fun z => q2 ⟨by omega, z.2⟩)]
theorem stI_c {w x y : Nat} (h8 : w ≤ 8) (hx : x < 8) (hy : y < 8) : stI (nI w) (nI (8 * y + x)) = nI (w * y + x) := by
  rw [stI_n w (by omega) (8*y+x) (by omega), show (8*y+x)/8 = y by omega, show (8*y+x)%8 = x by omega]
theorem settles_M {g : PH} {a : Nat} (ha : a < 4900) {c : AC} (hv : cV c) (hR : RdC (g.1 35 0) c) (hc : ∀ j, j < 142 → g.1 33 0 (a + j) = g.1 35 0 j) : ∃ g', pm_ev (183, 0, [vr 8 0, vi (nI a), none, none], [], g) = some (none, g') ∧ CoastMs g' a c ∧ CoastMd g' a c ∧ frP a (a+142) g g' := by
  have hV1 := hv.1
  obtain ⟨⟨m0, m1, m2, m3, m4, m5⟩, mg, ms, mz, mr⟩ := hR
  have c0 : g.1 33 0 a = nI (c (0)).val := (hc 0 (by decide)).trans m0
  have c2 : g.1 33 0 (a + 2) = nI (8 * (c (3)).val + (c (2)).val) := (hc 2 (by decide)).trans m2
  have k2 : (nI a + 2 : Int32) = nI (a + 2) := by rw [show (2 : Int32) = nI 2 from rfl, nI_add]
  have st : pm_ev (183, 0, [vr 8 0, vi (nI a), none, none], [], g) = pm_ev (183, 30, [vr 8 0, vi (nI a), vi (nI (c (0)).val), vi (nI 0)], [], pm_sI g 33 0 (a+2) (nI ((c (0)).val * (c (3)).val + (c (2)).val))) := by
    rw [E_X9_settles, if_pos (inb_n (by omega) (by omega)), nn_clamp (by omega), c0, E_X9_settles_6, k2, if_pos (inb_n (by omega) (by omega)), nn_clamp (by omega), c2, E_X9_settles_23, settled_M, cI_s, stI_c (by omega) (by omega) (by omega), E_X9_settles_27, if_pos (inb_n (by omega) (by omega)), nn_clamp (by omega), E_X9_settles_28]
    rfl
  obtain ⟨g1, e1, z1, o1, l1⟩ := stG ha (nI (c (0)).val) 4 0 (pm_sI g 33 0 (a+2) (nI ((c (0)).val * (c (3)).val + (c (2)).val))) rfl
  obtain ⟨g2, e2, z2, o2, l2⟩ := stSh ha (nI (c (0)).val) 4 0 g1 rfl
  obtain ⟨g3, e3, z3, f3⟩ := stZ ha (nI (c (0)).val) 64 0 g2 rfl
  have t35 : ∀ j, g3.1 35 0 j = g.1 35 0 j := fun j => by
    rw [f3.1 35 0 j (by omega), o2 35 0 j (fun z => by have := z.1; omega), o1 35 0 j (fun z => by have := z.1; omega), sI_tag _ _ _ _ _ _ (by decide)]
  obtain ⟨g4, e4, z4, f4⟩ := stR ha hv 64 0 g3 rfl (fun j hj => (t35 _).trans (mr j hj))
  -- cells that stay as they were copied
  have keep : ∀ j, j < 78 → (∀ i, i < 4 → j ≠ 14+4*i) → g4.1 33 0 (a+j) = g1.1 33 0 (a+j) := fun j hj h2 => by
    rw [f4.1 33 0 _ (by omega), f3.1 33 0 _ (by omega), o2 33 0 _ (fun ⟨_, _, y, y1, y2, y3⟩ => h2 y y2 (by omega))]
  have keep1 : ∀ j, j < 142 → j ≠ 2 → (∀ i, i < 4 → j ≠ 6+2*i) → g1.1 33 0 (a+j) = g.1 35 0 j := fun j hj hn h1 => by
    rw [o1 33 0 _ (fun ⟨_, _, y, y1, y2, y3⟩ => h1 y y2 (by omega)), sI_pl _ _ _ _ _ (by omega), hc j hj]
  have keep2 : ∀ j, j < 78 → j ≠ 2 → (∀ i, i < 4 → j ≠ 6+2*i) → (∀ i, i < 4 → j ≠ 14+4*i) → g4.1 33 0 (a+j) = g.1 35 0 j := fun j hj h0 h1 h2 => (keep j hj h2).trans (keep1 j (by omega) h0 h1)
  have F : frP a (a+142) g g4 := by
    have x0 : frP a (a+142) g (pm_sI g 33 0 (a+2) (nI ((c (0)).val * (c (3)).val + (c (2)).val))) := frP.s g _ (by omega)
    have x1 : frP a (a+142) (pm_sI g 33 0 (a+2) (nI ((c (0)).val * (c (3)).val + (c (2)).val))) g1 := ⟨fun t x j h => o1 t x j (fun ⟨q1, q2, y, y1, y2, y3⟩ => h ⟨q1, q2, by omega, by omega⟩), l1⟩
    have x2 : frP a (a+142) g1 g2 := ⟨fun t x j h => o2 t x j (fun ⟨q1, q2, y, y1, y2, y3⟩ => h ⟨q1, q2, by omega, by omega⟩), l2⟩
    exact (((x0.tr x1).tr x2).tr (f3.w (by omega) (Nat.le_refl _))).tr (f4.w (by omega) (Nat.le_refl _))
  refine ⟨g4, by rw [st, e1, e2, e3, e4], ⟨⟨?_, ?_, ?_, ?_, ?_, ?_, ha⟩, fun i hi => ⟨?_, ?_⟩, fun s hs => ⟨?_, ?_⟩, fun x y hx hy => ?_⟩, fun s hs => ⟨⟨?_, ?_⟩, fun k hk => ⟨?_, ?_, ?_⟩⟩, F⟩
  · exact (keep2 0 (by omega) (by omega) (fun u hu => by omega) (fun u hu => by omega)).trans m0
  · exact (keep2 1 (by omega) (by omega) (fun u hu => by omega) (fun u hu => by omega)).trans m1
  · rw [keep 2 (by omega) (fun u hu => by omega), o1 33 0 _ (fun ⟨_, _, y, y1, y2, y3⟩ => by omega), sI_same]
  · exact (keep2 3 (by omega) (by omega) (fun u hu => by omega) (fun u hu => by omega)).trans m3
  · exact (keep2 4 (by omega) (by omega) (fun u hu => by omega) (fun u hu => by omega)).trans m4
  · exact (keep2 5 (by omega) (by omega) (fun u hu => by omega) (fun u hu => by omega)).trans m5
  · obtain ⟨v1, v2, v3⟩ := hv.2.1 i hi
    have h1 := z1 i (by omega) (by omega)
    rw [sI_pl _ _ _ _ _ (by omega), Nat.add_assoc, hc (6+2*i) (by omega), (mg i hi).1, stI_c (by omega) (by omega) (by omega)] at h1
    rw [Nat.add_assoc, keep (6+2*i) (by omega) (fun u hu => by omega)]
    exact h1
  · rw [Nat.add_assoc a 6, Nat.add_assoc a, keep2 (6+2*i+1) (by omega) (by omega) (fun u hu => by omega) (fun u hu => by omega)]
    exact (mg i hi).2
  · rw [Nat.add_assoc a 14, Nat.add_assoc a, keep2 (14+4*s+2) (by omega) (by omega) (fun u hu => by omega) (fun u hu => by omega)]
    exact (ms s hs).1.2.2.1
  · rw [Nat.add_assoc a 14, Nat.add_assoc a, keep2 (14+4*s+3) (by omega) (by omega) (fun u hu => by omega) (fun u hu => by omega)]
    exact (ms s hs).1.2.2.2
  · have cl := (cell_lt hv hx hy).2
    have r1 := (hv.2.2.2 (8*y+x) (by omega)).1
    rw [z4 x y hx hy]
    by_cases q : (c (200+(8*y+x))).val = 1
    · rw [if_pos ⟨by omega, q⟩, q]
    · rw [if_neg (fun z => q z.2), z3 _ (by omega) cl, show (c (200+(8*y+x))).val = 0 by omega]
  · obtain ⟨v1, v2, _⟩ := hv.2.2.1 s hs
    have h1 := z2 s (by omega) (by omega)
    rw [Nat.add_assoc, keep1 (14+4*s) (by omega) (by omega) (fun u hu => by omega), (ms s hs).1.1, stI_c (by omega) (by omega) (by omega)] at h1
    rw [Nat.add_zero, f4.1 33 0 _ (by omega), f3.1 33 0 _ (by omega), Nat.add_assoc]
    exact h1
  · rw [Nat.add_assoc a 14, Nat.add_assoc a, keep2 (14+4*s+1) (by omega) (by omega) (fun u hu => by omega) (fun u hu => by omega)]
    exact (ms s hs).1.2.1
  · have v5 := (hv.2.2.1 s hs).2.2.2.2.1
    rw [Nat.add_assoc, keep2 (30+(12*s+3*k)) (by omega) (by omega) (fun u hu => by omega) (fun u hu => by omega), ← Nat.add_assoc]
    exact ((ms s hs).2 k hk).1
  · have v5 := (hv.2.2.1 s hs).2.2.2.2.1
    rw [Nat.add_assoc, keep2 (30+(12*s+3*k+1)) (by omega) (by omega) (fun u hu => by omega) (fun u hu => by omega), ← Nat.add_assoc, ← Nat.add_assoc]
    exact ((ms s hs).2 k hk).2.1
  · have v5 := (hv.2.2.1 s hs).2.2.2.2.1
    rw [Nat.add_assoc, keep2 (30+(12*s+3*k+2)) (by omega) (by omega) (fun u hu => by omega) (fun u hu => by omega), ← Nat.add_assoc, ← Nat.add_assoc]
    exact ((ms s hs).2 k hk).2.2
