/-! ===== the law: each call ===== -/
theorem StC.r {h h2 : PH} (r : rest44 h h2) (hS : StC h) : StC h2 := ⟨fun i k => (r 61 i k (by decide)).1.trans (hS.1 i k), fun k => (r 62 0 k (by decide)).1.trans (hS.2.1 k), fun k => (r 63 0 k (by decide)).1.trans (hS.2.2.1 k), fun k => (r 64 0 k (by decide)).1.trans (hS.2.2.2 k)⟩
def Gd (L : Nat) (h : PH) : Prop := Inv h ∧ StC h ∧ h.1 66 0 0 = nI L
theorem Gd.r {L : Nat} {h h2 : PH} (hG : Gd L h) (hI : Inv h2) (r : rest44 h h2) : Gd L h2 := ⟨hI, hG.2.1.r r, (r 66 0 0 (by decide)).1.trans hG.2.2⟩
theorem pr_I {h : PH} (hI : Inv h) (a b c d : Int32) : SameI (fun h => (122, 0, [vr 7 0, vi a, vi b, vi c, vi d, none, none, none, none, none], [], h)) (fun h => (237, 0, [vr 8 0, vi a, vi b, vi c, vi d, none, none, none, none], [], h)) h := by
  obtain ⟨v, e1, e2⟩ := q_premium a b c d h
  exact ⟨v, h, h, e1, e2 h, hI, fun _ _ _ _ => ⟨rfl, rfl⟩, fun _ _ _ _ => ⟨rfl, rfl⟩⟩
theorem lc_1 (i : Nat) : nI i + 1 = nI (i + 1) := by rw [show (1 : Int32) = nI 1 from rfl, nI_add]
theorem lc_2 (i : Nat) : nI i + 2 = nI (i + 2) := by rw [show (2 : Int32) = nI 2 from rfl, nI_add]
theorem lc_3 (i : Nat) : nI i + 3 = nI (i + 3) := by rw [show (3 : Int32) = nI 3 from rfl, nI_add]
theorem lc_4 (i : Nat) : nI i + 4 = nI (i + 4) := by rw [show (4 : Int32) = nI 4 from rfl, nI_add]
theorem lc_5 (i : Nat) : nI i + 5 = nI (i + 5) := by rw [show (5 : Int32) = nI 5 from rfl, nI_add]
theorem lc_6 (i : Nat) : nI i + 6 = nI (i + 6) := by rw [show (6 : Int32) = nI 6 from rfl, nI_add]
theorem cmp_self (x : Int64) : lg_cmp x x = 0 := by
  unfold lg_cmp
  simp
/-- what a call of the law comes to -/
def LwC (L i t : Nat) (h : PH) : Prop := ∃ h2, pm_ev (276, t, [vr 65 0, vr 7 0, vr 8 0, vi (nI i)], [], h) = pm_ev (276, 1512, [vr 65 0, vr 7 0, vr 8 0, vi (nI i)], [], h2) ∧ Gd L h2
theorem lw_feed {h : PH} {L i : Nat} (hG : Gd L h) (hL : L ≤ 3072) (hi : i + 6 ≤ L) : LwC L i 168 h := by
  obtain ⟨hI, hS, h66⟩ := hG
  obtain ⟨v, h1, h2, e1, e2, I2, r2, r1⟩ := q_feed hI (h.1 65 0 (i + 1)) (h.1 65 0 (i + 2)) (h.1 65 0 (i + 3)) (h.1 65 0 (i + 4)) (h.1 65 0 (i + 5))
  dsimp only at e1 e2
  obtain ⟨x, hx⟩ := ev_vi (by first | exact Or.inl rfl | exact Or.inr rfl) e1
  subst hx
  have x66 : h1.1 66 0 0 = nI L := (r1 66 0 0 (by decide)).1.trans h66
  have x65 : ∀ k, h1.1 65 0 k = h.1 65 0 k := fun k => (r1 65 0 k (by decide)).1
  refine ⟨h2, ?_, Gd.r ⟨hI, hS, h66⟩ I2 r2⟩
  rw [E_L_law_168]
  simp (disch := omega) only [h66, lc_1, lc_2, lc_3, lc_4, lc_5, inb_n, nn_clamp, ↓reduceIte]
  rw [e1, cI_s, E_L_law_197]
  simp (disch := omega) only [x66, x65, lc_1, lc_2, lc_3, lc_4, lc_5, inb_n, nn_clamp, ↓reduceIte]
  rw [e2, cI_s, E_L_law_226, if_pos rfl]
theorem lw_end {h : PH} {L i : Nat} (hG : Gd L h) (hL : L ≤ 3072) (hi : i + 6 ≤ L) : LwC L i 231 h := by
  obtain ⟨hI, hS, h66⟩ := hG
  obtain ⟨v, h1, h2, e1, e2, I2, r2, r1⟩ := q_end hI (h.1 65 0 (i + 1))
  dsimp only at e1 e2
  obtain ⟨x, hx⟩ := ev_vi (by first | exact Or.inl rfl | exact Or.inr rfl) e1
  subst hx
  have x66 : h1.1 66 0 0 = nI L := (r1 66 0 0 (by decide)).1.trans h66
  have x65 : ∀ k, h1.1 65 0 k = h.1 65 0 k := fun k => (r1 65 0 k (by decide)).1
  refine ⟨h2, ?_, Gd.r ⟨hI, hS, h66⟩ I2 r2⟩
  rw [E_L_law_231]
  simp (disch := omega) only [h66, lc_1, lc_2, lc_3, lc_4, lc_5, inb_n, nn_clamp, ↓reduceIte]
  rw [e1, cI_s, E_L_law_240]
  simp (disch := omega) only [x66, x65, lc_1, lc_2, lc_3, lc_4, lc_5, inb_n, nn_clamp, ↓reduceIte]
  rw [e2, cI_s, E_L_law_249, if_pos rfl]
theorem lw_text {h : PH} {L i : Nat} (hG : Gd L h) (hL : L ≤ 3072) (hi : i + 6 ≤ L) : LwC L i 254 h := by
  obtain ⟨hI, hS, h66⟩ := hG
  obtain ⟨v, h1, h2, e1, e2, I2, r2, r1⟩ := q_text hI hS (h.1 65 0 (i + 1)) (h.1 65 0 (i + 2))
  dsimp only at e1 e2
  obtain ⟨x, hx⟩ := ev_vi (by first | exact Or.inl rfl | exact Or.inr rfl) e1
  subst hx
  have x66 : h1.1 66 0 0 = nI L := (r1 66 0 0 (by decide)).1.trans h66
  have x65 : ∀ k, h1.1 65 0 k = h.1 65 0 k := fun k => (r1 65 0 k (by decide)).1
  refine ⟨h2, ?_, Gd.r ⟨hI, hS, h66⟩ I2 r2⟩
  rw [E_L_law_254]
  simp (disch := omega) only [h66, lc_1, lc_2, lc_3, lc_4, lc_5, inb_n, nn_clamp, ↓reduceIte]
  rw [e1, cI_s, E_L_law_268]
  simp (disch := omega) only [x66, x65, lc_1, lc_2, lc_3, lc_4, lc_5, inb_n, nn_clamp, ↓reduceIte]
  rw [e2, cI_s, E_L_law_282, if_pos rfl]
theorem lw_fault {h : PH} {L i : Nat} (hG : Gd L h) (hL : L ≤ 3072) (hi : i + 6 ≤ L) : LwC L i 287 h := by
  obtain ⟨hI, hS, h66⟩ := hG
  obtain ⟨v, h1, h2, e1, e2, I2, r2, r1⟩ := q_fault hI (h.1 65 0 (i + 1))
  dsimp only at e1 e2
  obtain ⟨x, hx⟩ := ev_vi (by first | exact Or.inl rfl | exact Or.inr rfl) e1
  subst hx
  have x66 : h1.1 66 0 0 = nI L := (r1 66 0 0 (by decide)).1.trans h66
  have x65 : ∀ k, h1.1 65 0 k = h.1 65 0 k := fun k => (r1 65 0 k (by decide)).1
  refine ⟨h2, ?_, Gd.r ⟨hI, hS, h66⟩ I2 r2⟩
  rw [E_L_law_287]
  simp (disch := omega) only [h66, lc_1, lc_2, lc_3, lc_4, lc_5, inb_n, nn_clamp, ↓reduceIte]
  rw [e1, cI_s, E_L_law_296]
  simp (disch := omega) only [x66, x65, lc_1, lc_2, lc_3, lc_4, lc_5, inb_n, nn_clamp, ↓reduceIte]
  rw [e2, cI_s, E_L_law_305, if_pos rfl]
theorem lw_coast {h : PH} {L i : Nat} (hG : Gd L h) (hL : L ≤ 3072) (hi : i + 6 ≤ L) : LwC L i 310 h := by
  obtain ⟨hI, hS, h66⟩ := hG
  obtain ⟨v, h1, h2, e1, e2, I2, r2, r1⟩ := (q_coast (RC_now hI.1.1) (h.1 65 0 (i + 1)) (h.1 65 0 (i + 2))).toI hI
  dsimp only at e1 e2
  obtain ⟨x, hx⟩ := ev_vi (by first | exact Or.inl rfl | exact Or.inr rfl) e1
  subst hx
  have x66 : h1.1 66 0 0 = nI L := (r1 66 0 0 (by decide)).1.trans h66
  have x65 : ∀ k, h1.1 65 0 k = h.1 65 0 k := fun k => (r1 65 0 k (by decide)).1
  refine ⟨h2, ?_, Gd.r ⟨hI, hS, h66⟩ I2 r2⟩
  rw [E_L_law_310]
  simp (disch := omega) only [h66, lc_1, lc_2, lc_3, lc_4, lc_5, inb_n, nn_clamp, ↓reduceIte]
  rw [e1, cI_s, E_L_law_324]
  simp (disch := omega) only [x66, x65, lc_1, lc_2, lc_3, lc_4, lc_5, inb_n, nn_clamp, ↓reduceIte]
  rw [e2, cI_s, E_L_law_338, if_pos rfl]
theorem lw_man {h : PH} {L i : Nat} (hG : Gd L h) (hL : L ≤ 3072) (hi : i + 6 ≤ L) : LwC L i 343 h := by
  obtain ⟨hI, hS, h66⟩ := hG
  obtain ⟨v, h1, h2, e1, e2, I2, r2, r1⟩ := (q_man (RC_now hI.1.1) (h.1 65 0 (i + 1)) (h.1 65 0 (i + 2)) (h.1 65 0 (i + 3)) (h.1 65 0 (i + 4))).toI hI
  dsimp only at e1 e2
  obtain ⟨x, hx⟩ := ev_vi (by first | exact Or.inl rfl | exact Or.inr rfl) e1
  subst hx
  have x66 : h1.1 66 0 0 = nI L := (r1 66 0 0 (by decide)).1.trans h66
  have x65 : ∀ k, h1.1 65 0 k = h.1 65 0 k := fun k => (r1 65 0 k (by decide)).1
  refine ⟨h2, ?_, Gd.r ⟨hI, hS, h66⟩ I2 r2⟩
  rw [E_L_law_343]
  simp (disch := omega) only [h66, lc_1, lc_2, lc_3, lc_4, lc_5, inb_n, nn_clamp, ↓reduceIte]
  rw [e1, cI_s, E_L_law_367]
  simp (disch := omega) only [x66, x65, lc_1, lc_2, lc_3, lc_4, lc_5, inb_n, nn_clamp, ↓reduceIte]
  rw [e2, cI_s, E_L_law_391, if_pos rfl]
theorem lw_deed {h : PH} {L i : Nat} (hG : Gd L h) (hL : L ≤ 3072) (hi : i + 6 ≤ L) : LwC L i 396 h := by
  obtain ⟨hI, hS, h66⟩ := hG
  obtain ⟨v, h1, h2, e1, e2, I2, r2, r1⟩ := (q_deed (RN_now hI.1.2.1) (h.1 65 0 (i + 1)) (h.1 65 0 (i + 2)) (h.1 65 0 (i + 3))).toI hI
  dsimp only at e1 e2
  obtain ⟨x, hx⟩ := ev_vi (by first | exact Or.inl rfl | exact Or.inr rfl) e1
  subst hx
  have x66 : h1.1 66 0 0 = nI L := (r1 66 0 0 (by decide)).1.trans h66
  have x65 : ∀ k, h1.1 65 0 k = h.1 65 0 k := fun k => (r1 65 0 k (by decide)).1
  refine ⟨h2, ?_, Gd.r ⟨hI, hS, h66⟩ I2 r2⟩
  rw [E_L_law_396]
  simp (disch := omega) only [h66, lc_1, lc_2, lc_3, lc_4, lc_5, inb_n, nn_clamp, ↓reduceIte]
  rw [e1, cI_s, E_L_law_415]
  simp (disch := omega) only [x66, x65, lc_1, lc_2, lc_3, lc_4, lc_5, inb_n, nn_clamp, ↓reduceIte]
  rw [e2, cI_s, E_L_law_434, if_pos rfl]
theorem lw_light {h : PH} {L i : Nat} (hG : Gd L h) (hL : L ≤ 3072) (hi : i + 6 ≤ L) : LwC L i 439 h := by
  obtain ⟨hI, hS, h66⟩ := hG
  obtain ⟨v, h1, h2, e1, e2, I2, r2, r1⟩ := (q_light (RC_now hI.1.1) (h.1 65 0 (i + 1)) (h.1 65 0 (i + 2)) (h.1 65 0 (i + 3)) (h.1 65 0 (i + 4))).toI hI
  dsimp only at e1 e2
  obtain ⟨x, hx⟩ := ev_vi (by first | exact Or.inl rfl | exact Or.inr rfl) e1
  subst hx
  have x66 : h1.1 66 0 0 = nI L := (r1 66 0 0 (by decide)).1.trans h66
  have x65 : ∀ k, h1.1 65 0 k = h.1 65 0 k := fun k => (r1 65 0 k (by decide)).1
  refine ⟨h2, ?_, Gd.r ⟨hI, hS, h66⟩ I2 r2⟩
  rw [E_L_law_439]
  simp (disch := omega) only [h66, lc_1, lc_2, lc_3, lc_4, lc_5, inb_n, nn_clamp, ↓reduceIte]
  rw [e1, cI_s, E_L_law_463]
  simp (disch := omega) only [x66, x65, lc_1, lc_2, lc_3, lc_4, lc_5, inb_n, nn_clamp, ↓reduceIte]
  rw [e2, cI_s, E_L_law_487, if_pos rfl]
theorem lw_stop {h : PH} {L i : Nat} (hG : Gd L h) (hL : L ≤ 3072) (hi : i + 6 ≤ L) : LwC L i 492 h := by
  obtain ⟨hI, hS, h66⟩ := hG
  obtain ⟨v, h1, h2, e1, e2, I2, r2, r1⟩ := (q_stop (RC_now hI.1.1) (RN_now hI.1.2.1) (h.1 65 0 (i + 1)) (h.1 65 0 (i + 2))).toI hI
  dsimp only at e1 e2
  obtain ⟨x, hx⟩ := ev_vi (by first | exact Or.inl rfl | exact Or.inr rfl) e1
  subst hx
  have x66 : h1.1 66 0 0 = nI L := (r1 66 0 0 (by decide)).1.trans h66
  have x65 : ∀ k, h1.1 65 0 k = h.1 65 0 k := fun k => (r1 65 0 k (by decide)).1
  refine ⟨h2, ?_, Gd.r ⟨hI, hS, h66⟩ I2 r2⟩
  rw [E_L_law_492]
  simp (disch := omega) only [h66, lc_1, lc_2, lc_3, lc_4, lc_5, inb_n, nn_clamp, ↓reduceIte]
  rw [e1, cI_s, E_L_law_506]
  simp (disch := omega) only [x66, x65, lc_1, lc_2, lc_3, lc_4, lc_5, inb_n, nn_clamp, ↓reduceIte]
  rw [e2, cI_s, E_L_law_520, if_pos rfl]
theorem lw_state {h : PH} {L i : Nat} (hG : Gd L h) (hL : L ≤ 3072) (hi : i + 6 ≤ L) : LwC L i 525 h := by
  obtain ⟨hI, hS, h66⟩ := hG
  obtain ⟨v, h1, h2, e1, e2, I2, r2, r1⟩ := (q_state (RC_now hI.1.1) (RN_now hI.1.2.1) (h.1 65 0 (i + 1)) (h.1 65 0 (i + 2)) (h.1 65 0 (i + 3)) (h.1 65 0 (i + 4))).toI hI
  dsimp only at e1 e2
  obtain ⟨x, hx⟩ := ev_vi (by first | exact Or.inl rfl | exact Or.inr rfl) e1
  subst hx
  have x66 : h1.1 66 0 0 = nI L := (r1 66 0 0 (by decide)).1.trans h66
  have x65 : ∀ k, h1.1 65 0 k = h.1 65 0 k := fun k => (r1 65 0 k (by decide)).1
  refine ⟨h2, ?_, Gd.r ⟨hI, hS, h66⟩ I2 r2⟩
  rw [E_L_law_525]
  simp (disch := omega) only [h66, lc_1, lc_2, lc_3, lc_4, lc_5, inb_n, nn_clamp, ↓reduceIte]
  rw [e1, cI_s, E_L_law_549]
  simp (disch := omega) only [x66, x65, lc_1, lc_2, lc_3, lc_4, lc_5, inb_n, nn_clamp, ↓reduceIte]
  rw [e2, cI_s, E_L_law_573, if_pos rfl]
theorem lw_way {h : PH} {L i : Nat} (hG : Gd L h) (hL : L ≤ 3072) (hi : i + 6 ≤ L) : LwC L i 578 h := by
  obtain ⟨hI, hS, h66⟩ := hG
  obtain ⟨v, h1, h2, e1, e2, I2, r2, r1⟩ := (q_way (RC_now hI.1.1) (h.1 65 0 (i + 1)) (h.1 65 0 (i + 2)) (h.1 65 0 (i + 3))).toI hI
  dsimp only at e1 e2
  obtain ⟨x, hx⟩ := ev_vi (by first | exact Or.inl rfl | exact Or.inr rfl) e1
  subst hx
  have x66 : h1.1 66 0 0 = nI L := (r1 66 0 0 (by decide)).1.trans h66
  have x65 : ∀ k, h1.1 65 0 k = h.1 65 0 k := fun k => (r1 65 0 k (by decide)).1
  refine ⟨h2, ?_, Gd.r ⟨hI, hS, h66⟩ I2 r2⟩
  rw [E_L_law_578]
  simp (disch := omega) only [h66, lc_1, lc_2, lc_3, lc_4, lc_5, inb_n, nn_clamp, ↓reduceIte]
  rw [e1, cI_s, E_L_law_597]
  simp (disch := omega) only [x66, x65, lc_1, lc_2, lc_3, lc_4, lc_5, inb_n, nn_clamp, ↓reduceIte]
  rw [e2, cI_s, E_L_law_616, if_pos rfl]
theorem lw_free {h : PH} {L i : Nat} (hG : Gd L h) (hL : L ≤ 3072) (hi : i + 6 ≤ L) : LwC L i 621 h := by
  obtain ⟨hI, hS, h66⟩ := hG
  obtain ⟨v, h1, h2, e1, e2, I2, r2, r1⟩ := (q_free (RC_now hI.1.1) (h.1 65 0 (i + 1)) (h.1 65 0 (i + 2)) (h.1 65 0 (i + 3)) (h.1 65 0 (i + 4))).toI hI
  dsimp only at e1 e2
  obtain ⟨x, hx⟩ := ev_vi (by first | exact Or.inl rfl | exact Or.inr rfl) e1
  subst hx
  have x66 : h1.1 66 0 0 = nI L := (r1 66 0 0 (by decide)).1.trans h66
  have x65 : ∀ k, h1.1 65 0 k = h.1 65 0 k := fun k => (r1 65 0 k (by decide)).1
  refine ⟨h2, ?_, Gd.r ⟨hI, hS, h66⟩ I2 r2⟩
  rw [E_L_law_621]
  simp (disch := omega) only [h66, lc_1, lc_2, lc_3, lc_4, lc_5, inb_n, nn_clamp, ↓reduceIte]
  rw [e1, cI_s, E_L_law_645]
  simp (disch := omega) only [x66, x65, lc_1, lc_2, lc_3, lc_4, lc_5, inb_n, nn_clamp, ↓reduceIte]
  rw [e2, cI_s, E_L_law_669, if_pos rfl]
theorem lw_helps {h : PH} {L i : Nat} (hG : Gd L h) (hL : L ≤ 3072) (hi : i + 6 ≤ L) : LwC L i 674 h := by
  obtain ⟨hI, hS, h66⟩ := hG
  obtain ⟨v, h1, h2, e1, e2, I2, r2, r1⟩ := (q_helps (RC_now hI.1.1) (h.1 65 0 (i + 1)) (h.1 65 0 (i + 2)) (h.1 65 0 (i + 3)) (h.1 65 0 (i + 4)) (h.1 65 0 (i + 5))).toI hI
  dsimp only at e1 e2
  obtain ⟨x, hx⟩ := ev_vi (by first | exact Or.inl rfl | exact Or.inr rfl) e1
  subst hx
  have x66 : h1.1 66 0 0 = nI L := (r1 66 0 0 (by decide)).1.trans h66
  have x65 : ∀ k, h1.1 65 0 k = h.1 65 0 k := fun k => (r1 65 0 k (by decide)).1
  refine ⟨h2, ?_, Gd.r ⟨hI, hS, h66⟩ I2 r2⟩
  rw [E_L_law_674]
  simp (disch := omega) only [h66, lc_1, lc_2, lc_3, lc_4, lc_5, inb_n, nn_clamp, ↓reduceIte]
  rw [e1, cI_s, E_L_law_703]
  simp (disch := omega) only [x66, x65, lc_1, lc_2, lc_3, lc_4, lc_5, inb_n, nn_clamp, ↓reduceIte]
  rw [e2, cI_s, E_L_law_732, if_pos rfl]
theorem lw_rest {h : PH} {L i : Nat} (hG : Gd L h) (hL : L ≤ 3072) (hi : i + 6 ≤ L) : LwC L i 737 h := by
  obtain ⟨hI, hS, h66⟩ := hG
  obtain ⟨v, h1, h2, e1, e2, I2, r2, r1⟩ := (q_rest (RC_now hI.1.1) (h.1 65 0 (i + 1)) (h.1 65 0 (i + 2)) (h.1 65 0 (i + 3))).toI hI
  dsimp only at e1 e2
  obtain ⟨x, hx⟩ := ev_vi (by first | exact Or.inl rfl | exact Or.inr rfl) e1
  subst hx
  have x66 : h1.1 66 0 0 = nI L := (r1 66 0 0 (by decide)).1.trans h66
  have x65 : ∀ k, h1.1 65 0 k = h.1 65 0 k := fun k => (r1 65 0 k (by decide)).1
  refine ⟨h2, ?_, Gd.r ⟨hI, hS, h66⟩ I2 r2⟩
  rw [E_L_law_737]
  simp (disch := omega) only [h66, lc_1, lc_2, lc_3, lc_4, lc_5, inb_n, nn_clamp, ↓reduceIte]
  rw [e1, cI_s, E_L_law_756]
  simp (disch := omega) only [x66, x65, lc_1, lc_2, lc_3, lc_4, lc_5, inb_n, nn_clamp, ↓reduceIte]
  rw [e2, cI_s, E_L_law_775, if_pos rfl]
theorem lw_premium {h : PH} {L i : Nat} (hG : Gd L h) (hL : L ≤ 3072) (hi : i + 6 ≤ L) : LwC L i 780 h := by
  obtain ⟨hI, hS, h66⟩ := hG
  by_cases qb : h.1 65 0 (i + 4) = 0
  · obtain ⟨v, h1, h2, e1, e2, I2, r2, r1⟩ := pr_I hI (h.1 65 0 (i + 1)) (h.1 65 0 (i + 2)) (h.1 65 0 (i + 3)) 0
    dsimp only at e1 e2
    obtain ⟨x, hx⟩ := ev_vl rfl e1
    subst hx
    have x66 : h1.1 66 0 0 = nI L := (r1 66 0 0 (by decide)).1.trans h66
    have x65 : ∀ k, h1.1 65 0 k = h.1 65 0 k := fun k => (r1 65 0 k (by decide)).1
    refine ⟨h2, ?_, Gd.r ⟨hI, hS, h66⟩ I2 r2⟩
    rw [E_L_law_780]
    simp (disch := omega) only [h66, lc_1, lc_2, lc_3, lc_4, lc_5, inb_n, nn_clamp, ↓reduceIte]
    rw [if_pos qb, e1, cL_s, E_L_law_812]
    simp (disch := omega) only [x66, x65, lc_1, lc_2, lc_3, lc_4, lc_5, inb_n, nn_clamp, ↓reduceIte]
    rw [if_pos qb, e2, cL_s, E_L_law_844, if_pos (cmp_self x)]
  · obtain ⟨v, h1, h2, e1, e2, I2, r2, r1⟩ := pr_I hI (h.1 65 0 (i + 1)) (h.1 65 0 (i + 2)) (h.1 65 0 (i + 3)) 1
    dsimp only at e1 e2
    obtain ⟨x, hx⟩ := ev_vl rfl e1
    subst hx
    have x66 : h1.1 66 0 0 = nI L := (r1 66 0 0 (by decide)).1.trans h66
    have x65 : ∀ k, h1.1 65 0 k = h.1 65 0 k := fun k => (r1 65 0 k (by decide)).1
    refine ⟨h2, ?_, Gd.r ⟨hI, hS, h66⟩ I2 r2⟩
    rw [E_L_law_780]
    simp (disch := omega) only [h66, lc_1, lc_2, lc_3, lc_4, lc_5, inb_n, nn_clamp, ↓reduceIte]
    rw [if_neg qb, e1, cL_s, E_L_law_812]
    simp (disch := omega) only [x66, x65, lc_1, lc_2, lc_3, lc_4, lc_5, inb_n, nn_clamp, ↓reduceIte]
    rw [if_neg qb, e2, cL_s, E_L_law_844, if_pos (cmp_self x)]
theorem lw_log {h : PH} {L i : Nat} (hG : Gd L h) (hL : L ≤ 3072) (hi : i + 6 ≤ L) : LwC L i 850 h := by
  obtain ⟨hI, hS, h66⟩ := hG
  obtain ⟨v, h1, h2, e1, e2, I2, r2, r1⟩ := (q_log (RL_now hI.1.2.2.1) (h.1 65 0 (i + 1)) (h.1 65 0 (i + 2))).toI hI
  dsimp only at e1 e2
  obtain ⟨x, hx⟩ := ev_vi (by first | exact Or.inl rfl | exact Or.inr rfl) e1
  subst hx
  have x66 : h1.1 66 0 0 = nI L := (r1 66 0 0 (by decide)).1.trans h66
  have x65 : ∀ k, h1.1 65 0 k = h.1 65 0 k := fun k => (r1 65 0 k (by decide)).1
  refine ⟨h2, ?_, Gd.r ⟨hI, hS, h66⟩ I2 r2⟩
  rw [E_L_law_850]
  simp (disch := omega) only [h66, lc_1, lc_2, lc_3, lc_4, lc_5, inb_n, nn_clamp, ↓reduceIte]
  rw [e1, cI_s, E_L_law_864]
  simp (disch := omega) only [x66, x65, lc_1, lc_2, lc_3, lc_4, lc_5, inb_n, nn_clamp, ↓reduceIte]
  rw [e2, cI_s, E_L_law_878, if_pos rfl]
theorem lw_fits {h : PH} {L i : Nat} (hG : Gd L h) (hL : L ≤ 3072) (hi : i + 6 ≤ L) : LwC L i 883 h := by
  obtain ⟨hI, hS, h66⟩ := hG
  obtain ⟨v, h1, h2, e1, e2, I2, r2, r1⟩ := (q_fits (RL_now hI.1.2.2.1) (h.1 65 0 (i + 1)) (h.1 65 0 (i + 2))).toI hI
  dsimp only at e1 e2
  obtain ⟨x, hx⟩ := ev_vi (by first | exact Or.inl rfl | exact Or.inr rfl) e1
  subst hx
  have x66 : h1.1 66 0 0 = nI L := (r1 66 0 0 (by decide)).1.trans h66
  have x65 : ∀ k, h1.1 65 0 k = h.1 65 0 k := fun k => (r1 65 0 k (by decide)).1
  refine ⟨h2, ?_, Gd.r ⟨hI, hS, h66⟩ I2 r2⟩
  rw [E_L_law_883]
  simp (disch := omega) only [h66, lc_1, lc_2, lc_3, lc_4, lc_5, inb_n, nn_clamp, ↓reduceIte]
  rw [e1, cI_s, E_L_law_897]
  simp (disch := omega) only [x66, x65, lc_1, lc_2, lc_3, lc_4, lc_5, inb_n, nn_clamp, ↓reduceIte]
  rw [e2, cI_s, E_L_law_911, if_pos rfl]
theorem lw_belief {h : PH} {L i : Nat} (hG : Gd L h) (hL : L ≤ 3072) (hi : i + 6 ≤ L) : LwC L i 916 h := by
  obtain ⟨hI, hS, h66⟩ := hG
  by_cases qb : h.1 65 0 (i + 3) = 0
  · obtain ⟨v, h1, h2, e1, e2, I2, r2, r1⟩ := (q_belief (RL_now hI.1.2.2.1) (h.1 65 0 (i + 1)) (h.1 65 0 (i + 2)) 0).toI hI
    dsimp only at e1 e2
    obtain ⟨x, hx⟩ := ev_vl rfl e1
    subst hx
    have x66 : h1.1 66 0 0 = nI L := (r1 66 0 0 (by decide)).1.trans h66
    have x65 : ∀ k, h1.1 65 0 k = h.1 65 0 k := fun k => (r1 65 0 k (by decide)).1
    refine ⟨h2, ?_, Gd.r ⟨hI, hS, h66⟩ I2 r2⟩
    rw [E_L_law_916]
    simp (disch := omega) only [h66, lc_1, lc_2, lc_3, lc_4, lc_5, inb_n, nn_clamp, ↓reduceIte]
    rw [if_pos qb, e1, cL_s, E_L_law_943]
    simp (disch := omega) only [x66, x65, lc_1, lc_2, lc_3, lc_4, lc_5, inb_n, nn_clamp, ↓reduceIte]
    rw [if_pos qb, e2, cL_s, E_L_law_970, if_pos (cmp_self x)]
  · obtain ⟨v, h1, h2, e1, e2, I2, r2, r1⟩ := (q_belief (RL_now hI.1.2.2.1) (h.1 65 0 (i + 1)) (h.1 65 0 (i + 2)) 1).toI hI
    dsimp only at e1 e2
    obtain ⟨x, hx⟩ := ev_vl rfl e1
    subst hx
    have x66 : h1.1 66 0 0 = nI L := (r1 66 0 0 (by decide)).1.trans h66
    have x65 : ∀ k, h1.1 65 0 k = h.1 65 0 k := fun k => (r1 65 0 k (by decide)).1
    refine ⟨h2, ?_, Gd.r ⟨hI, hS, h66⟩ I2 r2⟩
    rw [E_L_law_916]
    simp (disch := omega) only [h66, lc_1, lc_2, lc_3, lc_4, lc_5, inb_n, nn_clamp, ↓reduceIte]
    rw [if_neg qb, e1, cL_s, E_L_law_943]
    simp (disch := omega) only [x66, x65, lc_1, lc_2, lc_3, lc_4, lc_5, inb_n, nn_clamp, ↓reduceIte]
    rw [if_neg qb, e2, cL_s, E_L_law_970, if_pos (cmp_self x)]
theorem lw_drawn {h : PH} {L i : Nat} (hG : Gd L h) (hL : L ≤ 3072) (hi : i + 6 ≤ L) : LwC L i 976 h := by
  obtain ⟨hI, hS, h66⟩ := hG
  obtain ⟨v, h1, h2, e1, e2, I2, r2, r1⟩ := (q_drawn (RC_now hI.1.1) (h.1 65 0 (i + 1)) (h.1 65 0 (i + 2)) (h.1 65 0 (i + 3)) (h.1 65 0 (i + 4))).toI hI
  dsimp only at e1 e2
  obtain ⟨x, hx⟩ := ev_vi (by first | exact Or.inl rfl | exact Or.inr rfl) e1
  subst hx
  have x66 : h1.1 66 0 0 = nI L := (r1 66 0 0 (by decide)).1.trans h66
  have x65 : ∀ k, h1.1 65 0 k = h.1 65 0 k := fun k => (r1 65 0 k (by decide)).1
  refine ⟨h2, ?_, Gd.r ⟨hI, hS, h66⟩ I2 r2⟩
  rw [E_L_law_976]
  simp (disch := omega) only [h66, lc_1, lc_2, lc_3, lc_4, lc_5, inb_n, nn_clamp, ↓reduceIte]
  rw [e1, cI_s, E_L_law_1000]
  simp (disch := omega) only [x66, x65, lc_1, lc_2, lc_3, lc_4, lc_5, inb_n, nn_clamp, ↓reduceIte]
  rw [e2, cI_s, E_L_law_1024, if_pos rfl]
theorem lw_hours {h : PH} {L i : Nat} (hG : Gd L h) (hL : L ≤ 3072) (hi : i + 6 ≤ L) : LwC L i 1029 h := by
  obtain ⟨hI, hS, h66⟩ := hG
  obtain ⟨v, h1, h2, e1, e2, I2, r2, r1⟩ := (q_hours (RC_now hI.1.1) (h.1 65 0 (i + 1)) (h.1 65 0 (i + 2)) (h.1 65 0 (i + 3))).toI hI
  dsimp only at e1 e2
  obtain ⟨x, hx⟩ := ev_vi (by first | exact Or.inl rfl | exact Or.inr rfl) e1
  subst hx
  have x66 : h1.1 66 0 0 = nI L := (r1 66 0 0 (by decide)).1.trans h66
  have x65 : ∀ k, h1.1 65 0 k = h.1 65 0 k := fun k => (r1 65 0 k (by decide)).1
  refine ⟨h2, ?_, Gd.r ⟨hI, hS, h66⟩ I2 r2⟩
  rw [E_L_law_1029]
  simp (disch := omega) only [h66, lc_1, lc_2, lc_3, lc_4, lc_5, inb_n, nn_clamp, ↓reduceIte]
  rw [e1, cI_s, E_L_law_1048]
  simp (disch := omega) only [x66, x65, lc_1, lc_2, lc_3, lc_4, lc_5, inb_n, nn_clamp, ↓reduceIte]
  rw [e2, cI_s, E_L_law_1067, if_pos rfl]
theorem lw_shade {h : PH} {L i : Nat} (hG : Gd L h) (hL : L ≤ 3072) (hi : i + 6 ≤ L) : LwC L i 1072 h := by
  obtain ⟨hI, hS, h66⟩ := hG
  obtain ⟨v, h1, h2, e1, e2, I2, r2, r1⟩ := (q_shade (RC_now hI.1.1) (h.1 65 0 (i + 1)) (h.1 65 0 (i + 2))).toI hI
  dsimp only at e1 e2
  obtain ⟨x, hx⟩ := ev_vi (by first | exact Or.inl rfl | exact Or.inr rfl) e1
  subst hx
  have x66 : h1.1 66 0 0 = nI L := (r1 66 0 0 (by decide)).1.trans h66
  have x65 : ∀ k, h1.1 65 0 k = h.1 65 0 k := fun k => (r1 65 0 k (by decide)).1
  refine ⟨h2, ?_, Gd.r ⟨hI, hS, h66⟩ I2 r2⟩
  rw [E_L_law_1072]
  simp (disch := omega) only [h66, lc_1, lc_2, lc_3, lc_4, lc_5, inb_n, nn_clamp, ↓reduceIte]
  rw [e1, cI_s, E_L_law_1086]
  simp (disch := omega) only [x66, x65, lc_1, lc_2, lc_3, lc_4, lc_5, inb_n, nn_clamp, ↓reduceIte]
  rw [e2, cI_s, E_L_law_1100, if_pos rfl]
theorem lw_leaves {h : PH} {L i : Nat} (hG : Gd L h) (hL : L ≤ 3072) (hi : i + 6 ≤ L) : LwC L i 1105 h := by
  obtain ⟨hI, hS, h66⟩ := hG
  obtain ⟨v, h1, h2, e1, e2, I2, r2, r1⟩ := (q_leaves (RC_now hI.1.1) (h.1 65 0 (i + 1)) (h.1 65 0 (i + 2)) (h.1 65 0 (i + 3)) (h.1 65 0 (i + 4))).toI hI
  dsimp only at e1 e2
  obtain ⟨x, hx⟩ := ev_vi (by first | exact Or.inl rfl | exact Or.inr rfl) e1
  subst hx
  have x66 : h1.1 66 0 0 = nI L := (r1 66 0 0 (by decide)).1.trans h66
  have x65 : ∀ k, h1.1 65 0 k = h.1 65 0 k := fun k => (r1 65 0 k (by decide)).1
  refine ⟨h2, ?_, Gd.r ⟨hI, hS, h66⟩ I2 r2⟩
  rw [E_L_law_1105]
  simp (disch := omega) only [h66, lc_1, lc_2, lc_3, lc_4, lc_5, inb_n, nn_clamp, ↓reduceIte]
  rw [e1, cI_s, E_L_law_1129]
  simp (disch := omega) only [x66, x65, lc_1, lc_2, lc_3, lc_4, lc_5, inb_n, nn_clamp, ↓reduceIte]
  rw [e2, cI_s, E_L_law_1153, if_pos rfl]
theorem lw_back {h : PH} {L i : Nat} (hG : Gd L h) (hL : L ≤ 3072) (hi : i + 6 ≤ L) : LwC L i 1158 h := by
  obtain ⟨hI, hS, h66⟩ := hG
  obtain ⟨v, h1, h2, e1, e2, I2, r2, r1⟩ := (q_back (RC_now hI.1.1) (h.1 65 0 (i + 1)) (h.1 65 0 (i + 2)) (h.1 65 0 (i + 3))).toI hI
  dsimp only at e1 e2
  obtain ⟨x, hx⟩ := ev_vi (by first | exact Or.inl rfl | exact Or.inr rfl) e1
  subst hx
  have x66 : h1.1 66 0 0 = nI L := (r1 66 0 0 (by decide)).1.trans h66
  have x65 : ∀ k, h1.1 65 0 k = h.1 65 0 k := fun k => (r1 65 0 k (by decide)).1
  refine ⟨h2, ?_, Gd.r ⟨hI, hS, h66⟩ I2 r2⟩
  rw [E_L_law_1158]
  simp (disch := omega) only [h66, lc_1, lc_2, lc_3, lc_4, lc_5, inb_n, nn_clamp, ↓reduceIte]
  rw [e1, cI_s, E_L_law_1177]
  simp (disch := omega) only [x66, x65, lc_1, lc_2, lc_3, lc_4, lc_5, inb_n, nn_clamp, ↓reduceIte]
  rw [e2, cI_s, E_L_law_1196, if_pos rfl]
theorem lw_watch {h : PH} {L i : Nat} (hG : Gd L h) (hL : L ≤ 3072) (hi : i + 6 ≤ L) : LwC L i 1201 h := by
  obtain ⟨hI, hS, h66⟩ := hG
  obtain ⟨v, h1, h2, e1, e2, I2, r2, r1⟩ := (q_watch (RC_now hI.1.1) (h.1 65 0 (i + 1)) (h.1 65 0 (i + 2)) (h.1 65 0 (i + 3))).toI hI
  dsimp only at e1 e2
  obtain ⟨x, hx⟩ := ev_vi (by first | exact Or.inl rfl | exact Or.inr rfl) e1
  subst hx
  have x66 : h1.1 66 0 0 = nI L := (r1 66 0 0 (by decide)).1.trans h66
  have x65 : ∀ k, h1.1 65 0 k = h.1 65 0 k := fun k => (r1 65 0 k (by decide)).1
  refine ⟨h2, ?_, Gd.r ⟨hI, hS, h66⟩ I2 r2⟩
  rw [E_L_law_1201]
  simp (disch := omega) only [h66, lc_1, lc_2, lc_3, lc_4, lc_5, inb_n, nn_clamp, ↓reduceIte]
  rw [e1, cI_s, E_L_law_1220]
  simp (disch := omega) only [x66, x65, lc_1, lc_2, lc_3, lc_4, lc_5, inb_n, nn_clamp, ↓reduceIte]
  rw [e2, cI_s, E_L_law_1239, if_pos rfl]
theorem lw_mutiny {h : PH} {L i : Nat} (hG : Gd L h) (hL : L ≤ 3072) (hi : i + 6 ≤ L) : LwC L i 1244 h := by
  obtain ⟨hI, hS, h66⟩ := hG
  by_cases qb : h.1 65 0 (i + 4) = 0
  · obtain ⟨v, h1, h2, e1, e2, I2, r2, r1⟩ := (q_mutiny (RC_now hI.1.1) (h.1 65 0 (i + 1)) (h.1 65 0 (i + 2)) (h.1 65 0 (i + 3)) 0).toI hI
    dsimp only at e1 e2
    obtain ⟨x, hx⟩ := ev_vi (by first | exact Or.inl rfl | exact Or.inr rfl) e1
    subst hx
    have x66 : h1.1 66 0 0 = nI L := (r1 66 0 0 (by decide)).1.trans h66
    have x65 : ∀ k, h1.1 65 0 k = h.1 65 0 k := fun k => (r1 65 0 k (by decide)).1
    refine ⟨h2, ?_, Gd.r ⟨hI, hS, h66⟩ I2 r2⟩
    rw [E_L_law_1244]
    simp (disch := omega) only [h66, lc_1, lc_2, lc_3, lc_4, lc_5, inb_n, nn_clamp, ↓reduceIte]
    rw [if_pos qb, e1, cI_s, E_L_law_1276]
    simp (disch := omega) only [x66, x65, lc_1, lc_2, lc_3, lc_4, lc_5, inb_n, nn_clamp, ↓reduceIte]
    rw [if_pos qb, e2, cI_s, E_L_law_1308, if_pos rfl]
  · obtain ⟨v, h1, h2, e1, e2, I2, r2, r1⟩ := (q_mutiny (RC_now hI.1.1) (h.1 65 0 (i + 1)) (h.1 65 0 (i + 2)) (h.1 65 0 (i + 3)) 1).toI hI
    dsimp only at e1 e2
    obtain ⟨x, hx⟩ := ev_vi (by first | exact Or.inl rfl | exact Or.inr rfl) e1
    subst hx
    have x66 : h1.1 66 0 0 = nI L := (r1 66 0 0 (by decide)).1.trans h66
    have x65 : ∀ k, h1.1 65 0 k = h.1 65 0 k := fun k => (r1 65 0 k (by decide)).1
    refine ⟨h2, ?_, Gd.r ⟨hI, hS, h66⟩ I2 r2⟩
    rw [E_L_law_1244]
    simp (disch := omega) only [h66, lc_1, lc_2, lc_3, lc_4, lc_5, inb_n, nn_clamp, ↓reduceIte]
    rw [if_neg qb, e1, cI_s, E_L_law_1276]
    simp (disch := omega) only [x66, x65, lc_1, lc_2, lc_3, lc_4, lc_5, inb_n, nn_clamp, ↓reduceIte]
    rw [if_neg qb, e2, cI_s, E_L_law_1308, if_pos rfl]
theorem lw_next {h : PH} {L i : Nat} (hG : Gd L h) (hL : L ≤ 3072) (hi : i + 6 ≤ L) : LwC L i 1313 h := by
  obtain ⟨hI, hS, h66⟩ := hG
  by_cases qb : h.1 65 0 (i + 3) = 0
  · obtain ⟨v, h1, h2, e1, e2, I2, r2, r1⟩ := (q_next (RL_now hI.1.2.2.1) (h.1 65 0 (i + 1)) (h.1 65 0 (i + 2)) 0).toI hI
    dsimp only at e1 e2
    obtain ⟨x, hx⟩ := ev_vl rfl e1
    subst hx
    have x66 : h1.1 66 0 0 = nI L := (r1 66 0 0 (by decide)).1.trans h66
    have x65 : ∀ k, h1.1 65 0 k = h.1 65 0 k := fun k => (r1 65 0 k (by decide)).1
    refine ⟨h2, ?_, Gd.r ⟨hI, hS, h66⟩ I2 r2⟩
    rw [E_L_law_1313]
    simp (disch := omega) only [h66, lc_1, lc_2, lc_3, lc_4, lc_5, inb_n, nn_clamp, ↓reduceIte]
    rw [if_pos qb, e1, cL_s, E_L_law_1340]
    simp (disch := omega) only [x66, x65, lc_1, lc_2, lc_3, lc_4, lc_5, inb_n, nn_clamp, ↓reduceIte]
    rw [if_pos qb, e2, cL_s, E_L_law_1367, if_pos (cmp_self x)]
  · obtain ⟨v, h1, h2, e1, e2, I2, r2, r1⟩ := (q_next (RL_now hI.1.2.2.1) (h.1 65 0 (i + 1)) (h.1 65 0 (i + 2)) 1).toI hI
    dsimp only at e1 e2
    obtain ⟨x, hx⟩ := ev_vl rfl e1
    subst hx
    have x66 : h1.1 66 0 0 = nI L := (r1 66 0 0 (by decide)).1.trans h66
    have x65 : ∀ k, h1.1 65 0 k = h.1 65 0 k := fun k => (r1 65 0 k (by decide)).1
    refine ⟨h2, ?_, Gd.r ⟨hI, hS, h66⟩ I2 r2⟩
    rw [E_L_law_1313]
    simp (disch := omega) only [h66, lc_1, lc_2, lc_3, lc_4, lc_5, inb_n, nn_clamp, ↓reduceIte]
    rw [if_neg qb, e1, cL_s, E_L_law_1340]
    simp (disch := omega) only [x66, x65, lc_1, lc_2, lc_3, lc_4, lc_5, inb_n, nn_clamp, ↓reduceIte]
    rw [if_neg qb, e2, cL_s, E_L_law_1367, if_pos (cmp_self x)]
theorem lw_both {h : PH} {L i : Nat} (hG : Gd L h) (hL : L ≤ 3072) (hi : i + 6 ≤ L) : LwC L i 1373 h := by
  obtain ⟨hI, hS, h66⟩ := hG
  by_cases qb : h.1 65 0 (i + 4) = 0
  · obtain ⟨v, h1, h2, e1, e2, I2, r2, r1⟩ := (q_both (RL_now hI.1.2.2.1) (h.1 65 0 (i + 1)) (h.1 65 0 (i + 2)) (h.1 65 0 (i + 3)) 0).toI hI
    dsimp only at e1 e2
    obtain ⟨x, hx⟩ := ev_vl rfl e1
    subst hx
    have x66 : h1.1 66 0 0 = nI L := (r1 66 0 0 (by decide)).1.trans h66
    have x65 : ∀ k, h1.1 65 0 k = h.1 65 0 k := fun k => (r1 65 0 k (by decide)).1
    refine ⟨h2, ?_, Gd.r ⟨hI, hS, h66⟩ I2 r2⟩
    rw [E_L_law_1373]
    simp (disch := omega) only [h66, lc_1, lc_2, lc_3, lc_4, lc_5, inb_n, nn_clamp, ↓reduceIte]
    rw [if_pos qb, e1, cL_s, E_L_law_1405]
    simp (disch := omega) only [x66, x65, lc_1, lc_2, lc_3, lc_4, lc_5, inb_n, nn_clamp, ↓reduceIte]
    rw [if_pos qb, e2, cL_s, E_L_law_1437, if_pos (cmp_self x)]
  · obtain ⟨v, h1, h2, e1, e2, I2, r2, r1⟩ := (q_both (RL_now hI.1.2.2.1) (h.1 65 0 (i + 1)) (h.1 65 0 (i + 2)) (h.1 65 0 (i + 3)) 1).toI hI
    dsimp only at e1 e2
    obtain ⟨x, hx⟩ := ev_vl rfl e1
    subst hx
    have x66 : h1.1 66 0 0 = nI L := (r1 66 0 0 (by decide)).1.trans h66
    have x65 : ∀ k, h1.1 65 0 k = h.1 65 0 k := fun k => (r1 65 0 k (by decide)).1
    refine ⟨h2, ?_, Gd.r ⟨hI, hS, h66⟩ I2 r2⟩
    rw [E_L_law_1373]
    simp (disch := omega) only [h66, lc_1, lc_2, lc_3, lc_4, lc_5, inb_n, nn_clamp, ↓reduceIte]
    rw [if_neg qb, e1, cL_s, E_L_law_1405]
    simp (disch := omega) only [x66, x65, lc_1, lc_2, lc_3, lc_4, lc_5, inb_n, nn_clamp, ↓reduceIte]
    rw [if_neg qb, e2, cL_s, E_L_law_1437, if_pos (cmp_self x)]
theorem lw_count {h : PH} {L i : Nat} (hG : Gd L h) (hL : L ≤ 3072) (hi : i + 6 ≤ L) : LwC L i 1443 h := by
  obtain ⟨hI, hS, h66⟩ := hG
  obtain ⟨v, h1, h2, e1, e2, I2, r2, r1⟩ := q_count hI (h.1 65 0 (i + 1))
  dsimp only at e1 e2
  obtain ⟨x, hx⟩ := ev_vi (by first | exact Or.inl rfl | exact Or.inr rfl) e1
  subst hx
  have x66 : h1.1 66 0 0 = nI L := (r1 66 0 0 (by decide)).1.trans h66
  have x65 : ∀ k, h1.1 65 0 k = h.1 65 0 k := fun k => (r1 65 0 k (by decide)).1
  refine ⟨h2, ?_, Gd.r ⟨hI, hS, h66⟩ I2 r2⟩
  rw [E_L_law_1443]
  simp (disch := omega) only [h66, lc_1, lc_2, lc_3, lc_4, lc_5, inb_n, nn_clamp, ↓reduceIte]
  rw [e1, cI_s, E_L_law_1452]
  simp (disch := omega) only [x66, x65, lc_1, lc_2, lc_3, lc_4, lc_5, inb_n, nn_clamp, ↓reduceIte]
  rw [e2, cI_s, E_L_law_1461, if_pos rfl]
theorem lw_image {h : PH} {L i : Nat} (hG : Gd L h) (hL : L ≤ 3072) (hi : i + 6 ≤ L) : LwC L i 1466 h := by
  obtain ⟨hI, hS, h66⟩ := hG
  obtain ⟨v, h1, h2, e1, e2, I2, r2, r1⟩ := q_image hI (h.1 65 0 (i + 1))
  dsimp only at e1 e2
  obtain ⟨x, hx⟩ := ev_vi (by first | exact Or.inl rfl | exact Or.inr rfl) e1
  subst hx
  have x66 : h1.1 66 0 0 = nI L := (r1 66 0 0 (by decide)).1.trans h66
  have x65 : ∀ k, h1.1 65 0 k = h.1 65 0 k := fun k => (r1 65 0 k (by decide)).1
  refine ⟨h2, ?_, Gd.r ⟨hI, hS, h66⟩ I2 r2⟩
  rw [E_L_law_1466]
  simp (disch := omega) only [h66, lc_1, lc_2, lc_3, lc_4, lc_5, inb_n, nn_clamp, ↓reduceIte]
  rw [e1, cI_s, E_L_law_1475]
  simp (disch := omega) only [x66, x65, lc_1, lc_2, lc_3, lc_4, lc_5, inb_n, nn_clamp, ↓reduceIte]
  rw [e2, cI_s, E_L_law_1484, if_pos rfl]
theorem lw_again {h : PH} {L i : Nat} (hG : Gd L h) (hL : L ≤ 3072) (hi : i + 6 ≤ L) : LwC L i 1489 h := by
  obtain ⟨hI, hS, h66⟩ := hG
  obtain ⟨v, h1, h2, e1, e2, I2, r2, r1⟩ := q_again hI (h.1 65 0 (i + 1))
  dsimp only at e1 e2
  obtain ⟨x, hx⟩ := ev_vi (by first | exact Or.inl rfl | exact Or.inr rfl) e1
  subst hx
  have x66 : h1.1 66 0 0 = nI L := (r1 66 0 0 (by decide)).1.trans h66
  have x65 : ∀ k, h1.1 65 0 k = h.1 65 0 k := fun k => (r1 65 0 k (by decide)).1
  refine ⟨h2, ?_, Gd.r ⟨hI, hS, h66⟩ I2 r2⟩
  rw [E_L_law_1489]
  simp (disch := omega) only [h66, lc_1, lc_2, lc_3, lc_4, lc_5, inb_n, nn_clamp, ↓reduceIte]
  rw [e1, cI_s, E_L_law_1498]
  simp (disch := omega) only [x66, x65, lc_1, lc_2, lc_3, lc_4, lc_5, inb_n, nn_clamp, ↓reduceIte]
  rw [e2, cI_s, E_L_law_1507, if_pos rfl]
theorem lw_33 {h : PH} {L i : Nat} (hG : Gd L h) (hL : L ≤ 3072) (hi : i + 6 ≤ L) (s0 : Int32) : ∃ h2, pm_ev (276, 33, [vr 65 0, vr 7 0, vr 8 0, vi (nI i)], [vi s0], h) = pm_ev (276, 1512, [vr 65 0, vr 7 0, vr 8 0, vi (nI i)], [], h2) ∧ Gd L h2 := by
  rw [E_L_law_33]
  by_cases q0 : s0 = 0
  · rw [if_pos q0]; exact lw_feed hG hL hi
  rw [if_neg q0]
  by_cases q1 : s0 = 1
  · rw [if_pos q1]; exact lw_end hG hL hi
  rw [if_neg q1]
  by_cases q2 : s0 = 2
  · rw [if_pos q2]; exact lw_text hG hL hi
  rw [if_neg q2]
  by_cases q3 : s0 = 3
  · rw [if_pos q3]; exact lw_fault hG hL hi
  rw [if_neg q3]
  by_cases q4 : s0 = 4
  · rw [if_pos q4]; exact lw_coast hG hL hi
  rw [if_neg q4]
  by_cases q5 : s0 = 5
  · rw [if_pos q5]; exact lw_man hG hL hi
  rw [if_neg q5]
  by_cases q6 : s0 = 6
  · rw [if_pos q6]; exact lw_deed hG hL hi
  rw [if_neg q6]
  by_cases q7 : s0 = 7
  · rw [if_pos q7]; exact lw_light hG hL hi
  rw [if_neg q7]
  by_cases q8 : s0 = 8
  · rw [if_pos q8]; exact lw_stop hG hL hi
  rw [if_neg q8]
  by_cases q9 : s0 = 9
  · rw [if_pos q9]; exact lw_state hG hL hi
  rw [if_neg q9]
  by_cases q10 : s0 = 10
  · rw [if_pos q10]; exact lw_way hG hL hi
  rw [if_neg q10]
  by_cases q11 : s0 = 11
  · rw [if_pos q11]; exact lw_free hG hL hi
  rw [if_neg q11]
  by_cases q12 : s0 = 12
  · rw [if_pos q12]; exact lw_helps hG hL hi
  rw [if_neg q12]
  by_cases q13 : s0 = 13
  · rw [if_pos q13]; exact lw_rest hG hL hi
  rw [if_neg q13]
  by_cases q14 : s0 = 14
  · rw [if_pos q14]; exact lw_premium hG hL hi
  rw [if_neg q14]
  by_cases q15 : s0 = 15
  · rw [if_pos q15]; exact lw_log hG hL hi
  rw [if_neg q15]
  by_cases q16 : s0 = 16
  · rw [if_pos q16]; exact lw_fits hG hL hi
  rw [if_neg q16]
  by_cases q17 : s0 = 17
  · rw [if_pos q17]; exact lw_belief hG hL hi
  rw [if_neg q17]
  by_cases q18 : s0 = 18
  · rw [if_pos q18]; exact lw_drawn hG hL hi
  rw [if_neg q18]
  by_cases q19 : s0 = 19
  · rw [if_pos q19]; exact lw_hours hG hL hi
  rw [if_neg q19]
  by_cases q20 : s0 = 20
  · rw [if_pos q20]; exact lw_shade hG hL hi
  rw [if_neg q20]
  by_cases q21 : s0 = 21
  · rw [if_pos q21]; exact lw_leaves hG hL hi
  rw [if_neg q21]
  by_cases q22 : s0 = 22
  · rw [if_pos q22]; exact lw_back hG hL hi
  rw [if_neg q22]
  by_cases q23 : s0 = 23
  · rw [if_pos q23]; exact lw_watch hG hL hi
  rw [if_neg q23]
  by_cases q24 : s0 = 24
  · rw [if_pos q24]; exact lw_mutiny hG hL hi
  rw [if_neg q24]
  by_cases q25 : s0 = 25
  · rw [if_pos q25]; exact lw_next hG hL hi
  rw [if_neg q25]
  by_cases q26 : s0 = 26
  · rw [if_pos q26]; exact lw_both hG hL hi
  rw [if_neg q26]
  by_cases q27 : s0 = 27
  · rw [if_pos q27]; exact lw_count hG hL hi
  rw [if_neg q27]
  by_cases q28 : s0 = 28
  · rw [if_pos q28]; exact lw_image hG hL hi
  rw [if_neg q28]
  by_cases q29 : s0 = 29
  · rw [if_pos q29]; exact lw_again hG hL hi
  rw [if_neg q29]
  exact ⟨h, rfl, hG⟩
theorem ofN (L : Nat) : Int32.ofNat L = nI L := rfl
theorem lw_loop {L : Nat} (hL : L ≤ 3072) : ∀ r i h, L < i + 6 * r + 6 → i ≤ L → Gd L h → ∃ h', pm_ev (276, 18, [vr 65 0, vr 7 0, vr 8 0, vi (nI i)], [], h) = some (some (vi 1), h') := by
  have stop : ∀ i h, L < i + 6 → i ≤ L → Gd L h → ∃ h', pm_ev (276, 18, [vr 65 0, vr 7 0, vr 8 0, vi (nI i)], [], h) = some (some (vi 1), h') := fun i h h1 h2 hG => by
    refine ⟨h, ?_⟩
    rw [E_L_law_18, hG.2.2, nn_clamp (by omega), ofN, show (6 : Int32) = nI 6 from rfl, nI_sub, if_pos ((in_lt (by omega) (by omega) (by omega)).mpr (by omega))]
  intro r
  induction r with
  | zero => intro i h h1 h2 hG; exact stop i h (by omega) h2 hG
  | succ r ih =>
    intro i h h1 h2 hG
    by_cases q : L < i + 6
    · exact stop i h q h2 hG
    · obtain ⟨h', e, G⟩ := lw_33 (i := i) hG hL (by omega) (h.1 65 0 i &&& 31)
      obtain ⟨h3, e3⟩ := ih (i + 6) h' (by omega) (by omega) G
      refine ⟨h3, ?_⟩
      rw [E_L_law_18, hG.2.2, nn_clamp (by omega), ofN, show (6 : Int32) = nI 6 from rfl, nI_sub, if_neg (show ¬ iI ((L : Int) - (6 : Nat)) < nI i from fun z => by have := (in_lt (by omega) (by omega) (by omega)).mp z; omega), if_pos (inb_n (by omega) (by omega)), nn_clamp (by omega), e, E_L_law_1512, lc_6, e3]
