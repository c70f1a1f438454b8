/-! ===== the heap's rows ===== -/
theorem sI_same (h : PH) (t i k : Nat) (v : Int32) : (pm_sI h t i k v).1 t i k = v := by rw [pm_sI_at, if_pos ⟨rfl, rfl, rfl⟩]
theorem sI_tag (h : PH) {t a : Nat} (i k : Nat) (v : Int32) (b c : Nat) (hn : a ≠ t) : (pm_sI h t i k v).1 a b c = h.1 a b c := by rw [pm_sI_at, if_neg (fun q => hn q.1)]
theorem sI_num (h : PH) (t : Nat) {i b : Nat} (k : Nat) (v : Int32) (c : Nat) (hn : b ≠ i) : (pm_sI h t i k v).1 t b c = h.1 t b c := by rw [pm_sI_at, if_neg (fun q => hn q.2.1)]
theorem sI_pl (h : PH) (t i b : Nat) {k c : Nat} (v : Int32) (hn : c ≠ k) : (pm_sI h t i k v).1 t b c = h.1 t b c := by rw [pm_sI_at, if_neg (fun q => hn q.2.2)]
theorem sI_2 (h : PH) (t i k : Nat) (v : Int32) : (pm_sI h t i k v).2 = h.2 := rfl
theorem sL_1 (h : PH) (t i k : Nat) (v : Int64) : (pm_sL h t i k v).1 = h.1 := rfl
theorem sL_same (h : PH) (t i k : Nat) (v : Int64) : (pm_sL h t i k v).2 t i k = v := by rw [pm_sL_at, if_pos ⟨rfl, rfl, rfl⟩]
theorem sL_tag (h : PH) {t a : Nat} (i k : Nat) (v : Int64) (b c : Nat) (hn : a ≠ t) : (pm_sL h t i k v).2 a b c = h.2 a b c := by rw [pm_sL_at, if_neg (fun q => hn q.1)]
theorem sL_num (h : PH) (t : Nat) {i b : Nat} (k : Nat) (v : Int64) (c : Nat) (hn : b ≠ i) : (pm_sL h t i k v).2 t b c = h.2 t b c := by rw [pm_sL_at, if_neg (fun q => hn q.2.1)]
theorem sL_pl (h : PH) (t i b : Nat) {k c : Nat} (v : Int64) (hn : c ≠ k) : (pm_sL h t i k v).2 t b c = h.2 t b c := by rw [pm_sL_at, if_neg (fun q => hn q.2.2)]
theorem cp_at (h : PH) (t i sp t' i' dp n a b c : Nat) : (pm_cp h t i sp t' i' dp n).1 a b c = if a = t' ∧ b = i' ∧ dp ≤ c ∧ c < dp + n then h.1 t i (sp + (c - dp)) else h.1 a b c := by
  show (if a = t' then (if b = i' ∧ dp ≤ c ∧ c < dp + n then h.1 t i (sp + (c - dp)) else h.1 a b c) else h.1 a b c) = _
  by_cases h1 : a = t'
  · simp [h1]
  · simp [h1]
theorem cp_in (h : PH) (t i sp t' i' : Nat) {dp n c : Nat} (h1 : dp ≤ c) (h2 : c < dp + n) : (pm_cp h t i sp t' i' dp n).1 t' i' c = h.1 t i (sp + (c - dp)) := by rw [cp_at, if_pos ⟨rfl, rfl, h1, h2⟩]
theorem cp_tag (h : PH) (t i sp : Nat) {t' a : Nat} (i' dp n b c : Nat) (hn : a ≠ t') : (pm_cp h t i sp t' i' dp n).1 a b c = h.1 a b c := by rw [cp_at, if_neg (fun q => hn q.1)]
theorem cp_num (h : PH) (t i sp t' : Nat) {i' b : Nat} (dp n c : Nat) (hn : b ≠ i') : (pm_cp h t i sp t' i' dp n).1 t' b c = h.1 t' b c := by rw [cp_at, if_neg (fun q => hn q.2.1)]
theorem cp_2 (h : PH) (t i sp t' i' dp n : Nat) : (pm_cp h t i sp t' i' dp n).2 = h.2 := rfl
theorem ph_ext {h h' : PH} (h1 : ∀ a b c, h.1 a b c = h'.1 a b c) (h2 : h.2 = h'.2) : h = h' := Prod.ext (funext fun a => funext fun b => funext fun c => h1 a b c) h2
theorem cp_0 (h : PH) (t i sp t' i' dp : Nat) : pm_cp h t i sp t' i' dp 0 = h := ph_ext (fun a b c => by rw [cp_at, if_neg (by omega)]) rfl
theorem cp_succ (h : PH) (t i sp t' i' dp n : Nat) : pm_sI (pm_cp h t i sp t' i' dp n) t' i' (dp + n) (h.1 t i (sp + n)) = pm_cp h t i sp t' i' dp (n + 1) := ph_ext (fun a b c => by
  rw [pm_sI_at, cp_at, cp_at]
  by_cases e : a = t' ∧ b = i' ∧ c = dp + n
  · rw [if_pos e, if_pos ⟨e.1, e.2.1, by omega, by omega⟩, e.2.2, show dp + n - dp = n by omega]
  · rw [if_neg e]
    by_cases e2 : a = t' ∧ b = i' ∧ dp ≤ c ∧ c < dp + n
    · rw [if_pos e2, if_pos ⟨e2.1, e2.2.1, e2.2.2.1, by omega⟩]
    · rw [if_neg e2, if_neg (fun q => e2 ⟨q.1, q.2.1, q.2.2.1, by have := q.2.2.2; rcases Nat.lt_or_ge c (dp + n) with w | w; exact w; exact absurd ⟨q.1, q.2.1, by omega⟩ e⟩)]) rfl
/-- all but the cells of T stay -/
def Fr (T : Nat → Nat → Bool) (h h' : PH) : Prop := ∀ t i, T t i = false → ∀ k, h'.1 t i k = h.1 t i k ∧ h'.2 t i k = h.2 t i k
theorem Fr.rfl' {T : Nat → Nat → Bool} {h : PH} : Fr T h h := fun _ _ _ _ => ⟨rfl, rfl⟩
theorem Fr.tr {T : Nat → Nat → Bool} {a b c : PH} (h1 : Fr T a b) (h2 : Fr T b c) : Fr T a c := fun t i ht k => ⟨(h2 t i ht k).1.trans (h1 t i ht k).1, (h2 t i ht k).2.trans (h1 t i ht k).2⟩
theorem Fr.mono {T T' : Nat → Nat → Bool} {a b : PH} (h : ∀ t i, T' t i = false → T t i = false) (h1 : Fr T a b) : Fr T' a b := fun t i ht => h1 t i (h t i ht)
theorem Fr.sI {T : Nat → Nat → Bool} (h : PH) {t i : Nat} (k : Nat) (v : Int32) (ht : T t i = true) : Fr T h (pm_sI h t i k v) := fun a b hab c => ⟨by rw [pm_sI_at, if_neg (fun q => by rw [q.1, q.2.1, ht] at hab; cases hab)], rfl⟩
theorem Fr.sL {T : Nat → Nat → Bool} (h : PH) {t i : Nat} (k : Nat) (v : Int64) (ht : T t i = true) : Fr T h (pm_sL h t i k v) := fun a b hab c => ⟨rfl, by rw [pm_sL_at, if_neg (fun q => by rw [q.1, q.2.1, ht] at hab; cases hab)]⟩
theorem Fr.cp {T : Nat → Nat → Bool} (h : PH) (t i sp : Nat) {t' i' : Nat} (dp n : Nat) (ht : T t' i' = true) : Fr T h (pm_cp h t i sp t' i' dp n) := fun a b hab c => ⟨by rw [cp_at, if_neg (fun q => by rw [q.1, q.2.1, ht] at hab; cases hab)], rfl⟩
/-- the reference's scratch -/
def scM (t _i : Nat) : Bool := t == 8 || (Nat.ble 35 t && Nat.ble t 43)
/-- the class's scratch -/
def scC (t i : Nat) : Bool := t == 1 || t == 4 || t == 5 || t == 24 || t == 25 || (Nat.ble 8 i && (t == 0 || t == 2 || t == 3 || (Nat.ble 10 t && Nat.ble t 23)))
def scB (t i : Nat) : Bool := scM t i || scC t i
theorem Fr.mB {a b : PH} (h : Fr scM a b) : Fr scB a b := h.mono fun t i e => by unfold scB at e; cases q : scM t i <;> simp_all
theorem Fr.cB {a b : PH} (h : Fr scC a b) : Fr scB a b := h.mono fun t i e => by unfold scB at e; cases q : scC t i <;> simp_all
/-! ===== the reference's coast at a place of its table ===== -/
def CoastMs (h : PH) (a : Nat) (c : AC) : Prop :=
  (h.1 33 0 a = nI (c (0)).val ∧ h.1 33 0 (a+1) = nI (c (1)).val ∧ h.1 33 0 (a+2) = nI ((c (0)).val * (c (3)).val + (c (2)).val) ∧ h.1 33 0 (a+3) = nI (c (4)).val ∧ h.1 33 0 (a+4) = nI (c (5)).val ∧ h.1 33 0 (a+5) = nI (c (6)).val ∧ a < 4900) ∧
  (∀ g, g < (c (5)).val → h.1 33 0 (a+6+2*g) = nI ((c (0)).val * (c (20+g)).val + (c (10+g)).val) ∧ h.1 33 0 (a+6+2*g+1) = nI (c (30+g)).val) ∧
  (∀ s, s < (c (6)).val → h.1 33 0 (a+14+4*s+2) = nI (c (70+s)).val ∧ h.1 33 0 (a+14+4*s+3) = nI (c (80+s)).val) ∧
  ∀ x y, x < (c (0)).val → y < (c (1)).val → h.1 33 0 (a+78+((c (0)).val*y+x)) = nI (c (200+(8*y+x))).val
def CoastMd (h : PH) (a : Nat) (c : AC) : Prop := ∀ s, s < (c (6)).val → (h.1 33 0 (a+14+4*s+0) = nI ((c (0)).val * (c (50+s)).val + (c (40+s)).val) ∧ h.1 33 0 (a+14+4*s+1) = nI (c (60+s)).val) ∧
  ∀ k, k < (c (80+s)).val → h.1 33 0 (a+30+(12*s+3*k)) = nI (c (100+(4*s+k))).val ∧ h.1 33 0 (a+30+(12*s+3*k+1)) = nI (c (120+(4*s+k))).val ∧ h.1 33 0 (a+30+(12*s+3*k+2)) = nI (c (140+(4*s+k))).val
/-- the coast that is asked for, and its fields -/
def ModS (h : PH) (a : Nat) (c : AC) : Prop := CoastMs h a c ∧ h.1 8 0 13 = nI a ∧ h.1 8 0 14 = nI (c (0)).val ∧ h.1 8 0 15 = nI (c (1)).val ∧ h.1 8 0 16 = nI (c (6)).val
/-- its men and cargo as they are now -/
def AliveM (h : PH) (c : AC) : Prop := ∀ s, s < (c (6)).val → h.1 37 0 s = nI (c (60+s)).val ∧ ∀ k, k < (c (80+s)).val → h.1 36 0 (12*s+3*k) = nI (c (100+(4*s+k))).val ∧ h.1 36 0 (12*s+3*k+1) = nI (c (120+(4*s+k))).val ∧ h.1 36 0 (12*s+3*k+2) = nI (c (140+(4*s+k))).val
theorem CoastMs.fr {h h' : PH} {a : Nat} {c : AC} (he : ∀ k, h'.1 33 0 k = h.1 33 0 k) (hm : CoastMs h a c) : CoastMs h' a c := by
  unfold CoastMs at hm ⊢
  simp only [he]
  exact hm
theorem CoastMd.fr {h h' : PH} {a : Nat} {c : AC} (he : ∀ k, h'.1 33 0 k = h.1 33 0 k) (hm : CoastMd h a c) : CoastMd h' a c := by
  unfold CoastMd at hm ⊢
  simp only [he]
  exact hm
theorem ModS.fr {h h' : PH} {a : Nat} {c : AC} (he : ∀ k, h'.1 33 0 k = h.1 33 0 k) (h8 : ∀ k, 13 ≤ k → k ≤ 16 → h'.1 8 0 k = h.1 8 0 k) (hm : ModS h a c) : ModS h' a c := by
  obtain ⟨m, a1, a2, a3, a4⟩ := hm
  exact ⟨m.fr he, (h8 13 (by decide) (by decide)).trans a1, (h8 14 (by decide) (by decide)).trans a2, (h8 15 (by decide) (by decide)).trans a3, (h8 16 (by decide) (by decide)).trans a4⟩
theorem AliveM.fr {h h' : PH} {c : AC} (he : ∀ k, h'.1 36 0 k = h.1 36 0 k) (h2 : ∀ k, h'.1 37 0 k = h.1 37 0 k) (hm : AliveM h c) : AliveM h' c := by
  unfold AliveM at hm ⊢
  simp only [he, h2]
  exact hm
theorem CoastC.fr {h h' : PH} {j : Nat} {c : AC} (he : ∀ t k, (t = 0 ∨ 10 ≤ t) → t ≤ 18 → h'.1 t j k = h.1 t j k) (h2 : h'.2 0 j 4 = h.2 0 j 4) (hm : CoastC h j c) : CoastC h' j c := by
  unfold CoastC at hm ⊢
  simp only [h2, he 0 _ (Or.inl rfl) (by decide), he 10 _ (Or.inr (by decide)) (by decide), he 11 _ (Or.inr (by decide)) (by decide), he 12 _ (Or.inr (by decide)) (by decide), he 13 _ (Or.inr (by decide)) (by decide), he 14 _ (Or.inr (by decide)) (by decide), he 15 _ (Or.inr (by decide)) (by decide), he 16 _ (Or.inr (by decide)) (by decide), he 17 _ (Or.inr (by decide)) (by decide), he 18 _ (Or.inr (by decide)) (by decide)]
  exact hm
/-! small calls of the reference -/
theorem isIn_M (h : PH) {x lo hi : Int} (h1 : -2147483648 ≤ x) (h2 : x < 2147483648) (h3 : -2147483648 ≤ lo) (h4 : lo < 2147483648) (h5 : -2147483648 ≤ hi) (h6 : hi < 2147483648) : pm_ev (153, 0, [vi (iI x), vi (iI lo), vi (iI hi)], [], h) = some (some (vi (bI (decide (lo ≤ x) && decide (x ≤ hi)))), h) := by
  rw [E_X9_isIn]
  by_cases a : x < lo
  · rw [if_pos ((iI_lt h1 h2 h3 h4).mpr a), decide_eq_false (by omega), Bool.false_and, bI_f]
  · rw [if_neg (fun q => a ((iI_lt h1 h2 h3 h4).mp q)), decide_eq_true (by omega), Bool.true_and]
    by_cases b : hi < x
    · rw [if_pos ((iI_lt h5 h6 h1 h2).mpr b), decide_eq_false (by omega), bI_f]
    · rw [if_neg (fun q => b ((iI_lt h5 h6 h1 h2).mp q)), decide_eq_true (by omega), bI_t]
/-- the men who are not aboard as asleep -/
def lullA (c : AC) (s ab : Nat) : AC := fun i => if 100 + 4*s ≤ i ∧ i < 100 + 4*s + 4 ∧ ab.testBit (i - (100 + 4*s)) = false then 4 else c i
theorem lullA_k (c : AC) (s ab k : Nat) (hk : k < 4) : lullA c s ab (100 + (4*s+k)) = if ab.testBit k then c (100 + (4*s+k)) else 4 := by
  unfold lullA
  rw [show 100 + (4*s+k) - (100 + 4*s) = k by omega]
  cases e : ab.testBit k
  · rw [if_pos ⟨by omega, by omega, rfl⟩]; rfl
  · rw [if_neg (fun q => by cases q.2.2)]; rfl
theorem lullA_o (c : AC) (s ab i : Nat) (h : i < 100 + 4*s ∨ 104 + 4*s ≤ i) : lullA c s ab i = c i := by
  unfold lullA
  rw [if_neg (by omega)]
theorem lullA_15 (c : AC) (s : Nat) : lullA c s 15 = c := funext fun i => by
  unfold lullA
  by_cases h : 100 + 4*s ≤ i ∧ i < 100 + 4*s + 4
  · have : ∀ k, k < 4 → (15 : Nat).testBit k = true := by decide
    rw [if_neg (fun q => by rw [this _ (by omega)] at q; cases q.2.2)]
  · rw [if_neg (fun q => h ⟨q.1, q.2.1⟩)]
