/-! THE WORLD: how a state of the simple machine lies in the heap. ad: the address of number i of tag t; cA: the class of an array; fm: a static of the JDK's that is a reference or null; ex: what the arrays hold that nobody writes. -/
def pm_mp (ad : Nat → Nat → Nat) (fm : Value) (v : PV) : Value := match v with
  | none => .null
  | some (.inl x) => .int x
  | some (.inr (.inl x)) => .long x
  | some (.inr (.inr none)) => .null
  | some (.inr (.inr (some (t, i)))) => if t = 67 then fm else .ref (ad t i)
def pm_fv (ad : Nat → Nat → Nat) (h : PH) (t i k : Nat) : Value := match pm_fty t k with
  | 0 => .int (h.1 t i k)
  | 2 => .int (h.1 t i k)
  | 1 => .long (h.2 t i k)
  | _ => pm_mp ad .null (pm_rf t k i)
def pm_aad (ad : Nat → Nat → Nat) (v : PV) : Option Nat := match v with
  | some (.inr (.inr (some (t, i)))) => some (ad t i)
  | _ => none
def pm_cell (ad : Nat → Nat → Nat) (cA : Nat → Nat → ClassId) (h : PH) (t i : Nat) : va_E :=
  if t < 9 then .inr (t, (List.range (pm_nf t)).map (pm_fv ad h t i)) else
    .inl (cA t i, (pm_nth pm_at (t - 10) (9, 0)).2, match pm_ak t with
      | 1 => .inr (.inl (h.2 t i))
      | 3 => .inr (.inr (.inr (.inr (fun j => pm_aad ad (pm_aref t i j)))))
      | _ => .inl (h.1 t i))
def pm_ws (ad : Nat → Nat → Nat) (cA : Nat → Nat → ClassId) (h : PH) : va_W := pm_obs.map fun q => (ad q.1 q.2, pm_cell ad cA h q.1 q.2)
def pm_aty (t : Nat) : FieldType := match pm_ak t with
  | 0 => .int
  | 1 => .long
  | 2 => .boolean
  | _ => .object (if t = 28 then "IllLight$Coast" else if t = 29 then "IllLight$Night" else if t = 30 then "IllLight$Log" else "IllLight$Told")
def pm_tys (cA : Nat → Nat → ClassId) : List (ClassId × FieldType) := (pm_obs.filter fun q => decide (10 ≤ q.1)).map fun q => (cA q.1 q.2, pm_aty q.1)
theorem pm_ws_at {ad : Nat → Nat → Nat} {cA : Nat → Nat → ClassId} {h : PH} {t i : Nat} (hq : (t, i) ∈ pm_obs) : ∃ q0 : Nat, pm_obs[q0]? = some (t, i) ∧ (pm_ws ad cA h)[q0]? = some (ad t i, pm_cell ad cA h t i) := by
  obtain ⟨q0, e⟩ := List.mem_iff_getElem?.mp hq
  refine ⟨q0, e, ?_⟩
  unfold pm_ws
  rw [List.getElem?_map, e]
  rfl
theorem pm_tys_at {cA : Nat → Nat → ClassId} {t i : Nat} (hq : (t, i) ∈ pm_obs) (ht : 10 ≤ t) : ∃ t0 : Nat, (pm_tys cA)[t0]? = some (cA t i, pm_aty t) := by
  have hm : (t, i) ∈ pm_obs.filter fun q => decide (10 ≤ q.1) := List.mem_filter.mpr ⟨hq, by simpa using ht⟩
  obtain ⟨t0, e⟩ := List.mem_iff_getElem?.mp hm
  refine ⟨t0, ?_⟩
  unfold pm_tys
  rw [List.getElem?_map, e]
  rfl
/-- one object changed: the list of cells with one cell set -/
theorem pm_ws_set {ad : Nat → Nat → Nat} {cA : Nat → Nat → ClassId} {h h' : PH} {t i q0 : Nat} (hq : pm_obs[q0]? = some (t, i)) (he : ∀ q ∈ pm_obs, q ≠ (t, i) → pm_cell ad cA h' q.1 q.2 = pm_cell ad cA h q.1 q.2) {v : va_E} (hv : pm_cell ad cA h' t i = v) : (pm_ws ad cA h).set q0 (ad t i, v) = pm_ws ad cA h' := by
  refine List.ext_getElem? fun j => ?_
  unfold pm_ws
  rw [List.getElem?_set]
  by_cases hj : q0 = j
  · subst hj
    rw [if_pos rfl, List.getElem?_map, hq]
    have hl : q0 < (pm_obs.map fun q => (ad q.1 q.2, pm_cell ad cA h q.1 q.2)).length := by
      rw [List.length_map]
      exact (List.getElem?_eq_some_iff.mp hq).1
    rw [if_pos hl, ← hv]
    rfl
  · rw [if_neg hj, List.getElem?_map, List.getElem?_map]
    cases e : pm_obs[j]? with
    | none => rfl
    | some q =>
      show some (ad q.1 q.2, pm_cell ad cA h q.1 q.2) = some (ad q.1 q.2, pm_cell ad cA h' q.1 q.2)
      rw [he q (List.mem_of_getElem? e) (fun e2 => hj (tf_nod q0 j (t, i) hq (by rw [e, e2])))]
theorem pm_cell_sI {ad : Nat → Nat → Nat} {cA : Nat → Nat → ClassId} {h : PH} {t i k : Nat} {x : Int32} : ∀ q ∈ pm_obs, q ≠ (t, i) → pm_cell ad cA (pm_sI h t i k x) q.1 q.2 = pm_cell ad cA h q.1 q.2 := by
  intro q _ hne
  have hn : ∀ c, (pm_sI h t i k x).1 q.1 q.2 c = h.1 q.1 q.2 c := fun c => by
    rw [pm_sI_at]
    exact if_neg (fun e => hne (Prod.ext e.1 e.2.1))
  have hf : (pm_sI h t i k x).1 q.1 q.2 = h.1 q.1 q.2 := funext hn
  have hg : (pm_sI h t i k x).2 = h.2 := rfl
  unfold pm_cell pm_fv
  simp only [hn, hf, hg]
theorem pm_cell_sL {ad : Nat → Nat → Nat} {cA : Nat → Nat → ClassId} {h : PH} {t i k : Nat} {x : Int64} : ∀ q ∈ pm_obs, q ≠ (t, i) → pm_cell ad cA (pm_sL h t i k x) q.1 q.2 = pm_cell ad cA h q.1 q.2 := by
  intro q _ hne
  have hn : ∀ c, (pm_sL h t i k x).2 q.1 q.2 c = h.2 q.1 q.2 c := fun c => by
    rw [pm_sL_at]
    exact if_neg (fun e => hne (Prod.ext e.1 e.2.1))
  have hf : (pm_sL h t i k x).2 q.1 q.2 = h.2 q.1 q.2 := funext hn
  have hg : (pm_sL h t i k x).1 = h.1 := rfl
  unfold pm_cell pm_fv
  simp only [hn, hf, hg]
theorem pm_cell_cp {ad : Nat → Nat → Nat} {cA : Nat → Nat → ClassId} {h : PH} {t i sp t' i' dp n : Nat} : ∀ q ∈ pm_obs, q ≠ (t', i') → pm_cell ad cA (pm_cp h t i sp t' i' dp n) q.1 q.2 = pm_cell ad cA h q.1 q.2 := by
  intro q _ hne
  have hn : ∀ c, (pm_cp h t i sp t' i' dp n).1 q.1 q.2 c = h.1 q.1 q.2 c := fun c => by
    rw [pm_cp_at]
    exact if_neg (fun e => hne (Prod.ext e.1 e.2.1))
  have hf : (pm_cp h t i sp t' i' dp n).1 q.1 q.2 = h.1 q.1 q.2 := funext hn
  have hg : (pm_cp h t i sp t' i' dp n).2 = h.2 := rfl
  unfold pm_cell pm_fv
  simp only [hn, hf, hg]
/-- the locals of a frame -/
def pm_LR (ad : Nat → Nat → Nat) (fm : Value) (nL : Nat) (ls : List PV) (la : Array Slot) : Prop := la.size = nL ∧ lv_wf la ∧ ls.length = nL ∧ ∀ (i : Nat) (v : PV), ls[i]? = some v → v ≠ none → la[i]? = some (.val (pm_mp ad fm v))
/-- as the kit's list of locals -/
def pm_lv (ad : Nat → Nat → Nat) (fm : Value) (ls : List PV) : List (Nat × Value) := (List.range ls.length).filterMap fun i => match ls[i]? with
  | some (some v) => some (i, pm_mp ad fm (some v))
  | _ => none
theorem pm_lv_mem {ad : Nat → Nat → Nat} {fm : Value} {ls : List PV} {q : Nat × Value} : q ∈ pm_lv ad fm ls ↔ ∃ v, ls[q.1]? = some (some v) ∧ q.2 = pm_mp ad fm (some v) := by
  unfold pm_lv
  rw [List.mem_filterMap]
  constructor
  · rintro ⟨i, hi, e⟩
    split at e
    · rename_i v hv
      have e := Option.some.inj e
      subst e
      exact ⟨v, hv, rfl⟩
    · cases e
  · rintro ⟨v, hv, e⟩
    refine ⟨q.1, List.mem_range.mpr (List.getElem?_eq_some_iff.mp hv).1, ?_⟩
    rw [hv]
    show some (q.1, pm_mp ad fm (some v)) = some q
    rw [← e]
theorem pm_LR.has {ad : Nat → Nat → Nat} {fm : Value} {nL : Nat} {ls : List PV} {la : Array Slot} (h : pm_LR ad fm nL ls la) : lv_has la nL (pm_lv ad fm ls) := by
  refine ⟨h.1, h.2.1, fun q hq => ?_⟩
  obtain ⟨v, hv, e⟩ := pm_lv_mem.mp hq
  rw [h.2.2.2 q.1 (some v) hv (by simp), e]
theorem pm_LR.of {ad : Nat → Nat → Nat} {fm : Value} {nL : Nat} {ls : List PV} {la : Array Slot} {lv : List (Nat × Value)} (hl : ls.length = nL) (h : lv_has la nL lv) (hs : ∀ q ∈ pm_lv ad fm ls, q ∈ lv) : pm_LR ad fm nL ls la := by
  refine ⟨h.1, h.2.1, hl, fun i v hv hn => ?_⟩
  cases v with
  | none => exact absurd rfl hn
  | some v => exact h.2.2 (i, pm_mp ad fm (some v)) (hs _ (pm_lv_mem.mpr ⟨v, hv, rfl⟩))
theorem pm_cat_mp {ad : Nat → Nat → Nat} {fm : Value} (hfm : fm = .null ∨ ∃ a, fm = .ref a) (v : PV) : (pm_mp ad fm v).category = pm_cat v := by
  unfold pm_mp pm_cat
  split
  · rfl
  · rfl
  · rfl
  · rfl
  · split
    · rcases hfm with e | ⟨a, e⟩ <;> rw [e] <;> rfl
    · rfl
