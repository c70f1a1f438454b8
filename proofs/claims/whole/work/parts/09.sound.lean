/-! SOUNDNESS: what the simple machine does, the machine does. -/
/-- what the world outside the system is: the script, three static tables, two statics of the JDK's, the texts -/
def pm_X (ad : Nat → Nat → Nat) (fm : Value) (A : Nat → Prop) (ex : Nat → Nat → Nat → Int32) (U : State) : Prop :=
  (fm = .null ∨ ∃ a, fm = .ref a) ∧
  (va_X (ad 65 0) (ex 66 0 0).toNatClampNeg (ex 65 0) U U.heap ∧ ad 65 0 < U.heap.size ∧ ¬ A (ad 65 0)) ∧
  (va_Z "IllLight$Reader" "WORDS_OF_SORT" "[I" (.ref (ad 62 0)) A U U.heap ∧ va_T .int (ad 62 0) 4 (fun k => .int (ex 62 0 k)) A U U.heap) ∧
  (va_Z "IllLight$Reader" "NUMBERS_OF_WORD" "[I" (.ref (ad 63 0)) A U U.heap ∧ va_T .int (ad 63 0) 21 (fun k => .int (ex 63 0 k)) A U U.heap) ∧
  (va_Z "IllLight$Reader" "MOST" "[I" (.ref (ad 64 0)) A U U.heap ∧ va_T .int (ad 64 0) 84 (fun k => .int (ex 64 0 k)) A U U.heap) ∧
  va_Z "java/lang/String" "COMPACT_STRINGS" "Z" (.int 1) A U U.heap ∧
  va_Z "jdk/internal/util/Preconditions" "SIOOBE_FORMATTER" "Ljava/util/function/BiFunction;" fm A U U.heap ∧
  (∀ i, i < 21 → va_O "java/lang/String" (ad 60 i) A U U.heap ∧ va_OF "java/lang/String" "coder" "B" (.int 0) (ad 60 i) A U U.heap ∧ va_OF "java/lang/String" "value" "[B" (.ref (ad 61 i)) (ad 60 i) A U U.heap ∧ va_T .byte (ad 61 i) (pm_nth pm_SL i 0) (fun j => .int (ex 61 i j)) A U U.heap) ∧
  ∀ i, i < 21 → vk_R "IllLight$Reader" (pm_ST i).1 (pm_ST i).2 (ad 60 i) U
theorem pm_X.go {ad : Nat → Nat → Nat} {fm : Value} {A : Nat → Prop} {ex : Nat → Nat → Nat → Int32} {s U : State} {H : Heap} {locs : List Loc} (h : pm_X ad fm A ex s) (hS : va_S A s.heap H locs) (hU : U.heap = H) (hW : s.WarmedH U.vm) : pm_X ad fm A ex U := by
  obtain ⟨h1, ⟨h2, h3, h4⟩, ⟨h5, h6⟩, ⟨h7, h8⟩, ⟨h9, h10⟩, h11, h12, h13, h14⟩ := h
  subst hU
  have ha := hW.alike
  exact ⟨h1, ⟨(h2.kept (hS.2.1 _ h3 h4)).moved ha, Nat.lt_of_lt_of_le h3 hS.1, h4⟩, ⟨(h5.kept hS.2.1).moved ha, (h6.kept hS.2.1).moved ha⟩, ⟨(h7.kept hS.2.1).moved ha, (h8.kept hS.2.1).moved ha⟩, ⟨(h9.kept hS.2.1).moved ha, (h10.kept hS.2.1).moved ha⟩, (h11.kept hS.2.1).moved ha, (h12.kept hS.2.1).moved ha, fun i hi => ⟨((h13 i hi).1.kept hS.2.1).moved ha, ((h13 i hi).2.1.kept hS.2.1).moved ha, ((h13 i hi).2.2.1.kept hS.2.1).moved ha, ((h13 i hi).2.2.2.kept hS.2.1).moved ha⟩, fun i hi => (h14 i hi).warm hW⟩
theorem pm_X.blind {ad : Nat → Nat → Nat} {fm : Value} {A : Nat → Prop} {ex : Nat → Nat → Nat → Int32} {U V : State} (h : pm_X ad fm A ex U) (hh : V.heap = U.heap) (hv : V.vm = U.vm) : pm_X ad fm A ex V := by
  obtain ⟨h1, ⟨h2, h3, h4⟩, ⟨h5, h6⟩, ⟨h7, h8⟩, ⟨h9, h10⟩, h11, h12, h13, h14⟩ := h
  have ha : U.vm.Alike V.vm := by rw [hv]; exact Vm.Alike.refl U.vm
  unfold pm_X
  rw [hh]
  exact ⟨h1, ⟨h2.moved ha, h3, h4⟩, ⟨h5.moved ha, h6.moved ha⟩, ⟨h7.moved ha, h8.moved ha⟩, ⟨h9.moved ha, h10.moved ha⟩, h11.moved ha, h12.moved ha, fun i hi => ⟨(h13 i hi).1.moved ha, (h13 i hi).2.1.moved ha, (h13 i hi).2.2.1.moved ha, (h13 i hi).2.2.2.moved ha⟩, fun i hi => (h14 i hi).same hv⟩
theorem pm_s1_lv {ad : Nat → Nat → Nat} {fm : Value} (hfm : fm = .null ∨ ∃ a, fm = .ref a) {ls : List PV} {i : Nat} {v : PV} {q : Nat × Value} (hq : q ∈ pm_lv ad fm (pm_s1 ls i v)) : q ∈ (i, pm_mp ad fm v) :: (pm_lv ad fm ls).filter (fun q => !(q.1 == i) && !(q.1 + 1 == i && q.2.category == 2)) := by
  obtain ⟨w, hw, e⟩ := pm_lv_mem.mp hq
  unfold pm_s1 at hw
  rw [List.getElem?_set] at hw
  by_cases hi : i = q.1
  · rw [if_pos hi] at hw
    split at hw
    · have hw := Option.some.inj hw
      refine List.mem_cons.mpr (Or.inl (Prod.ext hi.symm ?_))
      rw [e, hw]
    · cases hw
  · rw [if_neg hi] at hw
    refine List.mem_cons.mpr (Or.inr (List.mem_filter.mpr ?_))
    cases i with
    | zero =>
      refine ⟨pm_lv_mem.mpr ⟨w, hw, e⟩, ?_⟩
      have : ¬ q.1 = 0 := fun z => hi z.symm
      simp [this]
    | succ j =>
      unfold pm_kl at hw
      dsimp only at hw
      by_cases hj : q.1 = j
      · have hw2 : ls[j]? = some (some w) ∧ pm_cat (some w) = 1 := by
          split at hw
          · rename_i y hy
            rw [List.getElem?_set, hj, if_pos rfl] at hw
            split at hw
            · cases hw
            · cases hw
          · rename_i hne
            rw [hj] at hw
            refine ⟨hw, ?_⟩
            rcases w with x | x | x
            · rfl
            · exact absurd hw (hne x)
            · rfl
        refine ⟨pm_lv_mem.mpr ⟨w, by rw [hj]; exact hw2.1, e⟩, ?_⟩
        have hc : q.2.category = 1 := by rw [e, pm_cat_mp hfm]; exact hw2.2
        rw [hc, hj]
        simp
      · have hw2 : ls[q.1]? = some (some w) := by
          split at hw
          · rw [List.getElem?_set, if_neg (fun z => hj z.symm)] at hw
            exact hw
          · exact hw
        refine ⟨pm_lv_mem.mpr ⟨w, hw2, e⟩, ?_⟩
        have h1 : ¬ q.1 = j + 1 := fun z => hi z.symm
        simp [h1, hj]
theorem pm_s2_lv {ad : Nat → Nat → Nat} {fm : Value} (hfm : fm = .null ∨ ∃ a, fm = .ref a) {ls : List PV} {i : Nat} {v : PV} {q : Nat × Value} (hq : q ∈ pm_lv ad fm (pm_s2 ls i v)) : q ∈ (i, pm_mp ad fm v) :: (pm_lv ad fm ls).filter (fun q => !(q.1 == i) && (!(q.1 == i + 1) && !(q.1 + 1 == i && q.2.category == 2))) := by
  obtain ⟨w, hw, e⟩ := pm_lv_mem.mp hq
  have h1 : ¬ q.1 = i + 1 := by
    intro z
    unfold pm_s2 at hw
    rw [List.getElem?_set, z, if_pos rfl] at hw
    split at hw
    · cases hw
    · cases hw
  have hq1 : q ∈ pm_lv ad fm (pm_s1 ls i v) := by
    refine pm_lv_mem.mpr ⟨w, ?_, e⟩
    unfold pm_s2 at hw
    rw [List.getElem?_set, if_neg (fun z => h1 z.symm)] at hw
    exact hw
  rcases List.mem_cons.mp (pm_s1_lv hfm hq1) with h2 | h2
  · exact List.mem_cons.mpr (Or.inl h2)
  · obtain ⟨h3, h4⟩ := List.mem_filter.mp h2
    refine List.mem_cons.mpr (Or.inr (List.mem_filter.mpr ⟨h3, ?_⟩))
    simp only [Bool.and_eq_true] at h4 ⊢
    exact ⟨h4.1, by simpa using h1, h4.2⟩
theorem pm_kl_len (ls : List PV) (i : Nat) : (pm_kl ls i).length = ls.length := by
  unfold pm_kl
  split
  · rfl
  · split
    · simp
    · rfl
theorem pm_s1_len (ls : List PV) (i : Nat) (v : PV) : (pm_s1 ls i v).length = ls.length := by unfold pm_s1; rw [List.length_set, pm_kl_len]
theorem pm_s2_len (ls : List PV) (i : Nat) (v : PV) : (pm_s2 ls i v).length = ls.length := by unfold pm_s2; rw [List.length_set, List.length_set, pm_kl_len]
theorem pm_kl_ok {P : PV → Prop} {ls : List PV} (h : ∀ v ∈ ls, P v) (hn : P none) (i : Nat) : ∀ v ∈ pm_kl ls i, P v := by
  intro v hv
  unfold pm_kl at hv
  split at hv
  · exact h v hv
  · split at hv
    · rcases List.mem_or_eq_of_mem_set hv with q | q
      · exact h v q
      · rw [q]; exact hn
    · exact h v hv
theorem pm_s1_ok {P : PV → Prop} {ls : List PV} (h : ∀ v ∈ ls, P v) (hn : P none) {w : PV} (hw : P w) (i : Nat) : ∀ v ∈ pm_s1 ls i w, P v := by
  intro v hv
  rcases List.mem_or_eq_of_mem_set hv with q | q
  · exact pm_kl_ok h hn i v q
  · rw [q]; exact hw
theorem pm_s2_ok {P : PV → Prop} {ls : List PV} (h : ∀ v ∈ ls, P v) (hn : P none) {w : PV} (hw : P w) (i : Nat) : ∀ v ∈ pm_s2 ls i w, P v := by
  intro v hv
  rcases List.mem_or_eq_of_mem_set hv with q | q
  · exact pm_s1_ok h hn hw i v q
  · rw [q]; exact hn
theorem pm_mk_get {kp : Option (List Bool)} {ls : List PV} {i : Nat} {v : PV} (h : (pm_mk kp ls)[i]? = some v) (hn : v ≠ none) : ls[i]? = some v := by
  unfold pm_mk at h
  split at h
  · exact h
  · rename_i bs
    rw [List.getElem?_zipWith] at h
    split at h
    · rename_i b w h1 h2
      have h := Option.some.inj h
      split at h
      · rw [h2, h]
      · exact absurd h.symm hn
    · cases h
theorem pm_mk_ok {P : PV → Prop} {ls : List PV} (h : ∀ v ∈ ls, P v) (hn : P none) (kp : Option (List Bool)) : ∀ v ∈ pm_mk kp ls, P v := by
  intro v hv
  by_cases e : v = none
  · rw [e]; exact hn
  · obtain ⟨i, hi⟩ := List.mem_iff_getElem?.mp hv
    exact h v (List.mem_of_getElem? (pm_mk_get hi e))
