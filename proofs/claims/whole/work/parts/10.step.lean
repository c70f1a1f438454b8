section PMS
variable {p : Program} {l : Launch} {e : Env} {R : Room} {s : State} {mm : MethodId} {args : Array Value} {below : List Frame} {meth : Method} {c : Code} {cells slots : Nat} {Q : State → Prop}
variable {D : va_G} {cA : Nat → Nat → ClassId} {ad : Nat → Nat → Nat} {fm : Value} {A : Nat → Prop} {ex : Nat → Nat → Nat → Int32}
/-- a frame of method m -/
def pm_Fr (p : Program) (R : Room) (s : State) (mm : MethodId) (args : Array Value) (c : Code) (cells slots : Nat) (D : va_G) (cA : Nat → Nat → ClassId) (ad : Nat → Nat → Nat) (fm : Value) (A : Nat → Prop) (ex : Nat → Nat → Nat → Int32) (m : Nat) : Prop :=
  p.tables.exec = Jvm.exec ∧ c.code = pm_by m ∧ c.maxLocals = pm_mxl m ∧ s.vm.findClass (pm_on m) = some mm.cls ∧ (∀ w ∈ pm_tb, w.before args s = true) ∧ va_K D vwCl (pm_tys cA) s ∧ pm_X ad fm A ex s ∧ pm_fr m ≤ R.frames ∧ pm_lo m ≤ R.locals ∧ cells ≤ R.cells ∧ slots ≤ R.slots
def pm_HR (s : State) (D : va_G) (cA : Nat → Nat → ClassId) (ad : Nat → Nat → Nat) (A : Nat → Prop) (ex : Nat → Nat → Nat → Int32) (h : PH) (H : Heap) (locs : List Loc) : Prop := va_P D vwCl (pm_ws ad cA h) H ∧ va_D A (pm_ws ad cA h) ∧ va_S A s.heap H locs ∧ ∀ t, 60 ≤ t → h.1 t = ex t
def pm_At (p : Program) (l : Launch) (e : Env) (R : Room) (s : State) (mm : MethodId) (args : Array Value) (below : List Frame) (meth : Method) (c : Code) (cells slots : Nat) (Q : State → Prop) (D : va_G) (cA : Nat → Nat → ClassId) (ad : Nat → Nat → Nat) (fm : Value) (A : Nat → Prop) (ex : Nat → Nat → Nat → Int32) (σ : PS) : Prop :=
  ∀ (H : Heap) (locs : List Loc) (la : Array Slot), pm_HR s D cA ad A ex σ.2.2.2.2 H locs → pm_LR ad fm (pm_mxl σ.1) σ.2.2.1 la → W p l e R s mm args below meth c H locs cells slots Q (F0 mm σ.2.1 la (σ.2.2.2.1.map (pm_mp ad fm)))
def pm_Ok (σ : PS) : Prop := (∀ v ∈ σ.2.2.1, pm_okv v) ∧ ∀ v ∈ σ.2.2.2.1, v ≠ none ∧ pm_okv v
theorem pm_okv_i (x : Int32) : pm_okv (vi x) := trivial
theorem pm_okv_l (x : Int64) : pm_okv (vl x) := trivial
theorem pm_okv_0 : pm_okv none := trivial
theorem ok_push {st : List PV} {v : PV} (h : ∀ v ∈ st, v ≠ none ∧ pm_okv v) (h1 : v ≠ none) (h2 : pm_okv v) : ∀ w ∈ v :: st, w ≠ none ∧ pm_okv w := fun w hw => (List.mem_cons.mp hw).elim (fun e => by rw [e]; exact ⟨h1, h2⟩) (h w)
theorem ok_tl {st : List PV} {v : PV} (h : ∀ w ∈ v :: st, w ≠ none ∧ pm_okv w) : ∀ w ∈ st, w ≠ none ∧ pm_okv w := fun w hw => h w (List.mem_cons_of_mem _ hw)
theorem ok_hd {st : List PV} {v : PV} (h : ∀ w ∈ v :: st, w ≠ none ∧ pm_okv w) : pm_okv v := (h v List.mem_cons_self).2
variable {m pc nx : Nat} {ls st : List PV} {h : PH} {G : PS → Prop}
theorem sd_ild {i : Nat} (hop : pm_ild False G ls i m nx st h) (hG : ∀ σ, G σ → σ.1 = m → pm_Ok σ → pm_At p l e R s mm args below meth c cells slots Q D cA ad fm A ex σ) (ok : pm_Ok (m, pc, ls, st, h))
    (row : ∀ (x : Int32) (H : Heap) (locs : List Loc) (la : Array Slot), la[i]? = some (.val (.int x)) → W p l e R s mm args below meth c H locs cells slots Q (F0 mm nx la (.int x :: st.map (pm_mp ad fm))) → W p l e R s mm args below meth c H locs cells slots Q (F0 mm pc la (st.map (pm_mp ad fm)))) :
    pm_At p l e R s mm args below meth c cells slots Q D cA ad fm A ex (m, pc, ls, st, h) := by
  unfold pm_ild at hop
  split at hop
  · rename_i x hx
    intro H locs la hH hL
    exact row x H locs la (hL.2.2.2 i _ hx (by simp)) (hG _ hop rfl ⟨ok.1, ok_push ok.2 (by simp) trivial⟩ H locs la hH hL)
  · exact hop.elim
theorem sd_lld {i : Nat} (hop : pm_lld False G ls i m nx st h) (hG : ∀ σ, G σ → σ.1 = m → pm_Ok σ → pm_At p l e R s mm args below meth c cells slots Q D cA ad fm A ex σ) (ok : pm_Ok (m, pc, ls, st, h))
    (row : ∀ (x : Int64) (H : Heap) (locs : List Loc) (la : Array Slot), la[i]? = some (.val (.long x)) → W p l e R s mm args below meth c H locs cells slots Q (F0 mm nx la (.long x :: st.map (pm_mp ad fm))) → W p l e R s mm args below meth c H locs cells slots Q (F0 mm pc la (st.map (pm_mp ad fm)))) :
    pm_At p l e R s mm args below meth c cells slots Q D cA ad fm A ex (m, pc, ls, st, h) := by
  unfold pm_lld at hop
  split at hop
  · rename_i x hx
    intro H locs la hH hL
    exact row x H locs la (hL.2.2.2 i _ hx (by simp)) (hG _ hop rfl ⟨ok.1, ok_push ok.2 (by simp) trivial⟩ H locs la hH hL)
  · exact hop.elim
theorem pm_mp_r (hfm : fm = .null ∨ ∃ a, fm = .ref a) (r : Option (Nat × Nat)) : pm_mp ad fm (some (.inr (.inr r))) = .null ∨ ∃ a, pm_mp ad fm (some (.inr (.inr r))) = .ref a := by
  cases r with
  | none => exact Or.inl rfl
  | some q =>
    show (if q.1 = 67 then fm else .ref (ad q.1 q.2)) = .null ∨ ∃ a, (if q.1 = 67 then fm else .ref (ad q.1 q.2)) = .ref a
    split
    · exact hfm
    · exact Or.inr ⟨_, rfl⟩
theorem sd_ald {i : Nat} (hfm : fm = .null ∨ ∃ a, fm = .ref a) (hop : pm_ald False G ls i m nx st h) (hG : ∀ σ, G σ → σ.1 = m → pm_Ok σ → pm_At p l e R s mm args below meth c cells slots Q D cA ad fm A ex σ) (ok : pm_Ok (m, pc, ls, st, h))
    (row : ∀ (a : Nat) (H : Heap) (locs : List Loc) (la : Array Slot), la[i]? = some (.val (.ref a)) → W p l e R s mm args below meth c H locs cells slots Q (F0 mm nx la (.ref a :: st.map (pm_mp ad fm))) → W p l e R s mm args below meth c H locs cells slots Q (F0 mm pc la (st.map (pm_mp ad fm))))
    (rowN : ∀ (H : Heap) (locs : List Loc) (la : Array Slot), la[i]? = some (.val .null) → W p l e R s mm args below meth c H locs cells slots Q (F0 mm nx la (.null :: st.map (pm_mp ad fm))) → W p l e R s mm args below meth c H locs cells slots Q (F0 mm pc la (st.map (pm_mp ad fm)))) :
    pm_At p l e R s mm args below meth c cells slots Q D cA ad fm A ex (m, pc, ls, st, h) := by
  unfold pm_ald at hop
  split at hop
  · rename_i x hx
    intro H locs la hH hL
    have h1 := hL.2.2.2 i _ hx (by simp)
    have h2 := hG _ hop rfl ⟨ok.1, ok_push ok.2 (by simp) (ok.1 _ (List.mem_of_getElem? hx))⟩ H locs la hH hL
    rcases pm_mp_r (ad := ad) hfm x with e1 | ⟨a, e1⟩
    · rw [e1] at h1
      refine rowN H locs la h1 ?_
      rw [List.map_cons, e1] at h2
      exact h2
    · rw [e1] at h1
      refine row a H locs la h1 ?_
      rw [List.map_cons, e1] at h2
      exact h2
  · exact hop.elim
theorem sd_ist {i : Nat} (hfm : fm = .null ∨ ∃ a, fm = .ref a) (hop : pm_ist False G ls i m nx st h) (hG : ∀ σ, G σ → σ.1 = m → pm_Ok σ → pm_At p l e R s mm args below meth c cells slots Q D cA ad fm A ex σ) (ok : pm_Ok (m, pc, ls, st, h))
    (row : ∀ (x : Int32) (rest : List Value) (H : Heap) (locs : List Loc) (la : Array Slot) (lv lv' : List (Nat × Value)), lv_has la (pm_mxl m) lv → i < pm_mxl m → (i, Value.int x) :: lv.filter (fun q => !(q.1 == i) && !(q.1 + 1 == i && q.2.category == 2)) = lv' → (∀ la' : Array Slot, lv_has la' (pm_mxl m) lv' → W p l e R s mm args below meth c H locs cells slots Q (F0 mm nx la' rest)) → W p l e R s mm args below meth c H locs cells slots Q (F0 mm pc la (.int x :: rest))) :
    pm_At p l e R s mm args below meth c cells slots Q D cA ad fm A ex (m, pc, ls, st, h) := by
  unfold pm_ist at hop
  split at hop
  · rename_i x st'
    split at hop
    · rename_i hi
      intro H locs la hH hL
      have hi' : i < pm_mxl m := by have := hL.2.2.1; simp only at this hi; omega
      refine row x _ H locs la _ _ hL.has hi' rfl fun la' hl' => ?_
      exact hG _ hop rfl ⟨pm_s1_ok ok.1 trivial (pm_okv_i x) i, ok_tl ok.2⟩ H locs la' hH (pm_LR.of (by show (pm_s1 ls i (vi x)).length = pm_mxl m; rw [pm_s1_len]; exact hL.2.2.1) hl' (fun q hq => pm_s1_lv hfm hq))
    · exact hop.elim
  · exact hop.elim
theorem sd_lst {i : Nat} (hfm : fm = .null ∨ ∃ a, fm = .ref a) (hop : pm_lst False G ls i m nx st h) (hG : ∀ σ, G σ → σ.1 = m → pm_Ok σ → pm_At p l e R s mm args below meth c cells slots Q D cA ad fm A ex σ) (ok : pm_Ok (m, pc, ls, st, h))
    (row : ∀ (x : Int64) (rest : List Value) (H : Heap) (locs : List Loc) (la : Array Slot) (lv lv' : List (Nat × Value)), lv_has la (pm_mxl m) lv → i + 1 < pm_mxl m → (i, Value.long x) :: lv.filter (fun q => !(q.1 == i) && (!(q.1 == i + 1) && !(q.1 + 1 == i && q.2.category == 2))) = lv' → (∀ la' : Array Slot, lv_has la' (pm_mxl m) lv' → W p l e R s mm args below meth c H locs cells slots Q (F0 mm nx la' rest)) → W p l e R s mm args below meth c H locs cells slots Q (F0 mm pc la (.long x :: rest))) :
    pm_At p l e R s mm args below meth c cells slots Q D cA ad fm A ex (m, pc, ls, st, h) := by
  unfold pm_lst at hop
  split at hop
  · rename_i x st'
    split at hop
    · rename_i hi
      intro H locs la hH hL
      have hi' : i + 1 < pm_mxl m := by have := hL.2.2.1; simp only at this hi; omega
      refine row x _ H locs la _ _ hL.has hi' rfl fun la' hl' => ?_
      exact hG _ hop rfl ⟨pm_s2_ok ok.1 trivial (pm_okv_l x) i, ok_tl ok.2⟩ H locs la' hH (pm_LR.of (by show (pm_s2 ls i (vl x)).length = pm_mxl m; rw [pm_s2_len]; exact hL.2.2.1) hl' (fun q hq => pm_s2_lv hfm hq))
    · exact hop.elim
  · exact hop.elim
theorem sd_ast {i : Nat} (hfm : fm = .null ∨ ∃ a, fm = .ref a) (hop : pm_ast False G ls i m nx st h) (hG : ∀ σ, G σ → σ.1 = m → pm_Ok σ → pm_At p l e R s mm args below meth c cells slots Q D cA ad fm A ex σ) (ok : pm_Ok (m, pc, ls, st, h))
    (row : ∀ (a : Nat) (rest : List Value) (H : Heap) (locs : List Loc) (la : Array Slot) (lv lv' : List (Nat × Value)), lv_has la (pm_mxl m) lv → i < pm_mxl m → (i, Value.ref a) :: lv.filter (fun q => !(q.1 == i) && !(q.1 + 1 == i && q.2.category == 2)) = lv' → (∀ la' : Array Slot, lv_has la' (pm_mxl m) lv' → W p l e R s mm args below meth c H locs cells slots Q (F0 mm nx la' rest)) → W p l e R s mm args below meth c H locs cells slots Q (F0 mm pc la (.ref a :: rest)))
    (rowN : ∀ (rest : List Value) (H : Heap) (locs : List Loc) (la : Array Slot) (lv lv' : List (Nat × Value)), lv_has la (pm_mxl m) lv → i < pm_mxl m → (i, Value.null) :: lv.filter (fun q => !(q.1 == i) && !(q.1 + 1 == i && q.2.category == 2)) = lv' → (∀ la' : Array Slot, lv_has la' (pm_mxl m) lv' → W p l e R s mm args below meth c H locs cells slots Q (F0 mm nx la' rest)) → W p l e R s mm args below meth c H locs cells slots Q (F0 mm pc la (.null :: rest))) :
    pm_At p l e R s mm args below meth c cells slots Q D cA ad fm A ex (m, pc, ls, st, h) := by
  unfold pm_ast at hop
  split at hop
  · rename_i x st'
    split at hop
    · rename_i hi
      intro H locs la hH hL
      have hi' : i < pm_mxl m := by have := hL.2.2.1; simp only at this hi; omega
      have go : ∀ la' : Array Slot, lv_has la' (pm_mxl m) ((i, pm_mp ad fm (some (.inr (.inr x)))) :: (pm_lv ad fm ls).filter (fun q => !(q.1 == i) && !(q.1 + 1 == i && q.2.category == 2))) → W p l e R s mm args below meth c H locs cells slots Q (F0 mm nx la' (st'.map (pm_mp ad fm))) := fun la' hl' =>
        hG _ hop rfl ⟨pm_s1_ok ok.1 trivial (ok_hd ok.2) i, ok_tl ok.2⟩ H locs la' hH (pm_LR.of (by show (pm_s1 ls i (some (.inr (.inr x)))).length = pm_mxl m; rw [pm_s1_len]; exact hL.2.2.1) hl' (fun q hq => pm_s1_lv hfm hq))
      show W p l e R s mm args below meth c H locs cells slots Q (F0 mm pc la (pm_mp ad fm (some (.inr (.inr x))) :: st'.map (pm_mp ad fm)))
      rcases pm_mp_r (ad := ad) hfm x with e1 | ⟨a, e1⟩
      · rw [e1] at go ⊢
        exact rowN _ H locs la _ _ hL.has hi' rfl go
      · rw [e1] at go ⊢
        exact row a _ H locs la _ _ hL.has hi' rfl go
    · exact hop.elim
  · exact hop.elim
theorem sd_b1 {f : Int32 → Int32} (hop : pm_b1 False G f m nx ls st h) (hG : ∀ σ, G σ → σ.1 = m → pm_Ok σ → pm_At p l e R s mm args below meth c cells slots Q D cA ad fm A ex σ) (ok : pm_Ok (m, pc, ls, st, h))
    (row : ∀ (x : Int32) (rest : List Value) (H : Heap) (locs : List Loc) (la : Array Slot), W p l e R s mm args below meth c H locs cells slots Q (F0 mm nx la (.int (f x) :: rest)) → W p l e R s mm args below meth c H locs cells slots Q (F0 mm pc la (.int x :: rest))) :
    pm_At p l e R s mm args below meth c cells slots Q D cA ad fm A ex (m, pc, ls, st, h) := by
  unfold pm_b1 at hop
  split at hop
  · exact fun H locs la hH hL => row _ _ H locs la (hG _ hop rfl ⟨ok.1, ok_push (ok_tl ok.2) (by simp) trivial⟩ H locs la hH hL)
  · exact hop.elim
theorem sd_b2 {f : Int32 → Int32 → Int32} (hop : pm_b2 False G f m nx ls st h) (hG : ∀ σ, G σ → σ.1 = m → pm_Ok σ → pm_At p l e R s mm args below meth c cells slots Q D cA ad fm A ex σ) (ok : pm_Ok (m, pc, ls, st, h))
    (row : ∀ (x y : Int32) (rest : List Value) (H : Heap) (locs : List Loc) (la : Array Slot), W p l e R s mm args below meth c H locs cells slots Q (F0 mm nx la (.int (f x y) :: rest)) → W p l e R s mm args below meth c H locs cells slots Q (F0 mm pc la (.int y :: .int x :: rest))) :
    pm_At p l e R s mm args below meth c cells slots Q D cA ad fm A ex (m, pc, ls, st, h) := by
  unfold pm_b2 at hop
  split at hop
  · exact fun H locs la hH hL => row _ _ _ H locs la (hG _ hop rfl ⟨ok.1, ok_push (ok_tl (ok_tl ok.2)) (by simp) trivial⟩ H locs la hH hL)
  · exact hop.elim
theorem sd_l2 {f : Int64 → Int64 → Int64} (hop : pm_l2 False G f m nx ls st h) (hG : ∀ σ, G σ → σ.1 = m → pm_Ok σ → pm_At p l e R s mm args below meth c cells slots Q D cA ad fm A ex σ) (ok : pm_Ok (m, pc, ls, st, h))
    (row : ∀ (x y : Int64) (rest : List Value) (H : Heap) (locs : List Loc) (la : Array Slot), W p l e R s mm args below meth c H locs cells slots Q (F0 mm nx la (.long (f x y) :: rest)) → W p l e R s mm args below meth c H locs cells slots Q (F0 mm pc la (.long y :: .long x :: rest))) :
    pm_At p l e R s mm args below meth c cells slots Q D cA ad fm A ex (m, pc, ls, st, h) := by
  unfold pm_l2 at hop
  split at hop
  · exact fun H locs la hH hL => row _ _ _ H locs la (hG _ hop rfl ⟨ok.1, ok_push (ok_tl (ok_tl ok.2)) (by simp) trivial⟩ H locs la hH hL)
  · exact hop.elim
theorem sd_lsh {f : Int64 → Int32 → Int64} (hop : pm_lsh False G f m nx ls st h) (hG : ∀ σ, G σ → σ.1 = m → pm_Ok σ → pm_At p l e R s mm args below meth c cells slots Q D cA ad fm A ex σ) (ok : pm_Ok (m, pc, ls, st, h))
    (row : ∀ (x : Int64) (y : Int32) (rest : List Value) (H : Heap) (locs : List Loc) (la : Array Slot), W p l e R s mm args below meth c H locs cells slots Q (F0 mm nx la (.long (f x y) :: rest)) → W p l e R s mm args below meth c H locs cells slots Q (F0 mm pc la (.int y :: .long x :: rest))) :
    pm_At p l e R s mm args below meth c cells slots Q D cA ad fm A ex (m, pc, ls, st, h) := by
  unfold pm_lsh at hop
  split at hop
  · exact fun H locs la hH hL => row _ _ _ H locs la (hG _ hop rfl ⟨ok.1, ok_push (ok_tl (ok_tl ok.2)) (by simp) trivial⟩ H locs la hH hL)
  · exact hop.elim
theorem pm_ifz_of {cd : ClassFile.Cond} {x : Int32} {a b : Prop} (h : pm_ifz cd x a b) : (pm_cz cd x = true → a) ∧ (¬ pm_cz cd x = true → b) := by
  unfold pm_ifz at h
  unfold pm_cz
  cases cd <;> dsimp only at h ⊢ <;> split at h <;> rename_i q <;> simp only [decide_eq_true_eq] <;> refine ⟨fun z => ?_, fun z => ?_⟩ <;> first | exact h | exact absurd q z | exact absurd z q | exact absurd q (Int32.not_lt.mpr z) | exact absurd (Int32.not_lt.mp q) z | exact absurd q (fun k => z k)
theorem pm_ifc_of {cd : ClassFile.Cond} {x y : Int32} {a b : Prop} (h : pm_ifc cd x y a b) : (pm_cc cd x y = true → a) ∧ (¬ pm_cc cd x y = true → b) := by
  unfold pm_ifc at h
  unfold pm_cc
  cases cd <;> dsimp only at h ⊢ <;> split at h <;> rename_i q <;> simp only [decide_eq_true_eq] <;> refine ⟨fun z => ?_, fun z => ?_⟩ <;> first | exact h | exact absurd q z | exact absurd z q | exact absurd q (Int32.not_lt.mpr z) | exact absurd (Int32.not_lt.mp q) z | exact absurd q (fun k => z k)
theorem sd_if1 {cd : ClassFile.Cond} {tg : Nat} (hop : pm_if1 False G cd m nx tg ls st h) (hG : ∀ σ, G σ → σ.1 = m → pm_Ok σ → pm_At p l e R s mm args below meth c cells slots Q D cA ad fm A ex σ) (ok : pm_Ok (m, pc, ls, st, h))
    (row : ∀ (x : Int32) (rest : List Value) (H : Heap) (locs : List Loc) (la : Array Slot), (pm_cz cd x = true → W p l e R s mm args below meth c H locs cells slots Q (F0 mm tg la rest)) → (¬ pm_cz cd x = true → W p l e R s mm args below meth c H locs cells slots Q (F0 mm nx la rest)) → W p l e R s mm args below meth c H locs cells slots Q (F0 mm pc la (.int x :: rest))) :
    pm_At p l e R s mm args below meth c cells slots Q D cA ad fm A ex (m, pc, ls, st, h) := by
  unfold pm_if1 at hop
  split at hop
  · intro H locs la hH hL
    exact row _ _ H locs la (fun hb => hG _ ((pm_ifz_of hop).1 hb) rfl ⟨ok.1, ok_tl ok.2⟩ H locs la hH hL) (fun hb => hG _ ((pm_ifz_of hop).2 hb) rfl ⟨ok.1, ok_tl ok.2⟩ H locs la hH hL)
  · exact hop.elim
theorem sd_if2 {cd : ClassFile.Cond} {tg : Nat} (hop : pm_if2 False G cd m nx tg ls st h) (hG : ∀ σ, G σ → σ.1 = m → pm_Ok σ → pm_At p l e R s mm args below meth c cells slots Q D cA ad fm A ex σ) (ok : pm_Ok (m, pc, ls, st, h))
    (row : ∀ (x y : Int32) (rest : List Value) (H : Heap) (locs : List Loc) (la : Array Slot), (pm_cc cd x y = true → W p l e R s mm args below meth c H locs cells slots Q (F0 mm tg la rest)) → (¬ pm_cc cd x y = true → W p l e R s mm args below meth c H locs cells slots Q (F0 mm nx la rest)) → W p l e R s mm args below meth c H locs cells slots Q (F0 mm pc la (.int y :: .int x :: rest))) :
    pm_At p l e R s mm args below meth c cells slots Q D cA ad fm A ex (m, pc, ls, st, h) := by
  unfold pm_if2 at hop
  split at hop
  · intro H locs la hH hL
    exact row _ _ _ H locs la (fun hb => hG _ ((pm_ifc_of hop).1 hb) rfl ⟨ok.1, ok_tl (ok_tl ok.2)⟩ H locs la hH hL) (fun hb => hG _ ((pm_ifc_of hop).2 hb) rfl ⟨ok.1, ok_tl (ok_tl ok.2)⟩ H locs la hH hL)
  · exact hop.elim
end PMS
