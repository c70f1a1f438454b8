/-! SOUNDNESS of the constructors' machine -/
section CNS
variable {p : Program} {l : Launch} {e : Env} {R : Room} {s : State} {mm : MethodId} {args : Array Value} {below : List Frame} {meth : Method} {c : Code} {Q : State → Prop}
variable {D : va_G} {A : Nat → Prop}
/-- the words of the constructors that a callee doesn't take over by itself -/
def cn_N (U : State) : Prop := (∀ m idx ci pl : Nat, (cn_cl.getD m []).lookup idx = some (ci, 1, pl) → va_Nw (.methodLinkNest (cn_n m) idx (cn_y ci) "IllLight") U) ∧ ∀ ci : Nat, (ci = 0 ∨ ci = 2 ∨ ci = 3 ∨ ci = 6) → va_AO (cn_n ci) U
theorem cn_N.warm {s U : State} (h : cn_N s) (hW : s.WarmedH U.vm) : cn_N U := ⟨fun m idx ci pl hl => (h.1 m idx ci pl hl).warmM hW, fun ci hc => (h.2 ci hc).moved hW.alike⟩
theorem cn_N.same {s U : State} (h : cn_N s) (hv : s.vm = U.vm) : cn_N U := ⟨fun m idx ci pl hl => (h.1 m idx ci pl hl).same rfl hv, fun ci hc => (h.2 ci hc).moved (by rw [hv]; exact Vm.Alike.refl _)⟩
def cn_Ty (D : va_G) (cA : Nat → ClassId) (w : List CE) (U : State) : Prop := ∃ tys, va_K D vwCl tys U ∧ ∀ (k kd n : Nat) (is : List (Nat × Int32)) (rs : List (Nat × Nat)), w[k]? = some (.inr (kd, n, is, rs)) → ∃ t0 : Nat, tys[t0]? = some (cA k, cn_ty kd)
theorem cn_Ty.moved {cA : Nat → ClassId} {w : List CE} {u U : State} (hv : u.vm.Alike U.vm) (h : cn_Ty D cA w u) : cn_Ty D cA w U := by
  obtain ⟨tys, h1, h2⟩ := h
  exact ⟨tys, va_K.moved hv h1, h2⟩
def cn_HR (s : State) (D : va_G) (A : Nat → Prop) (as : Nat → Nat) (cA : Nat → ClassId) (w : List CE) (H : Heap) (locs : List Loc) : Prop := cn_Ty D cA w s ∧ va_P D vwCl (cn_ws as cA w) H ∧ va_D A (cn_ws as cA w) ∧ va_S A s.heap H locs
def cn_Fr (p : Program) (R : Room) (s : State) (mm : MethodId) (args : Array Value) (meth : Method) (c : Code) (A : Nat → Prop) (m : Nat) : Prop :=
  p.tables.exec = Jvm.exec ∧ c.code = cn_b m ∧ c.maxLocals = cn_nmx m ∧ s.vm.findClass (cn_n m) = some mm.cls ∧ (∀ w ∈ pm_tb, w.before args s = true) ∧ cn_N s ∧ meth.name = "<init>" ∧ (∀ q, s.heap.size ≤ q → A q) ∧ (cn_ndm m).1 ≤ R.frames ∧ (cn_ndm m).2 ≤ R.locals ∧ (cn_cp m).1 ≤ R.cells ∧ (cn_cp m).2 ≤ R.slots
def cn_okv (n : Nat) (v : PV) : Prop := match v with
  | some (.inr (.inr (some (0, k)))) => k < n
  | some (.inl _) => True
  | none => True
  | _ => False
def cn_At (p : Program) (l : Launch) (e : Env) (R : Room) (s : State) (mm : MethodId) (args : Array Value) (below : List Frame) (meth : Method) (c : Code) (Q : State → Prop) (D : va_G) (A : Nat → Prop) (as0 : Nat → Nat) (n0 : Nat) (σ : CS) : Prop :=
  ∀ (as : Nat → Nat) (cA : Nat → ClassId) (H : Heap) (locs : List Loc) (la : Array Slot), (∀ k, k < n0 → as k = as0 k) → cn_HR s D A as cA σ.2.2.2.2.1 H locs → pm_LR (fun _ => as) .null (cn_nmx σ.1) σ.2.2.1 la → W p l e R s mm args below meth c H locs σ.2.2.2.2.2.1 σ.2.2.2.2.2.2 Q (F0 mm σ.2.1 la (σ.2.2.2.1.map (pm_mp (fun _ => as) .null)))
def cn_Ok (n0 : Nat) (σ : CS) : Prop := (∀ v ∈ σ.2.2.1, cn_okv σ.2.2.2.2.1.length v) ∧ (∀ v ∈ σ.2.2.2.1, v ≠ none ∧ cn_okv σ.2.2.2.2.1.length v) ∧ n0 ≤ σ.2.2.2.2.1.length
def cn_RtW (p : Program) (l : Launch) (e : Env) (R : Room) (s : State) (mm : MethodId) (args : Array Value) (below : List Frame) (meth : Method) (c : Code) (Q : State → Prop) (D : va_G) (A : Nat → Prop) (as0 : Nat → Nat) (n0 m : Nat) (w : List CE) : Prop :=
  ∀ (as : Nat → Nat) (cA : Nat → ClassId) (H : Heap) (locs : List Loc) (la : Array Slot) (pc0 cc sl : Nat), (∀ k, k < n0 → as k = as0 k) → cn_HR s D A as cA w H locs → cc ≤ (cn_cp m).1 → sl ≤ (cn_cp m).2 → decode (cn_b m) pc0 = .ok (.return_, 1) → W p l e R s mm args below meth c H locs cc sl Q (F0 mm pc0 la [])
theorem cn_mp_up {as : Nat → Nat} {n q : Nat} {v : PV} (h : cn_okv n v) : pm_mp (fun _ => va_up as n q) .null v = pm_mp (fun _ => as) .null v := by
  unfold cn_okv at h
  unfold pm_mp
  split at h
  · rename_i k
    show (if (0 : Nat) = 67 then Value.null else Value.ref (va_up as n q k)) = if (0 : Nat) = 67 then Value.null else Value.ref (as k)
    rw [up_ag k h]
  · rfl
  · rfl
  · exact h.elim
theorem cn_mp_ag {as as' : Nat → Nat} {n : Nat} {v : PV} (ha : ∀ k, k < n → as' k = as k) (h : cn_okv n v) : pm_mp (fun _ => as') .null v = pm_mp (fun _ => as) .null v := by
  unfold cn_okv at h
  unfold pm_mp
  split at h
  · rename_i k
    show (if (0 : Nat) = 67 then Value.null else Value.ref (as' k)) = if (0 : Nat) = 67 then Value.null else Value.ref (as k)
    rw [ha k h]
  · rfl
  · rfl
  · exact h.elim
theorem cn_LR_ag {as as' : Nat → Nat} {n nL : Nat} {ls : List PV} {la : Array Slot} (ha : ∀ k, k < n → as' k = as k) (h : pm_LR (fun _ => as) .null nL ls la) (ok : ∀ v ∈ ls, cn_okv n v) : pm_LR (fun _ => as') .null nL ls la :=
  ⟨h.1, h.2.1, h.2.2.1, fun i v hv hn => by rw [cn_mp_ag ha (ok v (List.mem_of_getElem? hv))]; exact h.2.2.2 i v hv hn⟩
theorem cn_map_ag {as as' : Nat → Nat} {n : Nat} {st : List PV} (ha : ∀ k, k < n → as' k = as k) (ok : ∀ v ∈ st, v ≠ none ∧ cn_okv n v) : st.map (pm_mp (fun _ => as') .null) = st.map (pm_mp (fun _ => as) .null) := List.map_congr_left fun v hv => cn_mp_ag ha (ok v hv).2
theorem cn_okv_mono {n n' : Nat} (h : n ≤ n') {v : PV} (hv : cn_okv n v) : cn_okv n' v := by
  unfold cn_okv at hv ⊢
  split at hv
  · omega
  · trivial
  · trivial
  · exact hv.elim
theorem cn_ty_push {cA : Nat → ClassId} {w : List CE} {tys : List (ClassId × FieldType)} {cq : ClassId} {kd0 n0 : Nat} (hty : ∀ (k kd n : Nat) (is : List (Nat × Int32)) (rs : List (Nat × Nat)), w[k]? = some (.inr (kd, n, is, rs)) → ∃ t0 : Nat, tys[t0]? = some (cA k, cn_ty kd)) : ∀ (k kd n : Nat) (is : List (Nat × Int32)) (rs : List (Nat × Nat)), (w ++ [(Sum.inr (kd0, n0, [], []) : CE)])[k]? = some (.inr (kd, n, is, rs)) → ∃ t0 : Nat, (tys ++ [(cq, cn_ty kd0)])[t0]? = some (va_up cA w.length cq k, cn_ty kd) := by
  intro k kd n is rs hk
  rcases Nat.lt_trichotomy k w.length with h | h | h
  · rw [List.getElem?_append_left h] at hk
    obtain ⟨t0, ht0⟩ := hty k kd n is rs hk
    refine ⟨t0, ?_⟩
    rw [up_ag k h, List.getElem?_append_left (List.getElem?_eq_some_iff.mp ht0).1]
    exact ht0
  · subst h
    rw [List.getElem?_append_right (Nat.le_refl _), Nat.sub_self] at hk
    have hk := Option.some.inj hk
    cases hk
    refine ⟨tys.length, ?_⟩
    rw [va_up_self, List.getElem?_append_right (Nat.le_refl _), Nat.sub_self]
    rfl
  · rw [List.getElem?_eq_none_iff.mpr (by rw [List.length_append]; simp; omega)] at hk
    cases hk
theorem cn_top_ag {as : Nat → Nat} {n q : Nat} {st : List PV} (ok : ∀ v ∈ st, v ≠ none ∧ cn_okv n v) : (vr 0 n :: st).map (pm_mp (fun _ => va_up as n q) .null) = Value.ref q :: st.map (pm_mp (fun _ => as) .null) := by
  rw [List.map_cons, cn_map_ag up_ag ok]
  show (if (0 : Nat) = 67 then Value.null else Value.ref (va_up as n q n)) :: _ = _
  rw [va_up_self]
  rfl
theorem cn_Ty_set {cA : Nat → ClassId} {w : List CE} {U : State} {a ci : Nat} {fs fs' : List CF} (ha : w[a]? = some (.inl (ci, fs))) (h : cn_Ty D cA w U) : cn_Ty D cA (w.set a (.inl (ci, fs'))) U := by
  obtain ⟨tys, h1, h2⟩ := h
  refine ⟨tys, h1, fun k kd n is rs hk => ?_⟩
  rw [List.getElem?_set] at hk
  split at hk
  · split at hk
    · cases hk
    · cases hk
  · exact h2 k kd n is rs hk
theorem cn_Ty_setA {cA : Nat → ClassId} {w : List CE} {U : State} {a kd n : Nat} {is is' : List (Nat × Int32)} {rs rs' : List (Nat × Nat)} (ha : w[a]? = some (.inr (kd, n, is, rs))) (h : cn_Ty D cA w U) : cn_Ty D cA (w.set a (.inr (kd, n, is', rs'))) U := by
  obtain ⟨tys, h1, h2⟩ := h
  refine ⟨tys, h1, fun k kd2 n2 is2 rs2 hk => ?_⟩
  rw [List.getElem?_set] at hk
  split at hk
  · rename_i e
    subst e
    split at hk
    · have hk := Option.some.inj hk
      cases hk
      exact h2 a kd n is rs ha
    · cases hk
  · exact h2 k kd2 n2 is2 rs2 hk
end CNS
