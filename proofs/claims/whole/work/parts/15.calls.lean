section PMC
variable {l : Launch} {D : va_G} {cA : Nat → Nat → ClassId} {ad : Nat → Nat → Nat} {fm : Value} {A : Nat → Prop} {ex : Nat → Nat → Nat → Int32}
def pm_ws0 (m : Nat) : List Cond := Cond.code (pm_y m) (pm_by m) (pm_mxl m) (pm_rt0 m) :: pm_tb
def pm_rm (m : Nat) : Room := { frames := pm_fr m, cells := 0, slots := 0, locals := pm_lo m }
def pm_Pc (D : va_G) (cA : Nat → Nat → ClassId) (ad : Nat → Nat → Nat) (fm : Value) (A : Nat → Prop) (ex : Nat → Nat → Nat → Int32) (as : List PV) (h : PH) : Array Value → State → Prop := va_Pc (as.map (pm_mp ad fm)) fun U => va_P D vwCl (pm_ws ad cA h) U.heap ∧ va_D A (pm_ws ad cA h) ∧ va_K D vwCl (pm_tys cA) U ∧ pm_X ad fm A ex U
def pm_Qc (D : va_G) (cA : Nat → Nat → ClassId) (ad : Nat → Nat → Nat) (fm : Value) (A : Nat → Prop) (ex : Nat → Nat → Nat → Int32) (r : PR) : Array Value → State → Outcome → State → Prop := fun _ st o t => o = .returned (r.1.map (pm_mp ad fm)) ∧ va_P D vwCl (pm_ws ad cA r.2) t.heap ∧ va_F A st t ∧ (∀ t, 60 ≤ t → r.2.1 t = ex t) ∧ ∀ v, r.1 = some v → pm_okv v
/-- n steps of the simple machine are the machine's, in every frame -/
def pm_P (l : Launch) (D : va_G) (cA : Nat → Nat → ClassId) (ad : Nat → Nat → Nat) (fm : Value) (A : Nat → Prop) (ex : Nat → Nat → Nat → Int32) (n : Nat) : Prop :=
  ∀ (p : Program) (e : Env) (R : Room) (s : State) (mm : MethodId) (args : Array Value) (below : List Frame) (meth : Method) (c : Code) (cells slots : Nat) (Q : State → Prop) (m pc : Nat) (ls st : List PV) (h : PH) (r : PR), pm_Fr p R s mm args c cells slots D cA ad fm A ex m → pm_ex n (m, pc, ls, st, h) = some r → pm_Ok (m, pc, ls, st, h) → pm_RtW p l e R s mm args below meth c cells slots Q D cA ad fm A ex m r → pm_At p l e R s mm args below meth c cells slots Q D cA ad fm A ex (m, pc, ls, st, h)
theorem pm_loc_args (hfm : fm = .null ∨ ∃ a, fm = .ref a) : ∀ (as : List PV) (k i : Nat) (v : Int32 ⊕ (Int64 ⊕ Option (Nat × Nat))), (pm_loc as)[i]? = some (some v) → (k + i, pm_mp ad fm (some v)) ∈ lv_args k (as.map (pm_mp ad fm))
  | [], k, i, v, h => by simp [pm_loc] at h
  | a :: r, k, i, v, h => by
    have e0 : pm_loc (a :: r) = (if pm_cat a = 2 then [a, none] else [a]) ++ pm_loc r := rfl
    rw [e0] at h
    show (k + i, pm_mp ad fm (some v)) ∈ (k, pm_mp ad fm a) :: lv_args (if (pm_mp ad fm a).category = 2 then k + 2 else k + 1) (r.map (pm_mp ad fm))
    rw [pm_cat_mp hfm]
    by_cases hc : pm_cat a = 2
    · rw [if_pos hc] at h ⊢
      match i, h with
      | 0, h =>
        have h : a = some v := by simpa using h
        rw [h]
        exact List.mem_cons_self
      | 1, h => simp at h
      | j + 2, h =>
        have h : (pm_loc r)[j]? = some (some v) := by simpa using h
        have := pm_loc_args hfm r (k + 2) j v h
        refine List.mem_cons_of_mem _ ?_
        rw [show k + (j + 2) = k + 2 + j by omega]
        exact this
    · rw [if_neg hc] at h ⊢
      match i, h with
      | 0, h =>
        have h : a = some v := by simpa using h
        rw [h]
        exact List.mem_cons_self
      | j + 1, h =>
        have h : (pm_loc r)[j]? = some (some v) := by simpa using h
        have := pm_loc_args hfm r (k + 1) j v h
        refine List.mem_cons_of_mem _ ?_
        rw [show k + (j + 1) = k + 1 + j by omega]
        exact this
theorem pm_loc_len (hfm : fm = .null ∨ ∃ a, fm = .ref a) : ∀ as : List PV, (lg_sl (as.map (pm_mp ad fm))).length = (pm_loc as).length
  | [] => rfl
  | a :: r => by
    have e0 : pm_loc (a :: r) = (if pm_cat a = 2 then [a, none] else [a]) ++ pm_loc r := rfl
    have e1 : lg_sl ((a :: r).map (pm_mp ad fm)) = (if (pm_mp ad fm a).category = 2 then [.val (pm_mp ad fm a), .second] else [.val (pm_mp ad fm a)]) ++ lg_sl (r.map (pm_mp ad fm)) := rfl
    rw [e0, e1, pm_cat_mp hfm, List.length_append, List.length_append, pm_loc_len hfm r]
    by_cases hc : pm_cat a = 2
    · rw [if_pos hc, if_pos hc]; rfl
    · rw [if_neg hc, if_neg hc]; rfl
theorem pm_ent_LR (hfm : fm = .null ∨ ∃ a, fm = .ref a) {m : Nat} {as : List PV} (hl : (pm_loc as).length ≤ pm_mxl m) : pm_LR ad fm (pm_mxl m) (pm_ent m as) ((lg_sl (as.map (pm_mp ad fm)) ++ List.replicate (pm_mxl m - (lg_sl (as.map (pm_mp ad fm))).length) Slot.unset).toArray) := by
  refine pm_LR.of ?_ (lv_entry (as.map (pm_mp ad fm)) (n := pm_mxl m) (by rw [pm_loc_len hfm]; exact hl)) (fun q hq => ?_)
  · unfold pm_ent
    rw [List.length_append, List.length_replicate]
    omega
  · obtain ⟨v, hv, e0⟩ := pm_lv_mem.mp hq
    unfold pm_ent at hv
    rw [List.getElem?_append] at hv
    split at hv
    · have := pm_loc_args (ad := ad) hfm as 0 q.1 v hv
      rw [Nat.zero_add, ← e0] at this
      exact this
    · rw [List.getElem?_replicate] at hv
      split at hv
      · cases hv
      · cases hv
theorem pm_ent_ok {m : Nat} {as : List PV} (ha : ∀ v ∈ as, v ≠ none ∧ pm_okv v) : ∀ v ∈ pm_ent m as, pm_okv v := by
  intro v hv
  unfold pm_ent at hv
  rcases List.mem_append.mp hv with q | q
  · unfold pm_loc at q
    obtain ⟨a, h1, h2⟩ := List.mem_flatMap.mp q
    split at h2
    · rcases List.mem_cons.mp h2 with e | e
      · rw [e]; exact (ha a h1).2
      · rw [List.mem_singleton.mp e]; trivial
    · rw [List.mem_singleton.mp h2]; exact (ha a h1).2
  · rw [(List.mem_replicate.mp q).2]
    trivial
/-- a method's contract out of a run of the simple machine -/
theorem pm_met {n : Nat} (hP : pm_P l D cA ad fm A ex n) {m : Nat} {as : List PV} {h : PH} {r : PR} (hr : pm_ex n (m, 0, pm_ent m as, [], h) = some r) (hpl : plainName (pm_y m).cls = true) (hon : pm_on m = (pm_y m).cls) (ha : ∀ v ∈ as, v ≠ none ∧ pm_okv v) (hl : (pm_loc as).length ≤ pm_mxl m) (hE : ∀ t, 60 ≤ t → h.1 t = ex t) :
    Met l (pm_y m) (pm_ws0 m) (pm_rm m) (pm_Pc D cA ad fm A ex as h) (pm_Qc D cA ad fm A ex r) 0 0 A := by
  refine Met.ofW (cc := pm_by m) (maxL := pm_mxl m) (ret := pm_rt0 m) hpl rfl ?_
  intro p e s mm args below meth c s₁ B hml hv
  obtain ⟨rfl, hPw, hDw, hK, hX⟩ := hv
  have hts0 := atoms_spec (ws := pm_ws0 m) B.pre
  have hlocks := B.notSynchronized
  have hown : s.vm.findClass (pm_on m) = some mm.cls := by rw [hon]; exact findClass_of_methodNamed B.named
  have F : pm_Fr p (pm_rm m) s mm (as.map (pm_mp ad fm)).toArray c 0 0 D cA ad fm A ex m := ⟨B.exec, B.bytes, hml, hown, fun w hw => hts0 w (List.mem_cons_of_mem _ hw), hK, hX, Nat.le_refl _, Nat.le_refl _, Nat.le_refl _, Nat.le_refl _⟩
  have hrt := tf_ret m
  have hret := B.returns
  have hRt : pm_RtW p l e (pm_rm m) s mm (as.map (pm_mp ad fm)).toArray below meth c 0 0 (MQ below (pm_Qc D cA ad fm A ex r) (as.map (pm_mp ad fm)).toArray s 0 0 A) D cA ad fm A ex m r := by
    intro H locs la pc0 hH
    obtain ⟨hP1, hD1, hS1, hE1⟩ := hH
    refine ⟨fun x e1 e2 e3 e4 => ?_, fun x e1 e2 e3 => ?_, fun x e1 e2 e3 e4 => ?_, fun e1 e2 e3 => ?_⟩
    · have hq : ∀ t : State, t.heap = H → s.WarmedH t.vm → pm_Qc D cA ad fm A ex r (as.map (pm_mp ad fm)).toArray s (.returned (some (.int x))) t := fun t ht _ => ⟨by rw [e1]; rfl, by rw [ht]; exact hP1, hS1.F ht, hE1, fun v z => by rw [e1] at z; cases z; trivial⟩
      rcases e3 with q | q | q | q
      · exact W.iret B.exec B.bytes (by rw [hret]; exact hrt.2.1 q) hq hS1.2.2 e4 hlocks
      · rw [q] at e2
        exact W.zret B.exec B.bytes (by rw [hret]; exact hrt.2.2.1 q) (pm_nar_bool e2).1 hq hS1.2.2 e4 hlocks
      · rw [q] at e2
        exact W.zret B.exec B.bytes (by rw [hret]; exact hrt.2.2.2.2.2.1 q) (by have := pk_nc x; rw [show (x.toUInt32 % 65536).toInt32 = x from e2] at this; exact this) hq hS1.2.2 e4 hlocks
      · rw [q] at e2
        exact W.zret B.exec B.bytes (by rw [hret]; exact hrt.2.2.2.2.2.2 q) (by have := pk_nb x; rw [show x.toInt8.toInt32 = x from e2] at this; exact this) hq hS1.2.2 e4 hlocks
    · exact W.lret B.exec B.bytes (by rw [hret]; exact hrt.2.2.2.1 e2) (fun t ht _ => ⟨by rw [e1]; rfl, by rw [ht]; exact hP1, hS1.F ht, hE1, fun v z => by rw [e1] at z; cases z; trivial⟩) hS1.2.2 e3 hlocks
    · obtain ⟨nn, hnn⟩ := hrt.2.2.2.2.1 e2
      exact W.aret B.exec B.bytes (rt := .object nn) (by rw [hret]; exact hnn) (Or.inl ⟨nn, rfl⟩) (pm_mp_r hX.1 x) (fun t ht _ => ⟨by rw [e1]; rfl, by rw [ht]; exact hP1, hS1.F ht, hE1, fun v z => by rw [e1] at z; cases z; exact e3⟩) hS1.2.2 e4 hlocks
    · exact W.vret B.exec B.bytes (by rw [hret]; exact hrt.1 e2) (fun t ht _ => ⟨by rw [e1]; rfl, by rw [ht]; exact hP1, hS1.F ht, hE1, fun v z => by rw [e1] at z; cases z⟩) hS1.2.2 e3 hlocks
  have K := hP p e (pm_rm m) s mm (as.map (pm_mp ad fm)).toArray below meth c 0 0 _ m 0 (pm_ent m as) [] h r F hr ⟨pm_ent_ok ha, fun v hv => by cases hv⟩ hRt
  rw [lg_entry_eq]
  exact K s.heap [] _ ⟨hPw, hDw, va_S.rf, hE⟩ (pm_ent_LR hX.1 hl)
end PMC
