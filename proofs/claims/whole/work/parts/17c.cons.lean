section CNT
variable {p : Program} {l : Launch} {e : Env} {R : Room} {s : State} {mm : MethodId} {args : Array Value} {below : List Frame} {meth : Method} {c : Code} {Q : State → Prop}
variable {D : va_G} {A : Nat → Prop} {as0 : Nat → Nat} {n0 : Nat}
def cn_ws0 (m : Nat) : List Cond := Cond.code (cn_y m) (cn_b m) (cn_nmx m) none :: pm_tb
def cn_rm (m : Nat) : Room := { frames := (cn_ndm m).1, cells := (cn_cp m).1, slots := (cn_cp m).2, locals := (cn_ndm m).2 }
def cn_Pc (D : va_G) (A : Nat → Prop) (as : Nat → Nat) (cA : Nat → ClassId) (w : List CE) (a : Nat) : Array Value → State → Prop := va_Pc [.ref (as a)] fun U => cn_Ty D cA w U ∧ va_P D vwCl (cn_ws as cA w) U.heap ∧ va_D A (cn_ws as cA w) ∧ (∀ q, U.heap.size ≤ q → A q) ∧ cn_N U
def cn_Qc (D : va_G) (A : Nat → Prop) (as : Nat → Nat) (n : Nat) (w' : List CE) : Array Value → State → Outcome → State → Prop := fun _ st o t => o = .returned none ∧ (∃ (as' : Nat → Nat) (cA' : Nat → ClassId), (∀ k, k < n → as' k = as k) ∧ cn_Ty D cA' w' t ∧ va_P D vwCl (cn_ws as' cA' w') t.heap ∧ va_D A (cn_ws as' cA' w')) ∧ va_F A st t
/-- n steps of the constructors' machine are the machine's, in every constructor's frame -/
def cn_P (l : Launch) (D : va_G) (A : Nat → Prop) (n : Nat) : Prop :=
  ∀ (p : Program) (e : Env) (R : Room) (s : State) (mm : MethodId) (args : Array Value) (below : List Frame) (meth : Method) (c : Code) (Q : State → Prop) (as0 : Nat → Nat) (n0 m pc : Nat) (ls st : List PV) (w : List CE) (cc sl : Nat) (w' : List CE), cn_Fr p R s mm args meth c A m → cn_ex n (m, pc, ls, st, w, cc, sl) = some w' → cn_Ok n0 (m, pc, ls, st, w, cc, sl) → cn_RtW p l e R s mm args below meth c Q D A as0 n0 m w' → cn_At p l e R s mm args below meth c Q D A as0 n0 (m, pc, ls, st, w, cc, sl)
theorem cn_met {n : Nat} (hP : cn_P l D A n) {m a : Nat} {as : Nat → Nat} {cA : Nat → ClassId} {w w' : List CE} (hr : cn_ex n (m, 0, cn_ent m a, [], w, 0, 0) = some w') (hm : m < 9) (ha : a < w.length) : Met l (cn_y m) (cn_ws0 m) (cn_rm m) (cn_Pc D A as cA w a) (cn_Qc D A as w.length w') (cn_cp m).1 (cn_cp m).2 A := by
  refine Met.ofW (cc := cn_b m) (maxL := cn_nmx m) (ret := none) (cf_plain hm) rfl ?_
  intro p e s mm args below meth c s₁ B hml hv
  obtain ⟨rfl, hTy, hPw, hDw, hA, hN⟩ := hv
  have hts0 := atoms_spec (ws := cn_ws0 m) B.pre
  have hlocks := B.notSynchronized
  have hown : s.vm.findClass (cn_n m) = some mm.cls := findClass_of_methodNamed B.named
  have hin : meth.name = "<init>" := (name_of_methodNamed B.named B.method).1
  have F : cn_Fr p (cn_rm m) s mm [Value.ref (as a)].toArray meth c A m := ⟨B.exec, B.bytes, hml, hown, fun w hw => hts0 w (List.mem_cons_of_mem _ hw), hN, hin, hA, Nat.le_refl _, Nat.le_refl _, Nat.le_refl _, Nat.le_refl _⟩
  have hRt : cn_RtW p l e (cn_rm m) s mm [Value.ref (as a)].toArray below meth c (MQ below (cn_Qc D A as w.length w') [Value.ref (as a)].toArray s (cn_cp m).1 (cn_cp m).2 A) D A as w.length m w' := by
    intro as' cA' H locs la pc0 cc sl hag hH hc hs hd
    obtain ⟨hT1, hP1, hD1, hS1⟩ := hH
    refine W.widen (k := (cn_cp m).1) (n := (cn_cp m).2) hc hs ?_
    exact W.vret B.exec B.bytes B.returns (fun t ht hW => ⟨rfl, ⟨as', cA', hag, hT1.moved hW.alike, by rw [ht]; exact hP1, hD1⟩, hS1.F ht⟩) hS1.2.2 hd hlocks
  have hmx : 1 ≤ cn_nmx m := cf_mx hm
  have K := hP p e (cn_rm m) s mm [Value.ref (as a)].toArray below meth c _ as w.length m 0 (cn_ent m a) [] w 0 0 w' F hr ⟨fun v hv => by
      unfold cn_ent at hv
      rcases List.mem_cons.mp hv with q | q
      · rw [q]; exact ha
      · rw [(List.mem_replicate.mp q).2]; trivial, (fun v hv => by cases hv), Nat.le_refl _⟩ hRt
  rw [show [Value.ref (as a)].toArray = ([Value.ref (as a)] : List Value).toArray from rfl, lg_entry_eq]
  refine K as cA s.heap [] _ (fun _ _ => rfl) ⟨hTy, hPw, hDw, va_S.rf⟩ ?_
  have hl := lv_entry ([Value.ref (as a)]) (n := cn_nmx m) (by simpa [lg_sl, Value.category] using hmx)
  refine pm_LR.of ?_ hl (fun q hq => ?_)
  · show (cn_ent m a).length = cn_nmx m
    unfold cn_ent
    rw [List.length_cons, List.length_replicate]
    omega
  · obtain ⟨v, hv, e0⟩ := pm_lv_mem.mp hq
    have hv : (cn_ent m a)[q.1]? = some (some v) := hv
    unfold cn_ent at hv
    cases hq1 : q.1 with
    | zero =>
      rw [hq1] at hv
      have hv : some (Sum.inr (Sum.inr (some (0, a)))) = some v := by simpa using hv
      have hv := Option.some.inj hv
      subst hv
      refine List.mem_cons.mpr (Or.inl (Prod.ext hq1 ?_))
      rw [e0]
      rfl
    | succ j =>
      rw [hq1] at hv
      rw [List.getElem?_cons_succ, List.getElem?_replicate] at hv
      split at hv
      · cases hv
      · cases hv
theorem cf_par : (parseMethodDescriptor "()V").map (fun d => d.parameters.length) = some 0 := by decide +kernel
theorem cn_bl {as : Nat → Nat} {cA : Nat → ClassId} {w : List CE} {a : Nat} : FrameBlind (cn_Pc D A as cA w a) := by
  intro av U g mk q
  obtain ⟨q0, qT, qP, qD, qA, qN⟩ := q
  exact ⟨q0, qT.moved (u := U) (U := U.calling g mk av) (Vm.Alike.refl U.vm), qP, qD, qA, qN.same rfl⟩
set_option maxHeartbeats 4000000 in
theorem cn_step {k : Nat} (hP : cn_P l D A k) {m pc : Nat} {ls st : List PV} {w : List CE} {cc sl : Nat} {w' : List CE} (F : cn_Fr p R s mm args meth c A m) (hr : cn_ex (k + 1) (m, pc, ls, st, w, cc, sl) = some w') (ok : cn_Ok n0 (m, pc, ls, st, w, cc, sl)) (hRt : cn_RtW p l e R s mm args below meth c Q D A as0 n0 m w') : cn_At p l e R s mm args below meth c Q D A as0 n0 (m, pc, ls, st, w, cc, sl) := by
  obtain ⟨hx, hb, hml, hown, hts, hN, hin, hA, hrf, hrl, hrc, hrs⟩ := F
  have F : cn_Fr p R s mm args meth c A m := ⟨hx, hb, hml, hown, hts, hN, hin, hA, hrf, hrl, hrc, hrs⟩
  have go : ∀ σ : CS, σ.1 = m → cn_ex k σ = some w' → cn_Ok n0 σ → cn_At p l e R s mm args below meth c Q D A as0 n0 σ := by
    intro σ hm h1 h2
    obtain ⟨m2, pc2, ls2, st2, w2, c2, sl2⟩ := σ
    have hm : m2 = m := hm
    subst hm
    exact hP p e R s mm args below meth c Q as0 n0 m2 pc2 ls2 st2 w2 c2 sl2 w' F h1 h2 hRt
  unfold cn_ex at hr
  cases hpre : cn_pre (m, pc, ls, st, w, cc, sl) with
  | none => rw [hpre] at hr; cases hr
  | some act =>
  rw [hpre] at hr
  unfold cn_pre at hpre
  dsimp only at hpre
  cases hf : cn_fetch m pc with
  | none => rw [hf] at hpre; cases hpre
  | some q =>
  obtain ⟨ins, n⟩ := q
  rw [hf] at hpre
  dsimp only at hpre
  obtain ⟨hm9, hdg, hn, htk⟩ := cf_dec hf
  have okp : ∀ {v : PV} {st : List PV} {n : Nat}, (∀ w ∈ st, w ≠ none ∧ cn_okv n w) → v ≠ none → cn_okv n v → ∀ w ∈ v :: st, w ≠ none ∧ cn_okv n w := fun h1 h2 h3 w hw => (List.mem_cons.mp hw).elim (fun z => by rw [z]; exact ⟨h2, h3⟩) (h1 w)
  have okt : ∀ {v : PV} {st : List PV} {n : Nat}, (∀ w ∈ v :: st, w ≠ none ∧ cn_okv n w) → ∀ w ∈ st, w ≠ none ∧ cn_okv n w := fun h1 w hw => h1 w (List.mem_cons_of_mem _ hw)
  cases ins
  all_goals try (cases (show (none : CA) = some act from hpre))
  all_goals (dsimp only [cn_il] at hn; subst hn)
  all_goals (unfold cn_op at hpre; dsimp only at hpre)
  case aload_n i =>
    split at hpre
    · rename_i a ha
      cases hpre
      intro as cA H locs la hag hH hL
      exact lv_aload_n hx hb hdg rfl (hL.2.2.2 i.val _ ha (by simp)) (go _ rfl hr ⟨ok.1, okp ok.2.1 (by simp) (ok.1 _ (List.mem_of_getElem? ha)), ok.2.2⟩ as cA H locs la hag hH hL)
    · cases hpre
  case iload_n i =>
    split at hpre
    · rename_i a ha
      cases hpre
      intro as cA H locs la hag hH hL
      exact lv_iload_n hx hb hdg rfl (hL.2.2.2 i.val _ ha (by simp)) (go _ rfl hr ⟨ok.1, okp ok.2.1 (by simp) trivial, ok.2.2⟩ as cA H locs la hag hH hL)
    · cases hpre
  case iconst v => cases hpre; exact fun as cA H locs la hag hH hL => lv_iconst hx hb hdg rfl (go _ rfl hr ⟨ok.1, okp ok.2.1 (by simp) trivial, ok.2.2⟩ as cA H locs la hag hH hL)
  case bipush v => cases hpre; exact fun as cA H locs la hag hH hL => lv_bipush hx hb hdg rfl (go _ rfl hr ⟨ok.1, okp ok.2.1 (by simp) trivial, ok.2.2⟩ as cA H locs la hag hH hL)
  case sipush v => cases hpre; exact fun as cA H locs la hag hH hL => lv_sipush hx hb hdg rfl (go _ rfl hr ⟨ok.1, okp ok.2.1 (by simp) trivial, ok.2.2⟩ as cA H locs la hag hH hL)
  case istore_n i =>
    split at hpre
    · rename_i x st'
      split at hpre
      · rename_i hi
        cases hpre
        intro as cA H locs la hag hH hL
        have hi' : i.val < cn_nmx m := by have := hL.2.2.1; simp only at this hi; omega
        refine lv_istore_n hx hb hdg rfl hL.has hi' rfl fun la' hl' => ?_
        exact go _ rfl hr ⟨pm_s1_ok ok.1 trivial (by trivial) i.val, okt ok.2.1, ok.2.2⟩ as cA H locs la' hag hH (pm_LR.of (by show (pm_s1 ls i.val (vi x)).length = cn_nmx m; rw [pm_s1_len]; exact hL.2.2.1) hl' (fun q hq => pm_s1_lv (Or.inl rfl) hq))
      · cases hpre
    · cases hpre
  case iinc i v =>
    split at hpre
    · rename_i x hxx
      cases hpre
      intro as cA H locs la hag hH hL
      have hi' : i < cn_nmx m := by rw [← hL.2.2.1]; exact (List.getElem?_eq_some_iff.mp hxx).1
      have hmem : (i, pm_mp (fun _ => as) .null (vi x)) ∈ pm_lv (fun _ => as) .null ls := pm_lv_mem.mpr ⟨_, hxx, rfl⟩
      obtain ⟨kk, hk⟩ := List.mem_iff_getElem?.mp hmem
      refine lv_iinc hx hb hdg hL.has hk rfl hi' rfl fun la' hl' => ?_
      exact go _ rfl hr ⟨pm_s1_ok ok.1 trivial (by trivial) i, ok.2.1, ok.2.2⟩ as cA H locs la' hag hH (pm_LR.of (by show (pm_s1 ls i _).length = cn_nmx m; rw [pm_s1_len]; exact hL.2.2.1) hl' (fun q hq => pm_s1_lv (Or.inl rfl) hq))
    · cases hpre
  case dup =>
    split at hpre
    · cases hpre
      exact fun as cA H locs la hag hH hL => lv_dup hx hb hdg rfl (go _ rfl hr ⟨ok.1, okp ok.2.1 (by simp) (ok.2.1 _ List.mem_cons_self).2, ok.2.2⟩ as cA H locs la hag hH hL)
    · cases hpre
  case goto o => cases hpre; exact fun as cA H locs la hag hH hL => lv_goto hx hb hdg (pm_tg_ok htk) (go _ rfl hr ⟨ok.1, ok.2.1, ok.2.2⟩ as cA H locs la hag hH hL)
  case if_icmp cd o =>
    split at hpre
    · rename_i y x st'
      have ht := pm_tg_ok htk
      split at hpre
      · rename_i hc
        cases hpre
        exact fun as cA H locs la hag hH hL => lv_icmp_ge hx hb hdg ht (fun _ => go _ rfl hr ⟨ok.1, okt (okt ok.2.1), ok.2.2⟩ as cA H locs la hag hH hL) (fun z => absurd hc z)
      · rename_i hc
        cases hpre
        exact fun as cA H locs la hag hH hL => lv_icmp_ge hx hb hdg ht (fun z => absurd z hc) (fun _ => go _ rfl hr ⟨ok.1, okt (okt ok.2.1), ok.2.2⟩ as cA H locs la hag hH hL)
    · cases hpre
  case new idx =>
    split at hpre
    · rename_i ci pl hlk
      split at hpre
      · rename_i hc
        obtain ⟨c1, c2, c3⟩ := hc
        cases hpre
        obtain ⟨f1, f2, f3, f4, C, T, hcl, hC⟩ := cf_new hlk
        intro as cA H locs la hag hH hL
        obtain ⟨⟨tys, hK, hty⟩, hPw, hDw, hSw⟩ := hH
        obtain ⟨hin2, ⟨ty, hty2⟩, -⟩ := tf_cls hcl
        rw [← hC] at f1 f2 f3
        refine va_new (fs := (cn_df ci).map (cn_fv as)) hx hb hts hin2 ty hty2 hown (hts _ f1) (hts _ f2) (hts _ f3) hK hPw hDw hSw hA hcl (cf_df hcl hty2) (Nat.le_trans c2 hrc) (Nat.le_trans c3 hrs) hdg (fun q H1 hP1 hD1 hS1 => ?_)
        have e1 : cn_ws as cA w ++ [(q, .inr (ci, (cn_df ci).map (cn_fv as)))] = cn_ws (va_up as w.length q) (va_up cA w.length 0) (w ++ [.inl (ci, cn_df ci)]) := (cn_ws_push c1 (cf_dfk ci w.length)).symm
        rw [e1] at hP1 hD1
        have ok2 : ∀ v ∈ ls, cn_okv (w ++ [(Sum.inl (ci, cn_df ci) : CE)]).length v := fun v hv => cn_okv_mono (n := w.length) (by rw [List.length_append]; omega) (ok.1 v hv)
        have ok3 : ∀ v ∈ st, v ≠ none ∧ cn_okv (w ++ [(Sum.inl (ci, cn_df ci) : CE)]).length v := fun v hv => ⟨(ok.2.1 v hv).1, cn_okv_mono (n := w.length) (by rw [List.length_append]; omega) (ok.2.1 v hv).2⟩
        have g1 := go _ rfl hr ⟨ok2, okp ok3 (by simp) (by show w.length < (w ++ _).length; rw [List.length_append]; simp), Nat.le_trans ok.2.2 (by show w.length ≤ (w ++ _).length; rw [List.length_append]; omega)⟩ (va_up as w.length q) (va_up cA w.length 0) H1 locs la (fun k hk => by rw [up_ag k (Nat.lt_of_lt_of_le hk ok.2.2)]; exact hag k hk) ⟨⟨tys, hK, fun j kd nn is rs hj => ?_⟩, hP1, hD1, hS1⟩ (cn_LR_ag up_ag hL ok.1)
        · have e2 : (vr 0 w.length :: st).map (pm_mp (fun _ => va_up as w.length q) .null) = Value.ref q :: st.map (pm_mp (fun _ => as) .null) := by
            rw [List.map_cons, cn_map_ag up_ag ok.2.1]
            show (if (0 : Nat) = 67 then Value.null else Value.ref (va_up as w.length q w.length)) :: _ = _
            rw [va_up_self]
            rfl
          have g2 : W p l e R s mm args below meth c H1 locs (cc + 1) (sl + pm_nf ci) Q (F0 mm (pc + 3) la ((vr 0 w.length :: st).map (pm_mp (fun _ => va_up as w.length q) .null))) := g1
          rw [e2] at g2
          exact g2
        · have hj : (w ++ [(Sum.inl (ci, cn_df ci) : CE)])[j]? = some (.inr (kd, nn, is, rs)) := hj
          rcases Nat.lt_or_ge j w.length with h | h
          · rw [List.getElem?_append_left h] at hj
            obtain ⟨t0, ht0⟩ := hty j kd nn is rs hj
            exact ⟨t0, by rw [up_ag j h]; exact ht0⟩
          · rw [List.getElem?_append_right h] at hj
            cases hjj : j - w.length with
            | zero => rw [hjj] at hj; simp at hj
            | succ z => rw [hjj] at hj; simp at hj
      · cases hpre
    · cases hpre
  case newarray t =>
    split at hpre
    · rename_i n st'
      split at hpre
      · rename_i hc
        obtain ⟨c1, c2, c3, c4, c5, c6⟩ := hc
        cases hpre
        obtain ⟨f1, f2⟩ := cf_arr t c2
        intro as cA H locs la hag hH hL
        obtain ⟨⟨tys, hK, hty⟩, hPw, hDw, hSw⟩ := hH
        refine va_newa (ty := cn_ty (cn_kd t)) (N' := n.toNatClampNeg) (a0 := (n.toNatClampNeg, if cn_kd t = 1 then .inr (.inl (fun _ => 0)) else .inl (fun _ => 0))) hx hb (hts _ f1) f2 hK hPw hDw hSw hA (fun cA' => cf_arrc t c2 cA' _) c3 rfl (cf_arrb t c2 c4) (Nat.le_trans c5 hrc) (Nat.le_trans c6 hrs) hdg (fun q cq H1 hK1 hP1 hD1 hS1 => ?_)
        have e1 : cn_ws as cA w ++ [(q, .inl (cq, (n.toNatClampNeg, if cn_kd t = 1 then .inr (.inl (fun _ => 0)) else .inl (fun _ => 0))))] = cn_ws (va_up as w.length q) (va_up cA w.length cq) (w ++ [.inr (cn_kd t, n.toNatClampNeg, [], [])]) := by
          rw [cn_ws_push c1 (by rfl)]
          congr 3
          show _ = (Sum.inl (cq, n.toNatClampNeg, if cn_kd t = 1 then Sum.inr (Sum.inl (fun _ => 0)) else if cn_kd t < 3 then .inl (fun j => (List.lookup j ([] : List (Nat × Int32))).getD 0) else _) : va_E)
          rw [if_pos (show cn_kd t < 3 from c2)]
          rfl
        rw [e1] at hP1 hD1
        have ok2 : ∀ v ∈ ls, cn_okv (w ++ [(Sum.inr (cn_kd t, n.toNatClampNeg, [], []) : CE)]).length v := fun v hv => cn_okv_mono (n := w.length) (by rw [List.length_append]; omega) (ok.1 v hv)
        have ok3 : ∀ v ∈ st', v ≠ none ∧ cn_okv (w ++ [(Sum.inr (cn_kd t, n.toNatClampNeg, [], []) : CE)]).length v := fun v hv => ⟨(okt ok.2.1 v hv).1, cn_okv_mono (n := w.length) (by rw [List.length_append]; omega) (okt ok.2.1 v hv).2⟩
        have g1 := go _ rfl hr ⟨ok2, okp ok3 (by simp) (by show w.length < (w ++ _).length; rw [List.length_append]; simp), Nat.le_trans ok.2.2 (by show w.length ≤ (w ++ _).length; rw [List.length_append]; omega)⟩ (va_up as w.length q) (va_up cA w.length cq) H1 locs la (fun k hk => by rw [up_ag k (Nat.lt_of_lt_of_le hk ok.2.2)]; exact hag k hk) ⟨⟨_, hK1, cn_ty_push hty⟩, hP1, hD1, hS1⟩ (cn_LR_ag up_ag hL ok.1)
        have g2 : W p l e R s mm args below meth c H1 locs (cc + 1) (sl + n.toNatClampNeg) Q (F0 mm (pc + 2) la ((vr 0 w.length :: st').map (pm_mp (fun _ => va_up as w.length q) .null))) := g1
        rw [cn_top_ag (okt ok.2.1)] at g2
        exact g2
      · cases hpre
    · cases hpre
  case anewarray idx =>
    split at hpre
    · rename_i ci pl n st' hlk
      split at hpre
      · rename_i hc
        obtain ⟨c1, c2, c3, c4, c5, c6⟩ := hc
        cases hpre
        obtain ⟨f1, f2, f3, f4, C, T, hcl, hC⟩ := cf_new hlk
        intro as cA H locs la hag hH hL
        obtain ⟨⟨tys, hK, hty⟩, hPw, hDw, hSw⟩ := hH
        refine va_newq (C := cn_n ci) (N' := n.toNatClampNeg) hx hb hown (hts _ f1) (hN.2 ci c2) hK hPw hDw hSw hA c3 rfl (by omega) (Nat.le_trans c5 hrc) (Nat.le_trans c6 hrs) hdg (fun q cq H1 hK1 hP1 hD1 hS1 => ?_)
        have e1 : cn_ws as cA w ++ [(q, .inl (cq, n.toNatClampNeg, .inr (.inr (.inr (.inr (fun _ => none))))))] = cn_ws (va_up as w.length q) (va_up cA w.length cq) (w ++ [.inr (10 + ci, n.toNatClampNeg, [], [])]) := by
          rw [cn_ws_push c1 (by rfl)]
          congr 3
          show _ = (Sum.inl (cq, n.toNatClampNeg, if 10 + ci = 1 then Sum.inr (Sum.inl (fun _ => 0)) else if 10 + ci < 3 then _ else Sum.inr (Sum.inr (Sum.inr (Sum.inr (fun j => (List.lookup j ([] : List (Nat × Nat))).map as))))) : va_E)
          rw [if_neg (show ¬ 10 + ci = 1 by omega), if_neg (show ¬ 10 + ci < 3 by omega)]
          rfl
        rw [e1] at hP1 hD1
        rw [show FieldType.object (cn_n ci) = cn_ty (10 + ci) from by rcases c2 with z | z | z | z <;> subst z <;> rfl] at hK1
        have ok2 : ∀ v ∈ ls, cn_okv (w ++ [(Sum.inr (10 + ci, n.toNatClampNeg, [], []) : CE)]).length v := fun v hv => cn_okv_mono (n := w.length) (by rw [List.length_append]; omega) (ok.1 v hv)
        have ok3 : ∀ v ∈ st', v ≠ none ∧ cn_okv (w ++ [(Sum.inr (10 + ci, n.toNatClampNeg, [], []) : CE)]).length v := fun v hv => ⟨(okt ok.2.1 v hv).1, cn_okv_mono (n := w.length) (by rw [List.length_append]; omega) (okt ok.2.1 v hv).2⟩
        have g1 := go _ rfl hr ⟨ok2, okp ok3 (by simp) (by show w.length < (w ++ _).length; rw [List.length_append]; simp), Nat.le_trans ok.2.2 (by show w.length ≤ (w ++ _).length; rw [List.length_append]; omega)⟩ (va_up as w.length q) (va_up cA w.length cq) H1 locs la (fun k hk => by rw [up_ag k (Nat.lt_of_lt_of_le hk ok.2.2)]; exact hag k hk) ⟨⟨_, hK1, cn_ty_push hty⟩, hP1, hD1, hS1⟩ (cn_LR_ag up_ag hL ok.1)
        have g2 : W p l e R s mm args below meth c H1 locs (cc + 1) (sl + n.toNatClampNeg) Q (F0 mm (pc + 3) la ((vr 0 w.length :: st').map (pm_mp (fun _ => va_up as w.length q) .null))) := g1
        rw [cn_top_ag (okt ok.2.1)] at g2
        exact g2
      · cases hpre
    · cases hpre
  case putfield idx =>
    split at hpre
    · rename_i k pl v a st' hlk
      obtain ⟨C, T, hcl, hkN, hfl, hC, hfi, hfr⟩ := cf_fl hm9 hlk
      obtain ⟨hin2, ⟨ty, hty2⟩, hnm⟩ := tf_cls hcl
      have hsame : ∀ x, s.fieldFound? (T k).1 (T k).2.1 (T k).2.2.1 = some x → s.fieldFound? C (T k).2.1 (T k).2.2.1 = some x := fun _ z => by rw [hC] at z; exact z
      split at hpre
      · rename_i ci fs x hwa
        split at hpre
        · rename_i hc
          obtain ⟨c1, c2, c3⟩ := hc
          subst c1
          cases hpre
          intro as cA H locs la hag hH hL
          obtain ⟨hTy, hPw, hDw, hSw⟩ := hH
          obtain ⟨tys, hK, hty⟩ := id hTy
          have hq0 : (cn_ws as cA w)[a]? = some (as a, .inr (ci, fs.map (cn_fv as))) := by rw [cn_ws_get, hwa]; rfl
          refine va_put (ci := ci) (v := .int x) (ty := .int) hx hb hts hin2 ty hty2 hnm hown hK hPw hDw hSw a hq0 hcl k hkN (hts _ hfl) hsame (hfi c3).2 (hfi c3).1 rfl rfl (by rw [List.length_map]; exact c2) hdg (fun H1 locs1 hP1 hD1 hS1 => ?_)
          have e1 : (cn_ws as cA w).set a (as a, .inr (ci, (fs.map (cn_fv as)).set k (.int x))) = cn_ws as cA (w.set a (.inl (ci, fs.set k (.inl x)))) := by
            rw [← cn_ws_set]
            show _ = (cn_ws as cA w).set a (as a, .inr (ci, (fs.set k (.inl x)).map (cn_fv as)))
            rw [List.map_set]
            rfl
          rw [e1] at hP1 hD1
          exact go _ rfl hr ⟨fun v hv => by show cn_okv (w.set a _).length v; rw [List.length_set]; exact ok.1 v hv, fun v hv => by show v ≠ none ∧ cn_okv (w.set a _).length v; rw [List.length_set]; exact okt (okt ok.2.1) v hv, by show n0 ≤ (w.set a _).length; rw [List.length_set]; exact ok.2.2⟩ as cA H1 locs1 la hag ⟨cn_Ty_set hwa hTy, hP1, hD1, hS1⟩ hL
        · cases hpre
      · rename_i ci fs b hwa
        split at hpre
        · rename_i hc
          obtain ⟨c1, c2, c3, c4⟩ := hc
          subst c1
          cases hpre
          intro as cA H locs la hag hH hL
          obtain ⟨hTy, hPw, hDw, hSw⟩ := hH
          obtain ⟨tys, hK, hty⟩ := id hTy
          obtain ⟨r1, ty3, r2, r3, r4⟩ := hfr c3
          have hq0 : (cn_ws as cA w)[a]? = some (as a, .inr (ci, fs.map (cn_fv as))) := by rw [cn_ws_get, hwa]; rfl
          refine va_putF (ci := ci) (v := .ref (as b)) (ty := ty3) hx hb hts hin2 ty hty2 hnm hown hK hPw hDw hSw a hq0 hcl k hkN (hts _ hfl) hsame r1 hin (by rw [hC]; exact r4) r2 (r3 _).1 (r3 _).2 (by rw [List.length_map]; exact c2) hdg (fun H1 locs1 hP1 hD1 hS1 => ?_)
          have e1 : (cn_ws as cA w).set a (as a, .inr (ci, (fs.map (cn_fv as)).set k (.ref (as b)))) = cn_ws as cA (w.set a (.inl (ci, fs.set k (.inr (some (some b)))))) := by
            rw [← cn_ws_set]
            show _ = (cn_ws as cA w).set a (as a, .inr (ci, (fs.set k (.inr (some (some b)))).map (cn_fv as)))
            rw [List.map_set]
            rfl
          rw [e1] at hP1 hD1
          exact go _ rfl hr ⟨fun v hv => by show cn_okv (w.set a _).length v; rw [List.length_set]; exact ok.1 v hv, fun v hv => by show v ≠ none ∧ cn_okv (w.set a _).length v; rw [List.length_set]; exact okt (okt ok.2.1) v hv, by show n0 ≤ (w.set a _).length; rw [List.length_set]; exact ok.2.2⟩ as cA H1 locs1 la hag ⟨cn_Ty_set hwa hTy, hP1, hD1, hS1⟩ hL
        · cases hpre
      · cases hpre
    · cases hpre
  case getfield idx =>
    split at hpre
    · rename_i k pl a st' hlk
      obtain ⟨C, T, hcl, hkN, hfl, hC, hfi, hfr⟩ := cf_fl hm9 hlk
      obtain ⟨hin2, ⟨ty, hty2⟩, hnm⟩ := tf_cls hcl
      split at hpre
      · rename_i ci fs hwa
        split at hpre
        · rename_i b hfk
          split at hpre
          · rename_i hc
            obtain ⟨c1, c2⟩ := hc
            subst c1
            cases hpre
            intro as cA H locs la hag hH hL
            obtain ⟨hTy, hPw, hDw, hSw⟩ := id hH
            obtain ⟨tys, hK, hty⟩ := hTy
            have hq0 : (cn_ws as cA w)[a]? = some (as a, .inr (ci, fs.map (cn_fv as))) := by rw [cn_ws_get, hwa]; rfl
            refine va_get (ci := ci) (v := .ref (as b)) hx hb hts hin2 hown hK hPw a hq0 hcl k hkN (hts _ hfl) (fun _ z => by rw [hC] at z; exact z) (by rw [List.getElem?_map, hfk]; rfl) hdg ?_
            exact go _ rfl hr ⟨ok.1, okp (okt ok.2.1) (by simp) c2, ok.2.2⟩ as cA H locs la hag hH hL
          · cases hpre
        · cases hpre
      · cases hpre
    · cases hpre
  case aastore =>
    split at hpre
    · rename_i v i a st'
      split at hpre
      · rename_i kd n is rs ci fs hwa hwv
        split at hpre
        · rename_i hc
          obtain ⟨c1, c2, c3⟩ := hc
          subst c1
          cases hpre
          intro as cA H locs la hag hH hL
          obtain ⟨hTy, hPw, hDw, hSw⟩ := hH
          obtain ⟨tys, hK, hty⟩ := id hTy
          obtain ⟨t0, ht0⟩ := hty a _ _ _ _ hwa
          have hci : ci < 9 := by
            obtain ⟨r, hr1, -⟩ := hPw v (as v, .inr (ci, fs.map (cn_fv as))) (by rw [cn_ws_get, hwv]; rfl)
            have := (List.getElem?_eq_some_iff.mp hr1).1
            exact this
          have hr1 : vwCl[ci]? = some (vwCl[ci]'hci) := List.getElem?_eq_getElem hci
          have hq0 : (cn_ws as cA w)[a]? = some (as a, .inl (cA a, n, .inr (.inr (.inr (.inr (fun j => (rs.lookup j).map as)))))) := by
            rw [cn_ws_get, hwa]
            show some (as a, (Sum.inl (cA a, n, if 10 + ci = 1 then Sum.inr (Sum.inl (fun _ => 0)) else if 10 + ci < 3 then _ else Sum.inr (Sum.inr (Sum.inr (Sum.inr (fun j => (rs.lookup j).map as))))) : va_E)) = _
            rw [if_neg (show ¬ 10 + ci = 1 by omega), if_neg (show ¬ 10 + ci < 3 by omega)]
          have hqv : (cn_ws as cA w)[v]? = some (as v, .inr (ci, fs.map (cn_fv as))) := by rw [cn_ws_get, hwv]; rfl
          refine va_astq hx hb hK hPw hDw hSw a t0 v ci hq0 (r := vwCl[ci]'hci) (by rw [ht0, cf_tyn hci]) hqv hr1 (pm_inb_in c2) hdg (fun H1 locs1 hP1 hD1 hS1 => ?_)
          have e1 : (cn_ws as cA w).set a (as a, .inl (cA a, n, .inr (.inr (.inr (.inr (va_up (fun j => (rs.lookup j).map as) i.toNatClampNeg (some (as v)))))))) = cn_ws as cA (w.set a (.inr (10 + ci, n, is, (i.toNatClampNeg, v) :: rs))) := by
            rw [← cn_ws_set]
            have e2 : cn_ce as (cA a) (.inr (10 + ci, n, is, (i.toNatClampNeg, v) :: rs)) = .inl (cA a, n, .inr (.inr (.inr (.inr (fun j => (((i.toNatClampNeg, v) :: rs).lookup j).map as))))) := by
              show (Sum.inl (cA a, n, if 10 + ci = 1 then Sum.inr (Sum.inl (fun _ => 0)) else if 10 + ci < 3 then _ else Sum.inr (Sum.inr (Sum.inr (Sum.inr (fun j => (((i.toNatClampNeg, v) :: rs).lookup j).map as))))) : va_E) = _
              rw [if_neg (show ¬ 10 + ci = 1 by omega), if_neg (show ¬ 10 + ci < 3 by omega)]
            rw [e2]
            congr 9
            funext j
            rw [List.lookup_cons]
            unfold va_up
            by_cases hj : j = i.toNatClampNeg
            · rw [if_pos hj, beq_iff_eq.mpr hj]; rfl
            · rw [if_neg hj, beq_eq_false_iff_ne.mpr hj]
          rw [e1] at hP1 hD1
          exact go _ rfl hr ⟨fun v hv => by show cn_okv (w.set a _).length v; rw [List.length_set]; exact ok.1 v hv, fun v hv => by show v ≠ none ∧ cn_okv (w.set a _).length v; rw [List.length_set]; exact okt (okt (okt ok.2.1)) v hv, by show n0 ≤ (w.set a _).length; rw [List.length_set]; exact ok.2.2⟩ as cA H1 locs1 la hag ⟨cn_Ty_setA hwa hTy, hP1, hD1, hS1⟩ hL
        · cases hpre
      · cases hpre
    · cases hpre
  case iastore =>
    split at hpre
    · rename_i x i a st'
      split at hpre
      · rename_i n is rs hwa
        split at hpre
        · rename_i hc
          cases hpre
          intro as cA H locs la hag hH hL
          obtain ⟨hTy, hPw, hDw, hSw⟩ := hH
          obtain ⟨tys, hK, hty⟩ := id hTy
          obtain ⟨t0, ht0⟩ := hty a _ _ _ _ hwa
          have hq0 : (cn_ws as cA w)[a]? = some (as a, .inl (cA a, n, .inl (fun j => (is.lookup j).getD 0))) := by
            rw [cn_ws_get, hwa]
            rfl
          refine va_iast hx hb hK hPw hDw hSw a t0 hq0 ht0 (pm_inb_in hc) hdg (fun H1 locs1 hP1 hD1 hS1 => ?_)
          have e1 : (cn_ws as cA w).set a (as a, .inl (cA a, n, .inl (upd (fun j => (is.lookup j).getD 0) i.toNatClampNeg x))) = cn_ws as cA (w.set a (.inr (0, n, (i.toNatClampNeg, x) :: is, rs))) := by
            rw [← cn_ws_set]
            show _ = (cn_ws as cA w).set a (as a, .inl (cA a, n, .inl (fun j => (((i.toNatClampNeg, x) :: is).lookup j).getD 0)))
            congr 6
            funext j
            rw [List.lookup_cons]
            unfold upd
            by_cases hj : j = i.toNatClampNeg
            · rw [if_pos hj, beq_iff_eq.mpr hj]; rfl
            · rw [if_neg hj, beq_eq_false_iff_ne.mpr hj]
          rw [e1] at hP1 hD1
          exact go _ rfl hr ⟨fun v hv => by show cn_okv (w.set a _).length v; rw [List.length_set]; exact ok.1 v hv, fun v hv => by show v ≠ none ∧ cn_okv (w.set a _).length v; rw [List.length_set]; exact okt (okt (okt ok.2.1)) v hv, by show n0 ≤ (w.set a _).length; rw [List.length_set]; exact ok.2.2⟩ as cA H1 locs1 la hag ⟨cn_Ty_setA hwa hTy, hP1, hD1, hS1⟩ hL
        · cases hpre
      · cases hpre
    · cases hpre
  case invokespecial idx =>
    split at hpre
    · rename_i ci nst a st' hlk
      split at hpre
      · rename_i h99
        subst h99
        split at hpre
        · rename_i hcat
          cases hpre
          obtain ⟨f1, f2, f3⟩ := cf_obj hlk
          obtain ⟨r1, r2⟩ := (cf_m hm9).2.2.1
          intro as cA H locs la hag hH hL
          have hcs : ((st'.map (pm_mp (fun _ => as) .null)).map fun v => v.category).sum ≤ 8 := by rw [pm_cats_mp (Or.inl rfl)]; exact hcat
          refine W.objInit hx hb hown (hts _ f1) (hts _ f2) (hts _ f3) (g := F0 mm pc la (Value.ref (as a) :: st'.map (pm_mp (fun _ => as) .null))) rfl (by rw [hml]; exact hL.1) (a := as a) (rest := st'.map (pm_mp (fun _ => as) .null)) rfl hdg (Nat.le_trans r1 hrf) (Nat.le_trans (Nat.add_le_add_right (lv_room hcs) 12) (by omega)) ?_
          exact go _ rfl hr ⟨ok.1, okt ok.2.1, ok.2.2⟩ as cA H locs la hag hH hL
        · cases hpre
      · rename_i h99
        split at hpre
        · rename_i hc
          obtain ⟨c1, c2, c3, c4, c5⟩ := hc
          cases hpre
          obtain ⟨nst, pl⟩ := nst
          obtain ⟨-, f2, f3, f4⟩ := cf_cl hlk h99
          obtain ⟨-, -, -, i1, i2, i3⟩ := cf_m c1
          have hr : (match cn_ex k (ci, 0, cn_ent ci a, [], w, 0, 0) with
            | none => none
            | some w2 => if w.length ≤ w2.length then cn_ex k (m, pc + 3, ls, st', w2, cc + (cn_cp ci).1, sl + (cn_cp ci).2) else none) = some w' := hr
          cases hcx : cn_ex k (ci, 0, cn_ent ci a, [], w, 0, 0) with
          | none => rw [hcx] at hr; cases hr
          | some w2 =>
          rw [hcx] at hr
          dsimp only at hr
          split at hr
          · rename_i hlen
            intro as cA H locs la hag hH hL
            obtain ⟨hTy, hPw, hDw, hSw⟩ := hH
            have hM := cn_met (as := as) (cA := cA) hP hcx c1 c5
            have hcs : ((st'.map (pm_mp (fun _ => as) .null)).map fun v => v.category).sum ≤ 8 := by rw [pm_cats_mp (Or.inl rfl)]; exact c4
            have hGI : GoodIn pm_tb (cn_ws0 ci) := pm_gw (fun w hw => (List.mem_cons.mp hw).elim (fun z => by rw [z]; exact cf_code c1) (fun z => z))
            have hroom : (cn_rm ci).frames + 1 ≤ R.frames ∧ 8 + (cn_nmx ci + 11) + (cn_rm ci).locals ≤ R.locals := ⟨Nat.le_trans f3 hrf, Nat.le_trans (by show 8 + (cn_nmx ci + 11) + (cn_ndm ci).2 ≤ (cn_ndm m).2; omega) hrl⟩
            have hpS : PreS s H (cn_Pc D A as cA w a) [.ref (as a)] := ⟨cn_bl, fun U hU hW => ⟨rfl, hTy.moved hW.alike, by rw [hU]; exact hPw, hDw, fun q hq => hA q (Nat.le_trans hSw.1 (by rw [hU] at hq; exact hq)), hN.warm hW⟩⟩
            have hrun : va_Run p l e R s mm args below meth c H locs cc sl (cn_cp ci).1 (cn_cp ci).2 (F0 mm pc la (Value.ref (as a) :: st'.map (pm_mp (fun _ => as) .null))) (st'.map (pm_mp (fun _ => as) .null)) (cn_Qc D A as w.length w2 [Value.ref (as a)].toArray) A := by
              rcases f2 with z | ⟨z, hlm⟩
              · subst z
                exact va_runIN (As := []) (b := as a) (own := cn_n m) (nL := cn_nmx m) (index := idx) (n := 0) (Ts := pm_tb) (host := "IllLight") ⟨hx, hb, hml, hown, hts⟩ hM ⟨va_cnB 0 hts hGI rfl rfl rfl (hN.1 m idx ci pl hlk) (hts _ i1) ⟨i3.1, i3.2, cf_par⟩ hroom, rfl, hts _ i2⟩ hpS rfl rfl hL.1 rfl (lv_room hcs) hdg ⟨Nat.le_trans c2 hrc, Nat.le_trans c3 hrs⟩
              · exact va_runI (As := []) (b := as a) (own := cn_n m) (nL := cn_nmx m) (index := idx) (n := 0) (Ts := pm_tb) ⟨hx, hb, hml, hown, hts⟩ hM (cwI 0 hts hGI rfl rfl rfl (hts _ i1) (hts _ hlm) (hts _ i2) rfl ⟨i3.1, i3.2, cf_par⟩ hroom) hpS rfl rfl hL.1 rfl (lv_room hcs) hdg ⟨Nat.le_trans c2 hrc, Nat.le_trans c3 hrs⟩
            show W p l e R s mm args below meth c H locs cc sl Q (F0 mm pc la (Value.ref (as a) :: st'.map (pm_mp (fun _ => as) .null)))
            intro T hT X
            obtain ⟨v, st₀, t, T', L, h0, X', hLl, e1, e3, ⟨hv, ⟨as', cA', hag', hT1, hP1, hD1⟩, hF1⟩, stp⟩ := hrun T hT X
            obtain ⟨hz, hk⟩ := hF1
            rw [h0] at hz hk
            have hv : v = none := by cases hv; rfl
            subst hv
            have S1 : va_S A s.heap T'.heap (locs ++ L) := ⟨Nat.le_trans hSw.1 (by rw [e1]; exact hz), fun q h1 h2 => by rw [e1, hk q (Nat.lt_of_lt_of_le h1 hSw.1) h2]; exact hSw.2.1 q h1 h2, fun q hq => by
                rcases List.mem_append.mp hq with h | h
                · exact hSw.2.2 q h
                · exact hLl q h⟩
            have hvm : s.vm.Alike t.vm := by rw [← e3]; exact X'.warmed.alike
            have K := go (m, pc + 3, ls, st', w2, cc + (cn_cp ci).1, sl + (cn_cp ci).2) rfl hr ⟨fun v hv => cn_okv_mono hlen (ok.1 v hv), fun v hv => ⟨(okt ok.2.1 v hv).1, cn_okv_mono hlen (okt ok.2.1 v hv).2⟩, Nat.le_trans ok.2.2 hlen⟩ as' cA' T'.heap (locs ++ L) la (fun k hk => by rw [hag' k (Nat.lt_of_lt_of_le hk ok.2.2)]; exact hag k hk) ⟨hT1.moved hvm.symm, by rw [e1]; exact hP1, hD1, S1⟩ (cn_LR_ag hag' hL ok.1)
            obtain ⟨t2, a1, b1⟩ := K T' rfl X'
            refine ⟨t2, stp t2 ?_, b1⟩
            have a1 : Steps p.tables e below (T'.setTop (F0 mm (pc + 3) la (st'.map (pm_mp (fun _ => as') .null)))) t2 := a1
            rw [cn_map_ag hag' (okt ok.2.1)] at a1
            exact a1
          · cases hr
        · cases hpre
    · cases hpre
  case return_ =>
    split at hpre
    · split at hpre
      · rename_i hc
        cases hpre
        have hr : some w = some w' := hr
        have hr := Option.some.inj hr
        subst hr
        exact fun as cA H locs la hag hH hL => hRt as cA H locs la pc cc sl hag hH hc.1 hc.2 hdg
      · cases hpre
    · cases hpre
end CNT
theorem cn_sound (l : Launch) (D : va_G) (A : Nat → Prop) : ∀ n, cn_P l D A n
  | 0 => by
    intro p e R s mm args below meth c Q as0 n0 m pc ls st w cc sl w' F hr
    cases hr
  | k + 1 => by
    intro p e R s mm args below meth c Q as0 n0 m pc ls st w cc sl w' F hr ok hRt
    exact cn_step (cn_sound l D A k) F hr ok hRt
