section PMD
variable {p : Program} {l : Launch} {e : Env} {R : Room} {s : State} {mm : MethodId} {args : Array Value} {below : List Frame} {meth : Method} {c : Code} {cells slots : Nat} {Q : State → Prop}
variable {D : va_G} {cA : Nat → Nat → ClassId} {ad : Nat → Nat → Nat} {fm : Value} {A : Nat → Prop} {ex : Nat → Nat → Nat → Int32}
variable {m pc : Nat} {ls st : List PV} {h : PH} {r : PR} {k : Nat}
theorem pm_cats_mp (hfm : fm = .null ∨ ∃ a, fm = .ref a) (st : List PV) : ((st.map (pm_mp ad fm)).map fun v => v.category).sum = pm_cats st := by
  unfold pm_cats
  rw [List.map_map]
  congr 1
  refine List.map_congr_left fun v _ => ?_
  exact pm_cat_mp hfm v
theorem pm_gi {m' : Nat} (hc : Cond.code (pm_y m') (pm_by m') (pm_mxl m') (pm_rt0 m') ∈ pm_tb) : ∀ w ∈ pm_ws0 m', w ∈ pm_tb := fun w hw => (List.mem_cons.mp hw).elim (fun z => by rw [z]; exact hc) (fun z => z)
theorem pm_gw {ws : List Cond} (hc : ∀ w ∈ ws, w ∈ pm_tb) : GoodIn pm_tb ws := fun w hw => ⟨hc w hw, good_of_word (tf_good w (hc w hw))⟩
theorem pm_bl {as : List PV} {h : PH} : FrameBlind (pm_Pc D cA ad fm A ex as h) := by
  intro a U g mk q
  obtain ⟨q0, qP, qD, qK, qX⟩ := q
  exact ⟨q0, qP, qD, va_K.moved (u := U) (U := U.calling g mk a) (Vm.Alike.refl U.vm) qK, qX.blind rfl rfl⟩
/-- behind a call -/
theorem pm_ret_at (hP : pm_P l D cA ad fm A ex k) (F : pm_Fr p R s mm args c cells slots D cA ad fm A ex m) {a : PR} {rest : List PV} {nx : Nat} (hnx : nx = pc + 3) (e2 : pm_ex k (m, nx, ls, a.1.toList ++ rest, a.2) = some r) (hne : ∀ v, a.1 = some v → v ≠ none) (okl : ∀ v ∈ ls, pm_okv v) (okr : ∀ v ∈ rest, v ≠ none ∧ pm_okv v)
    (hRt : pm_RtW p l e R s mm args below meth c cells slots Q D cA ad fm A ex m r) {H : Heap} {locs : List Loc} {la : Array Slot} {stv : List Value} {av : Array Value} (hH : pm_HR s D cA ad A ex h H locs) (hL : pm_LR ad fm (pm_mxl m) ls la)
    (hrun : va_Run p l e R s mm args below meth c H locs cells slots 0 0 (F0 mm pc la stv) (rest.map (pm_mp ad fm)) (pm_Qc D cA ad fm A ex a av) A) :
    W p l e R s mm args below meth c H locs cells slots Q (F0 mm pc la stv) := by
  intro T hT X
  obtain ⟨v, st₀, t, T', L, h0, X', hLl, e1, e3, ⟨hv, hP1, hF1, hE1, hok⟩, st⟩ := hrun T hT X
  obtain ⟨hz, hk⟩ := hF1
  rw [h0] at hz hk
  obtain ⟨-, hD, hS, -⟩ := hH
  have hv : v = a.1.map (pm_mp ad fm) := by cases hv; rfl
  have okst : ∀ w ∈ a.1.toList ++ rest, w ≠ none ∧ pm_okv w := by
    intro w hw
    rcases List.mem_append.mp hw with q | q
    · have q : a.1 = some w := by
        cases ea : a.1 with
        | none => rw [ea] at q; cases q
        | some z =>
          rw [ea] at q
          have q : w = z := by simpa using q
          rw [q]
      exact ⟨hne w q, hok w q⟩
    · exact okr w q
  have S1 : va_S A s.heap T'.heap (locs ++ L) := ⟨Nat.le_trans hS.1 (by rw [e1]; exact hz), fun q h1 h2 => by rw [e1, hk q (Nat.lt_of_lt_of_le h1 hS.1) h2]; exact hS.2.1 q h1 h2, fun q hq => by
      rcases List.mem_append.mp hq with h | h
      · exact hS.2.2 q h
      · exact hLl q h⟩
  have K := hP p e R s mm args below meth c cells slots Q m nx ls (a.1.toList ++ rest) a.2 r F e2 ⟨okl, okst⟩ hRt T'.heap (locs ++ L) la ⟨by rw [e1]; exact hP1, pm_ws_dom hD, S1, hE1⟩ hL
  obtain ⟨t2, a1, b1⟩ := K T' rfl X'
  refine ⟨t2, st t2 ?_, b1⟩
  have e5 : v.toList ++ rest.map (pm_mp ad fm) = (a.1.toList ++ rest).map (pm_mp ad fm) := by
    rw [hv, List.map_append]
    cases a.1 <;> rfl
  have e6 : ({ F0 mm pc la stv with pc := (F0 mm pc la stv).pc + 3, stack := v.toList ++ rest.map (pm_mp ad fm) } : JFrame) = F0 mm nx la ((a.1.toList ++ rest).map (pm_mp ad fm)) := by
    rw [e5, hnx]
  rw [e6]
  exact a1
theorem pm_call_at (hP : pm_P l D cA ad fm A ex k) (F : pm_Fr p R s mm args c cells slots D cA ad fm A ex m) {v : Bool} {idx m' : Nat} (hlk : pm_lk (pm_nth pm_L (pm_own m) []) idx = some m') (hm1 : m' < 1000)
    (hdg : decode (pm_by m) pc = .ok ((match v with | true => .invokevirtual idx | false => .invokestatic idx), 3))
    (hop : pm_call False (fun σ => pm_ex k σ = some r) (fun σ q => pm_cl (pm_ex k) (pm_ex k) σ q = some r) v m' m (pc + 3) ls st h) (ok : pm_Ok (m, pc, ls, st, h)) (hRt : pm_RtW p l e R s mm args below meth c cells slots Q D cA ad fm A ex m r) :
    pm_At p l e R s mm args below meth c cells slots Q D cA ad fm A ex (m, pc, ls, st, h) := by
  obtain ⟨hx, hb, hml, hown, hts, hK, hX, hrf, hrl, hrc, hrs⟩ := F
  have F : pm_Fr p R s mm args c cells slots D cA ad fm A ex m := ⟨hx, hb, hml, hown, hts, hK, hX, hrf, hrl, hrc, hrs⟩
  obtain ⟨t1, t2, t3, t4, t5, t6, t7, t8⟩ := tf_lnk hlk hm1
  unfold pm_call at hop
  dsimp only at hop
  split at hop
  · rename_i hc
    obtain ⟨c1, c2, c3, c4, c5, c6⟩ := hc
    generalize has : (st.take (pm_na m')).reverse = as at hop c5
    generalize hre : st.drop (pm_na m') = rest at hop c2
    have hst : st = as.reverse ++ rest := by rw [← has, ← hre, List.reverse_reverse, List.take_append_drop]
    have hln : as.length = pm_na m' := by rw [← has, List.length_reverse, List.length_take]; omega
    have oka : ∀ w ∈ as, w ≠ none ∧ pm_okv w := fun w hw => ok.2 w (by show w ∈ st; rw [hst]; exact List.mem_append_left _ (List.mem_reverse.mpr hw))
    have okr : ∀ w ∈ rest, w ≠ none ∧ pm_okv w := fun w hw => ok.2 w (by show w ∈ st; rw [hst]; exact List.mem_append_right _ hw)
    have hstm : st.map (pm_mp ad fm) = (as.map (pm_mp ad fm)).reverse ++ rest.map (pm_mp ad fm) := by rw [hst, List.map_append, List.map_reverse]
    have hroom : (pm_rm m').frames + 1 ≤ R.frames ∧ 8 + (pm_mxl m' + 11) + (pm_rm m').locals ≤ R.locals := ⟨Nat.le_trans c3 hrf, Nat.le_trans (by show 8 + (pm_mxl m' + 11) + pm_lo m' ≤ pm_lo m; omega) hrl⟩
    have hrest : ((rest.map (pm_mp ad fm)).map fun v => v.category).sum ≤ 8 := by rw [pm_cats_mp hX.1]; exact c2
    intro H locs la hH hL
    obtain ⟨hPw, hDw, hSw, hEw⟩ := hH
    have hpre : ∀ U : State, U.heap = H → s.WarmedH U.vm → pm_Pc D cA ad fm A ex as h (as.map (pm_mp ad fm)).toArray U := fun U hU hW => ⟨rfl, by rw [hU]; exact hPw, hDw, va_K.moved hW.alike hK, hX.go hSw hU hW⟩
    show W p l e R s mm args below meth c H locs cells slots Q (F0 mm pc la (st.map (pm_mp ad fm)))
    split at hop
    · obtain ⟨a, e1, hne, e2, -⟩ := pm_cl_some hop
      have hM := pm_met hP e1 t3 t4 oka c5 hEw
      have hcl0 : pm_cls m' = 0 := by
        by_cases z : pm_cls m' = 0
        · exact z
        · exact absurd c6 (by simp [z])
      have hGI : GoodIn pm_tb (va_wsS (pm_on m) idx (pm_y m') (pm_ws0 m')) := pm_gw (by
        intro w hw
        unfold va_wsS at hw
        rcases List.mem_append.mp hw with q | q
        · simp only [List.mem_cons, List.not_mem_nil, or_false] at q
          rcases q with q | q | q
          · rw [q]; exact t1
          · rw [q]; exact (t7 hcl0).1
          · rw [q]; exact t5
        · exact pm_gi t2 w q)
      refine pm_ret_at hP F rfl e2 hne ok.1 okr hRt ⟨hPw, hDw, hSw, hEw⟩ hL (va_runS (As := as.map (pm_mp ad fm)) (rest := rest.map (pm_mp ad fm)) (own := pm_on m) (nL := pm_mxl m) (index := idx) (n := pm_na m') (Ts := pm_tb) ⟨hx, hb, hml, hown, hts⟩ hM (va_cwS (pm_na m') hts hGI rfl rfl rfl ⟨t6.1, t6.2, (t7 hcl0).2⟩ hroom) ⟨pm_bl, hpre⟩ rfl (by rw [List.length_map]; exact hln) hL.1 hstm (lv_room hrest) hdg ⟨hrc, hrs⟩)
    · rename_i t i as'
      split at hop
      · rename_i htc
        obtain ⟨a, e1, hne, e2, -⟩ := pm_cl_some hop
        have hM := pm_met hP e1 t3 t4 oka c5 hEw
        have hcn : pm_cls m' ≠ 0 := by omega
        obtain ⟨u1, u2, u3, u4, u5⟩ := t8 hcn
        have hoq : pm_okq t i := (oka _ List.mem_cons_self).2
        have hrecv : ∃ cellB : Cell, H[ad t i]? = some cellB ∧ cellB.vm.isStatics = false ∧ s.vm.findClass (pm_cn m') = some cellB.cls := by
          rcases u1 with u1 | u1
          · have ht9 : t < 9 := by omega
            have hob : (t, i) ∈ pm_obs := pm_ob_of hoq (by omega)
            obtain ⟨q0, -, hq0⟩ := pm_ws_at (ad := ad) (cA := cA) (h := h) hob
            rw [pm_cell_o ht9] at hq0
            have hvl : t < vwCl.length := ht9
            have hq := List.getElem?_eq_getElem hvl
            have := va_recv hK hPw hq hq0
            have e9 : pm_cn m' = (vwCl[t]).1 := by
              unfold pm_cn
              rw [if_neg (by omega), show pm_cls m' - 1 = t by omega, hq]
            rw [e9]
            exact this
          · have ht : t = 60 := by omega
            subst ht
            have hi21 : i < 21 := by
              rcases hoq with q | ⟨-, q⟩ | ⟨q, -, -⟩ | q
              · have := tf_tag _ q; simp only at this; omega
              · exact q
              · omega
              · omega
            obtain ⟨cell, z1, z2, z3, -⟩ := ((hX.2.2.2.2.2.2.2.1 i hi21).1.kept hSw.2.1)
            refine ⟨cell, z1, z2, ?_⟩
            unfold pm_cn
            rw [if_pos u1]
            exact z3
        have h67 : t ≠ 67 := by omega
        have hGI : GoodIn pm_tb (wsV (pm_on m) idx (pm_cn m') (pm_y m') (pm_ws0 m')) := pm_gw (by
          intro w hw
          unfold wsV at hw
          rcases List.mem_append.mp hw with q | q
          · simp only [List.mem_cons, List.not_mem_nil, or_false] at q
            rcases q with q | q | q | q
            · rw [q]; exact t1
            · rw [q]; exact u2
            · rw [q]; exact u3
            · rw [q, ← u4]; exact t5
          · exact pm_gi t2 w q)
        have hmc : (some (Sum.inr (Sum.inr (some (t, i)))) :: as').map (pm_mp ad fm) = Value.ref (ad t i) :: as'.map (pm_mp ad fm) := by rw [List.map_cons, pm_mp_ref h67]
        rw [hmc] at hpre
        have hst2 : st.map (pm_mp ad fm) = (as'.map (pm_mp ad fm)).reverse ++ Value.ref (ad t i) :: rest.map (pm_mp ad fm) := by
          rw [hstm, hmc, List.reverse_cons, List.append_assoc]
          rfl
        have hl2 : as'.length + 1 = pm_na m' := hln
        refine pm_ret_at hP F rfl e2 hne ok.1 okr hRt ⟨hPw, hDw, hSw, hEw⟩ hL (va_runV (As := as'.map (pm_mp ad fm)) (b := ad t i) (rest := rest.map (pm_mp ad fm)) (own := pm_on m) (C := pm_cn m') (nL := pm_mxl m) (index := idx) (n := as'.length) (Ts := pm_tb) ⟨hx, hb, hml, hown, hts⟩ hM (cwV as'.length hts hGI rfl rfl rfl ⟨u4, t6.1, t6.2, ?_⟩ hroom) ⟨pm_bl, hrecv, hpre⟩ rfl (by rw [List.length_map]) hL.1 hst2 (lv_room hrest) hdg ⟨hrc, hrs⟩)
        cases hd : parseMethodDescriptor (pm_y m').desc with
        | none => rw [hd] at u5; cases u5
        | some d =>
          rw [hd] at u5
          have u5 : d.parameters.length + 1 = pm_na m' := Option.some.inj u5
          show some d.parameters.length = some as'.length
          rw [show d.parameters.length = as'.length by omega]
      · exact hop.elim
    · exact hop.elim
  · exact hop.elim
theorem pm_inv_at (hP : pm_P l D cA ad fm A ex k) (F : pm_Fr p R s mm args c cells slots D cA ad fm A ex m) {v : Bool} {idx : Nat}
    (hdg : decode (pm_by m) pc = .ok ((match v with | true => .invokevirtual idx | false => .invokestatic idx), 3))
    (hop : pm_inv False (fun σ => pm_ex k σ = some r) (fun σ q => pm_cl (pm_ex k) (pm_ex k) σ q = some r) v idx m (pc + 3) ls st h) (ok : pm_Ok (m, pc, ls, st, h)) (hRt : pm_RtW p l e R s mm args below meth c cells slots Q D cA ad fm A ex m r) :
    pm_At p l e R s mm args below meth c cells slots Q D cA ad fm A ex (m, pc, ls, st, h) := by
  unfold pm_inv at hop
  split at hop
  · exact hop.elim
  · rename_i m' hlk
    split at hop
    · rename_i hm1
      subst hm1
      obtain ⟨f1, f2, f3, f4⟩ := tf_acp hlk
      split at hop
      · rename_i n dp t' i' sp t i rest
        split at hop
        · rename_i hc
          obtain ⟨c1, c2, c3, c4, c5, c6, c7, c8, c9⟩ := hc
          obtain ⟨hx, hb, hml, hown, hts, hK, hX, hrf, hrl, hrc, hrs⟩ := F
          have F : pm_Fr p R s mm args c cells slots D cA ad fm A ex m := ⟨hx, hb, hml, hown, hts, hK, hX, hrf, hrl, hrc, hrs⟩
          obtain ⟨a1, a2, a3⟩ := pm_isW_of c1
          obtain ⟨b1, b2, b3⟩ := pm_isW_of c2
          have o1 : (t', i') ∈ pm_obs := pm_ob_of (ok_hd (ok_tl (ok_tl ok.2))) (by omega)
          have o2 : (t, i) ∈ pm_obs := pm_ob_of (ok_hd (ok_tl (ok_tl (ok_tl (ok_tl ok.2))))) (by omega)
          intro H locs la hH hL
          obtain ⟨hPw, hDw, hSw, hEw⟩ := hH
          obtain ⟨q0, -, hq0⟩ := pm_ws_at (ad := ad) (cA := cA) (h := h) o2
          obtain ⟨q1, hq1o, hq1⟩ := pm_ws_at (ad := ad) (cA := cA) (h := h) o1
          rw [pm_cell_I (by omega) a3 (by decide) (by decide)] at hq0
          rw [pm_cell_I (by omega) b3 (by decide) (by decide)] at hq1
          obtain ⟨t0, ht0⟩ := pm_tys_at (cA := cA) o2 a1
          obtain ⟨t1, ht1⟩ := pm_tys_at (cA := cA) o1 b1
          rw [(pm_aty_of a3).1 rfl] at ht0
          rw [(pm_aty_of b3).1 rfl] at ht1
          rw [pm_len_in a2] at c6
          rw [pm_len_in b2] at c7
          show W p l e R s mm args below meth c H locs cells slots Q (F0 mm pc la (.int n :: .int dp :: pm_mp ad fm (vr t' i') :: .int sp :: pm_mp ad fm (vr t i) :: rest.map (pm_mp ad fm)))
          rw [pm_mp_ref (t := t') (by omega), pm_mp_ref (t := t) (by omega)]
          refine va_copyi hx hb (by rw [hml]; exact hL.1.symm) hown (hts _ f1) (hts _ f2) (hts _ f3) (hts _ f4) hK hPw hDw hSw q0 q1 t0 t1 hq0 hq1 ht0 ht1 rfl c3 c4 c5 c6 c7 (fun _ _ => rfl) (Nat.le_trans c8 hrf) (by rw [pm_cats_mp hX.1]; exact Nat.le_trans c9 hrl) hdg (fun H1 locs1 hP1 hD1 hS1 => ?_)
          have ecell : pm_cell ad cA (pm_cp h t i sp.toNatClampNeg t' i' dp.toNatClampNeg n.toNatClampNeg) t' i' = .inl (cA t' i', (pm_nth pm_at (t' - 10) (9, 0)).2, .inl (va_cpy (h.1 t i) (h.1 t' i') sp.toNatClampNeg dp.toNatClampNeg n.toNatClampNeg)) := by
            rw [pm_cell_I (by omega) b3 (by decide) (by decide)]
            have e0 : (pm_cp h t i sp.toNatClampNeg t' i' dp.toNatClampNeg n.toNatClampNeg).1 t' i' = va_cpy (h.1 t i) (h.1 t' i') sp.toNatClampNeg dp.toNatClampNeg n.toNatClampNeg := by
              funext j
              rw [pm_cp_at]
              unfold va_cpy
              simp
            rw [e0]
          rw [pm_ws_set hq1o pm_cell_cp ecell] at hP1 hD1
          exact hP p e R s mm args below meth c cells slots Q m (pc + 3) ls rest _ r F hop ⟨ok.1, ok_tl (ok_tl (ok_tl (ok_tl (ok_tl ok.2))))⟩ hRt H1 locs1 la ⟨hP1, hD1, hS1, pm_ex_cp hEw (by omega)⟩ hL
        · exact hop.elim
      · exact hop.elim
    · rename_i hm0
      split at hop
      · rename_i hm2
        obtain ⟨hx, hb, hml, hown, hts, hK, hX, hrf, hrl, hrc, hrs⟩ := F
        have F : pm_Fr p R s mm args c cells slots D cA ad fm A ex m := ⟨hx, hb, hml, hown, hts, hK, hX, hrf, hrl, hrc, hrs⟩
        obtain ⟨⟨w1, w2, w3⟩, w4⟩ := tf_mws
        split at hop
        · rename_i x rest hlk2
          split at hop
          · rename_i hc
            intro H locs la hH hL
            exact va_mabs hx hb (by rw [hml]; exact hL.1.symm) hown (hts _ (tf_mth hlk (Or.inl rfl))) (hts _ w1) (hts _ w4) (hts _ tf_mabs) (Nat.le_trans hc.1 hrf) (by rw [pm_cats_mp hX.1]; exact Nat.le_trans hc.2 hrl) hrc hrs hdg (hP p e R s mm args below meth c cells slots Q m (pc + 3) ls _ _ r F hop ⟨ok.1, ok_push (ok_tl ok.2) (by simp) trivial⟩ hRt H locs la hH hL)
          · exact hop.elim
        · split at hop
          · rename_i hc
            intro H locs la hH hL
            exact va_mmax hx hb (by rw [hml]; exact hL.1.symm) hown (hts _ (tf_mth hlk (Or.inr (Or.inl rfl)))) (hts _ w2) (hts _ w4) (hts _ tf_mmax) (Nat.le_trans hc.1 hrf) (by rw [pm_cats_mp hX.1]; exact Nat.le_trans hc.2 hrl) hrc hrs hdg (hP p e R s mm args below meth c cells slots Q m (pc + 3) ls _ _ r F hop ⟨ok.1, ok_push (ok_tl (ok_tl ok.2)) (by simp) trivial⟩ hRt H locs la hH hL)
          · exact hop.elim
        · split at hop
          · rename_i hc
            intro H locs la hH hL
            exact va_mmin hx hb (by rw [hml]; exact hL.1.symm) hown (hts _ (tf_mth hlk (Or.inr (Or.inr rfl)))) (hts _ w3) (hts _ w4) (hts _ tf_mmin) (Nat.le_trans hc.1 hrf) (by rw [pm_cats_mp hX.1]; exact Nat.le_trans hc.2 hrl) hrc hrs hdg (hP p e R s mm args below meth c cells slots Q m (pc + 3) ls _ _ r F hop ⟨ok.1, ok_push (ok_tl (ok_tl ok.2)) (by simp) trivial⟩ hRt H locs la hH hL)
          · exact hop.elim
        · exact hop.elim
      · exact pm_call_at hP F hlk (by omega) hdg hop ok hRt
/-- SOUND: every run of the simple machine is the machine's -/
theorem pm_sound (l : Launch) (D : va_G) (cA : Nat → Nat → ClassId) (ad : Nat → Nat → Nat) (fm : Value) (A : Nat → Prop) (ex : Nat → Nat → Nat → Int32) : ∀ n, pm_P l D cA ad fm A ex n
  | 0 => by
    intro p e R s mm args below meth c cells slots Q m pc ls st h r F hr
    cases hr
  | k + 1 => by
    intro p e R s mm args below meth c cells slots Q m pc ls st h r F hr ok hRt
    have hP := pm_sound l D cA ad fm A ex k
    have hr : pm_act (pm_ex k) (pm_pre (m, pc, ls, st, h)) = some r := hr
    have hn := pm_st_nat (fun a : PA => pm_act (pm_ex k) a = some r) none (fun σ => some (.inr (.inl σ))) (fun r => some (.inl r)) (fun σ q => some (.inr (.inr (σ, q)))) (m, pc, ls, st, h)
    have hop : pm_st (none = some r) (fun σ => pm_ex k σ = some r) (fun q => some q = some r) (fun σ q => pm_cl (pm_ex k) (pm_ex k) σ q = some r) (m, pc, ls, st, h) := by
      have := hn
      exact cast this hr
    rw [show ((none : Option PR) = some r) = False from by simp] at hop
    refine pm_step1 F hop (fun σ hg hm hok => ?_) (fun q hq => ?_) (fun v idx ls' hdg hi hok => pm_inv_at hP F hdg hi hok hRt) ok
    · obtain ⟨m2, pc2, ls2, st2, h2⟩ := σ
      have hm : m2 = m := hm
      subst hm
      exact hP p e R s mm args below meth c cells slots Q m2 pc2 ls2 st2 h2 r F hg hok hRt
    · have hq : q = r := Option.some.inj hq
      rw [hq]
      exact hRt
end PMD
