section STL
variable {p : Program} {l : Launch} {e : Env} {s : State} {m : MethodId} {below : List Frame} {meth : Method} {c : Code} {b : Nat} {Q : State → Prop} {D : va_G} {A : Nat → Prop}
/-- a constructor called by the law -/
theorem st_init (hx : p.tables.exec = Jvm.exec) (hb : c.code = code) (hml : c.maxLocals = 4) (hown : s.vm.findClass R_law = some m.cls) (hts : ∀ w ∈ pm_tb, w.before #[Value.ref b] s = true) (hN : cn_N s) (hA : ∀ q, s.heap.size ≤ q → A q)
    {k ci a idx pc cells slots : Nat} {w w2 : List CE} {as : Nat → Nat} {cA : Nat → ClassId} {rest : List Value} {H : Heap} {locs : List Loc} {la : Array Slot} (hcx : cn_ex k (ci, 0, cn_ent ci a, [], w, 0, 0) = some w2) (hci : ci < 9) (ha : a < w.length) (hlm : Cond.methodLink R_law idx (cn_y ci) ∈ pm_tb)
    (hroom : (cn_ndm ci).1 + 1 ≤ room_1.frames ∧ 8 + (cn_nmx ci + 11) + (cn_ndm ci).2 ≤ room_1.locals) (hcells : cells + (cn_cp ci).1 ≤ room_1.cells ∧ slots + (cn_cp ci).2 ≤ room_1.slots) (hsz : la.size = 4) (hcs : (rest.map fun v => v.category).sum ≤ 8) (hdg : decode code pc = .ok (.invokespecial idx, 3)) (hH : cn_HR s D A as cA w H locs)
    (kk : ∀ (as' : Nat → Nat) (cA' : Nat → ClassId) (H1 : Heap) (locs1 : List Loc), (∀ j, j < w.length → as' j = as j) → cn_HR s D A as' cA' w2 H1 locs1 → W p l e room_1 s m #[Value.ref b] below meth c H1 locs1 (cells + (cn_cp ci).1) (slots + (cn_cp ci).2) Q (F0 m (pc + 3) la rest)) :
    W p l e room_1 s m #[Value.ref b] below meth c H locs cells slots Q (F0 m pc la (Value.ref (as a) :: rest)) := by
  obtain ⟨hTy, hPw, hDw, hSw⟩ := hH
  obtain ⟨-, -, -, i1, i2, i3⟩ := cf_m hci
  have hM := cn_met (as := as) (cA := cA) (cn_sound l D A k) hcx hci ha
  have hGI : GoodIn pm_tb (cn_ws0 ci) := pm_gw (fun w hw => (List.mem_cons.mp hw).elim (fun z => by rw [z]; exact cf_code hci) (fun z => z))
  have hpS : PreS s H (cn_Pc D A as cA w a) [.ref (as a)] := ⟨cn_bl, fun U hU hW => ⟨rfl, hTy.moved hW.alike, by rw [hU]; exact hPw, hDw, fun q hq => hA q (Nat.le_trans hSw.1 (by rw [hU] at hq; exact hq)), hN.warm hW⟩⟩
  have hrun : va_Run p l e room_1 s m #[Value.ref b] below meth c H locs cells slots (cn_cp ci).1 (cn_cp ci).2 (F0 m pc la (Value.ref (as a) :: rest)) rest (cn_Qc D A as w.length w2 [Value.ref (as a)].toArray) A :=
    va_runI (As := []) (b := as a) (own := R_law) (nL := 4) (index := idx) (n := 0) (Ts := pm_tb) ⟨hx, hb, hml, hown, hts⟩ hM (cwI 0 hts hGI rfl rfl rfl (hts _ i1) (hts _ hlm) (hts _ i2) rfl ⟨i3.1, i3.2, cf_par⟩ hroom) hpS rfl rfl hsz rfl (lv_room hcs) hdg hcells
  intro T hT X
  obtain ⟨v, st₀, t, T', L, h0, X', hLl, e1, e3, ⟨hv, ⟨as', cA', hag', hT1, hP1, hD1⟩, hF1⟩, stp⟩ := hrun T hT X
  obtain ⟨hz, hk⟩ := hF1
  rw [h0] at hz hk
  have hv : v = none := by cases hv; rfl
  subst hv
  have S1 : va_S A s.heap T'.heap (locs ++ L) := ⟨Nat.le_trans hSw.1 (by rw [e1]; exact hz), fun q h1 h2 => by rw [e1, hk q (Nat.lt_of_lt_of_le h1 hSw.1) h2]; exact hSw.2.1 q h1 h2, fun q hq => by
      rcases List.mem_append.mp hq with h | h
      · exact hSw.2.2 q h
      · exact hLl q h⟩
  have hvm : s.vm.Alike t.vm := by rw [← e3]; exact X'.warmed.alike
  obtain ⟨t2, a1, b1⟩ := kk as' cA' T'.heap (locs ++ L) hag' ⟨hT1.moved hvm.symm, by rw [e1]; exact hP1, hD1, S1⟩ T' rfl X'
  exact ⟨t2, stp t2 a1, b1⟩
/-- an object made by the law -/
theorem st_new (hx : p.tables.exec = Jvm.exec) (hb : c.code = code) (hown : s.vm.findClass R_law = some m.cls) (hts : ∀ w ∈ pm_tb, w.before #[Value.ref b] s = true) (hA : ∀ q, s.heap.size ≤ q → A q)
    {ci idx pc cells slots : Nat} {w : List CE} {as : Nat → Nat} {cA : Nat → ClassId} {rest : List Value} {H : Heap} {locs : List Loc} {la : Array Slot} (hci : ci < 9) (hw : cn_ok w = true) (h1 : Cond.classLink R_law idx (cn_n ci) ∈ pm_tb) (h2 : Cond.instantiable (cn_n ci) (pm_nf ci) ∈ pm_tb) (hcells : cells + 1 ≤ room_1.cells ∧ slots + pm_nf ci ≤ room_1.slots) (hdg : decode code pc = .ok (.new idx, 3)) (hH : cn_HR s D A as cA w H locs)
    (kk : ∀ (q : Nat) (H1 : Heap), cn_HR s D A (va_up as w.length q) (va_up cA w.length 0) (w ++ [.inl (ci, cn_df ci)]) H1 locs → W p l e room_1 s m #[Value.ref b] below meth c H1 locs (cells + 1) (slots + pm_nf ci) Q (F0 m (pc + 3) la (.ref q :: rest))) :
    W p l e room_1 s m #[Value.ref b] below meth c H locs cells slots Q (F0 m pc la rest) := by
  obtain ⟨⟨tys, hK, hty⟩, hPw, hDw, hSw⟩ := hH
  obtain ⟨C, T, hcl, hC⟩ := cf_vw hci
  obtain ⟨hin2, ⟨ty, hty2⟩, -⟩ := tf_cls hcl
  have h3 := (cf_m hci).2.2.2.1
  rw [← hC] at h1 h2 h3
  refine va_new (fs := (cn_df ci).map (cn_fv as)) hx hb hts hin2 ty hty2 hown (hts _ h1) (hts _ h2) (hts _ h3) hK hPw hDw hSw hA hcl (cf_df hcl hty2) hcells.1 hcells.2 hdg (fun q H1 hP1 hD1 hS1 => ?_)
  have e1 : cn_ws as cA w ++ [(q, .inr (ci, (cn_df ci).map (cn_fv as)))] = cn_ws (va_up as w.length q) (va_up cA w.length 0) (w ++ [.inl (ci, cn_df ci)]) := (cn_ws_push hw (cf_dfk ci w.length)).symm
  rw [e1] at hP1 hD1
  refine kk q H1 ⟨⟨tys, hK, fun j kd nn is rs hj => ?_⟩, hP1, hD1, hS1⟩
  rcases Nat.lt_or_ge j w.length with h | h
  · rw [List.getElem?_append_left h] at hj
    obtain ⟨t0, ht0⟩ := hty j kd nn is rs hj
    exact ⟨t0, by rw [up_ag j h]; exact ht0⟩
  · rw [List.getElem?_append_right h] at hj
    cases hjj : j - w.length with
    | zero => rw [hjj] at hj; simp at hj
    | succ z => rw [hjj] at hj; simp at hj
end STL
theorem st_dl0 : decode code 0 = .ok (.new 7, 3) := by decide +kernel
theorem st_dl3 : decode code 3 = .ok (.dup, 1) := by decide +kernel
theorem st_dl4 : decode code 4 = .ok (.invokespecial 9, 3) := by decide +kernel
theorem st_dl7 : decode code 7 = .ok (.astore_n 1, 1) := by decide +kernel
theorem st_dl8 : decode code 8 = .ok (.new 10, 3) := by decide +kernel
theorem st_dl11 : decode code 11 = .ok (.dup, 1) := by decide +kernel
theorem st_dl12 : decode code 12 = .ok (.invokespecial 12, 3) := by decide +kernel
theorem st_dl15 : decode code 15 = .ok (.astore_n 2, 1) := by decide +kernel
theorem st_lw : (cn_any (Cond.classLink "IllLightLaw" 7 (cn_n 7)) && cn_any (Cond.instantiable (cn_n 7) (pm_nf 7)) && cn_any (Cond.methodLink "IllLightLaw" 9 (cn_y 7)) && cn_any (Cond.classLink "IllLightLaw" 10 (cn_n 8)) && cn_any (Cond.instantiable (cn_n 8) (pm_nf 8)) && cn_any (Cond.methodLink "IllLightLaw" 12 (cn_y 8))) = true := by decide +kernel
theorem st_okA : cn_ok st_wA = true := by decide +kernel
theorem st_lenA : st_wA.length = 205 := by decide +kernel
def st_nk : Bool := (List.range 9).all (fun m => (cn_cl.getD m []).all (fun q => decide (q.2.2.1 ≠ 1) || decide (lw_tbl[q.2.2.2]? = some (Cond.methodLinkNest (cn_n m) q.1 (cn_y q.2.1) "IllLight"))))
theorem st_nk_ok : st_nk = true := by decide +kernel
theorem st_ao : ([0, 2, 3, 6].all (fun ci => lw_tbl.any (fun w => decide (w = Cond.arrayOver (.object (cn_n ci)))))) = true := by decide +kernel
theorem st_N {s : State} {args : Array Value} (hts : ∀ w ∈ lw_tbl, w.before args s = true) : cn_N s := by
  refine ⟨fun m idx ci pl h => ?_, fun ci hc => ?_⟩
  · obtain ⟨-, h2⟩ := cn_tabm (L := cn_cl) (chk := fun m q => decide (q.2.2.1 ≠ 1) || decide (lw_tbl[q.2.2.2]? = some (Cond.methodLinkNest (cn_n m) q.1 (cn_y q.2.1) "IllLight"))) (by decide) st_nk_ok h
    rw [Bool.or_eq_true, decide_eq_true_eq, decide_eq_true_eq] at h2
    exact va_Nw.of rfl (hts _ (List.mem_of_getElem? (h2.resolve_left (fun z => z rfl))))
  · have h2 := List.all_eq_true.mp st_ao ci (by rcases hc with z | z | z | z <;> subst z <;> simp)
    exact va_AO.of (hts _ (st_any h2))
theorem st_inst : (List.range 9).all (fun ci => lw_tbl.any (fun w => decide (w = Cond.instantiable (cn_n ci) (pm_nf ci)))) = true := by decide +kernel
set_option maxHeartbeats 4000000 in
/-- THE LAW UP TO ITS LOOP: if the simple machine, from the loop on, answers 1, the law does -/
theorem st_law {p : Program} {e : Env} {s : State} {m : MethodId} {below : List Frame} {meth : Method} {c : Code} (l : Launch) {b L : Nat} {xs : Nat → Int32} (hL : L ≤ 3072) (C0 : lw_At p s m meth c b L xs) {h' : PH} (hev : pm_ev (276, 16, [vr 65 0, vr 7 0, vr 8 0, none], [], st_h0 (st_ex L xs)) = some (some (vi 1), h')) : W p l e room_1 s m #[Value.ref b] below meth c s.heap [] 0 0 (lw_Z below #[Value.ref b] s) (entryFrame m ([Value.ref b] : List Value).toArray 4) := by
  obtain ⟨hx, hb, hr, hml, hown, hts, hX, hbl, hlocks, hgv⟩ := id C0
  have hA : ∀ q : Nat, s.heap.size ≤ q → (fun q : Nat => s.heap.size ≤ q) q := fun _ h => h
  have hAn : ∀ a : Nat, a < s.heap.size → ¬ (fun q : Nat => s.heap.size ≤ q) a := fun _ h => Nat.not_le.mpr h
  have htb : ∀ w ∈ pm_tb, w.before #[Value.ref b] s = true := fun w hw => hts w (tf_tb hw)
  have hKc : ∃ (dC : Nat → ClassId) (dI : Nat → Nat → Nat), ∀ (k : Nat) (q : vw_C), vwCl[k]? = some q → u_Kn s q.1 q.2.1 q.2.2 (dC k) (dI k) := by
    have h0 : ∀ k : Nat, ∃ z : ClassId × (Nat → Nat), ∀ q : vw_C, vwCl[k]? = some q → u_Kn s q.1 q.2.1 q.2.2 z.1 z.2 := by
      intro k
      cases hk : vwCl[k]? with
      | none => exact ⟨(0, fun _ => 0), fun q h => by cases h⟩
      | some q =>
        obtain ⟨C, T, N⟩ := q
        have h9 : k < 9 := (List.getElem?_eq_some_iff.mp hk).1
        obtain ⟨C2, T2, h1, h2⟩ := cf_vw h9
        rw [hk] at h1
        cases h1
        have hi := List.all_eq_true.mp st_inst k (List.mem_range.mpr h9)
        obtain ⟨cC, iS, hKn⟩ := u_known (C := C) (T := T) (N := pm_nf k) (n := pm_nf k) htb (tf_cls hk).1 (by rw [h2]; exact hts _ (st_any hi))
        exact ⟨(cC, iS), fun q h => by cases h; exact hKn⟩
    exact ⟨fun k => (h0 k).choose.1, fun k => (h0 k).choose.2, fun k q h => (h0 k).choose_spec q h⟩
  obtain ⟨dC, dI, hKc⟩ := hKc
  obtain ⟨adx, fm, hadx, hXa⟩ := st_X (A := fun q : Nat => s.heap.size ≤ q) hL hts hgv hAn hX hbl
  have hNs := st_N hts
  have hlw := st_lw
  simp only [Bool.and_eq_true] at hlw
  obtain ⟨⟨⟨⟨⟨w1, w2⟩, w3⟩, w4⟩, w5⟩, w6⟩ := hlw
  have hl := lv_entry ([.ref b]) (n := 4) (Nat.le_of_ble_eq_true rfl)
  rw [lg_entry_eq]
  generalize (lg_sl ([.ref b]) ++ List.replicate (4 - (lg_sl ([.ref b])).length) Slot.unset).toArray = la at hl ⊢
  have hl : lv_has la 4 [(0, .ref b)] := hl
  have hH0 : cn_HR s (dC, dI) (fun q : Nat => s.heap.size ≤ q) (fun _ => 0) (fun _ => 0) [] s.heap [] := ⟨⟨[], ⟨hKc, fun k q h => by simp at h⟩, fun k kd n is rs h => by simp at h⟩, fun k q h => by simp [cn_ws] at h, ⟨fun i j p q h => by simp [cn_ws] at h, fun k q h => by simp [cn_ws] at h⟩, va_S.rf⟩
  refine st_new (ci := 7) hx hb hown htb hA (by decide) rfl (pm_any_tb w1) (pm_any_tb w2) ⟨Nat.le_of_ble_eq_true rfl, Nat.le_of_ble_eq_true rfl⟩ st_dl0 hH0 (fun q H1 hH1 => ?_)
  refine lv_dup hx hb st_dl3 rfl ?_
  have e7 : Value.ref q = Value.ref (va_up (fun _ => 0) ([] : List CE).length q 0) := rfl
  rw [e7]
  refine st_init (ci := 7) (a := 0) (k := 4000) hx hb hml hown htb hNs hA st_runA (by decide) (by decide) (pm_any_tb w3) ⟨Nat.le_of_ble_eq_true rfl, Nat.le_of_ble_eq_true rfl⟩ ⟨Nat.le_of_ble_eq_true rfl, Nat.le_of_ble_eq_true rfl⟩ hl.1 (Nat.le_of_ble_eq_true rfl) st_dl4 hH1 (fun as1 cA1 H2 locs2 hag1 hH2 => ?_)
  have e8 : va_up (fun _ => 0) ([] : List CE).length q 0 = as1 0 := (hag1 0 (by decide)).symm
  rw [e8]
  refine lv_astore_n (lv' := [(1, .ref (as1 0)), (0, .ref b)]) hx hb st_dl7 rfl hl (by decide) rfl (fun la hl => ?_)
  refine st_new (ci := 8) hx hb hown htb hA (by decide) st_okA (pm_any_tb w4) (pm_any_tb w5) ⟨Nat.le_of_ble_eq_true rfl, Nat.le_of_ble_eq_true rfl⟩ st_dl8 hH2 (fun q2 H3 hH3 => ?_)
  refine lv_dup hx hb st_dl11 rfl ?_
  have e9 : Value.ref q2 = Value.ref (va_up as1 st_wA.length q2 205) := by rw [st_lenA, va_up_self]
  rw [e9]
  refine st_init (ci := 8) (a := 205) (k := 400) hx hb hml hown htb hNs hA st_runB (by decide) (by rw [List.length_append, st_lenA]; decide) (pm_any_tb w6) ⟨Nat.le_of_ble_eq_true rfl, Nat.le_of_ble_eq_true rfl⟩ ⟨Nat.le_of_ble_eq_true rfl, Nat.le_of_ble_eq_true rfl⟩ hl.1 (Nat.le_of_ble_eq_true rfl) st_dl12 hH3 (fun as2 cA2 H4 locs4 hag2 hH4 => ?_)
  have hl205 : 205 < (st_wA ++ [(Sum.inl (8, cn_df 8) : CE)]).length := by rw [List.length_append, st_lenA]; decide
  have e10 : va_up as1 st_wA.length q2 205 = as2 205 := (hag2 205 hl205).symm
  have e11 : as1 0 = as2 0 := by
    rw [hag2 0 (by omega), up_ag 0 (by rw [st_lenA]; decide)]
  rw [e10]
  rw [e11] at hl
  refine lv_astore_n (lv' := [(2, .ref (as2 205)), (1, .ref (as2 0)), (0, .ref b)]) hx hb st_dl15 rfl hl (by decide) rfl (fun la hl => ?_)
  obtain ⟨hT4, hP4, hD4, hS4⟩ := hH4
  obtain ⟨n, hn⟩ := pm_ev_iff.mp hev
  have F : pm_Fr p room_1 s m #[Value.ref b] c (0 + 1 + (cn_cp 7).1 + 1 + (cn_cp 8).1) (0 + pm_nf 7 + (cn_cp 7).2 + pm_nf 8 + (cn_cp 8).2) (dC, dI) (st_cA cA2) (st_ad as2 adx) fm (fun q : Nat => s.heap.size ≤ q) (st_ex L xs) 276 := ⟨hx, hb, hml, hown, htb, st_K hT4, hXa as2, Nat.le_of_ble_eq_true rfl, Nat.le_of_ble_eq_true rfl, Nat.le_of_ble_eq_true rfl, Nat.le_of_ble_eq_true rfl⟩
  have hRt : pm_RtW p l e room_1 s m #[Value.ref b] below meth c (0 + 1 + (cn_cp 7).1 + 1 + (cn_cp 8).1) (0 + pm_nf 7 + (cn_cp 7).2 + pm_nf 8 + (cn_cp 8).2) (lw_Z below #[Value.ref b] s) (dC, dI) (st_cA cA2) (st_ad as2 adx) fm (fun q : Nat => s.heap.size ≤ q) (st_ex L xs) 276 (some (vi 1), h') := by
    intro H locs la pc0 hH
    refine ⟨fun x e1 e2 e3 e4 => ?_, (fun x e1 => by cases e1), (fun x e1 => by cases e1), (fun e1 => by cases e1)⟩
    cases e1
    refine va_forget (fun q hq => hH.2.2.1.2.2 q hq) ?_
    refine W.widen (k := 600000) (n := 7302250) (Nat.le_of_ble_eq_true rfl) (Nat.le_of_ble_eq_true rfl) ?_
    exact lw_ret hx hb hr hlocks e4
  have K := pm_sound l (dC, dI) (st_cA cA2) (st_ad as2 adx) fm (fun q : Nat => s.heap.size ≤ q) (st_ex L xs) n p e room_1 s m #[Value.ref b] below meth c _ _ (lw_Z below #[Value.ref b] s) 276 16 [vr 65 0, vr 7 0, vr 8 0, none] [] (st_h0 (st_ex L xs)) _ F hn ?_ hRt
  · refine K H4 locs4 la ⟨st_P hP4, st_D hD4, hS4, fun t ht => ?_⟩ ?_
    · funext i k
      show (if t < 60 then _ else _) = _
      rw [if_neg (by omega)]
    · refine pm_LR.of rfl hl (fun q hq => ?_)
      obtain ⟨v, hv, e0⟩ := pm_lv_mem.mp hq
      have hv : ([vr 65 0, vr 7 0, vr 8 0, none] : List PV)[q.1]? = some (some v) := hv
      obtain ⟨k, vv⟩ := q
      match k, hv with
      | 0, hv => cases hv; rw [show vv = Value.ref b from by rw [show vv = pm_mp (st_ad as2 adx) fm (vr 65 0) from e0, pm_mp_ref (by decide)]; show Value.ref (adx 65 0) = _; rw [hadx]]; simp
      | 1, hv => cases hv; rw [show vv = Value.ref (as2 0) from by rw [show vv = pm_mp (st_ad as2 adx) fm (vr 7 0) from e0, pm_mp_ref (by decide)]; rfl]; simp
      | 2, hv => cases hv; rw [show vv = Value.ref (as2 205) from by rw [show vv = pm_mp (st_ad as2 adx) fm (vr 8 0) from e0, pm_mp_ref (by decide)]; rfl]; simp
      | 3, hv => cases hv
      | n + 4, hv => simp at hv
  · refine ⟨fun v hv => ?_, fun v hv => by cases hv⟩
    have hv : v ∈ ([vr 65 0, vr 7 0, vr 8 0, none] : List PV) := hv
    simp only [List.mem_cons, List.not_mem_nil, or_false] at hv
    rcases hv with z | z | z | z
    · subst z; exact Or.inr (Or.inr (Or.inl ⟨by decide, by decide, rfl⟩))
    · subst z; exact Or.inl (by decide +kernel)
    · subst z; exact Or.inl (by decide +kernel)
    · subst z; trivial
