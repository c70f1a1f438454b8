section PMI
variable {p : Program} {l : Launch} {e : Env} {R : Room} {s : State} {mm : MethodId} {args : Array Value} {below : List Frame} {meth : Method} {c : Code} {cells slots : Nat} {Q : State → Prop}
variable {D : va_G} {cA : Nat → Nat → ClassId} {ad : Nat → Nat → Nat} {fm : Value} {A : Nat → Prop} {ex : Nat → Nat → Nat → Int32}
variable {m pc : Nat} {ls st : List PV} {h : PH} {G : PS → Prop}
theorem pm_ex_sI {h : PH} {ex : Nat → Nat → Nat → Int32} (hE : ∀ t, 60 ≤ t → h.1 t = ex t) {t i k : Nat} (ht : t < 60) (x : Int32) : ∀ t', 60 ≤ t' → (pm_sI h t i k x).1 t' = ex t' := by
  intro t' h'
  rw [← hE t' h']
  funext b d
  rw [pm_sI_at]
  exact if_neg (fun z => by omega)
theorem pm_ex_cp {h : PH} {ex : Nat → Nat → Nat → Int32} (hE : ∀ t, 60 ≤ t → h.1 t = ex t) {t i sp u j dp n : Nat} (ht : u < 60) : ∀ t', 60 ≤ t' → (pm_cp h t i sp u j dp n).1 t' = ex t' := by
  intro t' h'
  rw [← hE t' h']
  funext b d
  rw [pm_cp_at]
  exact if_neg (fun z => by omega)
theorem sd_put {idx : Nat} (F : pm_Fr p R s mm args c cells slots D cA ad fm A ex m) (hdg : decode (pm_by m) pc = .ok (.putfield idx, 3)) (hop : pm_put False G idx m (pc + 3) ls st h) (hG : ∀ σ, G σ → σ.1 = m → pm_Ok σ → pm_At p l e R s mm args below meth c cells slots Q D cA ad fm A ex σ) (ok : pm_Ok (m, pc, ls, st, h)) :
    pm_At p l e R s mm args below meth c cells slots Q D cA ad fm A ex (m, pc, ls, st, h) := by
  obtain ⟨hx, hb, hml, hown, hts, hK, hX, hrf, hrl, hrc, hrs⟩ := F
  unfold pm_put at hop
  split at hop
  · rename_i v t i st'
    split at hop
    · exact hop.elim
    · rename_i ci k hlk
      split at hop
      · rename_i htc
        obtain ⟨htc, ht9⟩ := htc
        subst htc
        have hob : (t, i) ∈ pm_obs := pm_ob_of (ok_hd (ok_tl ok.2)) (by omega)
        intro H locs la hH hL
        obtain ⟨hP, hD, hS, hE⟩ := hH
        obtain ⟨C, T, hcl, hkN, hfl, hC, hI, hLg, hZ⟩ := tf_fld hlk ht9
        obtain ⟨q0, hq1, hq0⟩ := pm_ws_at (ad := ad) (cA := cA) (h := h) hob
        rw [pm_cell_o ht9] at hq0
        obtain ⟨hin, ⟨ty, hty⟩, hnm⟩ := tf_cls hcl
        have hsame : ∀ x, s.fieldFound? (T k).1 (T k).2.1 (T k).2.2.1 = some x → s.fieldFound? C (T k).2.1 (T k).2.2.1 = some x := fun _ z => by rw [hC] at z; exact z
        have hlen : k < ((List.range (pm_nf t)).map (pm_fv ad h t i)).length := by rw [List.length_map, List.length_range]; exact hkN
        show W p l e R s mm args below meth c H locs cells slots Q (F0 mm pc la (pm_mp ad fm v :: pm_mp ad fm (vr t i) :: st'.map (pm_mp ad fm)))
        rw [pm_mp_ref (t := t) (by omega)]
        split at hop
        · rename_i x hz
          refine va_put (D := D) (ci := t) (v := .int x) (ty := .int) (C := C) (T := T) (N := pm_nf t) hx hb hts hin ty hty hnm hown hK hP hD hS q0 hq0 hcl k hkN (hts _ hfl) hsame (hI hz).2 (hI hz).1 rfl rfl hlen hdg (fun H1 locs1 hP1 hD1 hS1 => ?_)
          rw [← pm_fv_sI (Or.inl hz), pm_ws_set hq1 pm_cell_sI (pm_cell_o ht9)] at hP1 hD1
          exact hG _ hop rfl ⟨ok.1, ok_tl (ok_tl ok.2)⟩ H1 locs1 la ⟨hP1, hD1, hS1, pm_ex_sI hE (by omega) x⟩ hL
        · rename_i x hz
          split at hop
          · rename_i hb1
            have hnb := pm_nar_bool hb1
            refine va_put (D := D) (ci := t) (v := .int x) (ty := .boolean) (C := C) (T := T) (N := pm_nf t) hx hb hts hin ty hty hnm hown hK hP hD hS q0 hq0 hcl k hkN (hts _ hfl) hsame (hZ hz).2 (hZ hz).1 hnb.1 hnb.2 hlen hdg (fun H1 locs1 hP1 hD1 hS1 => ?_)
            rw [← pm_fv_sI (Or.inr hz), pm_ws_set hq1 pm_cell_sI (pm_cell_o ht9)] at hP1 hD1
            exact hG _ hop rfl ⟨ok.1, ok_tl (ok_tl ok.2)⟩ H1 locs1 la ⟨hP1, hD1, hS1, pm_ex_sI hE (by omega) x⟩ hL
          · exact hop.elim
        · rename_i x hz
          refine va_put (D := D) (ci := t) (v := .long x) (ty := .long) (C := C) (T := T) (N := pm_nf t) hx hb hts hin ty hty hnm hown hK hP hD hS q0 hq0 hcl k hkN (hts _ hfl) hsame (hLg hz).2 (hLg hz).1 rfl rfl hlen hdg (fun H1 locs1 hP1 hD1 hS1 => ?_)
          rw [← pm_fv_sL hz, pm_ws_set hq1 pm_cell_sL (pm_cell_o ht9)] at hP1 hD1
          exact hG _ hop rfl ⟨ok.1, ok_tl (ok_tl ok.2)⟩ H1 locs1 la ⟨hP1, hD1, hS1, hE⟩ hL
        · exact hop.elim
      · exact hop.elim
  · exact hop.elim
theorem sd_gst {idx : Nat} (F : pm_Fr p R s mm args c cells slots D cA ad fm A ex m) (hdg : decode (pm_by m) pc = .ok (.getstatic idx, 3)) (hop : pm_gst False G idx m (pc + 3) ls st h) (hG : ∀ σ, G σ → σ.1 = m → pm_Ok σ → pm_At p l e R s mm args below meth c cells slots Q D cA ad fm A ex σ) (ok : pm_Ok (m, pc, ls, st, h)) :
    pm_At p l e R s mm args below meth c cells slots Q D cA ad fm A ex (m, pc, ls, st, h) := by
  obtain ⟨hx, hb, hml, hown, hts, hK, hX, hrf, hrl, hrc, hrs⟩ := F
  obtain ⟨hfm, -, ⟨z0, -⟩, ⟨z1, -⟩, ⟨z2, -⟩, z3, z4, -, -⟩ := hX
  unfold pm_gst at hop
  split at hop
  · rename_i hlk
    intro H locs la hH hL
    refine va_gets hx hb z0 hH.2.2.1 hown (hts _ (tf_gst hlk)) (fun _ z => z) hdg ?_
    have g1 := hG _ hop rfl ⟨ok.1, ok_push ok.2 (by simp) (Or.inr (Or.inr (Or.inl ⟨by decide, by decide, rfl⟩)))⟩ H locs la hH hL
    rw [List.map_cons, pm_mp_ref (by decide)] at g1
    exact g1
  · rename_i hlk
    intro H locs la hH hL
    refine va_gets hx hb z1 hH.2.2.1 hown (hts _ (tf_gst hlk)) (fun _ z => z) hdg ?_
    have g1 := hG _ hop rfl ⟨ok.1, ok_push ok.2 (by simp) (Or.inr (Or.inr (Or.inl ⟨by decide, by decide, rfl⟩)))⟩ H locs la hH hL
    rw [List.map_cons, pm_mp_ref (by decide)] at g1
    exact g1
  · rename_i hlk
    intro H locs la hH hL
    refine va_gets hx hb z2 hH.2.2.1 hown (hts _ (tf_gst hlk)) (fun _ z => z) hdg ?_
    have g1 := hG _ hop rfl ⟨ok.1, ok_push ok.2 (by simp) (Or.inr (Or.inr (Or.inl ⟨by decide, by decide, rfl⟩)))⟩ H locs la hH hL
    rw [List.map_cons, pm_mp_ref (by decide)] at g1
    exact g1
  · rename_i hlk
    intro H locs la hH hL
    refine va_gets hx hb z3 hH.2.2.1 hown (hts _ (tf_gst hlk)) (fun _ z => z) hdg ?_
    exact hG _ hop rfl ⟨ok.1, ok_push ok.2 (by simp) trivial⟩ H locs la hH hL
  · rename_i hlk
    intro H locs la hH hL
    refine va_gets hx hb z4 hH.2.2.1 hown (hts _ (tf_gst hlk)) (fun _ z => z) hdg ?_
    have g1 := hG _ hop rfl ⟨ok.1, ok_push ok.2 (by simp) (Or.inr (Or.inr (Or.inr rfl)))⟩ H locs la hH hL
    rw [List.map_cons, show pm_mp ad fm (vr 67 0) = fm from by simp [pm_mp]] at g1
    exact g1
  · exact hop.elim
end PMI
