section PMA
variable {p : Program} {l : Launch} {e : Env} {R : Room} {s : State} {mm : MethodId} {args : Array Value} {below : List Frame} {meth : Method} {c : Code} {cells slots : Nat} {Q : State → Prop}
variable {D : va_G} {cA : Nat → Nat → ClassId} {ad : Nat → Nat → Nat} {fm : Value} {A : Nat → Prop} {ex : Nat → Nat → Nat → Int32}
variable {m pc : Nat} {ls st : List PV} {h : PH} {G : PS → Prop}
theorem pm_isI_of {t : Nat} (h : pm_isI t = true) : (10 ≤ t ∧ t < 44 ∧ pm_ak t = 0) ∨ t = 62 ∨ t = 63 ∨ t = 64 ∨ t = 65 := by
  unfold pm_isI at h
  simp only [Bool.or_eq_true, Bool.and_eq_true, decide_eq_true_eq, beq_iff_eq] at h
  omega
theorem pm_aty_of {t k : Nat} (h : pm_ak t = k) : (k = 0 → pm_aty t = .int) ∧ (k = 1 → pm_aty t = .long) ∧ (k = 2 → pm_aty t = .boolean) ∧ (k = 3 → ∃ C, pm_aty t = .object C) := by
  subst h
  refine ⟨fun z => ?_, fun z => ?_, fun z => ?_, fun z => ?_⟩
  · unfold pm_aty; rw [z]; rfl
  · unfold pm_aty; rw [z]; rfl
  · unfold pm_aty; rw [z]; rfl
  · unfold pm_aty; rw [z]; exact ⟨_, rfl⟩
theorem sd_iald (F : pm_Fr p R s mm args c cells slots D cA ad fm A ex m) (hdg : decode (pm_by m) pc = .ok (.iaload, 1)) (hop : pm_iald False G m (pc + 1) ls st h) (hG : ∀ σ, G σ → σ.1 = m → pm_Ok σ → pm_At p l e R s mm args below meth c cells slots Q D cA ad fm A ex σ) (ok : pm_Ok (m, pc, ls, st, h)) :
    pm_At p l e R s mm args below meth c cells slots Q D cA ad fm A ex (m, pc, ls, st, h) := by
  obtain ⟨hx, hb, hml, hown, hts, hK, hX, hrf, hrl, hrc, hrs⟩ := F
  obtain ⟨-, ⟨x1, x2, x3⟩, ⟨-, z0⟩, ⟨-, z1⟩, ⟨-, z2⟩, -, -, -, -⟩ := hX
  unfold pm_iald at hop
  split at hop
  · rename_i j t i st'
    split at hop
    · rename_i hI
      split at hop
      · rename_i hin
        intro H locs la hH hL
        have g1 := hG _ hop rfl ⟨ok.1, ok_push (ok_tl (ok_tl ok.2)) (by simp) trivial⟩ H locs la hH hL
        obtain ⟨hP, hD, hS, hE⟩ := hH
        have hoq := ok_hd (ok_tl ok.2)
        have hin' := pm_inb_in hin
        show W p l e R s mm args below meth c H locs cells slots Q (F0 mm pc la (.int j :: pm_mp ad fm (vr t i) :: st'.map (pm_mp ad fm)))
        rcases pm_isI_of hI with ⟨h1, h2, h3⟩ | h1
        · rw [pm_mp_ref (by omega)]
          have hob : (t, i) ∈ pm_obs := pm_ob_of hoq (by omega)
          obtain ⟨q0, -, hq0⟩ := pm_ws_at (ad := ad) (cA := cA) (h := h) hob
          rw [pm_cell_I (by omega) h3 (by decide) (by decide)] at hq0
          obtain ⟨t0, ht0⟩ := pm_tys_at (cA := cA) hob h1
          rw [(pm_aty_of h3).1 rfl] at ht0
          rw [pm_len_in h2] at hin'
          exact va_iald hx hb hK hP q0 t0 hq0 ht0 hin' hdg g1
        · have hi0 : i = 0 := by
            rcases hoq with q | ⟨q, -⟩ | ⟨-, -, q⟩ | q
            · have := tf_tag _ q; simp only at this; omega
            · omega
            · exact q
            · omega
          subst hi0
          rw [pm_mp_ref (by omega)]
          rcases h1 with h1 | h1 | h1 | h1
          · subst h1
            exact va_ti hx hb z0 hS hin' (by rw [← hE 62 (by decide)]; rfl) hdg g1
          · subst h1
            exact va_ti hx hb z1 hS hin' (by rw [← hE 63 (by decide)]; rfl) hdg g1
          · subst h1
            exact va_ti hx hb z2 hS hin' (by rw [← hE 64 (by decide)]; rfl) hdg g1
          · subst h1
            have e6 : pm_len h 65 0 = (ex 66 0 0).toNatClampNeg := by rw [← hE 66 (by decide)]; rfl
            rw [e6] at hin'
            refine va_sld hx hb x1 x2 x3 hS hin' hdg ?_
            rw [← hE 65 (by decide)]
            exact g1
      · exact hop.elim
    · exact hop.elim
  · exact hop.elim
theorem sd_bald (F : pm_Fr p R s mm args c cells slots D cA ad fm A ex m) (hdg : decode (pm_by m) pc = .ok (.baload, 1)) (hop : pm_bald False G m (pc + 1) ls st h) (hG : ∀ σ, G σ → σ.1 = m → pm_Ok σ → pm_At p l e R s mm args below meth c cells slots Q D cA ad fm A ex σ) (ok : pm_Ok (m, pc, ls, st, h)) :
    pm_At p l e R s mm args below meth c cells slots Q D cA ad fm A ex (m, pc, ls, st, h) := by
  obtain ⟨hx, hb, hml, hown, hts, hK, hX, hrf, hrl, hrc, hrs⟩ := F
  obtain ⟨-, -, -, -, -, -, -, hStr, -⟩ := hX
  unfold pm_bald at hop
  split at hop
  · rename_i j t i st'
    split at hop
    · rename_i hI
      split at hop
      · rename_i hin
        intro H locs la hH hL
        have g1 := hG _ hop rfl ⟨ok.1, ok_push (ok_tl (ok_tl ok.2)) (by simp) trivial⟩ H locs la hH hL
        obtain ⟨hP, hD, hS, hE⟩ := hH
        have hoq := ok_hd (ok_tl ok.2)
        have hin' := pm_inb_in hin
        show W p l e R s mm args below meth c H locs cells slots Q (F0 mm pc la (.int j :: pm_mp ad fm (vr t i) :: st'.map (pm_mp ad fm)))
        rcases Bool.or_eq_true _ _ ▸ hI with hI | hI
        · obtain ⟨h1, h2, h3⟩ := pm_isW_of hI
          rw [pm_mp_ref (by omega)]
          have hob : (t, i) ∈ pm_obs := pm_ob_of hoq (by omega)
          obtain ⟨q0, -, hq0⟩ := pm_ws_at (ad := ad) (cA := cA) (h := h) hob
          rw [pm_cell_I (by omega) h3 (by decide) (by decide)] at hq0
          obtain ⟨t0, ht0⟩ := pm_tys_at (cA := cA) hob h1
          rw [(pm_aty_of h3).2.2.1 rfl] at ht0
          rw [pm_len_in h2] at hin'
          exact va_zald hx hb hK hP q0 t0 hq0 ht0 hin' hdg g1
        · have h1 : t = 61 := by simpa using hI
          subst h1
          have hi21 : i < 21 := by
            rcases hoq with q | ⟨-, q⟩ | ⟨q, -, -⟩ | q
            · have := tf_tag _ q; simp only at this; omega
            · exact q
            · omega
            · omega
          rw [pm_mp_ref (by omega)]
          have e6 : pm_len h 61 i = pm_nth pm_SL i 0 := rfl
          rw [e6] at hin'
          exact va_tb hx hb (hStr i hi21).2.2.2 hS hin' (by rw [← hE 61 (by decide)]; rfl) hdg g1
      · exact hop.elim
    · exact hop.elim
  · exact hop.elim
theorem sd_lald (F : pm_Fr p R s mm args c cells slots D cA ad fm A ex m) (hdg : decode (pm_by m) pc = .ok (.laload, 1)) (hop : pm_lald False G m (pc + 1) ls st h) (hG : ∀ σ, G σ → σ.1 = m → pm_Ok σ → pm_At p l e R s mm args below meth c cells slots Q D cA ad fm A ex σ) (ok : pm_Ok (m, pc, ls, st, h)) :
    pm_At p l e R s mm args below meth c cells slots Q D cA ad fm A ex (m, pc, ls, st, h) := by
  obtain ⟨hx, hb, hml, hown, hts, hK, hX, hrf, hrl, hrc, hrs⟩ := F
  unfold pm_lald at hop
  split at hop
  · rename_i j t i st'
    split at hop
    · rename_i hI
      split at hop
      · rename_i hin
        intro H locs la hH hL
        have g1 := hG _ hop rfl ⟨ok.1, ok_push (ok_tl (ok_tl ok.2)) (by simp) trivial⟩ H locs la hH hL
        obtain ⟨hP, hD, hS, hE⟩ := hH
        have hin' := pm_inb_in hin
        obtain ⟨h1, h2, h3⟩ := pm_isW_of hI
        show W p l e R s mm args below meth c H locs cells slots Q (F0 mm pc la (.int j :: pm_mp ad fm (vr t i) :: st'.map (pm_mp ad fm)))
        rw [pm_mp_ref (by omega)]
        have hob : (t, i) ∈ pm_obs := pm_ob_of (ok_hd (ok_tl ok.2)) (by omega)
        obtain ⟨q0, -, hq0⟩ := pm_ws_at (ad := ad) (cA := cA) (h := h) hob
        rw [pm_cell_L (by omega) h3] at hq0
        obtain ⟨t0, ht0⟩ := pm_tys_at (cA := cA) hob h1
        rw [(pm_aty_of h3).2.1 rfl] at ht0
        rw [pm_len_in h2] at hin'
        exact va_lald hx hb hK hP q0 t0 hq0 ht0 hin' hdg g1
      · exact hop.elim
    · exact hop.elim
  · exact hop.elim
theorem sd_aald (F : pm_Fr p R s mm args c cells slots D cA ad fm A ex m) (hdg : decode (pm_by m) pc = .ok (.aaload, 1)) (hop : pm_aald False G m (pc + 1) ls st h) (hG : ∀ σ, G σ → σ.1 = m → pm_Ok σ → pm_At p l e R s mm args below meth c cells slots Q D cA ad fm A ex σ) (ok : pm_Ok (m, pc, ls, st, h)) :
    pm_At p l e R s mm args below meth c cells slots Q D cA ad fm A ex (m, pc, ls, st, h) := by
  obtain ⟨hx, hb, hml, hown, hts, hK, hX, hrf, hrl, hrc, hrs⟩ := F
  unfold pm_aald at hop
  split at hop
  · rename_i j t i st'
    split at hop
    · rename_i hI
      split at hop
      · rename_i hin
        intro H locs la hH hL
        have hin' := pm_inb_in hin
        obtain ⟨h1, h2, h3⟩ := pm_isW_of hI
        have hob : (t, i) ∈ pm_obs := pm_ob_of (ok_hd (ok_tl ok.2)) (by omega)
        rw [pm_len_in h2] at hin'
        have hj : j.toNatClampNeg < (pm_nth pm_at (t - 10) (9, 0)).2 := Nat.not_le.mp fun z => hin' (Or.inr z)
        obtain ⟨i2, e1, e2⟩ := tf_ar _ hob h1 h3 _ hj
        simp only at e1 e2
        have e3 := tf_tag _ e2
        simp only at e3
        have g1 := hG _ hop rfl ⟨ok.1, ok_push (ok_tl (ok_tl ok.2)) (by rw [e1]; simp) (by rw [e1]; exact Or.inl e2)⟩ H locs la hH hL
        obtain ⟨hP, hD, hS, hE⟩ := hH
        show W p l e R s mm args below meth c H locs cells slots Q (F0 mm pc la (.int j :: pm_mp ad fm (vr t i) :: st'.map (pm_mp ad fm)))
        rw [pm_mp_ref (by omega)]
        obtain ⟨q0, -, hq0⟩ := pm_ws_at (ad := ad) (cA := cA) (h := h) hob
        rw [pm_cell_R (by omega) h3] at hq0
        obtain ⟨t0, ht0⟩ := pm_tys_at (cA := cA) hob h1
        obtain ⟨C, hC⟩ := (pm_aty_of h3).2.2.2 rfl
        rw [hC] at ht0
        refine va_aldq hx hb hK hP q0 t0 hq0 ht0 hin' hdg ?_
        rw [List.map_cons, e1, pm_mp_ref (by omega)] at g1
        rw [e1]
        exact g1
      · exact hop.elim
    · exact hop.elim
  · exact hop.elim
theorem pm_cell_iast {t i k : Nat} {x : Int32} {a : Nat} (ht : ¬ t < 9) (hk : pm_ak t = a) (h1 : a ≠ 1) (h3 : a ≠ 3) : pm_cell ad cA (pm_sI h t i k x) t i = .inl (cA t i, (pm_nth pm_at (t - 10) (9, 0)).2, .inl (upd (h.1 t i) k x)) := by
  rw [pm_cell_I ht hk h1 h3]
  have e0 : (pm_sI h t i k x).1 t i = upd (h.1 t i) k x := by
    funext j
    rw [pm_sI_at]
    unfold upd
    by_cases hj : j = k
    · simp [hj]
    · simp [hj]
  rw [e0]
theorem sd_iast (F : pm_Fr p R s mm args c cells slots D cA ad fm A ex m) (hdg : decode (pm_by m) pc = .ok (.iastore, 1)) (hop : pm_iast False G m (pc + 1) ls st h) (hG : ∀ σ, G σ → σ.1 = m → pm_Ok σ → pm_At p l e R s mm args below meth c cells slots Q D cA ad fm A ex σ) (ok : pm_Ok (m, pc, ls, st, h)) :
    pm_At p l e R s mm args below meth c cells slots Q D cA ad fm A ex (m, pc, ls, st, h) := by
  obtain ⟨hx, hb, hml, hown, hts, hK, hX, hrf, hrl, hrc, hrs⟩ := F
  unfold pm_iast at hop
  split at hop
  · rename_i x j t i st'
    split at hop
    · rename_i hI
      split at hop
      · rename_i hin
        intro H locs la hH hL
        obtain ⟨hP, hD, hS, hE⟩ := hH
        have hin' := pm_inb_in hin
        obtain ⟨h1, h2, h3⟩ := pm_isW_of hI
        show W p l e R s mm args below meth c H locs cells slots Q (F0 mm pc la (.int x :: .int j :: pm_mp ad fm (vr t i) :: st'.map (pm_mp ad fm)))
        rw [pm_mp_ref (by omega)]
        have hob : (t, i) ∈ pm_obs := pm_ob_of (ok_hd (ok_tl (ok_tl ok.2))) (by omega)
        obtain ⟨q0, hq1, hq0⟩ := pm_ws_at (ad := ad) (cA := cA) (h := h) hob
        rw [pm_cell_I (by omega) h3 (by decide) (by decide)] at hq0
        obtain ⟨t0, ht0⟩ := pm_tys_at (cA := cA) hob h1
        rw [(pm_aty_of h3).1 rfl] at ht0
        rw [pm_len_in h2] at hin'
        refine va_iast hx hb hK hP hD hS q0 t0 hq0 ht0 hin' hdg (fun H1 locs1 hP1 hD1 hS1 => ?_)
        rw [pm_ws_set hq1 pm_cell_sI (pm_cell_iast (by omega) h3 (by decide) (by decide))] at hP1 hD1
        exact hG _ hop rfl ⟨ok.1, ok_tl (ok_tl (ok_tl ok.2))⟩ H1 locs1 la ⟨hP1, hD1, hS1, pm_ex_sI hE (by omega) x⟩ hL
      · exact hop.elim
    · exact hop.elim
  · exact hop.elim
theorem sd_bast (F : pm_Fr p R s mm args c cells slots D cA ad fm A ex m) (hdg : decode (pm_by m) pc = .ok (.bastore, 1)) (hop : pm_bast False G m (pc + 1) ls st h) (hG : ∀ σ, G σ → σ.1 = m → pm_Ok σ → pm_At p l e R s mm args below meth c cells slots Q D cA ad fm A ex σ) (ok : pm_Ok (m, pc, ls, st, h)) :
    pm_At p l e R s mm args below meth c cells slots Q D cA ad fm A ex (m, pc, ls, st, h) := by
  obtain ⟨hx, hb, hml, hown, hts, hK, hX, hrf, hrl, hrc, hrs⟩ := F
  unfold pm_bast at hop
  split at hop
  · rename_i x j t i st'
    split at hop
    · rename_i hI
      split at hop
      · rename_i hin
        intro H locs la hH hL
        obtain ⟨hP, hD, hS, hE⟩ := hH
        have hin' := pm_inb_in hin
        obtain ⟨h1, h2, h3⟩ := pm_isW_of hI
        show W p l e R s mm args below meth c H locs cells slots Q (F0 mm pc la (.int x :: .int j :: pm_mp ad fm (vr t i) :: st'.map (pm_mp ad fm)))
        rw [pm_mp_ref (by omega)]
        have hob : (t, i) ∈ pm_obs := pm_ob_of (ok_hd (ok_tl (ok_tl ok.2))) (by omega)
        obtain ⟨q0, hq1, hq0⟩ := pm_ws_at (ad := ad) (cA := cA) (h := h) hob
        rw [pm_cell_I (by omega) h3 (by decide) (by decide)] at hq0
        obtain ⟨t0, ht0⟩ := pm_tys_at (cA := cA) hob h1
        rw [(pm_aty_of h3).2.2.1 rfl] at ht0
        rw [pm_len_in h2] at hin'
        refine va_zast hx hb hK hP hD hS q0 t0 hq0 ht0 hin' hdg (fun H1 locs1 hP1 hD1 hS1 => ?_)
        rw [show vp_nar .boolean x = x &&& 1 from rfl, pm_ws_set hq1 pm_cell_sI (pm_cell_iast (by omega) h3 (by decide) (by decide))] at hP1 hD1
        exact hG _ hop rfl ⟨ok.1, ok_tl (ok_tl (ok_tl ok.2))⟩ H1 locs1 la ⟨hP1, hD1, hS1, pm_ex_sI hE (by omega) _⟩ hL
      · exact hop.elim
    · exact hop.elim
  · exact hop.elim
theorem pm_cell_last {t i k : Nat} {x : Int64} (ht : ¬ t < 9) (hk : pm_ak t = 1) : pm_cell ad cA (pm_sL h t i k x) t i = .inl (cA t i, (pm_nth pm_at (t - 10) (9, 0)).2, .inr (.inl (vp_updL (h.2 t i) k x))) := by
  rw [pm_cell_L ht hk]
  have e0 : (pm_sL h t i k x).2 t i = vp_updL (h.2 t i) k x := by
    funext j
    rw [pm_sL_at]
    unfold vp_updL
    by_cases hj : j = k
    · simp [hj]
    · simp [hj]
  rw [e0]
theorem sd_last (F : pm_Fr p R s mm args c cells slots D cA ad fm A ex m) (hdg : decode (pm_by m) pc = .ok (.lastore, 1)) (hop : pm_last False G m (pc + 1) ls st h) (hG : ∀ σ, G σ → σ.1 = m → pm_Ok σ → pm_At p l e R s mm args below meth c cells slots Q D cA ad fm A ex σ) (ok : pm_Ok (m, pc, ls, st, h)) :
    pm_At p l e R s mm args below meth c cells slots Q D cA ad fm A ex (m, pc, ls, st, h) := by
  obtain ⟨hx, hb, hml, hown, hts, hK, hX, hrf, hrl, hrc, hrs⟩ := F
  unfold pm_last at hop
  split at hop
  · rename_i x j t i st'
    split at hop
    · rename_i hI
      split at hop
      · rename_i hin
        intro H locs la hH hL
        obtain ⟨hP, hD, hS, hE⟩ := hH
        have hin' := pm_inb_in hin
        obtain ⟨h1, h2, h3⟩ := pm_isW_of hI
        show W p l e R s mm args below meth c H locs cells slots Q (F0 mm pc la (.long x :: .int j :: pm_mp ad fm (vr t i) :: st'.map (pm_mp ad fm)))
        rw [pm_mp_ref (by omega)]
        have hob : (t, i) ∈ pm_obs := pm_ob_of (ok_hd (ok_tl (ok_tl ok.2))) (by omega)
        obtain ⟨q0, hq1, hq0⟩ := pm_ws_at (ad := ad) (cA := cA) (h := h) hob
        rw [pm_cell_L (by omega) h3] at hq0
        obtain ⟨t0, ht0⟩ := pm_tys_at (cA := cA) hob h1
        rw [(pm_aty_of h3).2.1 rfl] at ht0
        rw [pm_len_in h2] at hin'
        refine va_last hx hb hK hP hD hS q0 t0 hq0 ht0 hin' hdg (fun H1 locs1 hP1 hD1 hS1 => ?_)
        rw [pm_ws_set hq1 pm_cell_sL (pm_cell_last (by omega) h3)] at hP1 hD1
        exact hG _ hop rfl ⟨ok.1, ok_tl (ok_tl (ok_tl ok.2))⟩ H1 locs1 la ⟨hP1, hD1, hS1, hE⟩ hL
      · exact hop.elim
    · exact hop.elim
  · exact hop.elim
theorem sd_alen (F : pm_Fr p R s mm args c cells slots D cA ad fm A ex m) (hdg : decode (pm_by m) pc = .ok (.arraylength, 1)) (hop : pm_alen False G m (pc + 1) ls st h) (hG : ∀ σ, G σ → σ.1 = m → pm_Ok σ → pm_At p l e R s mm args below meth c cells slots Q D cA ad fm A ex σ) (ok : pm_Ok (m, pc, ls, st, h)) :
    pm_At p l e R s mm args below meth c cells slots Q D cA ad fm A ex (m, pc, ls, st, h) := by
  obtain ⟨hx, hb, hml, hown, hts, hK, hX, hrf, hrl, hrc, hrs⟩ := F
  obtain ⟨-, ⟨x1, x2, x3⟩, ⟨-, z0⟩, ⟨-, z1⟩, ⟨-, z2⟩, -, -, hStr, -⟩ := hX
  unfold pm_alen at hop
  split at hop
  · rename_i t i st'
    split at hop
    · rename_i hI
      intro H locs la hH hL
      have g1 := hG _ hop rfl ⟨ok.1, ok_push (ok_tl ok.2) (by simp) trivial⟩ H locs la hH hL
      obtain ⟨hP, hD, hS, hE⟩ := hH
      have hoq := ok_hd ok.2
      have hcase : (10 ≤ t ∧ t < 44) ∨ t = 61 ∨ t = 62 ∨ t = 63 ∨ t = 64 ∨ t = 65 := by
        simp only [Bool.or_eq_true, beq_iff_eq] at hI
        rcases hI with (((q | q) | q) | q) | q
        · have := pm_isI_of q; omega
        · have := pm_isW_of q; omega
        · have := pm_isW_of q; omega
        · have := pm_isW_of q; omega
        · omega
      show W p l e R s mm args below meth c H locs cells slots Q (F0 mm pc la (pm_mp ad fm (vr t i) :: st'.map (pm_mp ad fm)))
      rw [pm_mp_ref (by omega)]
      rcases hcase with ⟨h1, h2⟩ | h1
      · have hob : (t, i) ∈ pm_obs := pm_ob_of hoq (by omega)
        obtain ⟨q0, -, hq0⟩ := pm_ws_at (ad := ad) (cA := cA) (h := h) hob
        obtain ⟨t0, ht0⟩ := pm_tys_at (cA := cA) hob h1
        unfold pm_cell at hq0
        rw [if_neg (by omega)] at hq0
        exact va_alen hx hb hK hP q0 t0 hq0 ht0 (by rw [pm_len_in h2]) hdg g1
      · have hi0 : t ≠ 61 → i = 0 := fun hne => by
          rcases hoq with q | ⟨q, -⟩ | ⟨-, -, q⟩ | q
          · have := tf_tag _ q; simp only at this; omega
          · omega
          · exact q
          · omega
        rcases h1 with h1 | h1 | h1 | h1 | h1
        · subst h1
          have hi21 : i < 21 := by
            rcases hoq with q | ⟨-, q⟩ | ⟨q, -, -⟩ | q
            · have := tf_tag _ q; simp only at this; omega
            · exact q
            · omega
            · omega
          exact va_tlen hx hb (hStr i hi21).2.2.2 hS rfl hdg g1
        · have hi := hi0 (by omega); subst hi; subst h1
          exact va_tlen hx hb z0 hS rfl hdg g1
        · have hi := hi0 (by omega); subst hi; subst h1
          exact va_tlen hx hb z1 hS rfl hdg g1
        · have hi := hi0 (by omega); subst hi; subst h1
          exact va_tlen hx hb z2 hS rfl hdg g1
        · have hi := hi0 (by omega); subst hi; subst h1
          have e6 : pm_len h 65 0 = (ex 66 0 0).toNatClampNeg := by rw [← hE 66 (by decide)]; rfl
          refine va_slen hx hb x1 x2 x3 hS hdg ?_
          rw [← e6]
          exact g1
    · exact hop.elim
  · exact hop.elim
end PMA
