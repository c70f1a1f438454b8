section PMH
variable {p : Program} {l : Launch} {e : Env} {R : Room} {s : State} {mm : MethodId} {args : Array Value} {below : List Frame} {meth : Method} {c : Code} {cells slots : Nat} {Q : State → Prop}
variable {D : va_G} {cA : Nat → Nat → ClassId} {ad : Nat → Nat → Nat} {fm : Value} {A : Nat → Prop} {ex : Nat → Nat → Nat → Int32}
variable {m pc : Nat} {ls st : List PV} {h : PH} {G : PS → Prop}
theorem pm_inb_in {j : Int32} {n : Nat} (h : pm_inb j n = true) : vp_in j n := by
  unfold pm_inb at h
  simp only [Bool.and_eq_true, decide_eq_true_eq] at h
  intro q
  rcases q with q | q
  · exact absurd q (Int32.not_lt.mpr h.1)
  · omega
theorem pm_ob_of {t i : Nat} (h : pm_okq t i) (ht : t < 60) : (t, i) ∈ pm_obs := by
  rcases h with h | ⟨h, -⟩ | ⟨h, -, -⟩ | h
  · exact h
  · omega
  · omega
  · omega
theorem pm_cell_o {t i : Nat} (ht : t < 9) : pm_cell ad cA h t i = .inr (t, (List.range (pm_nf t)).map (pm_fv ad h t i)) := by unfold pm_cell; rw [if_pos ht]
theorem pm_cell_I {t i k : Nat} (ht : ¬ t < 9) (hk : pm_ak t = k) (h1 : k ≠ 1) (h3 : k ≠ 3) : pm_cell ad cA h t i = .inl (cA t i, (pm_nth pm_at (t - 10) (9, 0)).2, .inl (h.1 t i)) := by
  unfold pm_cell
  rw [if_neg ht, hk]
  split
  · exact absurd rfl h1
  · exact absurd rfl h3
  · rfl
theorem pm_cell_L {t i : Nat} (ht : ¬ t < 9) (hk : pm_ak t = 1) : pm_cell ad cA h t i = .inl (cA t i, (pm_nth pm_at (t - 10) (9, 0)).2, .inr (.inl (h.2 t i))) := by
  unfold pm_cell
  rw [if_neg ht, hk]
  rfl
theorem pm_cell_R {t i : Nat} (ht : ¬ t < 9) (hk : pm_ak t = 3) : pm_cell ad cA h t i = .inl (cA t i, (pm_nth pm_at (t - 10) (9, 0)).2, .inr (.inr (.inr (.inr (fun j => pm_aad ad (pm_aref t i j)))))) := by
  unfold pm_cell
  rw [if_neg ht, hk]
  rfl
theorem pm_isW_of {t k : Nat} (h : pm_isW t k = true) : 10 ≤ t ∧ t < 44 ∧ pm_ak t = k := by
  unfold pm_isW at h
  simp only [Bool.and_eq_true, decide_eq_true_eq, beq_iff_eq] at h
  exact ⟨h.1.1, h.1.2, h.2⟩
theorem pm_len_in {h : PH} {t i : Nat} (ht : t < 44) : pm_len h t i = (pm_nth pm_at (t - 10) (9, 0)).2 := by unfold pm_len; rw [if_pos ht]
theorem pm_mp_ref {t i : Nat} (ht : t ≠ 67) : pm_mp ad fm (vr t i) = .ref (ad t i) := by
  show (if t = 67 then fm else Value.ref (ad t i)) = .ref (ad t i)
  rw [if_neg ht]
theorem sd_get {idx : Nat} (F : pm_Fr p R s mm args c cells slots D cA ad fm A ex m) (hdg : decode (pm_by m) pc = .ok (.getfield idx, 3)) (hop : pm_get False G idx m (pc + 3) ls st h) (hG : ∀ σ, G σ → σ.1 = m → pm_Ok σ → pm_At p l e R s mm args below meth c cells slots Q D cA ad fm A ex σ) (ok : pm_Ok (m, pc, ls, st, h)) :
    pm_At p l e R s mm args below meth c cells slots Q D cA ad fm A ex (m, pc, ls, st, h) := by
  obtain ⟨hx, hb, hml, hown, hts, hK, hX, hrf, hrl, hrc, hrs⟩ := F
  unfold pm_get at hop
  split at hop
  · rename_i t i st'
    split at hop
    · exact hop.elim
    · rename_i ci k hlk
      split at hop
      · rename_i htc
        subst htc
        have hoq : pm_okq t i := ok_hd ok.2
        intro H locs la hH hL
        obtain ⟨hP, hD, hS, hE⟩ := hH
        split at hop
        · rename_i h60
          subst h60
          have hi21 : i < 21 := by
            rcases hoq with q | ⟨-, q⟩ | ⟨q, -, -⟩ | q
            · have := tf_tag _ q; simp only at this; omega
            · exact q
            · omega
            · omega
          obtain ⟨-, -, -, -, -, -, -, hStr, -⟩ := hX
          obtain ⟨s1, s2, s3, s4⟩ := hStr i hi21
          show W p l e R s mm args below meth c H locs cells slots Q (F0 mm pc la (pm_mp ad fm (vr 60 i) :: st'.map (pm_mp ad fm)))
          rw [pm_mp_ref (by decide)]
          obtain ⟨f0, f1⟩ := tf_fls hlk
          split at hop
          · rename_i hk
            refine vk_getf hx hb s3 hS hown (hts _ (f0 hk)) (fun _ z => z) hdg ?_
            have g1 := hG _ hop rfl ⟨ok.1, ok_push (ok_tl ok.2) (by simp) (Or.inr (Or.inl ⟨Or.inr rfl, hi21⟩))⟩ H locs la ⟨hP, hD, hS, hE⟩ hL
            rw [List.map_cons, pm_mp_ref (by decide)] at g1
            exact g1
          · split at hop
            · rename_i hk
              refine vk_getf hx hb s2 hS hown (hts _ (f1 hk)) (fun _ z => z) hdg ?_
              exact hG _ hop rfl ⟨ok.1, ok_push (ok_tl ok.2) (by simp) trivial⟩ H locs la ⟨hP, hD, hS, hE⟩ hL
            · exact hop.elim
        · rename_i hn60
          have hft : pm_fty t k = 0 ∨ pm_fty t k = 2 ∨ pm_fty t k = 1 ∨ pm_fty t k = 3 := by
            split at hop
            · exact Or.inl (by assumption)
            · exact Or.inr (Or.inl (by assumption))
            · exact Or.inr (Or.inr (Or.inl (by assumption)))
            · exact Or.inr (Or.inr (Or.inr (by assumption)))
            · exact hop.elim
          have ht9 : t < 9 := by
            refine Nat.not_le.mp fun hge => ?_
            have : pm_fty t k = 9 := by
              unfold pm_fty
              rw [pm_nth_eq, pm_nth_eq, List.getD_eq_getElem?_getD, List.getD_eq_getElem?_getD]
              have : pm_ft[t]? = none := by rw [List.getElem?_eq_none_iff]; exact hge
              rw [this]
              simp
            omega
          have hob : (t, i) ∈ pm_obs := pm_ob_of hoq (by omega)
          obtain ⟨C, T, hcl, hkN, hfl, hC, -, -, -⟩ := tf_fld hlk ht9
          obtain ⟨q0, -, hq0⟩ := pm_ws_at (ad := ad) (cA := cA) (h := h) hob
          rw [pm_cell_o ht9] at hq0
          show W p l e R s mm args below meth c H locs cells slots Q (F0 mm pc la (pm_mp ad fm (vr t i) :: st'.map (pm_mp ad fm)))
          rw [pm_mp_ref (by omega)]
          refine va_get (D := D) (ci := t) (v := pm_fv ad h t i k) (C := C) (T := T) (N := pm_nf t) hx hb hts (tf_cls hcl).1 hown hK hP q0 hq0 hcl k hkN (hts _ hfl) (fun _ z => by rw [hC] at z; exact z) (by rw [List.getElem?_map, List.getElem?_range hkN]; rfl) hdg ?_
          split at hop
          · rename_i hz
            rw [show pm_fv ad h t i k = Value.int (h.1 t i k) from by unfold pm_fv; rw [hz]; rfl]
            exact hG _ hop rfl ⟨ok.1, ok_push (ok_tl ok.2) (by simp) trivial⟩ H locs la ⟨hP, hD, hS, hE⟩ hL
          · rename_i hz
            rw [show pm_fv ad h t i k = Value.int (h.1 t i k) from by unfold pm_fv; rw [hz]; rfl]
            exact hG _ hop rfl ⟨ok.1, ok_push (ok_tl ok.2) (by simp) trivial⟩ H locs la ⟨hP, hD, hS, hE⟩ hL
          · rename_i hz
            rw [show pm_fv ad h t i k = Value.long (h.2 t i k) from by unfold pm_fv; rw [hz]; rfl]
            exact hG _ hop rfl ⟨ok.1, ok_push (ok_tl ok.2) (by simp) trivial⟩ H locs la ⟨hP, hD, hS, hE⟩ hL
          · rename_i hz
            rw [show pm_fv ad h t i k = pm_mp ad .null (pm_rf t k i) from by unfold pm_fv; rw [hz]; rfl]
            have hrf := tf_rf _ hob ht9 k hkN hz
            have g1 := hG _ hop rfl ⟨ok.1, ok_push (ok_tl ok.2) (by unfold pm_rf; split <;> simp) hrf⟩ H locs la ⟨hP, hD, hS, hE⟩ hL
            have e1 : pm_mp ad fm (pm_rf t k i) = pm_mp ad .null (pm_rf t k i) := by
              have h67 : ∀ (tt ii : Nat), pm_rf t k i = vr tt ii → tt ≠ 67 → pm_mp ad fm (pm_rf t k i) = pm_mp ad .null (pm_rf t k i) := fun tt ii e0 e1 => by rw [e0, pm_mp_ref e1, pm_mp_ref e1]
              have hlt : ∃ tt ii, pm_rf t k i = vr tt ii ∧ tt ≠ 67 := tf_r67 t k i
              obtain ⟨tt, ii, a1, a2⟩ := hlt
              exact h67 tt ii a1 a2
            rw [List.map_cons, e1] at g1
            exact g1
          · exact hop.elim
      · exact hop.elim
  · exact hop.elim
theorem pm_ws_dom {h h' : PH} : va_D A (pm_ws ad cA h) → va_D A (pm_ws ad cA h') := by
  intro hD
  refine ⟨fun i j a b hi hj e0 => ?_, fun k q hk => ?_⟩
  · unfold pm_ws at hi hj
    rw [List.getElem?_map] at hi hj
    cases ei : pm_obs[i]? with
    | none => rw [ei] at hi; cases hi
    | some x =>
      cases ej : pm_obs[j]? with
      | none => rw [ej] at hj; cases hj
      | some y =>
        rw [ei] at hi; rw [ej] at hj
        have hi := Option.some.inj hi
        have hj := Option.some.inj hj
        subst hi; subst hj
        refine hD.1 i j (ad x.1 x.2, pm_cell ad cA h x.1 x.2) (ad y.1 y.2, pm_cell ad cA h y.1 y.2) (by unfold pm_ws; rw [List.getElem?_map, ei]; rfl) (by unfold pm_ws; rw [List.getElem?_map, ej]; rfl) e0
  · unfold pm_ws at hk
    rw [List.getElem?_map] at hk
    cases ek : pm_obs[k]? with
    | none => rw [ek] at hk; cases hk
    | some x =>
      rw [ek] at hk
      have hk := Option.some.inj hk
      subst hk
      exact hD.2 k (ad x.1 x.2, pm_cell ad cA h x.1 x.2) (by unfold pm_ws; rw [List.getElem?_map, ek]; rfl)
theorem pm_fv_sI {t i k : Nat} {x : Int32} (hk : pm_fty t k = 0 ∨ pm_fty t k = 2) (n : Nat) : (List.range n).map (pm_fv ad (pm_sI h t i k x) t i) = ((List.range n).map (pm_fv ad h t i)).set k (.int x) := by
  refine List.ext_getElem? fun j => ?_
  rw [List.getElem?_set, List.getElem?_map, List.getElem?_map, List.length_map, List.length_range]
  by_cases hj : k = j
  · subst hj
    rw [if_pos rfl]
    by_cases hn : k < n
    · rw [if_pos hn, List.getElem?_range hn]
      show some (pm_fv ad (pm_sI h t i k x) t i k) = some (.int x)
      have e0 : (pm_sI h t i k x).1 t i k = x := by rw [pm_sI_at]; exact if_pos ⟨rfl, rfl, rfl⟩
      unfold pm_fv
      rcases hk with hk | hk <;> rw [hk] <;> simp only [e0]
    · rw [if_neg hn, List.getElem?_eq_none_iff.mpr (by rw [List.length_range]; omega)]
      rfl
  · rw [if_neg hj]
    cases ej : (List.range n)[j]? with
    | none => rfl
    | some y =>
      have hy : y = j := by
        have := List.getElem?_eq_some_iff.mp ej
        obtain ⟨h1, h2⟩ := this
        simp at h2
        exact h2.symm
      subst hy
      show some (pm_fv ad (pm_sI h t i k x) t i y) = some (pm_fv ad h t i y)
      have e0 : (pm_sI h t i k x).1 t i y = h.1 t i y := by rw [pm_sI_at]; exact if_neg (fun z => hj z.2.2.symm)
      have e2 : (pm_sI h t i k x).2 = h.2 := rfl
      unfold pm_fv
      simp only [e0, e2]
theorem pm_fv_sL {t i k : Nat} {x : Int64} (hk : pm_fty t k = 1) (n : Nat) : (List.range n).map (pm_fv ad (pm_sL h t i k x) t i) = ((List.range n).map (pm_fv ad h t i)).set k (.long x) := by
  refine List.ext_getElem? fun j => ?_
  rw [List.getElem?_set, List.getElem?_map, List.getElem?_map, List.length_map, List.length_range]
  by_cases hj : k = j
  · subst hj
    rw [if_pos rfl]
    by_cases hn : k < n
    · rw [if_pos hn, List.getElem?_range hn]
      show some (pm_fv ad (pm_sL h t i k x) t i k) = some (.long x)
      have e0 : (pm_sL h t i k x).2 t i k = x := by rw [pm_sL_at]; exact if_pos ⟨rfl, rfl, rfl⟩
      unfold pm_fv
      rw [hk]
      simp only [e0]
    · rw [if_neg hn, List.getElem?_eq_none_iff.mpr (by rw [List.length_range]; omega)]
      rfl
  · rw [if_neg hj]
    cases ej : (List.range n)[j]? with
    | none => rfl
    | some y =>
      have hy : y = j := by
        have := List.getElem?_eq_some_iff.mp ej
        obtain ⟨h1, h2⟩ := this
        simp at h2
        exact h2.symm
      subst hy
      show some (pm_fv ad (pm_sL h t i k x) t i y) = some (pm_fv ad h t i y)
      have e0 : (pm_sL h t i k x).2 t i y = h.2 t i y := by rw [pm_sL_at]; exact if_neg (fun z => hj z.2.2.symm)
      have e2 : (pm_sL h t i k x).1 = h.1 := rfl
      unfold pm_fv
      simp only [e0, e2]
theorem pm_nar_bool {x : Int32} (hx : x &&& 1 = x) : narrow .boolean (.int x) = .int x ∧ fits .boolean (.int x) = true := by
  constructor
  · show Value.int _ = Value.int x
    first | (rw [hx]) | (congr 1)
  · have hx2 : x = 0 ∨ x = 1 := by
      have h1 : x.toBitVec &&& 1#32 = x.toBitVec := congrArg Int32.toBitVec hx
      have h2 : x.toBitVec = 0#32 ∨ x.toBitVec = 1#32 := by
        have h3 := congrArg BitVec.toNat h1
        rw [BitVec.toNat_and] at h3
        have h4 : x.toBitVec.toNat % 2 = x.toBitVec.toNat := by rw [← Nat.and_one_is_mod]; exact h3
        have h5 : x.toBitVec.toNat = 0 ∨ x.toBitVec.toNat = 1 := by omega
        rcases h5 with h5 | h5
        · exact Or.inl (BitVec.eq_of_toNat_eq h5)
        · exact Or.inr (BitVec.eq_of_toNat_eq h5)
      rcases h2 with h2 | h2
      · exact Or.inl (Int32.toBitVec_inj.mp h2)
      · exact Or.inr (Int32.toBitVec_inj.mp h2)
    rcases hx2 with e0 | e0 <;> rw [e0] <;> decide
end PMH
