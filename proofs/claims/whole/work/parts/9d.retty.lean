/-! ===== an answer has the kind that its method says ===== -/
def okR (m : Nat) (q : PR) : Prop := (pm_ret m = 1 ∨ pm_ret m = 2 → ∃ x, q.1 = some (vi x)) ∧ (pm_ret m = 3 → ∃ x, q.1 = some (vl x))
theorem pm_sw_all {k : Int → Prop} (hk : ∀ o, k o) (x : Int32) : ∀ (l : List Int) (a d : Int), pm_sw k x a l d
  | [], _, d => hk d
  | o :: l, a, d => by
    unfold pm_sw
    split
    · exact hk o
    · exact pm_sw_all hk x l (a + 1) d
theorem pm_ls_all {k : Int → Prop} (hk : ∀ o, k o) (x : Int32) : ∀ (l : List (Int × Int)) (d : Int), pm_ls k x l d
  | [], d => hk d
  | (a, o) :: l, d => by
    unfold pm_ls
    split
    · exact hk o
    · exact pm_ls_all hk x l d
set_option maxHeartbeats 4000000 in
theorem pm_op_ok (m pc nx : Nat) (ls st : List PV) (h : PH) (ins : Instr) : pm_op True (fun σ => σ.1 = m) (okR m) (fun _ k => k.1 = m) m pc nx ls st h ins := by
  cases ins
  case tableswitch => unfold pm_op; dsimp only; (repeat' split) <;> first | trivial | exact pm_sw_all (fun _ => rfl) _ _ _ _
  case lookupswitch => unfold pm_op; dsimp only; (repeat' split) <;> first | trivial | exact pm_ls_all (fun _ => rfl) _ _ _
  case invokevirtual => unfold pm_op pm_inv pm_call; dsimp only; (repeat' split) <;> first | trivial | rfl
  case invokestatic => unfold pm_op pm_inv pm_call; dsimp only; (repeat' split) <;> first | trivial | rfl
  case ireturn =>
    unfold pm_op; dsimp only
    split
    · split
      · exact ⟨fun _ => ⟨_, rfl⟩, fun z => by simp_all⟩
      · split
        · exact ⟨fun _ => ⟨_, rfl⟩, fun z => by simp_all⟩
        · trivial
      · split
        · exact ⟨fun _ => ⟨_, rfl⟩, fun z => by simp_all⟩
        · trivial
      · split
        · exact ⟨fun _ => ⟨_, rfl⟩, fun z => by simp_all⟩
        · trivial
      · trivial
    · trivial
  case lreturn =>
    unfold pm_op; dsimp only
    split
    · split
      · rename_i q
        exact ⟨fun z => by rw [q] at z; omega, fun _ => ⟨_, rfl⟩⟩
      · trivial
    · trivial
  case areturn =>
    unfold pm_op; dsimp only
    split
    · split
      · rename_i q
        exact ⟨fun z => by rw [q] at z; omega, fun z => by rw [q] at z; omega⟩
      · trivial
    · trivial
  case return_ =>
    unfold pm_op; dsimp only
    split
    · split
      · rename_i q
        exact ⟨fun z => by rw [q] at z; omega, fun z => by rw [q] at z; omega⟩
      · trivial
    · trivial
  all_goals first | trivial | rfl | (unfold pm_op; dsimp only [pm_ild, pm_lld, pm_ald, pm_ist, pm_lst, pm_ast, pm_b1, pm_b2, pm_l2, pm_lsh, pm_if1, pm_if2, pm_ifz, pm_ifc, pm_get, pm_put, pm_gst, pm_iald, pm_bald, pm_lald, pm_aald, pm_iast, pm_bast, pm_last, pm_alen]; (repeat' split) <;> first | trivial | rfl)
def okA (m : Nat) (a : PA) : Prop := match a with
  | none => True
  | some (.inl q) => okR m q
  | some (.inr (.inl σ)) => σ.1 = m
  | some (.inr (.inr (_, k))) => k.1 = m
theorem pre_ok (σ : PS) : okA σ.1 (pm_pre σ) := by
  have e := pm_st_nat (okA σ.1) none (fun σ => some (.inr (.inl σ))) (fun r => some (.inl r)) (fun σ k => some (.inr (.inr (σ, k)))) σ
  have e : okA σ.1 (pm_pre σ) = pm_st True (fun σ' => σ'.1 = σ.1) (okR σ.1) (fun _ k => k.1 = σ.1) σ := e
  rw [e]
  obtain ⟨m, pc, ls, st, h⟩ := σ
  unfold pm_st
  dsimp only
  cases pm_fetch m pc with
  | none => trivial
  | some q => exact pm_op_ok m pc _ _ st h _
theorem ex_ok : ∀ (n : Nat) (σ : PS) (q : PR), pm_ex n σ = some q → okR σ.1 q
  | 0, _, _, h => by cases h
  | n + 1, σ, q, h => by
    have h : pm_act (pm_ex n) (pm_pre σ) = some q := h
    have k := pre_ok σ
    cases e : pm_pre σ with
    | none => rw [e] at h; cases h
    | some a =>
      rw [e] at h k
      rcases a with r | σ' | ⟨σ', c⟩
      · have h : some r = some q := h
        cases h
        exact k
      · have k : σ'.1 = σ.1 := k
        rw [← k]
        exact ex_ok n σ' q h
      · have k : c.1 = σ.1 := k
        obtain ⟨a, _, _, e2, _⟩ := pm_cl_some (show pm_cl (pm_ex n) (pm_ex n) σ' c = some q from h)
        have := ex_ok n _ q e2
        rw [← k]
        exact this
theorem ev_vi {σ : PS} {v : PV} {h : PH} (hm : pm_ret σ.1 = 1 ∨ pm_ret σ.1 = 2) (e : pm_ev σ = some (some v, h)) : ∃ x, v = vi x := by
  obtain ⟨n, hn⟩ := pm_ev_iff.mp e
  obtain ⟨x, hx⟩ := (ex_ok n σ _ hn).1 hm
  exact ⟨x, Option.some.inj hx⟩
theorem ev_vl {σ : PS} {v : PV} {h : PH} (hm : pm_ret σ.1 = 3) (e : pm_ev σ = some (some v, h)) : ∃ x, v = vl x := by
  obtain ⟨n, hn⟩ := pm_ev_iff.mp e
  obtain ⟨x, hx⟩ := (ex_ok n σ _ hn).2 hm
  exact ⟨x, Option.some.inj hx⟩
