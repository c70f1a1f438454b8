/-! ONE ANSWER FOR A STATE: pm_ev, with no fuel; it meets its own equation (ev_st). -/
theorem pm_bI_some {o : Option PR} {f : Int32 → PH → Option PR} {r : PR} (h : pm_bI o f = some r) : ∃ x h1, o = some (some (vi x), h1) ∧ f x h1 = some r := by
  unfold pm_bI at h
  split at h
  · exact ⟨_, _, rfl, h⟩
  · cases h
theorem pm_bL_some {o : Option PR} {f : Int64 → PH → Option PR} {r : PR} (h : pm_bL o f = some r) : ∃ x h1, o = some (some (vl x), h1) ∧ f x h1 = some r := by
  unfold pm_bL at h
  split at h
  · exact ⟨_, _, rfl, h⟩
  · cases h
theorem pm_bV_some {o : Option PR} {f : PH → Option PR} {r : PR} (h : pm_bV o f = some r) : ∃ h1, o = some (none, h1) ∧ f h1 = some r := by
  unfold pm_bV at h
  split at h
  · exact ⟨_, rfl, h⟩
  · cases h
theorem pm_bR_some {o : Option PR} {t : Nat} {f0 : PH → Option PR} {f1 : Nat → PH → Option PR} {r : PR} (h : pm_bR o t f0 f1 = some r) : (∃ h1, o = some (some vn, h1) ∧ f0 h1 = some r) ∨ ∃ i h1, o = some (some (vr t i), h1) ∧ f1 i h1 = some r := by
  unfold pm_bR at h
  split at h
  · exact Or.inl ⟨_, rfl, h⟩
  · split at h
    · rename_i e
      subst e
      exact Or.inr ⟨_, _, rfl, h⟩
    · cases h
  · cases h
theorem pm_bR_self {t i : Nat} {f0 : PH → Option PR} {f1 : Nat → PH → Option PR} {h : PH} : pm_bR (some (some (vr t i), h)) t f0 f1 = f1 i h := by
  unfold pm_bR
  dsimp only
  rw [if_pos rfl]
/-- what a call's answer came from -/
theorem pm_cl_some {f ih : PS → Option PR} {σ : PS} {q : PC} {r : PR} (h : pm_cl f ih σ q = some r) :
    ∃ (a : PR), f σ = some a ∧ (∀ v, a.1 = some v → v ≠ none) ∧ ih (q.1, q.2.1, q.2.2.1, a.1.toList ++ q.2.2.2, a.2) = some r ∧ ∀ (f2 ih2 : PS → Option PR), f2 σ = some a → ih2 (q.1, q.2.1, q.2.2.1, a.1.toList ++ q.2.2.2, a.2) = some r → pm_cl f2 ih2 σ q = some r := by
  unfold pm_cl at h
  split at h
  · rename_i e
    obtain ⟨h1, e1, e2⟩ := pm_bV_some h
    exact ⟨_, e1, (fun v z => by cases z), e2, fun f2 ih2 a b => by unfold pm_cl; rw [e]; (try dsimp only); rw [a]; exact b⟩
  · rename_i e
    obtain ⟨x, h1, e1, e2⟩ := pm_bL_some h
    exact ⟨_, e1, (fun v z => by cases z; simp), e2, fun f2 ih2 a b => by unfold pm_cl; rw [e]; (try dsimp only); rw [a]; exact b⟩
  · rename_i e
    rcases pm_bR_some h with ⟨h1, e1, e2⟩ | ⟨i, h1, e1, e2⟩
    · exact ⟨_, e1, (fun v z => by cases z; simp), e2, fun f2 ih2 a b => by unfold pm_cl; rw [e]; (try dsimp only); rw [a]; exact b⟩
    · exact ⟨_, e1, (fun v z => by cases z; simp), e2, fun f2 ih2 a b => by unfold pm_cl; rw [e]; (try dsimp only); rw [a, pm_bR_self]; exact b⟩
  iterate 4
    rename_i e
    obtain ⟨x, h1, e1, e2⟩ := pm_bI_some h
    exact ⟨_, e1, (fun v z => by cases z; simp), e2, fun f2 ih2 a b => by unfold pm_cl; rw [e]; (try dsimp only); rw [a]; exact b⟩
  · cases h
theorem pm_act_mono {f g : PS → Option PR} (hfg : ∀ σ r, f σ = some r → g σ = some r) {a : PA} {r : PR} (h : pm_act f a = some r) : pm_act g a = some r := by
  unfold pm_act at h ⊢
  split at h
  · cases h
  · exact h
  · exact hfg _ _ h
  · obtain ⟨a, e1, -, e2, k⟩ := pm_cl_some h
    exact k g g (hfg _ _ e1) (hfg _ _ e2)
theorem pm_ex_succ : ∀ (n : Nat) (σ : PS) (r : PR), pm_ex n σ = some r → pm_ex (n + 1) σ = some r
  | 0, _, _, h => by cases h
  | n + 1, σ, r, h => pm_act_mono (fun σ r h => pm_ex_succ n σ r h) (show pm_act (pm_ex n) (pm_pre σ) = some r from h)
theorem pm_ex_le {n : Nat} {σ : PS} {r : PR} (h : pm_ex n σ = some r) : ∀ k, pm_ex (n + k) σ = some r
  | 0 => h
  | k + 1 => pm_ex_succ _ _ _ (pm_ex_le h k)
theorem pm_ex_one {n m : Nat} {σ : PS} {r q : PR} (h : pm_ex n σ = some r) (h2 : pm_ex m σ = some q) : r = q := by
  have a := pm_ex_le h m
  have b := pm_ex_le h2 n
  rw [Nat.add_comm] at b
  exact Option.some.inj (a.symm.trans b)
noncomputable def pm_ev (σ : PS) : Option PR := @dite _ (∃ n r, pm_ex n σ = some r) (Classical.propDecidable _) (fun h => pm_ex h.choose σ) (fun _ => none)
theorem pm_ev_iff {σ : PS} {r : PR} : pm_ev σ = some r ↔ ∃ n, pm_ex n σ = some r := by
  unfold pm_ev
  by_cases h : ∃ n r, pm_ex n σ = some r
  · rw [dif_pos h]
    obtain ⟨q, hq⟩ := h.choose_spec
    constructor
    · intro e; exact ⟨_, e⟩
    · rintro ⟨n, e⟩
      rw [hq, pm_ex_one e hq]
  · rw [dif_neg h]
    constructor
    · intro e; cases e
    · rintro ⟨n, e⟩; exact absurd ⟨n, r, e⟩ h
theorem pm_opt_ext {α : Type} {a b : Option α} (h : ∀ r, a = some r ↔ b = some r) : a = b := by
  cases a with
  | none => cases b with
    | none => rfl
    | some y => exact absurd ((h y).mpr rfl) (by simp)
  | some z => exact ((h z).mp rfl).symm
theorem ev_step (σ : PS) : pm_ev σ = pm_act pm_ev (pm_pre σ) := by
  refine pm_opt_ext fun r => ?_
  constructor
  · intro h
    obtain ⟨n, hn⟩ := pm_ev_iff.mp h
    cases n with
    | zero => cases hn
    | succ n => exact pm_act_mono (fun σ r h => pm_ev_iff.mpr ⟨n, h⟩) (show pm_act (pm_ex n) (pm_pre σ) = some r from hn)
  · intro h
    rw [pm_ev_iff]
    cases e : pm_pre σ with
    | none => rw [e] at h; cases h
    | some a =>
      rw [e] at h
      rcases a with q | σ' | ⟨σ', k⟩
      · exact ⟨1, by show pm_act (pm_ex 0) (pm_pre σ) = some r; rw [e]; exact h⟩
      · obtain ⟨n, hn⟩ := pm_ev_iff.mp (show pm_ev σ' = some r from h)
        exact ⟨n + 1, by show pm_act (pm_ex n) (pm_pre σ) = some r; rw [e]; exact hn⟩
      · obtain ⟨a, e1, -, e2, kk⟩ := pm_cl_some (show pm_cl pm_ev pm_ev σ' k = some r from h)
        obtain ⟨n1, hn1⟩ := pm_ev_iff.mp e1
        obtain ⟨n2, hn2⟩ := pm_ev_iff.mp e2
        refine ⟨n1 + n2 + 1, ?_⟩
        show pm_act (pm_ex (n1 + n2)) (pm_pre σ) = some r
        rw [e]
        refine kk _ _ (pm_ex_le hn1 n2) ?_
        rw [Nat.add_comm n1 n2]
        exact pm_ex_le hn2 n1
/-- a step's result passes through any function -/
theorem pm_sw_nat {α β : Type} (φ : α → β) (k : Int → α) (x : Int32) : ∀ (l : List Int) (a d : Int), φ (pm_sw k x a l d) = pm_sw (fun o => φ (k o)) x a l d
  | [], _, _ => rfl
  | o :: l, a, d => by
    unfold pm_sw
    split
    · rfl
    · exact pm_sw_nat φ k x l (a + 1) d
theorem pm_ls_nat {α β : Type} (φ : α → β) (k : Int → α) (x : Int32) : ∀ (l : List (Int × Int)) (d : Int), φ (pm_ls k x l d) = pm_ls (fun o => φ (k o)) x l d
  | [], _ => rfl
  | (a, o) :: l, d => by
    unfold pm_ls
    split
    · rfl
    · exact pm_ls_nat φ k x l d
section NAT
variable {α β : Type} (φ : α → β) (z : α) (g : PS → α) (r : PR → α) (c : PS → PC → α)
set_option maxHeartbeats 4000000 in
theorem pm_op_nat (m pc nx : Nat) (ls st : List PV) (h : PH) (ins : Instr) : φ (pm_op z g r c m pc nx ls st h ins) = pm_op (φ z) (fun σ => φ (g σ)) (fun q => φ (r q)) (fun σ k => φ (c σ k)) m pc nx ls st h ins := by
  cases ins
  case tableswitch => unfold pm_op; dsimp only; (repeat' split) <;> first | rfl | exact pm_sw_nat φ _ _ _ _ _
  case lookupswitch => unfold pm_op; dsimp only; (repeat' split) <;> first | rfl | exact pm_ls_nat φ _ _ _ _
  case invokevirtual => unfold pm_op pm_inv pm_call; dsimp only; (repeat' split) <;> first | rfl | skip
  case invokestatic => unfold pm_op pm_inv pm_call; dsimp only; (repeat' split) <;> first | rfl | skip
  all_goals first | rfl | (unfold pm_op; dsimp only [pm_ild, pm_lld, pm_ald, pm_ist, pm_lst, pm_ast, pm_b1, pm_b2, pm_l2, pm_lsh, pm_if1, pm_if2, pm_ifz, pm_ifc, pm_get, pm_put, pm_gst, pm_iald, pm_bald, pm_lald, pm_aald, pm_iast, pm_bast, pm_last, pm_alen]; (repeat' split) <;> rfl)
theorem pm_st_nat (σ : PS) : φ (pm_st z g r c σ) = pm_st (φ z) (fun σ => φ (g σ)) (fun q => φ (r q)) (fun σ k => φ (c σ k)) σ := by
  obtain ⟨m, pc, ls, st, h⟩ := σ
  unfold pm_st
  dsimp only
  cases pm_fetch m pc with
  | none => rfl
  | some q => exact pm_op_nat φ z g r c m pc _ _ st h _
end NAT
theorem ev_st (σ : PS) : pm_ev σ = pm_st none pm_ev some (pm_cl pm_ev pm_ev) σ := by
  rw [ev_step]
  exact pm_st_nat (pm_act pm_ev) _ _ _ _ σ
theorem pm_mk_mk (kp : Option (List Bool)) (ls : List PV) : pm_mk kp (pm_mk kp ls) = pm_mk kp ls := by
  unfold pm_mk
  cases kp with
  | none => rfl
  | some bs =>
    dsimp only
    induction bs generalizing ls with
    | nil => rfl
    | cons b bs ih =>
      cases ls with
      | nil => rfl
      | cons v ls =>
        rw [List.zipWith_cons_cons, List.zipWith_cons_cons, ih]
        cases b <;> rfl
/-- the locals that are dead at a jump's target may be forgotten there -/
noncomputable def pm_evm (σ : PS) : Option PR := match σ with
  | (m, pc, ls, st, h) => match pm_fetch m pc with
    | some (_, _, kp) => pm_ev (m, pc, pm_mk kp ls, st, h)
    | none => pm_ev (m, pc, ls, st, h)
theorem pm_evm_eq (σ : PS) : pm_evm σ = pm_ev σ := by
  obtain ⟨m, pc, ls, st, h⟩ := σ
  unfold pm_evm
  dsimp only
  cases hf : pm_fetch m pc with
  | none => rfl
  | some q =>
    obtain ⟨i, n, kp⟩ := q
    dsimp only
    rw [ev_st (m, pc, pm_mk kp ls, st, h), ev_st (m, pc, ls, st, h)]
    unfold pm_st
    dsimp only
    rw [hf]
    dsimp only
    rw [pm_mk_mk]
/-- up to n steps, up to the program counters cs (a first step is always done); a call's answer is taken, the callee isn't gone into -/
noncomputable def pm_rc (cs : List Nat) : Nat → PS → Option PR
  | 0 => pm_ev
  | n + 1 => fun σ => match cs.elem σ.2.1 with
    | true => pm_evm σ
    | false => pm_st none (pm_rc cs n) some (pm_cl pm_ev (pm_rc cs n)) σ
theorem ev_rc0 (cs : List Nat) : ∀ (n : Nat), pm_rc cs n = pm_ev
  | 0 => rfl
  | n + 1 => by
    funext σ
    show (match cs.elem σ.2.1 with | true => pm_evm σ | false => pm_st none (pm_rc cs n) some (pm_cl pm_ev (pm_rc cs n)) σ) = pm_ev σ
    cases cs.elem σ.2.1 with
    | true => exact pm_evm_eq σ
    | false => rw [ev_rc0 cs n]; exact (ev_st σ).symm
theorem ev_rc (cs : List Nat) (n : Nat) (σ : PS) : pm_ev σ = pm_st none (pm_rc cs n) some (pm_cl pm_ev (pm_rc cs n)) σ := by
  rw [ev_rc0 cs n]
  exact ev_st σ
