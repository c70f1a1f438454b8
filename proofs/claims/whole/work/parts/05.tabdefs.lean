/-! THE SIMPLE MACHINE: ints, longs and numbered references; every object of the system has a tag (its class, or the field whose array it is) and a number; which object a reference field holds is fixed once the constructors have run. -/
abbrev PV : Type := Option (Int32 ⊕ (Int64 ⊕ Option (Nat × Nat)))
abbrev vi (x : Int32) : PV := some (.inl x)
abbrev vl (x : Int64) : PV := some (.inr (.inl x))
abbrev vr (t i : Nat) : PV := some (.inr (.inr (some (t, i))))
abbrev vn : PV := some (.inr (.inr none))
abbrev PH : Type := (Nat → Nat → Nat → Int32) × (Nat → Nat → Nat → Int64)
abbrev PS : Type := Nat × Nat × List PV × List PV × PH
abbrev PR : Type := Option PV × PH
abbrev PC : Type := Nat × Nat × List PV × List PV
abbrev PA : Type := Option (PR ⊕ (PS ⊕ (PS × PC)))
def pm_sI (h : PH) (t i k : Nat) (v : Int32) : PH := (fun a b c => if a = t ∧ b = i ∧ c = k then v else h.1 a b c, h.2)
def pm_sL (h : PH) (t i k : Nat) (v : Int64) : PH := (h.1, fun a b c => if a = t ∧ b = i ∧ c = k then v else h.2 a b c)
/-- a stretch of ints copied: n of them from (t, i) at sp to (t', i') at dp -/
def pm_cp (h : PH) (t i sp t' i' dp n : Nat) : PH := (fun a b c => if a = t' ∧ b = i' ∧ dp ≤ c ∧ c < dp + n then h.1 t i (sp + (c - dp)) else h.1 a b c, h.2)
def pm_cat (v : PV) : Nat := match v with
  | some (.inr (.inl _)) => 2
  | _ => 1
def pm_M (m : Nat) : PI := pm_T.getD m (0, 0, 0, 0, 0, 0, 0, [])
def pm_own (m : Nat) : Nat := (pm_M m).1
def pm_mxl (m : Nat) : Nat := (pm_M m).2.1
def pm_ret (m : Nat) : Nat := (pm_M m).2.2.1
def pm_na (m : Nat) : Nat := (pm_M m).2.2.2.1
def pm_cls (m : Nat) : Nat := (pm_M m).2.2.2.2.1
def pm_fr (m : Nat) : Nat := (pm_M m).2.2.2.2.2.1
def pm_lo (m : Nat) : Nat := (pm_M m).2.2.2.2.2.2.1
def pm_cd (m : Nat) : List (Nat × Instr × Nat × Option (List Bool)) := (pm_M m).2.2.2.2.2.2.2
def pm_fetch (m pc : Nat) : Option (Instr × Nat × Option (List Bool)) := (pm_cd m).lookup pc
def pm_fty (ci k : Nat) : Nat := (pm_ft.getD ci []).getD k 9
def pm_rf (ci k i : Nat) : PV := match (pm_rt.getD ci []).getD k (0, 0, 0) with
  | (t, 0, b) => vr t b
  | (t, _, _) => vr t i
def pm_ak (t : Nat) : Nat := (pm_at.getD (t - 10) (9, 0)).1
def pm_aref (t i j : Nat) : PV := match pm_ra.getD (t - 10) (0, 0, 0) with
  | (t', a, b) => vr t' (j + (a * i + b))
