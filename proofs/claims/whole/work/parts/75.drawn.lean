/-! ===== nights by a seed ===== -/
theorem i32_nat (x : Int32) : x = nI x.toBitVec.toNat := Int32.toBitVec_inj.mp (by
  show x.toBitVec = BitVec.ofNat 32 x.toBitVec.toNat
  simp)
def nxS (x : Int32) : Int32 := x * 1103515245 + 12345
def rnd (x : Int32) (m : Nat) : Nat := (nxS x).toBitVec.toNat / 2 ^ 16 % m
theorem rnd_lt (x : Int32) {m : Nat} (h : 0 < m) : rnd x m < m := Nat.mod_lt _ h
theorem ush16 (x : Int32) : (x.toUInt32 >>> ((16 : Int32).toUInt32 &&& Int32.toUInt32 31)).toInt32 = nI (x.toBitVec.toNat / 2 ^ 16) := by
  have h := nn_ushr (n := x.toBitVec.toNat) (k := 16) x.toBitVec.isLt (by decide)
  rw [← i32_nat x] at h
  exact h
theorem ush16_lt (x : Int32) : x.toBitVec.toNat / 2 ^ 16 < 65536 := by
  have := x.toBitVec.isLt
  omega
theorem rem_val (x : Int32) {m : Nat} (h0 : 0 < m) (hm : m < 1000) : ((nxS x).toUInt32 >>> ((16 : Int32).toUInt32 &&& Int32.toUInt32 31)).toInt32 - ((nxS x).toUInt32 >>> ((16 : Int32).toUInt32 &&& Int32.toUInt32 31)).toInt32 / nI m * nI m = nI (rnd x m) := by
  have := ush16_lt (nxS x)
  rw [ush16, nn_div (by omega) h0 (by omega), nn_rem (by omega) h0 (by omega)]
  rfl
theorem below_C (h : PH) {m : Nat} (h0 : 0 < m) (hm : m < 1000) : pm_ev (32, 0, [vr 1 0, vi (nI m)], [], h) = some (some (vi (nI (rnd (h.1 1 0 5) m))), pm_sI h 1 0 5 (nxS (h.1 1 0 5))) := by
  have e : h.1 1 0 5 * 1103515245 + 12345 = nxS (h.1 1 0 5) := rfl
  rw [E_X1_below, show (1 : Int32) = nI 1 from rfl, if_neg (fun z => by have := (nn_lt (by omega) (by decide)).mp z; omega), show (0 : Int32) = nI 0 from rfl, if_neg (fun z => by have := (nn_eq (by omega) (by decide)).mp z; omega), e, sI_same, rem_val _ h0 hm]
theorem below_M (g : PH) {m : Nat} (h0 : 0 < m) (hm : m < 1000) : pm_ev (261, 0, [vr 8 0, vi (nI m)], [], g) = some (some (vi (nI (rnd (g.1 8 0 36) m))), pm_sI g 8 0 36 (nxS (g.1 8 0 36))) := by
  have e : g.1 8 0 36 * 1103515245 + 12345 = nxS (g.1 8 0 36) := rfl
  rw [E_X9_below, show (0 : Int32) = nI 0 from rfl, if_neg (fun z => by have := (nn_eq (by omega) (by decide)).mp z; omega), e, sI_same, rem_val _ h0 hm]
/-- how both draw their numbers -/
def RdOk (nx : Int32 → Int32) (rd : Int32 → Nat → Nat) : Prop := (∀ x m, 0 < m → rd x m < m) ∧ (∀ (h : PH) (m : Nat), 0 < m → m < 1000 → pm_ev (32, 0, [vr 1 0, vi (nI m)], [], h) = some (some (vi (nI (rd (h.1 1 0 5) m))), pm_sI h 1 0 5 (nx (h.1 1 0 5)))) ∧ ∀ (g : PH) (m : Nat), 0 < m → m < 1000 → pm_ev (261, 0, [vr 8 0, vi (nI m)], [], g) = some (some (vi (nI (rd (g.1 8 0 36) m))), pm_sI g 8 0 36 (nx (g.1 8 0 36)))
theorem ex_rd : ∃ nx rd, RdOk nx rd := ⟨nxS, rnd, fun x _ h => rnd_lt x h, fun h _ h0 hm => below_C h h0 hm, fun g _ h0 hm => below_M g h0 hm⟩
def aDrwX (d : Nat) (y2 y4 : Int32) : Int32 := if d = 4 then y4 else y2
def aDrwC (s d k m : Nat) (σ : CrS) : CrS := if d < 4 then (aDo σ 0 s d 0).2 else if d = 4 then (aDo σ 1 s k m).2 else if d = 5 then (aDo σ 2 s 0 0).2 else (aDo σ 3 0 0 0).2
def aDrawX (nx : Int32 → Int32) (rd : Int32 → Nat → Nat) (x : Int32) : Int32 := aDrwX (rd (nx x) 8) (nx (nx x)) (nx (nx (nx (nx x))))
def aDrawC (nx : Int32 → Int32) (rd : Int32 → Nat → Nat) (x : Int32) (σ : CrS) : CrS := aDrwC (rd x (σ.1 6).val) (rd (nx x) 8) (rd (nx (nx x)) 4) (rd (nx (nx (nx x))) 10) σ
theorem aDo_6 {σ : CrS} {kd s b m : Nat} (hs : s < 4) (hb : b < 4) : (aDo σ kd s b m).2.1 6 = σ.1 6 := by
  unfold aDo
  split
  · split <;> rfl
  · unfold aAct
    split
    · split
      · split
        · exact go_o _ _ _ (by omega) (by omega)
        · rfl
      · split
        · split
          · exact plain_o _ _ (by omega) (by omega)
          · rfl
        · split
          · rfl
          · exact cU_ne _ _ (by omega)
    · rfl
