/-! ===== PURE LIBRARY: numbers, bits, boards ===== -/
def iI (z : Int) : Int32 := Int32.ofInt z
theorem iI_nat (n : Nat) : iI (n : Int) = nI n := Int32.ofInt_eq_ofNat
theorem iI_of (x : Int32) : iI x.toInt = x := Int32.ofInt_toInt x
theorem iI_toInt {z : Int} (h1 : -2147483648 ≤ z) (h2 : z < 2147483648) : (iI z).toInt = z := Int32.toInt_ofInt_of_le h1 h2
theorem iI_rng (x : Int32) : -2147483648 ≤ x.toInt ∧ x.toInt < 2147483648 := ⟨Int32.le_toInt x, Int32.toInt_lt x⟩
theorem iI_ex (x : Int32) : ∃ z : Int, -2147483648 ≤ z ∧ z < 2147483648 ∧ x = iI z := ⟨x.toInt, (iI_rng x).1, (iI_rng x).2, (iI_of x).symm⟩
theorem iI_add (a b : Int) : iI a + iI b = iI (a + b) := (Int32.ofInt_add a b).symm
theorem iI_sub (a b : Int) : iI a - iI b = iI (a - b) := (Int32.ofInt_sub a b).symm
theorem iI_mul (a b : Int) : iI a * iI b = iI (a * b) := (Int32.ofInt_mul a b).symm
theorem iI_neg (a : Int) : -iI a = iI (-a) := (Int32.ofInt_neg a).symm
theorem nI_sub (a b : Nat) : nI a - nI b = iI ((a : Int) - b) := by rw [← iI_nat, ← iI_nat, iI_sub]
theorem nI_mul (a b : Nat) : nI a * nI b = nI (a * b) := by rw [← iI_nat, ← iI_nat, iI_mul, ← iI_nat, Int.natCast_mul]
theorem iI_addn (a : Int) (b : Nat) : iI a + nI b = iI (a + b) := by rw [← iI_nat, iI_add]
theorem iI_nadd (a : Nat) (b : Int) : nI a + iI b = iI (a + b) := by rw [← iI_nat, iI_add]
theorem iI_subn (a : Int) (b : Nat) : iI a - nI b = iI (a - b) := by rw [← iI_nat, iI_sub]
theorem iI_nsub (a : Nat) (b : Int) : nI a - iI b = iI (a - b) := by rw [← iI_nat, iI_sub]
theorem iI_lt {a b : Int} (h1 : -2147483648 ≤ a) (h2 : a < 2147483648) (h3 : -2147483648 ≤ b) (h4 : b < 2147483648) : iI a < iI b ↔ a < b := by
  rw [Int32.lt_iff_toInt_lt, iI_toInt h1 h2, iI_toInt h3 h4]
theorem iI_le {a b : Int} (h1 : -2147483648 ≤ a) (h2 : a < 2147483648) (h3 : -2147483648 ≤ b) (h4 : b < 2147483648) : iI a ≤ iI b ↔ a ≤ b := by
  rw [Int32.le_iff_toInt_le, iI_toInt h1 h2, iI_toInt h3 h4]
theorem iI_eq {a b : Int} (h1 : -2147483648 ≤ a) (h2 : a < 2147483648) (h3 : -2147483648 ≤ b) (h4 : b < 2147483648) : iI a = iI b ↔ a = b := by
  rw [← Int32.toInt_inj, iI_toInt h1 h2, iI_toInt h3 h4]
theorem ni_lt {a : Nat} {b : Int} (h2 : a < 2147483648) (h3 : -2147483648 ≤ b) (h4 : b < 2147483648) : nI a < iI b ↔ (a : Int) < b := by
  rw [← iI_nat, iI_lt (by omega) (by omega) h3 h4]
theorem in_lt {a : Int} {b : Nat} (h2 : b < 2147483648) (h3 : -2147483648 ≤ a) (h4 : a < 2147483648) : iI a < nI b ↔ a < (b : Int) := by
  rw [← iI_nat, iI_lt h3 h4 (by omega) (by omega)]
theorem ni_le {a : Nat} {b : Int} (h2 : a < 2147483648) (h3 : -2147483648 ≤ b) (h4 : b < 2147483648) : nI a ≤ iI b ↔ (a : Int) ≤ b := by
  rw [← iI_nat, iI_le (by omega) (by omega) h3 h4]
theorem in_le {a : Int} {b : Nat} (h2 : b < 2147483648) (h3 : -2147483648 ≤ a) (h4 : a < 2147483648) : iI a ≤ nI b ↔ a ≤ (b : Int) := by
  rw [← iI_nat, iI_le h3 h4 (by omega) (by omega)]
theorem in_eq {a : Int} {b : Nat} (h2 : b < 2147483648) (h3 : -2147483648 ≤ a) (h4 : a < 2147483648) : iI a = nI b ↔ a = (b : Int) := by
  rw [← iI_nat, iI_eq h3 h4 (by omega) (by omega)]
theorem ni_eq {a : Int} {b : Nat} (h2 : b < 2147483648) (h3 : -2147483648 ≤ a) (h4 : a < 2147483648) : nI b = iI a ↔ (b : Int) = a := by
  rw [← iI_nat, iI_eq (by omega) (by omega) h3 h4]
theorem nn_lt {a b : Nat} (h : a < 2147483648) (h2 : b < 2147483648) : nI a < nI b ↔ a < b := nI_ltI h h2
theorem nn_le {a b : Nat} (h : a < 2147483648) (h2 : b < 2147483648) : nI a ≤ nI b ↔ a ≤ b := nI_leI h h2
theorem nn_eq {a b : Nat} (h : a < 2147483648) (h2 : b < 2147483648) : nI a = nI b ↔ a = b := nI_eq h h2
theorem nn_sub {a b : Nat} (h : b ≤ a) : nI a - nI b = nI (a - b) := pk_sub h
theorem nn_clamp {n : Nat} (h : n < 2147483648) : (nI n).toNatClampNeg = n := nI_clamp h
theorem iI_clamp {z : Int} (h1 : -2147483648 ≤ z) (h2 : z < 2147483648) : (iI z).toNatClampNeg = z.toNat := Int32.toNatClampNeg_ofInt_of_le h1 h2
theorem iI_toNat {z : Int} (h : 0 ≤ z) : iI z = nI z.toNat := by rw [← iI_nat]; congr 1; omega
theorem inb_n {n N : Nat} (h : n < N) (hn : n < 2147483648) : pm_inb (nI n) N = true := by
  unfold pm_inb
  rw [nI_clamp hn, decide_eq_true (nI_pos' hn), decide_eq_true h]; rfl
theorem nn_div {a d : Nat} (ha : a < 2147483648) (h0 : 0 < d) (hd : d < 2147483648) : nI a / nI d = nI (a / d) := pk_div ha h0 hd
theorem nn_rem {a d : Nat} (ha : a < 2147483648) (h0 : 0 < d) (hd : d < 2147483648) : nI a - nI (a / d) * nI d = nI (a % d) := by
  rw [← nn_div ha h0 hd]; exact pk_rem ha h0 hd
theorem nn_rem2 {a d : Nat} (ha : a < 2147483648) (h0 : 0 < d) (hd : d < 2147483648) : nI a - nI (a / d * d) = nI (a % d) := by
  rw [← nI_mul]; exact nn_rem ha h0 hd
theorem neg1 : (-1 : Int32) = iI (-1) := rfl
theorem neg2 : (-2 : Int32) = iI (-2) := rfl
/-! literals -/
theorem z_0 : (0 : Int32) = nI 0 := rfl
theorem z_1 : (1 : Int32) = nI 1 := rfl
theorem z_2 : (2 : Int32) = nI 2 := rfl
theorem z_3 : (3 : Int32) = nI 3 := rfl
theorem z_4 : (4 : Int32) = nI 4 := rfl
theorem z_5 : (5 : Int32) = nI 5 := rfl
theorem z_6 : (6 : Int32) = nI 6 := rfl
theorem z_7 : (7 : Int32) = nI 7 := rfl
theorem z_8 : (8 : Int32) = nI 8 := rfl
theorem z_9 : (9 : Int32) = nI 9 := rfl
theorem z_10 : (10 : Int32) = nI 10 := rfl
theorem z_11 : (11 : Int32) = nI 11 := rfl
theorem z_12 : (12 : Int32) = nI 12 := rfl
theorem z_13 : (13 : Int32) = nI 13 := rfl
theorem z_14 : (14 : Int32) = nI 14 := rfl
theorem z_15 : (15 : Int32) = nI 15 := rfl
theorem z_16 : (16 : Int32) = nI 16 := rfl
theorem z_17 : (17 : Int32) = nI 17 := rfl
theorem z_18 : (18 : Int32) = nI 18 := rfl
theorem z_19 : (19 : Int32) = nI 19 := rfl
theorem z_20 : (20 : Int32) = nI 20 := rfl
theorem z_21 : (21 : Int32) = nI 21 := rfl
theorem z_22 : (22 : Int32) = nI 22 := rfl
theorem z_23 : (23 : Int32) = nI 23 := rfl
theorem z_24 : (24 : Int32) = nI 24 := rfl
theorem z_29 : (29 : Int32) = nI 29 := rfl
theorem z_30 : (30 : Int32) = nI 30 := rfl
theorem z_31 : (31 : Int32) = nI 31 := rfl
theorem z_32 : (32 : Int32) = nI 32 := rfl
theorem z_39 : (39 : Int32) = nI 39 := rfl
theorem z_40 : (40 : Int32) = nI 40 := rfl
theorem z_48 : (48 : Int32) = nI 48 := rfl
theorem z_49 : (49 : Int32) = nI 49 := rfl
theorem z_50 : (50 : Int32) = nI 50 := rfl
theorem z_60 : (60 : Int32) = nI 60 := rfl
theorem z_64 : (64 : Int32) = nI 64 := rfl
theorem z_69 : (69 : Int32) = nI 69 := rfl
theorem z_78 : (78 : Int32) = nI 78 := rfl
theorem z_99 : (99 : Int32) = nI 99 := rfl
theorem z_100 : (100 : Int32) = nI 100 := rfl
theorem z_142 : (142 : Int32) = nI 142 := rfl
theorem z_161 : (161 : Int32) = nI 161 := rfl
theorem z_600 : (600 : Int32) = nI 600 := rfl
theorem z_610 : (610 : Int32) = nI 610 := rfl
theorem z_894 : (894 : Int32) = nI 894 := rfl
theorem z_999 : (999 : Int32) = nI 999 := rfl
theorem z_1000 : (1000 : Int32) = nI 1000 := rfl
theorem z_1216 : (1216 : Int32) = nI 1216 := rfl
theorem z_1276 : (1276 : Int32) = nI 1276 := rfl
/-! comparisons that omega decides -/
theorem t_lt {a b : Nat} (h : a < b) : (a < b) = True := eq_true h
theorem f_lt {a b : Nat} (h : b ≤ a) : (a < b) = False := eq_false (by omega)
theorem t_le {a b : Nat} (h : a ≤ b) : (a ≤ b) = True := eq_true h
theorem f_le {a b : Nat} (h : b < a) : (a ≤ b) = False := eq_false (by omega)
theorem t_eq {a b : Nat} (h : a = b) : (a = b) = True := eq_true h
theorem f_eq {a b : Nat} (h : a ≠ b) : (a = b) = False := eq_false h
theorem ti_lt {a b : Int} (h : a < b) : (a < b) = True := eq_true h
theorem fi_lt {a b : Int} (h : b ≤ a) : (a < b) = False := eq_false (by omega)
theorem ti_le {a b : Int} (h : a ≤ b) : (a ≤ b) = True := eq_true h
theorem fi_le {a b : Int} (h : b < a) : (a ≤ b) = False := eq_false (by omega)
theorem ti_eq {a b : Int} (h : a = b) : (a = b) = True := eq_true h
theorem fi_eq {a b : Int} (h : a ≠ b) : (a = b) = False := eq_false h
/-! calls' answers -/
theorem bI_s (x : Int32) (h : PH) (f : Int32 → PH → Option PR) : pm_bI (some (some (vi x), h)) f = f x h := rfl
theorem bL_s (x : Int64) (h : PH) (f : Int64 → PH → Option PR) : pm_bL (some (some (vl x), h)) f = f x h := rfl
theorem bV_s (h : PH) (f : PH → Option PR) : pm_bV (some (none, h)) f = f h := rfl
theorem bR_n (h : PH) (t : Nat) (f0 : PH → Option PR) (f1 : Nat → PH → Option PR) : pm_bR (some (some vn, h)) t f0 f1 = f0 h := rfl
theorem bI_ite (c : Prop) [Decidable c] (a b : Option PR) (f : Int32 → PH → Option PR) : pm_bI (if c then a else b) f = if c then pm_bI a f else pm_bI b f := by split <;> rfl
theorem bL_ite (c : Prop) [Decidable c] (a b : Option PR) (f : Int64 → PH → Option PR) : pm_bL (if c then a else b) f = if c then pm_bL a f else pm_bL b f := by split <;> rfl
theorem bV_ite (c : Prop) [Decidable c] (a b : Option PR) (f : PH → Option PR) : pm_bV (if c then a else b) f = if c then pm_bV a f else pm_bV b f := by split <;> rfl
theorem bR_ite (c : Prop) [Decidable c] (a b : Option PR) (t : Nat) (f0 : PH → Option PR) (f1 : Nat → PH → Option PR) : pm_bR (if c then a else b) t f0 f1 = if c then pm_bR a t f0 f1 else pm_bR b t f0 f1 := by split <;> rfl
/-- a truth value as the machine has it -/
def bI (b : Bool) : Int32 := if b then 1 else 0
theorem bI_t : bI true = 1 := rfl
theorem bI_f : bI false = 0 := rfl
theorem bI_and (b : Bool) : bI b &&& 1 = bI b := by cases b <;> rfl
theorem bI_0 (b : Bool) : (bI b = 0) = (b = false) := by cases b <;> simp [bI]
theorem bI_1 (b : Bool) : (bI b = 1) = (b = true) := by cases b <;> simp [bI]
theorem bI_n0 (b : Bool) : (bI b = nI 0) = (b = false) := bI_0 b
theorem bI_n1 (b : Bool) : (bI b = nI 1) = (b = true) := bI_1 b
theorem bI_nand (b : Bool) : bI b &&& nI 1 = bI b := bI_and b
