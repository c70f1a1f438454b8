/-! ===== PURE LIBRARY: bits ===== -/
def bitsB (p : Nat → Bool) : Nat → Nat
  | 0 => 0
  | n + 1 => bitsB p n ||| (if p n then 2 ^ n else 0)
theorem bitsB_tb (p : Nat → Bool) : ∀ n i, (bitsB p n).testBit i = (decide (i < n) && p i)
  | 0, i => by simp [bitsB]
  | n + 1, i => by
    rw [bitsB, Nat.testBit_or, bitsB_tb p n i]
    by_cases e : i = n
    · subst e
      cases h : p i <;> simp [Nat.testBit_two_pow]
    · have e2 : decide (i < n + 1) = decide (i < n) := decide_eq_decide.mpr (by omega)
      rw [e2]
      cases h : p n
      · simp
      · rw [if_pos rfl, Nat.testBit_two_pow_of_ne (fun q => e q.symm), Bool.or_false]
theorem bitsB_lt (p : Nat → Bool) (n : Nat) : bitsB p n < 2 ^ n := Nat.lt_pow_two_of_testBit _ (fun i hi => by rw [bitsB_tb, decide_eq_false (by omega), Bool.false_and])
theorem bitsB_cong {p q : Nat → Bool} {n : Nat} (h : ∀ i, i < n → p i = q i) : bitsB p n = bitsB q n := Nat.eq_of_testBit_eq fun i => by
  rw [bitsB_tb, bitsB_tb]
  by_cases e : i < n
  · rw [h i e]
  · rw [decide_eq_false e, Bool.false_and, Bool.false_and]
theorem bitsB_eq {p : Nat → Bool} {n x : Nat} (hx : x < 2 ^ n) (h : ∀ i, i < n → x.testBit i = p i) : x = bitsB p n := Nat.eq_of_testBit_eq fun i => by
  rw [bitsB_tb]
  by_cases e : i < n
  · rw [h i e, decide_eq_true e, Bool.true_and]
  · rw [decide_eq_false e, Bool.false_and]
    exact Nat.testBit_lt_two_pow (Nat.lt_of_lt_of_le hx (Nat.pow_le_pow_right (by decide) (by omega)))
theorem bitsB_succ_t {p : Nat → Bool} {n : Nat} (h : p n = true) : bitsB p (n + 1) = bitsB p n ||| 2 ^ n := by rw [bitsB, if_pos h]
theorem bitsB_succ_f {p : Nat → Bool} {n : Nat} (h : p n = false) : bitsB p (n + 1) = bitsB p n := by rw [bitsB, if_neg (by rw [h]; decide), Nat.or_zero]
/-! ints -/
theorem nn_and (a b : Nat) : nI a &&& nI b = nI (a &&& b) := by
  apply Int32.toBitVec_inj.mp
  show BitVec.ofNat 32 a &&& BitVec.ofNat 32 b = BitVec.ofNat 32 (a &&& b)
  exact BitVec.ofNat_and.symm
theorem nn_or (a b : Nat) : nI a ||| nI b = nI (a ||| b) := by
  apply Int32.toBitVec_inj.mp
  show BitVec.ofNat 32 a ||| BitVec.ofNat 32 b = BitVec.ofNat 32 (a ||| b)
  exact BitVec.ofNat_or.symm
theorem s_ll : ∀ n, n < 32 → ((nI (n &&& 31)).toBitVec.smod 32).toNat = n := by decide +kernel
theorem shl_n {n k : Nat} (hk : k < 32) (h : n * 2 ^ k < 2 ^ 32) : nI n <<< nI (k &&& 31) = nI (n * 2 ^ k) := pk_shlN _ k (s_ll k hk) h
theorem pw_lt {k m : Nat} (h : k < m) : 2 ^ k < 2 ^ m := Nat.pow_lt_pow_right (by decide) h
theorem pw_le {k m : Nat} (h : k ≤ m) : 2 ^ k ≤ 2 ^ m := Nat.pow_le_pow_right (by decide) h
theorem shl_1 {k : Nat} (hk : k < 32) : nI 1 <<< nI (k &&& 31) = nI (2 ^ k) := by
  have h := pw_lt hk
  rw [shl_n hk (by omega), Nat.one_mul]
theorem shr_n {n k : Nat} (hn : n < 2147483648) (hk : k < 32) : nI n >>> nI (k &&& 31) = nI (n / 2 ^ k) := pk_shrN hn _ k (s_ll k hk)
theorem div_and1 (n k : Nat) : n / 2 ^ k &&& 1 = if n.testBit k then 1 else 0 := by
  rw [Nat.and_one_is_mod, Nat.testBit_eq_decide_div_mod_eq]
  by_cases h : n / 2 ^ k % 2 = 1
  · rw [decide_eq_true h, if_pos rfl, h]
  · rw [decide_eq_false h, if_neg (by decide)]; omega
theorem bit_i (n k : Nat) : nI (n / 2 ^ k &&& 1) = bI (n.testBit k) := by
  rw [div_and1]; cases n.testBit k <;> rfl
theorem and_1 (n : Nat) : nI (n &&& 1) = bI (n.testBit 0) := by have h := bit_i n 0; rwa [Nat.pow_zero, Nat.div_one] at h
theorem and_31 : ∀ k, k < 32 → k &&& 31 = k := by decide +kernel
/-! longs -/
theorem l_and (a b : Nat) : lN a &&& lN b = lN (a &&& b) := by
  apply Int64.toBitVec_inj.mp
  show BitVec.ofNat 64 a &&& BitVec.ofNat 64 b = BitVec.ofNat 64 (a &&& b)
  exact BitVec.ofNat_and.symm
theorem l_or (a b : Nat) : lN a ||| lN b = lN (a ||| b) := by
  apply Int64.toBitVec_inj.mp
  show BitVec.ofNat 64 a ||| BitVec.ofNat 64 b = BitVec.ofNat 64 (a ||| b)
  exact BitVec.ofNat_or.symm
theorem wb_tb (n : Nat) : (lN n).toBitVec = BitVec.ofNat 64 n := rfl
theorem wb_inj {a b : Int64} (h : a.toBitVec = b.toBitVec) : a = b := Int64.toBitVec_inj.mp h
theorem wb_of (x : Int64) : ∃ n, n < 2 ^ 64 ∧ x = lN n := ⟨x.toBitVec.toNat, x.toBitVec.isLt, wb_inj (by rw [wb_tb]; simp)⟩
theorem wb_c : ∀ k, k < 64 → ((nI k).toInt64 &&& 63) = lN k := by decide +kernel
theorem wb_cu : ∀ k, k < 64 → ((nI k).toInt64.toUInt64 &&& Int64.toUInt64 63) = UInt64.ofNat k := by decide +kernel
theorem wb_sm : ∀ k, k < 64 → (BitVec.ofNat 64 k).smod 64 = BitVec.ofNat 64 k := by decide +kernel
theorem wb_mod (n : Nat) : lN n = lN (n % 2 ^ 64) := wb_inj (by rw [wb_tb, wb_tb]; apply BitVec.eq_of_toNat_eq; rw [BitVec.toNat_ofNat, BitVec.toNat_ofNat, Nat.mod_mod])
theorem wb_shr {n k : Nat} (hn : n < 2 ^ 64) (hk : k < 64) : ((lN n).toUInt64 >>> ((nI k).toInt64.toUInt64 &&& Int64.toUInt64 63)).toInt64 = lN (n / 2 ^ k) := by
  rw [wb_cu k hk]
  apply wb_inj
  rw [wb_tb]
  show BitVec.ushiftRight (BitVec.ofNat 64 n) ((BitVec.ofNat 64 k % 64).toNat) = _
  have e : (BitVec.ofNat 64 k % 64).toNat = k := by
    rw [BitVec.toNat_umod, BitVec.toNat_ofNat, Nat.mod_eq_of_lt (by omega : k < 2 ^ 64)]
    exact Nat.mod_eq_of_lt hk
  rw [e]
  apply BitVec.eq_of_toNat_eq
  show (BitVec.ofNat 64 n).toNat >>> k = _
  rw [BitVec.toNat_ofNat, BitVec.toNat_ofNat, Nat.mod_eq_of_lt hn, Nat.shiftRight_eq_div_pow, Nat.mod_eq_of_lt (Nat.lt_of_le_of_lt (Nat.div_le_self _ _) hn)]
theorem wb_shl (n : Nat) {k : Nat} (hk : k < 64) : lN n <<< ((nI k).toInt64 &&& 63) = lN (n * 2 ^ k) := by
  rw [wb_c k hk]
  apply wb_inj
  show BitVec.shiftLeft (BitVec.ofNat 64 n) ((BitVec.ofNat 64 k).smod 64).toNat = BitVec.ofNat 64 (n * 2 ^ k)
  rw [wb_sm k hk, BitVec.toNat_ofNat, Nat.mod_eq_of_lt (by omega : k < 2 ^ 64)]
  apply BitVec.eq_of_toNat_eq
  show (BitVec.ofNat 64 n <<< k).toNat = _
  rw [BitVec.toNat_shiftLeft, BitVec.toNat_ofNat, BitVec.toNat_ofNat, Nat.shiftLeft_eq, Nat.mod_mul_mod]
theorem lcmp_0 (x y : Int64) : (lg_cmp x y = nI 0) = (x = y) := by
  unfold lg_cmp
  by_cases h : x = y
  · subst h
    have : ¬ x > x := by show ¬ x < x; rw [Int64.lt_iff_toInt_lt]; omega
    rw [if_neg this, if_pos rfl]; exact (eq_true rfl).trans (eq_true rfl).symm
  · by_cases h2 : x > y
    · rw [if_pos h2]; exact (eq_false (by decide)).trans (eq_false h).symm
    · rw [if_neg h2, if_neg h]; exact (eq_false (by decide)).trans (eq_false h).symm
/-- a set of places below 64 as a long -/
def lS (S : Nat → Bool) : Int64 := lN (bitsB S 64)
theorem lS_cong {S T : Nat → Bool} (h : ∀ i, i < 64 → S i = T i) : lS S = lS T := by unfold lS; rw [bitsB_cong h]
theorem lN_lS {n : Nat} {S : Nat → Bool} (hn : n < 2 ^ 64) (h : ∀ i, i < 64 → n.testBit i = S i) : lN n = lS S := by unfold lS; rw [← bitsB_eq hn h]
theorem lN_lS2 (n : Nat) : lN n = lS (fun i => n.testBit i) := by
  rw [wb_mod]
  exact lN_lS (Nat.mod_lt _ (by decide)) (fun i hi => by rw [Nat.testBit_mod_two_pow, decide_eq_true hi, Bool.true_and])
theorem lS_ex (x : Int64) : ∃ S, x = lS S := by
  obtain ⟨n, _, e⟩ := wb_of x
  exact ⟨_, e.trans (lN_lS2 n)⟩
theorem lS_inj {S T : Nat → Bool} (h : lS S = lS T) : ∀ i, i < 64 → S i = T i := by
  intro i hi
  have e : bitsB S 64 = bitsB T 64 := by
    have h2 := congrArg (fun x : Int64 => x.toBitVec.toNat) h
    have h3 : (BitVec.ofNat 64 (bitsB S 64)).toNat = (BitVec.ofNat 64 (bitsB T 64)).toNat := h2
    rwa [BitVec.toNat_ofNat, BitVec.toNat_ofNat, Nat.mod_eq_of_lt (bitsB_lt S 64), Nat.mod_eq_of_lt (bitsB_lt T 64)] at h3
  have h4 := congrArg (fun n : Nat => n.testBit i) e
  simp only [bitsB_tb, decide_eq_true hi, Bool.true_and] at h4
  exact h4
theorem lS_and (S T : Nat → Bool) : lS S &&& lS T = lS (fun i => S i && T i) := by
  unfold lS
  rw [l_and]
  congr 1
  exact bitsB_eq (Nat.and_lt_two_pow _ (bitsB_lt T 64)) (fun i hi => by rw [Nat.testBit_and, bitsB_tb, bitsB_tb, decide_eq_true hi, Bool.true_and, Bool.true_and])
theorem lS_or (S T : Nat → Bool) : lS S ||| lS T = lS (fun i => S i || T i) := by
  unfold lS
  rw [l_or]
  congr 1
  exact bitsB_eq (Nat.or_lt_two_pow (bitsB_lt S 64) (bitsB_lt T 64)) (fun i hi => by rw [Nat.testBit_or, bitsB_tb, bitsB_tb, decide_eq_true hi, Bool.true_and, Bool.true_and])
theorem lS_not (S : Nat → Bool) : lS S ^^^ (-1) = lS (fun i => !S i) := by
  have e1 : (-1 : Int64) = lN (2 ^ 64 - 1) := by decide +kernel
  unfold lS
  rw [e1]
  have e2 : lN (bitsB S 64) ^^^ lN (2 ^ 64 - 1) = lN (bitsB S 64 ^^^ (2 ^ 64 - 1)) := by
    apply wb_inj
    show BitVec.ofNat 64 _ ^^^ BitVec.ofNat 64 _ = BitVec.ofNat 64 _
    exact BitVec.ofNat_xor.symm
  rw [e2]
  congr 1
  exact bitsB_eq (Nat.xor_lt_two_pow (bitsB_lt S 64) (by decide)) (fun i hi => by rw [Nat.testBit_xor, bitsB_tb, Nat.testBit_two_pow_sub_one, decide_eq_true hi, Bool.true_and, Bool.xor_true])
theorem lS_shl (S : Nat → Bool) {k : Nat} (hk : k < 64) : lS S <<< ((nI k).toInt64 &&& 63) = lS (fun i => decide (k ≤ i) && S (i - k)) := by
  unfold lS
  rw [wb_shl _ hk, wb_mod]
  congr 1
  exact bitsB_eq (Nat.mod_lt _ (by decide)) (fun i hi => by
    rw [Nat.testBit_mod_two_pow, Nat.testBit_mul_two_pow, bitsB_tb, decide_eq_true hi, Bool.true_and]
    by_cases h : k ≤ i
    · rw [decide_eq_true h, decide_eq_true (by omega : i - k < 64)]; rfl
    · rw [decide_eq_false h]; rfl)
theorem lS_shr (S : Nat → Bool) {k : Nat} (hk : k < 64) : ((lS S).toUInt64 >>> ((nI k).toInt64.toUInt64 &&& Int64.toUInt64 63)).toInt64 = lS (fun i => decide (i + k < 64) && S (i + k)) := by
  unfold lS
  rw [wb_shr (bitsB_lt S 64) hk]
  congr 1
  exact bitsB_eq (Nat.lt_of_le_of_lt (Nat.div_le_self _ _) (bitsB_lt S 64)) (fun i hi => by rw [Nat.testBit_div_two_pow, bitsB_tb])
theorem lS_one {k : Nat} (hk : k < 64) : (1 : Int64) <<< ((nI k).toInt64 &&& 63) = lS (fun i => decide (i = k)) := by
  have h := wb_shl 1 hk
  rw [Nat.one_mul] at h
  exact h.trans (lN_lS (pw_lt hk) (fun i hi => by rw [Nat.testBit_two_pow]; exact decide_eq_decide.mpr ⟨fun e => e.symm, fun e => e.symm⟩))
theorem lS_0 : (0 : Int64) = lS (fun _ => false) := lN_lS (n := 0) (by decide) (fun i _ => Nat.zero_testBit i)
theorem lS_eq0 (S : Nat → Bool) : (lS S = 0) = ∀ i, i < 64 → S i = false := propext ⟨fun h => lS_inj (h.trans lS_0), fun h => (lS_cong h).trans lS_0.symm⟩
def lb (b : Bool) : Int64 := if b then 1 else 0
theorem lS_and1 (S : Nat → Bool) : lS S &&& 1 = lb (S 0) := by
  have e1 : (1 : Int64) = lN 1 := rfl
  unfold lS
  rw [e1, l_and, Nat.and_one_is_mod]
  have h : (bitsB S 64).testBit 0 = S 0 := by rw [bitsB_tb]; simp
  rw [← h, Nat.testBit_zero]
  by_cases q : bitsB S 64 % 2 = 1
  · rw [q, decide_eq_true (by rfl)]; rfl
  · rw [decide_eq_false q, show bitsB S 64 % 2 = 0 by omega]; rfl
theorem lcmp_lb (b : Bool) : lg_cmp (lb b) 0 = bI b := by cases b <;> decide
theorem lS_row {k : Nat} (hk : k < 64) : lS (fun i => decide (i = k)) - 1 = lS (fun i => decide (i < k)) := by
  have e1 : lS (fun i => decide (i = k)) = lN (2 ^ k) := (lN_lS (pw_lt hk) (fun i hi => by rw [Nat.testBit_two_pow]; exact decide_eq_decide.mpr ⟨fun e => e.symm, fun e => e.symm⟩)).symm
  have e2 : (1 : Int64) = lN 1 := rfl
  rw [e1, e2, lN_sub (Nat.two_pow_pos k)]
  have := pw_lt hk
  exact lN_lS (by omega) (fun i hi => Nat.testBit_two_pow_sub_one k i)
theorem lS_notR : (9187201950435737471 : Int64) = lS (fun i => !decide (i % 8 = 7)) := lN_lS (n := 9187201950435737471) (by decide) (by decide +kernel)
theorem lS_notL : (-72340172838076674 : Int64) = lS (fun i => !decide (i % 8 = 0)) := by
  have e : (-72340172838076674 : Int64) = lN 18374403900871474942 := by decide +kernel
  rw [e]
  exact lN_lS (by decide) (by decide +kernel)
