/-! ===== the JDK's bitCount counts bits ===== -/
def pcM (c : Nat) : Nat → Nat
  | 0 => 0
  | k + 1 => 256 * pcM c k + c
theorem pcM_tb (c : Nat) (hc : c < 256) (k : Nat) (i : Nat) : (pcM c (k + 1)).testBit i = if i < 8 then c.testBit i else (pcM c k).testBit (i - 8) := Nat.testBit_two_pow_mul_add (i := 8) (pcM c k) hc i
/-- bits shifted by s and masked, byte by byte -/
theorem pc_sh (s c : Nat) (hc : c < 256) (hs : ∀ i, i < 8 → 8 ≤ i + s → c.testBit i = false) (k y b : Nat) (hb : b < 256) : (256 * y + b) / 2 ^ s &&& pcM c (k + 1) = 256 * (y / 2 ^ s &&& pcM c k) + (b / 2 ^ s &&& c) := by
  have hb2 : (b / 2 ^ s &&& c) < 2 ^ 8 := Nat.and_lt_two_pow _ hc
  apply Nat.eq_of_testBit_eq
  intro i
  have e1 : (256 * (y / 2 ^ s &&& pcM c k) + (b / 2 ^ s &&& c)).testBit i = _ := Nat.testBit_two_pow_mul_add (i := 8) (y / 2 ^ s &&& pcM c k) hb2 i
  rw [e1, Nat.testBit_and, pcM_tb c hc, Nat.testBit_div_two_pow]
  have e2 : (256 * y + b).testBit (i + s) = _ := Nat.testBit_two_pow_mul_add (i := 8) y hb (i + s)
  rw [e2]
  by_cases h : i < 8
  · rw [if_pos h, if_pos h, Nat.testBit_and, Nat.testBit_div_two_pow]
    by_cases h2 : i + s < 8
    · rw [if_pos h2]
    · rw [if_neg h2, hs i h (by omega), Bool.and_false, Bool.and_false]
  · rw [if_neg h, if_neg h, if_neg (by omega), Nat.testBit_and, Nat.testBit_div_two_pow, show i + s - 8 = i - 8 + s by omega]
def pcA (k n : Nat) : Nat := n - (n / 2 ^ 1 &&& pcM 85 k)
def pcB (k n : Nat) : Nat := (pcA k n / 2 ^ 0 &&& pcM 51 k) + (pcA k n / 2 ^ 2 &&& pcM 51 k)
def pcC (k n : Nat) : Nat := (pcB k n + pcB k n / 2 ^ 4) / 2 ^ 0 &&& pcM 15 k
theorem pcA_b (k y b : Nat) (hb : b < 256) : pcA (k + 1) (256 * y + b) = 256 * pcA k y + (b - (b / 2 ^ 1 &&& 85)) := by
  unfold pcA
  rw [pc_sh 1 85 (by decide) (by decide) k y b hb]
  have h1 : y / 2 ^ 1 &&& pcM 85 k ≤ y / 2 ^ 1 := Nat.and_le_left
  have h2 : b / 2 ^ 1 &&& 85 ≤ b / 2 ^ 1 := Nat.and_le_left
  omega
theorem pc_b1 : ∀ b, b < 256 → b - (b / 2 ^ 1 &&& 85) < 256 := by decide +kernel
theorem pc_b2 : ∀ b, b < 256 → (b / 2 ^ 0 &&& 51) + (b / 2 ^ 2 &&& 51) < 256 := by decide +kernel
theorem pcB_b (k y b : Nat) (hb : b < 256) : pcB (k + 1) (256 * y + b) = 256 * pcB k y + (((b - (b / 2 ^ 1 &&& 85)) / 2 ^ 0 &&& 51) + ((b - (b / 2 ^ 1 &&& 85)) / 2 ^ 2 &&& 51)) := by
  unfold pcB
  rw [pcA_b k y b hb, pc_sh 0 51 (by decide) (by decide) k _ _ (pc_b1 b hb), pc_sh 2 51 (by decide) (by decide) k _ _ (pc_b1 b hb)]
  omega
def pcB1 (b : Nat) : Nat := ((b - (b / 2 ^ 1 &&& 85)) / 2 ^ 0 &&& 51) + ((b - (b / 2 ^ 1 &&& 85)) / 2 ^ 2 &&& 51)
theorem pcB1_s : ∀ b, b < 256 → pcB1 b % 16 ≤ 4 ∧ pcB1 b / 16 ≤ 4 ∧ (pcB1 b + pcB1 b / 2 ^ 4) % 16 = fb_ct (fun i => b.testBit i) 8 := by decide +kernel
theorem pcB_m (k : Nat) : ∀ n, n < 256 ^ k → pcB k n % 16 ≤ 4 := by
  cases k with
  | zero => intro n hn; have : n = 0 := by rw [Nat.pow_zero] at hn; omega
            subst this; decide
  | succ k =>
    intro n hn
    have e : n = 256 * (n / 256) + n % 256 := by omega
    rw [e, pcB_b k _ _ (Nat.mod_lt _ (by decide))]
    have h := pcB1_s (n % 256) (Nat.mod_lt _ (by decide))
    unfold pcB1 at h
    omega
theorem pc_m15 : ∀ x, x < 256 → x / 2 ^ 0 &&& 15 = x % 16 := by decide +kernel
theorem pcC_b (k y b : Nat) (hy : y < 256 ^ k) (hb : b < 256) : pcC (k + 1) (256 * y + b) = 256 * pcC k y + fb_ct (fun i => b.testBit i) 8 := by
  unfold pcC
  rw [pcB_b k y b hb]
  have h := pcB1_s b hb
  have hm := pcB_m k y hy
  change _ at h
  have e : 256 * pcB k y + pcB1 b + (256 * pcB k y + pcB1 b) / 2 ^ 4 = 256 * (pcB k y + pcB k y / 2 ^ 4) + ((pcB k y % 16) * 16 + (pcB1 b + pcB1 b / 2 ^ 4)) := by omega
  have hlt : (pcB k y % 16) * 16 + (pcB1 b + pcB1 b / 2 ^ 4) < 256 := by omega
  show (256 * pcB k y + pcB1 b + (256 * pcB k y + pcB1 b) / 2 ^ 4) / 2 ^ 0 &&& pcM 15 (k + 1) = _
  rw [e, pc_sh 0 15 (by decide) (by decide) k _ _ hlt, pc_m15 _ hlt]
  have e3 : ((pcB k y % 16) * 16 + (pcB1 b + pcB1 b / 2 ^ 4)) % 16 = (pcB1 b + pcB1 b / 2 ^ 4) % 16 := by omega
  rw [e3, h.2.2]
/-- the k bytes' counts, one a byte -/
theorem pc_ct8 (n : Nat) : fb_ct (fun i => n.testBit i) 8 = fb_ct (fun i => (n % 256).testBit i) 8 := fb_ct_cong fun i hi => by
  rw [show (256 : Nat) = 2 ^ 8 from rfl, Nat.testBit_mod_two_pow, decide_eq_true hi, Bool.true_and]
theorem pcC_n (k n : Nat) (hn : n < 256 ^ (k + 1)) : pcC (k + 1) n = 256 * pcC k (n / 256) + fb_ct (fun i => n.testBit i) 8 := by
  have e : n = 256 * (n / 256) + n % 256 := by omega
  have hy : n / 256 < 256 ^ k := by rw [Nat.pow_succ] at hn; omega
  rw [pc_ct8]
  conv => lhs; rw [e]
  exact pcC_b k _ _ hy (Nat.mod_lt _ (by decide))
theorem pc_tb8 (n i : Nat) : (n / 256).testBit i = n.testBit (i + 8) := Nat.testBit_div_two_pow (n := 8) n i
theorem pcC_4 (n : Nat) (hn : n < 2 ^ 32) : ∃ a b c d, a ≤ 8 ∧ b ≤ 8 ∧ c ≤ 8 ∧ d ≤ 8 ∧ pcC 4 n = a + 256 * (b + 256 * (c + 256 * d)) ∧ fb_ct (fun i => n.testBit i) 32 = a + b + c + d := by
  refine ⟨_, _, _, _, fb_ct_le (fun i => n.testBit i) 8, fb_ct_le (fun i => (n / 256).testBit i) 8, fb_ct_le (fun i => (n / 256 / 256).testBit i) 8, fb_ct_le (fun i => (n / 256 / 256 / 256).testBit i) 8, ?_, ?_⟩
  · rw [pcC_n 3 n (by omega), pcC_n 2 _ (by omega), pcC_n 1 _ (by omega), pcC_n 0 _ (by omega)]
    show 256 * (256 * (256 * (256 * (_ &&& 0) + _) + _) + _) + _ = _
    rw [Nat.and_zero]; omega
  · simp only [pc_tb8]
    rw [show 32 = 8 + (8 + (8 + 8)) from rfl, fb_ct_split, fb_ct_split, fb_ct_split]
    simp only [Nat.add_comm, Nat.add_left_comm, Nat.add_assoc]
theorem pcC_8 (n : Nat) (hn : n < 2 ^ 64) : ∃ a b, a < 2 ^ 32 ∧ b < 2 ^ 32 ∧ n = a + 2 ^ 32 * b ∧ pcC 8 n = pcC 4 a + 2 ^ 32 * pcC 4 b ∧ fb_ct (fun i => n.testBit i) 64 = fb_ct (fun i => a.testBit i) 32 + fb_ct (fun i => b.testBit i) 32 := by
  refine ⟨n % 2 ^ 32, n / 2 ^ 32, by omega, by omega, by omega, ?_, ?_⟩
  · rw [pcC_n 7 n (by omega), pcC_n 6 _ (by omega), pcC_n 5 _ (by omega), pcC_n 4 _ (by omega)]
    rw [pcC_n 3 (n % 2 ^ 32) (by omega), pcC_n 2 _ (by omega), pcC_n 1 _ (by omega), pcC_n 0 _ (by omega)]
    have z : pcC 0 (n % 2 ^ 32 / 256 / 256 / 256 / 256) = 0 := by show _ &&& 0 = 0; exact Nat.and_zero _
    rw [z, show n / 256 / 256 / 256 / 256 = n / 2 ^ 32 by rw [Nat.div_div_eq_div_mul, Nat.div_div_eq_div_mul, Nat.div_div_eq_div_mul]]
    have q0 : fb_ct (fun i => n.testBit i) 8 = fb_ct (fun i => (n % 2 ^ 32).testBit i) 8 := fb_ct_cong fun i hi => by rw [Nat.testBit_mod_two_pow, decide_eq_true (by omega), Bool.true_and]
    have q1 : fb_ct (fun i => (n / 256).testBit i) 8 = fb_ct (fun i => (n % 2 ^ 32 / 256).testBit i) 8 := fb_ct_cong fun i hi => by simp only [pc_tb8]; rw [Nat.testBit_mod_two_pow, decide_eq_true (by omega), Bool.true_and]
    have q2 : fb_ct (fun i => (n / 256 / 256).testBit i) 8 = fb_ct (fun i => (n % 2 ^ 32 / 256 / 256).testBit i) 8 := fb_ct_cong fun i hi => by simp only [pc_tb8]; rw [Nat.testBit_mod_two_pow, decide_eq_true (by omega), Bool.true_and]
    have q3 : fb_ct (fun i => (n / 256 / 256 / 256).testBit i) 8 = fb_ct (fun i => (n % 2 ^ 32 / 256 / 256 / 256).testBit i) 8 := fb_ct_cong fun i hi => by simp only [pc_tb8]; rw [Nat.testBit_mod_two_pow, decide_eq_true (by omega), Bool.true_and]
    rw [q0, q1, q2, q3]
    clear q0 q1 q2 q3 z
    generalize pcC 4 (n / 2 ^ 32) = w
    generalize fb_ct (fun i => (n % 2 ^ 32).testBit i) 8 = w0
    generalize fb_ct (fun i => (n % 2 ^ 32 / 256).testBit i) 8 = w1
    generalize fb_ct (fun i => (n % 2 ^ 32 / 256 / 256).testBit i) 8 = w2
    generalize fb_ct (fun i => (n % 2 ^ 32 / 256 / 256 / 256).testBit i) 8 = w3
    clear hn
    omega
  · rw [show 64 = 32 + 32 from rfl, fb_ct_split]
    congr 1
    · exact fb_ct_cong fun i hi => by rw [Nat.testBit_mod_two_pow, decide_eq_true (by omega), Bool.true_and]
    · exact fb_ct_cong fun i hi => by rw [Nat.testBit_div_two_pow, Nat.add_comm]
theorem pc_dv (a b m : Nat) (h : a < m) : (a + m * b) / m = b := by rw [Nat.add_mul_div_left _ _ (by omega), Nat.div_eq_of_lt h, Nat.zero_add]
theorem pc_md (a b m : Nat) (h : a < m) : (a + m * b) % m = a := by rw [Nat.add_mul_mod_self_left, Nat.mod_eq_of_lt h]
theorem pc_j1 (p q r s : Nat) : p + 256 * (q + 256 * (r + 256 * s)) + (q + 256 * (r + 256 * s)) = (p + q + 256 * (q + r)) + 65536 * ((r + s) + 256 * s) := by omega
theorem pc_j2 (p q r s : Nat) : (p + q + 256 * (q + r)) + 65536 * ((r + s) + 256 * s) + ((r + s) + 256 * s) = (p + q + r + s) + 64 * (4 * (q + r + s) + 1024 * ((r + s) + 256 * s)) := by omega
theorem pc_32 (n : Nat) (hn : n < 2 ^ 32) : (pcC 4 n + pcC 4 n / 2 ^ 8 + (pcC 4 n + pcC 4 n / 2 ^ 8) / 2 ^ 16) &&& 63 = fb_ct (fun i => n.testBit i) 32 := by
  obtain ⟨p, q, r, s, h1, h2, h3, h4, e, e2⟩ := pcC_4 n hn
  rw [e2, e, show (63 : Nat) = 2 ^ 6 - 1 from rfl, Nat.and_two_pow_sub_one_eq_mod]
  clear e e2
  show (p + 256 * (q + 256 * (r + 256 * s)) + (p + 256 * (q + 256 * (r + 256 * s))) / 256 + (p + 256 * (q + 256 * (r + 256 * s)) + (p + 256 * (q + 256 * (r + 256 * s))) / 256) / 65536) % 64 = _
  rw [pc_dv p _ 256 (by omega), pc_j1, pc_dv _ _ 65536 (by omega), pc_j2, pc_md _ _ 64 (by omega)]
theorem pc_i1 (p q r s a b c d : Nat) : (p + 256 * (q + 256 * (r + 256 * s))) + 4294967296 * (a + 256 * (b + 256 * (c + 256 * d))) = p + 256 * (q + 256 * (r + 256 * (s + 256 * (a + 256 * (b + 256 * (c + 256 * d)))))) := by omega
theorem pc_i2 (p q r s a b c d : Nat) : p + 256 * (q + 256 * (r + 256 * (s + 256 * (a + 256 * (b + 256 * (c + 256 * d)))))) + (q + 256 * (r + 256 * (s + 256 * (a + 256 * (b + 256 * (c + 256 * d)))))) = (p + q + 256 * (q + r)) + 65536 * ((r + s) + 256 * ((s + a) + 256 * ((a + b) + 256 * ((b + c) + 256 * ((c + d) + 256 * d))))) := by omega
theorem pc_i3 (p q r s a b c d : Nat) : (p + q + 256 * (q + r)) + 65536 * ((r + s) + 256 * ((s + a) + 256 * ((a + b) + 256 * ((b + c) + 256 * ((c + d) + 256 * d))))) + ((r + s) + 256 * ((s + a) + 256 * ((a + b) + 256 * ((b + c) + 256 * ((c + d) + 256 * d))))) = ((p + q + r + s) + 256 * (q + r + s + a) + 65536 * (r + s + a + b) + 16777216 * (s + a + b + c)) + 4294967296 * ((a + b + c + d) + 256 * ((b + c + d) + 256 * ((c + d) + 256 * d))) := by omega
theorem pc_i4 (p q r s a b c d : Nat) : ((p + q + r + s) + 256 * (q + r + s + a) + 65536 * (r + s + a + b) + 16777216 * (s + a + b + c)) + 4294967296 * ((a + b + c + d) + 256 * ((b + c + d) + 256 * ((c + d) + 256 * d))) + ((a + b + c + d) + 256 * ((b + c + d) + 256 * ((c + d) + 256 * d))) = (p + q + r + s + (a + b + c + d)) + 128 * (2 * (q + r + s + a) + 512 * (r + s + a + b) + 131072 * (s + a + b + c) + 33554432 * ((a + b + c + d) + 256 * ((b + c + d) + 256 * ((c + d) + 256 * d))) + 2 * ((b + c + d) + 256 * ((c + d) + 256 * d))) := by omega
theorem pc_64a (p q r s a b c d : Nat) (h1 : p ≤ 8) (h2 : q ≤ 8) (h3 : r ≤ 8) (h4 : s ≤ 8) (h5 : a ≤ 8) (h6 : b ≤ 8) (h7 : c ≤ 8) (h8 : d ≤ 8) (x y z : Nat) (hx : x = (p + 256 * (q + 256 * (r + 256 * s))) + 4294967296 * (a + 256 * (b + 256 * (c + 256 * d)))) (hy : y = x + x / 256) (hz : z = y + y / 65536) : (z + z / 4294967296) % 128 = p + q + r + s + (a + b + c + d) := by
  rw [pc_i1] at hx
  rw [hx, pc_dv p _ 256 (by clear hx hy hz; omega), pc_i2] at hy
  rw [hy, pc_dv _ _ 65536 (by clear hx hy hz; omega), pc_i3] at hz
  rw [hz, pc_dv _ _ 4294967296 (by clear hx hy hz; omega), pc_i4, pc_md _ _ 128 (by clear hx hy hz; omega)]
theorem pc_64 (n : Nat) (hn : n < 2 ^ 64) (y z : Nat) (hy : y = pcC 8 n + pcC 8 n / 2 ^ 8) (hz : z = y + y / 2 ^ 16) : (z + z / 2 ^ 32) &&& 127 = fb_ct (fun i => n.testBit i) 64 := by
  obtain ⟨a, b, ha, hb, _, e1, e2⟩ := pcC_8 n hn
  obtain ⟨p, q, r, s, h1, h2, h3, h4, f1, f2⟩ := pcC_4 a ha
  obtain ⟨p', q', r', s', h1', h2', h3', h4', f1', f2'⟩ := pcC_4 b hb
  rw [e2, f2, f2', show (127 : Nat) = 2 ^ 7 - 1 from rfl, Nat.and_two_pow_sub_one_eq_mod]
  rw [f1, f1'] at e1
  exact pc_64a p q r s p' q' r' s' h1 h2 h3 h4 h1' h2' h3' h4' (pcC 8 n) y z e1 hy hz
