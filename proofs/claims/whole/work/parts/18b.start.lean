/-! what the Statement gives of the world outside; the law up to its loop -/
def st_ex (L : Nat) (xs : Nat → Int32) (t i k : Nat) : Int32 := if t = 61 then (st_sb.getD i []).getD k 0 else if t = 62 then st_t62.getD k 0 else if t = 63 then st_t63.getD k 0 else if t = 64 then st_t64.getD k 0 else if t = 65 then xs k else if t = 66 then Int32.ofNat L else 0
theorem st_lays : (lw_tbl.any (fun w => decide (w = Cond.laysStatic "IllLight$Reader" "WORDS_OF_SORT" "[I")) && lw_tbl.any (fun w => decide (w = Cond.laysStatic "IllLight$Reader" "NUMBERS_OF_WORD" "[I")) && lw_tbl.any (fun w => decide (w = Cond.laysStatic "IllLight$Reader" "MOST" "[I")) && lw_tbl.any (fun w => decide (w = Cond.laysStatic "java/lang/String" "COMPACT_STRINGS" "Z")) && lw_tbl.any (fun w => decide (w = Cond.laysStatic "jdk/internal/util/Preconditions" "SIOOBE_FORMATTER" "Ljava/util/function/BiFunction;")) && lw_tbl.any (fun w => decide (w = Cond.initialized "IllLight$Reader")) && lw_tbl.any (fun w => decide (w = Cond.initialized "java/lang/String")) && lw_tbl.any (fun w => decide (w = Cond.initialized "jdk/internal/util/Preconditions"))) = true := by decide +kernel
theorem st_any {w : Cond} (h : lw_tbl.any (fun v => decide (v = w)) = true) : w ∈ lw_tbl := by
  obtain ⟨v, h1, h2⟩ := List.any_eq_true.mp h
  rw [← of_decide_eq_true h2]
  exact h1
def st_str (i : Nat) : Term := .string "IllLight$Reader" (pm_ST i).1
def st_val (i : Nat) : Term := .field (st_str i) "java/lang/String" "value" "[B"
def st_sck (i : Nat) : Bool := match st_s4.getD i (0, 0, 0, 0) with
  | (a, b, c, d) => st_is a (Cond.exactly (st_str i) "java/lang/String") && st_is b (Cond.eq (.field (st_str i) "java/lang/String" "coder" "B") (.int 0)) && st_is c (Cond.arrayOf (st_val i) .byte) && st_is d (Cond.eq (.length (st_val i)) (.int (Int32.ofNat (pm_nth pm_SL i 0)))) && (List.range (pm_nth pm_SL i 0)).all (fun j => st_is ((st_sp.getD i []).getD j 0) (Cond.eq (.elem (st_val i) (.int (Int32.ofNat j))) (.int ((st_sb.getD i []).getD j 0)))) && decide (lw_tbl[st_sr.getD i 0]? = some (Cond.stringRef "IllLight$Reader" (pm_ST i).1 (pm_ST i).2)) && decide (pm_nth pm_SL i 0 < 2 ^ 31)
theorem st_ks : (List.range 21).all st_sck = true := by decide +kernel
section STX
variable {s : State} {b : Nat} {A : Nat → Prop}
theorem st_of {i : Nat} {c : Cond} {args : Array Value} (hgv : (Jvm.Cond.and given_1 narrow_1).before args s = true) (h : st_is i c = true) : c.before args s = true := flat_of_before _ hgv c (List.mem_of_getElem? (of_decide_eq_true h))
theorem st_string {args : Array Value} (hts : ∀ w ∈ lw_tbl, w.before args s = true) (hgv : (Jvm.Cond.and given_1 narrow_1).before args s = true) (hA : ∀ a : Nat, a < s.heap.size → ¬ A a) (i : Nat) (hi : i < 21) : ∃ q : Nat × Nat, (va_O "java/lang/String" q.1 A s s.heap ∧ va_OF "java/lang/String" "coder" "B" (.int 0) q.1 A s s.heap ∧ va_OF "java/lang/String" "value" "[B" (.ref q.2) q.1 A s s.heap ∧ va_T .byte q.2 (pm_nth pm_SL i 0) (fun j => .int ((st_sb.getD i []).getD j 0)) A s s.heap) ∧ vk_R "IllLight$Reader" (pm_ST i).1 (pm_ST i).2 q.1 s := by
  have h := List.all_eq_true.mp st_ks i (List.mem_range.mpr hi)
  unfold st_sck at h
  split at h
  simp only [Bool.and_eq_true, decide_eq_true_eq] at h
  obtain ⟨⟨⟨⟨⟨⟨h1, h2⟩, h3⟩, h4⟩, h5⟩, h6⟩, h7⟩ := h
  obtain ⟨adK, adV, hS, hev⟩ := vk_Sof (args := args) (s := s) (N := 1) (tm := fun _ => st_str i) (len := [pm_nth pm_SL i 0]) (byt := [st_sb.getD i []]) (A := A)
    (fun j hj => by have : j = 0 := by omega
                    subst this; exact h7)
    (fun j _ => st_of hgv h1) (fun j _ => st_of hgv h2) (fun j _ => st_of hgv h3)
    (fun j hj => by have : j = 0 := by omega
                    subst this; exact st_of hgv h4)
    (fun j hj k hk => by have : j = 0 := by omega
                         subst this; exact st_of hgv (List.all_eq_true.mp h5 k (List.mem_range.mpr hk)))
    (fun a b ha hb hne => absurd (show a = b by omega) hne) hA
  exact ⟨(adK 0, adV 0), hS.1 0 (by decide), vk_R.of (hts _ (List.mem_of_getElem? h6)) (hev 0 (by decide))⟩
theorem st_tab {args : Array Value} {n : String} {N p1 p2 : Nat} {pl : List Nat} {tb : List Int32} (hN : N < 2 ^ 31) (hts : ∀ w ∈ lw_tbl, w.before args s = true) (hgv : (Jvm.Cond.and given_1 narrow_1).before args s = true) (hA : ∀ a : Nat, a < s.heap.size → ¬ A a) (hl : Cond.laysStatic "IllLight$Reader" n "[I" ∈ lw_tbl) (hi : Cond.initialized "IllLight$Reader" ∈ lw_tbl)
    (hk : (st_is p1 (Cond.arrayOf (.static "IllLight$Reader" n "[I") .int) && st_is p2 (Cond.eq (.length (.static "IllLight$Reader" n "[I")) (.int (Int32.ofNat N))) && (List.range N).all (fun j => st_is (pl.getD j 0) (Cond.eq (.elem (.static "IllLight$Reader" n "[I") (.int (Int32.ofNat j))) (.int (tb.getD j 0))))) = true) :
    ∃ q : Nat, va_Z "IllLight$Reader" n "[I" (.ref q) A s s.heap ∧ va_T .int q N (fun k => .int (tb.getD k 0)) A s s.heap := by
  simp only [Bool.and_eq_true] at hk
  obtain ⟨⟨h1, h2⟩, h3⟩ := hk
  obtain ⟨q, hq, hT⟩ := va_Tof (args := args) (tm := .static "IllLight$Reader" n "[I") (ty := .int) (N := N) (f := fun k => .int (tb.getD k 0)) (A := A) hN (st_of hgv h1) (va_eqt (st_of hgv h2)) (fun j hj => va_eqt (st_of hgv (List.all_eq_true.mp h3 j (List.mem_range.mpr hj)))) hA
  exact ⟨q, va_Zref (hts _ hl) (hts _ hi) hq hA, hT⟩
theorem st_X {L : Nat} {xs : Nat → Int32} (hL : L ≤ 3072) (hts : ∀ w ∈ lw_tbl, w.before #[Value.ref b] s = true) (hgv : (Jvm.Cond.and given_1 narrow_1).before #[Value.ref b] s = true) (hA : ∀ a : Nat, a < s.heap.size → ¬ A a) (hX : va_X b L xs s s.heap) (hbl : b < s.heap.size) : ∃ (adx : Nat → Nat → Nat) (fm : Value), adx 65 0 = b ∧ ∀ as : Nat → Nat, pm_X (st_ad as adx) fm A (st_ex L xs) s := by
  have hl := st_lays
  simp only [Bool.and_eq_true] at hl
  obtain ⟨⟨⟨⟨⟨⟨⟨l1, l2⟩, l3⟩, l4⟩, l5⟩, l6⟩, l7⟩, l8⟩ := hl
  obtain ⟨q62, z62, t62⟩ := st_tab (N := 4) (by decide) hts hgv hA (st_any l1) (st_any l6) st_k62
  obtain ⟨q63, z63, t63⟩ := st_tab (N := 21) (by decide) hts hgv hA (st_any l2) (st_any l6) st_k63
  obtain ⟨q64, z64, t64⟩ := st_tab (N := 84) (by decide) hts hgv hA (st_any l3) (st_any l6) st_k64
  have hkc := st_kc
  simp only [Bool.and_eq_true] at hkc
  have zc := va_Zof (A := A) (hts _ (st_any l4)) (hts _ (st_any l7)) (va_eqi (st_of hgv hkc.1)) hA
  have zf := va_Zqof (A := A) (hts _ (st_any l5)) (hts _ (st_any l8)) (st_of hgv hkc.2) hA
  have hstr : ∃ f : Nat → Nat × Nat, ∀ i, i < 21 → ((va_O "java/lang/String" (f i).1 A s s.heap ∧ va_OF "java/lang/String" "coder" "B" (.int 0) (f i).1 A s s.heap ∧ va_OF "java/lang/String" "value" "[B" (.ref (f i).2) (f i).1 A s s.heap ∧ va_T .byte (f i).2 (pm_nth pm_SL i 0) (fun j => .int ((st_sb.getD i []).getD j 0)) A s s.heap) ∧ vk_R "IllLight$Reader" (pm_ST i).1 (pm_ST i).2 (f i).1 s) := by
    have h0 : ∀ i, ∃ q : Nat × Nat, i < 21 → ((va_O "java/lang/String" q.1 A s s.heap ∧ va_OF "java/lang/String" "coder" "B" (.int 0) q.1 A s s.heap ∧ va_OF "java/lang/String" "value" "[B" (.ref q.2) q.1 A s s.heap ∧ va_T .byte q.2 (pm_nth pm_SL i 0) (fun j => .int ((st_sb.getD i []).getD j 0)) A s s.heap) ∧ vk_R "IllLight$Reader" (pm_ST i).1 (pm_ST i).2 q.1 s) := by
      intro i
      by_cases hi : i < 21
      · obtain ⟨q, hq⟩ := st_string hts hgv hA i hi
        exact ⟨q, fun _ => hq⟩
      · exact ⟨(0, 0), fun h => absurd h hi⟩
    exact ⟨fun i => (h0 i).choose, fun i hi => (h0 i).choose_spec hi⟩
  obtain ⟨f, hf⟩ := hstr
  have hfm : ∃ fm : Value, (fm = .null ∨ ∃ a, fm = .ref a) ∧ va_Z "jdk/internal/util/Preconditions" "SIOOBE_FORMATTER" "Ljava/util/function/BiFunction;" fm A s s.heap := by
    rcases zf with z | ⟨t, z⟩
    · exact ⟨.null, Or.inl rfl, z⟩
    · exact ⟨.ref t, Or.inr ⟨t, rfl⟩, z⟩
  obtain ⟨fm, hfm1, hfm2⟩ := hfm
  refine ⟨fun t i => if t = 60 then (f i).1 else if t = 61 then (f i).2 else if t = 62 then q62 else if t = 63 then q63 else if t = 64 then q64 else b, fm, rfl, fun as => ?_⟩
  refine ⟨hfm1, ⟨?_, hbl, hA b hbl⟩, ⟨z62, t62⟩, ⟨z63, t63⟩, ⟨z64, t64⟩, zc, hfm2, fun i hi => (hf i hi).1, fun i hi => (hf i hi).2⟩
  show va_X b (Int32.ofNat L).toNatClampNeg xs s s.heap
  rw [show (Int32.ofNat L).toNatClampNeg = L from nI_clamp (by omega)]
  exact hX
end STX
