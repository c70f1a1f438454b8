/-! what the tables say of the machine's own words -/
def pm_Yd : MethodName × ByteArray × Option FieldType := (⟨"", "", ""⟩, ByteArray.empty, none)
def pm_y (m : Nat) : MethodName := (pm_Y.getD m pm_Yd).1
def pm_by (m : Nat) : ByteArray := (pm_Y.getD m pm_Yd).2.1
def pm_rt0 (m : Nat) : Option FieldType := (pm_Y.getD m pm_Yd).2.2
def pm_on (m : Nat) : String := pm_ON.getD (pm_own m) ""
def pm_nf (t : Nat) : Nat := (pm_ft.getD t []).length
/-- an instruction's length; 0: any -/
def pm_il (i : Instr) : Nat := match i with
  | .iconst _ => 1
  | .bipush _ => 2
  | .sipush _ => 3
  | .lconst _ => 1
  | .iload _ => 2
  | .lload _ => 2
  | .aload _ => 2
  | .istore _ => 2
  | .lstore _ => 2
  | .astore _ => 2
  | .iinc _ _ => 3
  | .ifCond _ _ => 3
  | .if_icmp _ _ => 3
  | .goto _ => 3
  | .ifnull _ => 3
  | .ifnonnull _ => 3
  | .tableswitch _ _ _ _ => 0
  | .lookupswitch _ _ => 0
  | .getfield _ => 3
  | .putfield _ => 3
  | .getstatic _ => 3
  | .ldc _ => 2
  | .ldc_w _ => 3
  | .ldc2_w _ => 3
  | .invokevirtual _ => 3
  | .invokestatic _ => 3
  | .new _ => 0
  | .invokespecial _ => 0
  | _ => 1
/-- the words that a callee may take over -/
def pm_tb : List Cond := lw_tbl.filter goodWord
theorem tf_tb {w : Cond} (h : w ∈ pm_tb) : w ∈ lw_tbl := (List.mem_filter.mp h).1
theorem tf_good : ∀ w ∈ pm_tb, goodWord w = true := fun _ h => (List.mem_filter.mp h).2
theorem tf_dec {m pc : Nat} {ins : Instr} {n : Nat} {kp : Option (List Bool)} (h : pm_fetch m pc = some (ins, n, kp)) : decode (pm_by m) pc = .ok (ins, n) ∧ (pm_il ins = 0 ∨ n = pm_il ins) ∧ ∀ bs, kp = some bs → bs.length = pm_mxl m := sorry
theorem tf_fld {m idx ci k : Nat} (h : (pm_F.getD (pm_own m) []).lookup idx = some (ci, k)) (hc : ci < 9) : ∃ (C : String) (T : u_T), vwCl[ci]? = some (C, T, pm_nf ci) ∧ k < pm_nf ci ∧ Cond.fieldLink (pm_on m) idx C (T k).2.1 (T k).2.2.1 ∈ pm_tb ∧ (T k).1 = C ∧ (pm_fty ci k = 0 → parseFieldDescriptor (T k).2.2.1 = some .int ∧ (T k).2.2.2 = false) ∧ (pm_fty ci k = 1 → parseFieldDescriptor (T k).2.2.1 = some .long ∧ (T k).2.2.2 = false) ∧ (pm_fty ci k = 2 → parseFieldDescriptor (T k).2.2.1 = some .boolean ∧ (T k).2.2.2 = false) := sorry
theorem tf_fls {m idx k : Nat} (h : (pm_F.getD (pm_own m) []).lookup idx = some (60, k)) : (k = 0 → Cond.fieldLink (pm_on m) idx "java/lang/String" "value" "[B" ∈ pm_tb) ∧ (k = 1 → Cond.fieldLink (pm_on m) idx "java/lang/String" "coder" "B" ∈ pm_tb) := sorry
theorem tf_cls {ci : Nat} {C : String} {T : u_T} {N : Nat} (h : vwCl[ci]? = some (C, T, N)) : (∀ w ∈ u_ws C T N, w ∈ pm_tb) ∧ (∃ ty : Nat → FieldType, ∀ k, k < N → parseFieldDescriptor (T k).2.2.1 = some (ty k)) ∧ (∀ a, a < N → ∀ b, b < N → a ≠ b → (T a).2.1 ≠ (T b).2.1) := sorry
theorem tf_ci {m idx : Nat} {v : Int32} (h : (pm_CI.getD (pm_own m) []).lookup idx = some v) : Cond.constant (pm_on m) idx v ∈ pm_tb := sorry
theorem tf_cl {m idx : Nat} {v : Int64} (h : (pm_CL.getD (pm_own m) []).lookup idx = some v) : Cond.constantLong (pm_on m) idx v ∈ pm_tb := sorry
/-- a text constant's own class, place and text -/
def pm_ST (i : Nat) : Nat × String := pm_STL.getD i (0, "")
theorem tf_cs {m idx i : Nat} (h : (pm_CS.getD (pm_own m) []).lookup idx = some i) : i < 21 ∧ pm_on m = "IllLight$Reader" ∧ (pm_ST i).1 = idx := sorry
def pm_sf (n : Nat) : String × String × String := match n with
  | 0 => ("IllLight$Reader", "WORDS_OF_SORT", "[I")
  | 1 => ("IllLight$Reader", "NUMBERS_OF_WORD", "[I")
  | 2 => ("IllLight$Reader", "MOST", "[I")
  | 3 => ("java/lang/String", "COMPACT_STRINGS", "Z")
  | _ => ("jdk/internal/util/Preconditions", "SIOOBE_FORMATTER", "Ljava/util/function/BiFunction;")
theorem tf_gst {m idx n : Nat} (h : (pm_G.getD (pm_own m) []).lookup idx = some n) : Cond.fieldLink (pm_on m) idx (pm_sf n).1 (pm_sf n).2.1 (pm_sf n).2.2 ∈ pm_tb := sorry
def pm_cn (m : Nat) : String := if pm_cls m = 61 then "java/lang/String" else match vwCl[pm_cls m - 1]? with
  | some q => q.1
  | none => ""
/-- a link to another method -/
theorem tf_lnk {m idx m' : Nat} (h : (pm_L.getD (pm_own m) []).lookup idx = some m') (h2 : m' ≠ 1000) : Cond.methodLink (pm_on m) idx (pm_y m') ∈ pm_tb ∧ Cond.code (pm_y m') (pm_by m') (pm_mxl m') (pm_rt0 m') ∈ pm_tb ∧ plainName (pm_y m').cls = true ∧ pm_on m' = (pm_y m').cls ∧ Cond.initialized (pm_y m').cls ∈ pm_tb ∧ ((pm_y m').cls ≠ "java/lang/invoke/MethodHandle" ∧ (pm_y m').cls ≠ "java/lang/invoke/VarHandle") ∧ (pm_cls m' = 0 → Cond.static (pm_y m') ∈ pm_tb ∧ (parseMethodDescriptor (pm_y m').desc).map (fun d => d.parameters.length) = some (pm_na m')) ∧ (pm_cls m' ≠ 0 → (pm_cls m' ≤ 9 ∨ pm_cls m' = 61) ∧ Cond.instanceMethod (pm_y m') ∈ pm_tb ∧ Cond.selects (pm_cn m') (pm_y m') (pm_y m') ∈ pm_tb ∧ (pm_y m').cls = pm_cn m' ∧ (parseMethodDescriptor (pm_y m').desc).map (fun d => d.parameters.length + 1) = some (pm_na m')) := sorry
theorem tf_acp {m idx : Nat} (h : (pm_L.getD (pm_own m) []).lookup idx = some 1000) : Cond.methodLink (pm_on m) idx arraycopyName ∈ pm_tb ∧ Cond.native arraycopyName ∈ pm_tb ∧ Cond.static arraycopyName ∈ pm_tb ∧ Cond.initialized "java/lang/System" ∈ pm_tb := sorry
/-- the return type, by its number -/
theorem tf_ret (m : Nat) : (pm_ret m = 0 → pm_rt0 m = none) ∧ (pm_ret m = 1 → pm_rt0 m = some .int) ∧ (pm_ret m = 2 → pm_rt0 m = some .boolean) ∧ (pm_ret m = 3 → pm_rt0 m = some .long) ∧ (pm_ret m = 4 → ∃ n, pm_rt0 m = some (.object n)) ∧ (pm_ret m = 5 → pm_rt0 m = some .char) ∧ (pm_ret m = 6 → pm_rt0 m = some .byte) := sorry
/-- the objects: a tag and how many there are of it -/
def pm_cnt : List (Nat × Nat) := [(0, 11), (1, 1), (2, 9), (3, 9), (4, 1), (5, 1), (6, 4), (7, 1), (8, 1), (10, 11), (11, 11), (12, 11), (13, 11), (14, 11), (15, 11), (16, 11), (17, 11), (18, 11), (19, 9), (20, 9), (21, 9), (22, 9), (23, 9), (24, 1), (25, 1), (26, 4), (27, 4), (28, 4), (29, 4), (30, 4), (31, 1), (32, 1), (33, 1), (34, 1), (35, 1), (36, 1), (37, 1), (38, 1), (39, 1), (40, 1), (41, 1), (42, 1), (43, 1)]
def pm_obs : List (Nat × Nat) := pm_cnt.flatMap fun q => (List.range q.2).map fun i => (q.1, i)
def pm_okq (t i : Nat) : Prop := (t, i) ∈ pm_obs ∨ ((t = 60 ∨ t = 61) ∧ i < 21) ∨ (62 ≤ t ∧ t ≤ 65 ∧ i = 0) ∨ t = 67
def pm_okv (v : PV) : Prop := match v with
  | some (.inr (.inr (some (t, i)))) => pm_okq t i
  | _ => True
theorem tf_nod : ∀ i j : Nat, ∀ q : Nat × Nat, pm_obs[i]? = some q → pm_obs[j]? = some q → i = j := sorry
theorem tf_rf : ∀ q ∈ pm_obs, q.1 < 9 → ∀ k, k < pm_nf q.1 → pm_fty q.1 k = 3 → pm_okv (pm_rf q.1 k q.2) := sorry
theorem tf_ar : ∀ q ∈ pm_obs, 10 ≤ q.1 → pm_ak q.1 = 3 → ∀ j, j < (pm_at.getD (q.1 - 10) (9, 0)).2 → ∃ i, pm_aref q.1 q.2 j = vr (pm_ra.getD (q.1 - 10) (0, 0, 0)).1 i ∧ ((pm_ra.getD (q.1 - 10) (0, 0, 0)).1, i) ∈ pm_obs := sorry
theorem tf_tag : ∀ q ∈ pm_obs, q.1 < 9 ∨ (10 ≤ q.1 ∧ q.1 < 44) := sorry
theorem tf_r67 : ∀ t k i : Nat, ∃ tt ii, pm_rf t k i = vr tt ii ∧ tt ≠ 67 := sorry
/-- the targets of an instruction's jumps lie in the code -/
def pm_tok (pc : Nat) (i : Instr) : Bool := match i with
  | .ifCond _ o => decide (0 ≤ (pc : Int) + o)
  | .if_icmp _ o => decide (0 ≤ (pc : Int) + o)
  | .goto o => decide (0 ≤ (pc : Int) + o)
  | .ifnull o => decide (0 ≤ (pc : Int) + o)
  | .ifnonnull o => decide (0 ≤ (pc : Int) + o)
  | .tableswitch d _ _ os => decide (0 ≤ (pc : Int) + d) && os.toList.all (fun o => decide (0 ≤ (pc : Int) + o))
  | .lookupswitch d ps => decide (0 ≤ (pc : Int) + d) && ps.toList.all (fun o => decide (0 ≤ (pc : Int) + o.2))
  | _ => true
theorem tf_tok {m pc : Nat} {ins : Instr} {n : Nat} {kp : Option (List Bool)} (h : pm_fetch m pc = some (ins, n, kp)) : pm_tok pc ins = true := sorry
