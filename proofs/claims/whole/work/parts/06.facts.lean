/-! what the tables say of the machine's own words -/
def pm_Yd : MethodName × ByteArray × Option FieldType := (⟨"", "", ""⟩, ByteArray.empty, none)
def pm_y (m : Nat) : MethodName := (pm_Y.getD m pm_Yd).1
def pm_by (m : Nat) : ByteArray := (pm_Y.getD m pm_Yd).2.1
def pm_rt0 (m : Nat) : Option FieldType := (pm_Y.getD m pm_Yd).2.2
def pm_on (m : Nat) : String := pm_ON.getD (pm_own m) ""
def pm_nf (t : Nat) : Nat := (pm_ft.getD t []).length
/-- an instruction's length; 0: any -/
def pm_il (i : Instr) : Nat := match i with
  | .iconst _ => 1
  | .bipush _ => 2
  | .sipush _ => 3
  | .lconst _ => 1
  | .iload _ => 2
  | .lload _ => 2
  | .aload _ => 2
  | .istore _ => 2
  | .lstore _ => 2
  | .astore _ => 2
  | .iinc _ _ => 3
  | .ifCond _ _ => 3
  | .if_icmp _ _ => 3
  | .goto _ => 3
  | .ifnull _ => 3
  | .ifnonnull _ => 3
  | .tableswitch _ _ _ _ => 0
  | .lookupswitch _ _ => 0
  | .getfield _ => 3
  | .putfield _ => 3
  | .getstatic _ => 3
  | .ldc _ => 2
  | .ldc_w _ => 3
  | .ldc2_w _ => 3
  | .invokevirtual _ => 3
  | .invokestatic _ => 3
  | .new _ => 0
  | .invokespecial _ => 0
  | _ => 1
/-- the words that a callee may take over -/
def pm_tb : List Cond := lw_tbl.filter goodWord
theorem tf_tb {w : Cond} (h : w ∈ pm_tb) : w ∈ lw_tbl := (List.mem_filter.mp h).1
theorem tf_good : ∀ w ∈ pm_tb, goodWord w = true := fun _ h => (List.mem_filter.mp h).2
/-- a text constant's own class, place and text -/
def pm_ST (i : Nat) : Nat × String := pm_STL.getD i (0, "")
def pm_sf (n : Nat) : String × String × String := match n with
  | 0 => ("IllLight$Reader", "WORDS_OF_SORT", "[I")
  | 1 => ("IllLight$Reader", "NUMBERS_OF_WORD", "[I")
  | 2 => ("IllLight$Reader", "MOST", "[I")
  | 3 => ("java/lang/String", "COMPACT_STRINGS", "Z")
  | _ => ("jdk/internal/util/Preconditions", "SIOOBE_FORMATTER", "Ljava/util/function/BiFunction;")
def pm_cn (m : Nat) : String := if pm_cls m = 61 then "java/lang/String" else match vwCl[pm_cls m - 1]? with
  | some q => q.1
  | none => ""
/-- the objects: a tag and how many there are of it -/
def pm_cnt : List (Nat × Nat) := [(0, 11), (1, 1), (2, 9), (3, 9), (4, 1), (5, 1), (6, 4), (7, 1), (8, 1), (10, 11), (11, 11), (12, 11), (13, 11), (14, 11), (15, 11), (16, 11), (17, 11), (18, 11), (19, 9), (20, 9), (21, 9), (22, 9), (23, 9), (24, 1), (25, 1), (26, 4), (27, 4), (28, 4), (29, 4), (30, 4), (31, 1), (32, 1), (33, 1), (34, 1), (35, 1), (36, 1), (37, 1), (38, 1), (39, 1), (40, 1), (41, 1), (42, 1), (43, 1)]
def pm_obs : List (Nat × Nat) := pm_cnt.flatMap fun q => (List.range q.2).map fun i => (q.1, i)
def pm_okq (t i : Nat) : Prop := (t, i) ∈ pm_obs ∨ ((t = 60 ∨ t = 61) ∧ i < 21) ∨ (62 ≤ t ∧ t ≤ 65 ∧ i = 0) ∨ t = 67
def pm_okv (v : PV) : Prop := match v with
  | some (.inr (.inr (some (t, i)))) => pm_okq t i
  | _ => True
/-- the targets of an instruction's jumps lie in the code -/
def pm_tok (pc : Nat) (i : Instr) : Bool := match i with
  | .ifCond _ o => decide (0 ≤ (pc : Int) + o)
  | .if_icmp _ o => decide (0 ≤ (pc : Int) + o)
  | .goto o => decide (0 ≤ (pc : Int) + o)
  | .ifnull o => decide (0 ≤ (pc : Int) + o)
  | .ifnonnull o => decide (0 ≤ (pc : Int) + o)
  | .tableswitch d _ _ os => decide (0 ≤ (pc : Int) + d) && os.toList.all (fun o => decide (0 ≤ (pc : Int) + o))
  | .lookupswitch d ps => decide (0 ≤ (pc : Int) + d) && ps.toList.all (fun o => decide (0 ≤ (pc : Int) + o.2))
  | _ => true
