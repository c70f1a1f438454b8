/-! THE CONSTRUCTORS: a machine of their own, that makes cells; its methods have the numbers of the classes -/
def cn_0 : List (Nat × Instr × Nat) := [(0, .aload_n 0, 1), (1, .invokespecial 3, 3), (4, .aload_n 0, 1), (5, .bipush 6, 2), (7, .putfield 9, 3), (10, .aload_n 0, 1), (11, .bipush 6, 2), (13, .putfield 15, 3), (16, .aload_n 0, 1), (17, .iconst 1, 1), (18, .putfield 18, 3), (21, .aload_n 0, 1), (22, .iconst 4, 1), (23, .newarray .int, 2), (25, .putfield 21, 3), (28, .aload_n 0, 1), (29, .iconst 4, 1), (30, .newarray .int, 2), (32, .putfield 25, 3), (35, .aload_n 0, 1), (36, .iconst 4, 1), (37, .newarray .int, 2), (39, .putfield 28, 3), (42, .aload_n 0, 1), (43, .iconst 4, 1), (44, .newarray .int, 2), (46, .putfield 31, 3), (49, .aload_n 0, 1), (50, .iconst 4, 1), (51, .newarray .int, 2), (53, .putfield 34, 3), (56, .aload_n 0, 1), (57, .iconst 4, 1), (58, .newarray .int, 2), (60, .putfield 37, 3), (63, .aload_n 0, 1), (64, .bipush 16, 2), (66, .newarray .int, 2), (68, .putfield 40, 3), (71, .aload_n 0, 1), (72, .bipush 16, 2), (74, .newarray .int, 2), (76, .putfield 43, 3), (79, .aload_n 0, 1), (80, .bipush 16, 2), (82, .newarray .int, 2), (84, .putfield 46, 3), (87, .return_, 1)]
def cn_1 : List (Nat × Instr × Nat) := [(0, .aload_n 0, 1), (1, .invokespecial 3, 3), (4, .aload_n 0, 1), (5, .new 9, 3), (8, .dup, 1), (9, .invokespecial 11, 3), (12, .putfield 12, 3), (15, .return_, 1)]
def cn_2 : List (Nat × Instr × Nat) := [(0, .aload_n 0, 1), (1, .invokespecial 3, 3), (4, .aload_n 0, 1), (5, .bipush 6, 2), (7, .newarray .int, 2), (9, .putfield 9, 3), (12, .aload_n 0, 1), (13, .iconst 1, 1), (14, .putfield 15, 3), (17, .aload_n 0, 1), (18, .bipush 10, 2), (20, .newarray .int, 2), (22, .putfield 19, 3), (25, .aload_n 0, 1), (26, .bipush 10, 2), (28, .newarray .int, 2), (30, .putfield 22, 3), (33, .return_, 1)]
def cn_3 : List (Nat × Instr × Nat) := [(0, .aload_n 0, 1), (1, .invokespecial 3, 3), (4, .aload_n 0, 1), (5, .bipush 40, 2), (7, .newarray .int, 2), (9, .putfield 9, 3), (12, .aload_n 0, 1), (13, .bipush 120, 2), (15, .newarray .int, 2), (17, .putfield 15, 3), (20, .return_, 1)]
def cn_4 : List (Nat × Instr × Nat) := [(0, .aload_n 0, 1), (1, .invokespecial 3, 3), (4, .aload_n 0, 1), (5, .new 9, 3), (8, .dup, 1), (9, .invokespecial 11, 3), (12, .putfield 12, 3), (15, .aload_n 0, 1), (16, .new 18, 3), (19, .dup, 1), (20, .invokespecial 20, 3), (23, .putfield 21, 3), (26, .aload_n 0, 1), (27, .new 25, 3), (30, .dup, 1), (31, .invokespecial 27, 3), (34, .putfield 28, 3), (37, .aload_n 0, 1), (38, .iconst 4, 1), (39, .newarray .int, 2), (41, .putfield 32, 3), (44, .return_, 1)]
def cn_5 : List (Nat × Instr × Nat) := [(0, .aload_n 0, 1), (1, .invokespecial 3, 3), (4, .aload_n 0, 1), (5, .bipush 64, 2), (7, .newarray .long, 2), (9, .putfield 9, 3), (12, .return_, 1)]
def cn_6 : List (Nat × Instr × Nat) := [(0, .aload_n 0, 1), (1, .invokespecial 3, 3), (4, .aload_n 0, 1), (5, .sipush 600, 3), (8, .newarray .int, 2), (10, .putfield 9, 3), (13, .aload_n 0, 1), (14, .iconst (-1), 1), (15, .putfield 15, 3), (18, .aload_n 0, 1), (19, .iconst 3, 1), (20, .newarray .int, 2), (22, .putfield 19, 3), (25, .aload_n 0, 1), (26, .iconst 2, 1), (27, .anewarray 22, 3), (30, .putfield 24, 3), (33, .aload_n 0, 1), (34, .iconst 2, 1), (35, .anewarray 28, 3), (38, .putfield 30, 3), (41, .aload_n 0, 1), (42, .iconst 2, 1), (43, .anewarray 34, 3), (46, .putfield 36, 3), (49, .iconst 0, 1), (50, .istore_n 1, 1), (51, .iload_n 1, 1), (52, .iconst 2, 1), (53, .if_icmp .ge 48, 3), (56, .aload_n 0, 1), (57, .getfield 24, 3), (60, .iload_n 1, 1), (61, .new 22, 3), (64, .dup, 1), (65, .invokespecial 40, 3), (68, .aastore, 1), (69, .aload_n 0, 1), (70, .getfield 30, 3), (73, .iload_n 1, 1), (74, .new 28, 3), (77, .dup, 1), (78, .invokespecial 41, 3), (81, .aastore, 1), (82, .aload_n 0, 1), (83, .getfield 36, 3), (86, .iload_n 1, 1), (87, .new 34, 3), (90, .dup, 1), (91, .invokespecial 42, 3), (94, .aastore, 1), (95, .iinc 1 1, 3), (98, .goto (-47), 3), (101, .return_, 1)]
def cn_7 : List (Nat × Instr × Nat) := [(0, .aload_n 0, 1), (1, .invokespecial 1, 3), (4, .aload_n 0, 1), (5, .new 7, 3), (8, .dup, 1), (9, .invokespecial 9, 3), (12, .putfield 10, 3), (15, .aload_n 0, 1), (16, .iconst 3, 1), (17, .anewarray 7, 3), (20, .putfield 16, 3), (23, .iconst 0, 1), (24, .istore_n 1, 1), (25, .iload_n 1, 1), (26, .iconst 3, 1), (27, .if_icmp .ge 22, 3), (30, .aload_n 0, 1), (31, .getfield 16, 3), (34, .iload_n 1, 1), (35, .new 7, 3), (38, .dup, 1), (39, .invokespecial 9, 3), (42, .aastore, 1), (43, .iinc 1 1, 3), (46, .goto (-21), 3), (49, .aload_n 0, 1), (50, .iconst 3, 1), (51, .newarray .boolean, 2), (53, .putfield 20, 3), (56, .aload_n 0, 1), (57, .new 24, 3), (60, .dup, 1), (61, .invokespecial 26, 3), (64, .putfield 27, 3), (67, .aload_n 0, 1), (68, .new 31, 3), (71, .dup, 1), (72, .invokespecial 33, 3), (75, .putfield 34, 3), (78, .aload_n 0, 1), (79, .new 38, 3), (82, .dup, 1), (83, .invokespecial 40, 3), (86, .putfield 41, 3), (89, .aload_n 0, 1), (90, .new 45, 3), (93, .dup, 1), (94, .invokespecial 47, 3), (97, .putfield 48, 3), (100, .return_, 1)]
def cn_8 : List (Nat × Instr × Nat) := [(0, .aload_n 0, 1), (1, .invokespecial 1, 3), (4, .aload_n 0, 1), (5, .sipush 5104, 3), (8, .newarray .int, 2), (10, .putfield 7, 3), (13, .aload_n 0, 1), (14, .iconst 3, 1), (15, .newarray .boolean, 2), (17, .putfield 13, 3), (20, .aload_n 0, 1), (21, .sipush 161, 3), (24, .newarray .int, 2), (26, .putfield 17, 3), (29, .aload_n 0, 1), (30, .bipush 48, 2), (32, .newarray .int, 2), (34, .putfield 20, 3), (37, .aload_n 0, 1), (38, .iconst 4, 1), (39, .newarray .int, 2), (41, .putfield 23, 3), (44, .aload_n 0, 1), (45, .iconst 4, 1), (46, .newarray .int, 2), (48, .putfield 26, 3), (51, .aload_n 0, 1), (52, .bipush 64, 2), (54, .newarray .int, 2), (56, .putfield 29, 3), (59, .aload_n 0, 1), (60, .bipush 64, 2), (62, .newarray .boolean, 2), (64, .putfield 32, 3), (67, .aload_n 0, 1), (68, .bipush 64, 2), (70, .newarray .boolean, 2), (72, .putfield 35, 3), (75, .aload_n 0, 1), (76, .bipush 64, 2), (78, .newarray .boolean, 2), (80, .putfield 38, 3), (83, .aload_n 0, 1), (84, .bipush 64, 2), (86, .newarray .boolean, 2), (88, .putfield 41, 3), (91, .aload_n 0, 1), (92, .getfield 7, 3), (95, .bipush 6, 2), (97, .iconst (-1), 1), (98, .iastore, 1), (99, .return_, 1)]
def cn_cd : List (List (Nat × Instr × Nat)) := [cn_0, cn_1, cn_2, cn_3, cn_4, cn_5, cn_6, cn_7, cn_8]
def cn_by : List ByteArray := [prog_2_method_1_code, prog_3_method_1_code, prog_4_method_1_code, prog_5_method_1_code, prog_6_method_1_code, prog_8_method_1_code, prog_9_method_1_code, prog_1_method_1_code, prog_11_method_1_code]
def cn_mx : List Nat := [1, 1, 1, 1, 1, 1, 2, 2, 1]
def cn_nm : List String := ["IllLight$Coast", "IllLight$Course", "IllLight$Log", "IllLight$Night", "IllLight$Reader", "IllLight$Sea", "IllLight$Told", "IllLight", "IllLightModel"]
def cn_cap : List (Nat × Nat) := [(9, 72), (10, 88), (3, 26), (2, 160), (18, 288), (1, 64), (39, 1177), (204, 5299), (11, 5644)]
def cn_nd : List (Nat × Nat) := [(1, 40), (2, 60), (1, 40), (1, 40), (2, 60), (1, 40), (2, 60), (3, 81), (1, 40)]
/-- new: (entry, class, place of its word) -/
def cn_new : List (List (Nat × Nat × Nat)) := [[], [(9, 0, 377)], [], [], [(9, 0, 322), (18, 3, 324), (25, 2, 326)], [], [(22, 0, 145), (28, 3, 147), (34, 2, 149)], [(7, 6, 139), (24, 4, 316), (31, 1, 371), (38, 0, 398), (45, 5, 400)], []]
/-- a call: (entry, class, nest mate or not, place of its word); 99: Object -/
def cn_cl : List (List (Nat × Nat × Nat × Nat)) := [[(3, 99, 0, 155)], [(3, 99, 0, 376), (11, 0, 1, 378)], [(3, 99, 0, 256)], [(3, 99, 0, 236)], [(3, 99, 0, 321), (11, 0, 1, 323), (20, 3, 1, 325), (27, 2, 1, 327)], [(3, 99, 0, 405)], [(3, 99, 0, 144), (40, 0, 1, 152), (41, 3, 1, 233), (42, 2, 1, 253)], [(1, 99, 0, 136), (9, 6, 0, 141), (26, 4, 1, 318), (33, 1, 1, 373), (40, 0, 1, 399), (47, 5, 1, 402)], [(1, 99, 0, 1194)]]
def cn_fl : List (List (Nat × Nat × Nat)) := [[(9, 0, 156), (15, 1, 159), (18, 3, 165), (21, 6, 175), (25, 7, 176), (28, 9, 181), (31, 10, 185), (34, 11, 188), (37, 12, 189), (40, 13, 192), (43, 14, 194), (46, 15, 196), (49, 2, 163), (52, 4, 168), (56, 5, 173), (59, 8, 177)], [(12, 0, 379), (22, 1, 380), (26, 2, 381), (29, 3, 382), (32, 4, 383), (58, 5, 384)], [(9, 1, 259), (15, 2, 260), (19, 5, 266), (22, 6, 267), (25, 0, 257), (28, 3, 262), (31, 4, 264)], [(9, 1, 241), (15, 2, 243), (18, 0, 237)], [(12, 0, 328), (21, 1, 330), (28, 2, 332), (32, 5, 338), (43, 6, 339), (51, 3, 334), (54, 7, 340), (57, 4, 336), (71, 8, 341), (74, 9, 342), (77, 10, 343), (80, 11, 344)], [(9, 6, 412), (29, 0, 406), (37, 1, 407), (43, 2, 408), (54, 3, 409), (57, 4, 410), (84, 5, 411)], [(9, 0, 283), (15, 3, 289), (19, 4, 291), (24, 5, 292), (30, 6, 294), (36, 7, 296), (43, 1, 286), (85, 2, 288)], [(10, 0, 429), (16, 1, 430), (20, 2, 431), (27, 3, 432), (34, 4, 433), (41, 5, 434), (48, 6, 435)], [(7, 0, 1195), (13, 1, 1196), (17, 12, 1207), (20, 17, 1212), (23, 18, 1213), (26, 21, 1216), (29, 27, 1222), (32, 28, 1223), (35, 29, 1224), (38, 32, 1227), (41, 33, 1228), (44, 2, 1197), (58, 3, 1198), (65, 4, 1199), (68, 5, 1200), (83, 7, 1202), (89, 6, 1201), (92, 8, 1203), (114, 9, 1204), (117, 10, 1205), (124, 11, 1206), (178, 13, 1208), (181, 14, 1209), (184, 15, 1210), (187, 16, 1211), (199, 19, 1214), (221, 20, 1215), (227, 22, 1217), (230, 23, 1218), (233, 24, 1219), (236, 25, 1220), (239, 26, 1221), (346, 30, 1225), (361, 31, 1226), (384, 35, 1230), (388, 34, 1229), (399, 36, 1231)]]
abbrev CF : Type := Int32 ⊕ Option (Option Nat)
abbrev CE : Type := (Nat × List CF) ⊕ (Nat × Nat × List (Nat × Int32) × List (Nat × Nat))
abbrev CS : Type := Nat × Nat × List PV × List PV × List CE × Nat × Nat
def cn_d1 (f : Nat) : CF := match f with
  | 0 => .inl 0
  | 2 => .inl 0
  | 1 => .inr none
  | _ => .inr (some none)
def cn_df (ci : Nat) : List CF := (pm_ft.getD ci []).map cn_d1
def cn_rk (n : Nat) (e : CE) : Bool := match e with
  | .inl (_, fs) => fs.all fun f => match f with
    | .inr (some (some k)) => decide (k < n)
    | _ => true
  | .inr (_, _, _, rs) => rs.all fun q => decide (q.2 < n)
def cn_ok (w : List CE) : Bool := w.all (cn_rk w.length)
def cn_fetch (m pc : Nat) : Option (Instr × Nat) := (cn_cd.getD m []).lookup pc
def cn_cp (m : Nat) : Nat × Nat := cn_cap.getD m (0, 0)
def cn_nmx (m : Nat) : Nat := cn_mx.getD m 0
/-- what a step is: the end, the next state, or a call (class, object, the state behind it) -/
abbrev CA : Type := Option (Unit ⊕ (CS ⊕ (Nat × Nat × CS)))
def cn_kd (t : ArrayType) : Nat := match t with
  | .int => 0
  | .long => 1
  | .boolean => 2
  | _ => 9
def cn_op (m pc nx : Nat) (ls st : List PV) (w : List CE) (c sl : Nat) (i : Instr) : CA := match i with
  | .aload_n k => match ls[k.val]? with
    | some (some (.inr (.inr (some (0, a))))) => some (.inr (.inl (m, nx, ls, vr 0 a :: st, w, c, sl)))
    | _ => none
  | .iload_n k => match ls[k.val]? with
    | some (some (.inl x)) => some (.inr (.inl (m, nx, ls, vi x :: st, w, c, sl)))
    | _ => none
  | .iconst v => some (.inr (.inl (m, nx, ls, vi (Int32.ofInt v) :: st, w, c, sl)))
  | .bipush v => some (.inr (.inl (m, nx, ls, vi (Int8.ofInt v).toInt32 :: st, w, c, sl)))
  | .sipush v => some (.inr (.inl (m, nx, ls, vi (Int16.ofInt v).toInt32 :: st, w, c, sl)))
  | .istore_n k => match st with
    | some (.inl x) :: st => if k.val < ls.length then some (.inr (.inl (m, nx, pm_s1 ls k.val (vi x), st, w, c, sl))) else none
    | _ => none
  | .iinc k v => match ls[k]? with
    | some (some (.inl x)) => some (.inr (.inl (m, nx, pm_s1 ls k (vi (x + Int32.ofInt v)), st, w, c, sl)))
    | _ => none
  | .dup => match st with
    | some (.inr (.inr (some (0, a)))) :: st => some (.inr (.inl (m, nx, ls, vr 0 a :: vr 0 a :: st, w, c, sl)))
    | _ => none
  | .goto o => some (.inr (.inl (m, pm_tg pc o, ls, st, w, c, sl)))
  | .if_icmp cd o => match cd, st with
    | .ge, some (.inl y) :: some (.inl x) :: st => if y ≤ x then some (.inr (.inl (m, pm_tg pc o, ls, st, w, c, sl))) else some (.inr (.inl (m, nx, ls, st, w, c, sl)))
    | _, _ => none
  | .new idx => match (cn_new.getD m []).lookup idx with
    | some (ci, _) => if cn_ok w = true ∧ c + 1 ≤ (cn_cp m).1 ∧ sl + pm_nf ci ≤ (cn_cp m).2 then some (.inr (.inl (m, nx, ls, vr 0 w.length :: st, w ++ [.inl (ci, cn_df ci)], c + 1, sl + pm_nf ci))) else none
    | none => none
  | .newarray t => match st with
    | some (.inl n) :: st => if cn_ok w = true ∧ cn_kd t < 3 ∧ ¬ n < 0 ∧ n.toNatClampNeg ≤ 10000 ∧ c + 1 ≤ (cn_cp m).1 ∧ sl + n.toNatClampNeg ≤ (cn_cp m).2 then some (.inr (.inl (m, nx, ls, vr 0 w.length :: st, w ++ [.inr (cn_kd t, n.toNatClampNeg, [], [])], c + 1, sl + n.toNatClampNeg))) else none
    | _ => none
  | .anewarray idx => match (cn_new.getD m []).lookup idx, st with
    | some (ci, _), some (.inl n) :: st => if cn_ok w = true ∧ (ci = 0 ∨ ci = 2 ∨ ci = 3 ∨ ci = 6) ∧ ¬ n < 0 ∧ n.toNatClampNeg ≤ 10000 ∧ c + 1 ≤ (cn_cp m).1 ∧ sl + n.toNatClampNeg ≤ (cn_cp m).2 then some (.inr (.inl (m, nx, ls, vr 0 w.length :: st, w ++ [.inr (10 + ci, n.toNatClampNeg, [], [])], c + 1, sl + n.toNatClampNeg))) else none
    | _, _ => none
  | .putfield idx => match (cn_fl.getD m []).lookup idx, st with
    | some (k, _), v :: some (.inr (.inr (some (0, a)))) :: st => match w[a]?, v with
      | some (.inl (ci, fs)), some (.inl x) => if ci = m ∧ k < fs.length ∧ pm_fty m k = 0 then some (.inr (.inl (m, nx, ls, st, w.set a (.inl (ci, fs.set k (.inl x))), c, sl))) else none
      | some (.inl (ci, fs)), some (.inr (.inr (some (0, b)))) => if ci = m ∧ k < fs.length ∧ pm_fty m k = 3 ∧ b < w.length then some (.inr (.inl (m, nx, ls, st, w.set a (.inl (ci, fs.set k (.inr (some (some b))))), c, sl))) else none
      | _, _ => none
    | _, _ => none
  | .getfield idx => match (cn_fl.getD m []).lookup idx, st with
    | some (k, _), some (.inr (.inr (some (0, a)))) :: st => match w[a]? with
      | some (.inl (ci, fs)) => match fs[k]? with
        | some (.inr (some (some b))) => if ci = m ∧ b < w.length then some (.inr (.inl (m, nx, ls, vr 0 b :: st, w, c, sl))) else none
        | _ => none
      | _ => none
    | _, _ => none
  | .aastore => match st with
    | some (.inr (.inr (some (0, v)))) :: some (.inl i) :: some (.inr (.inr (some (0, a)))) :: st => match w[a]?, w[v]? with
      | some (.inr (kd, n, is, rs)), some (.inl (ci, _)) => if kd = 10 + ci ∧ pm_inb i n = true ∧ v < w.length then some (.inr (.inl (m, nx, ls, st, w.set a (.inr (kd, n, is, (i.toNatClampNeg, v) :: rs)), c, sl))) else none
      | _, _ => none
    | _ => none
  | .iastore => match st with
    | some (.inl x) :: some (.inl i) :: some (.inr (.inr (some (0, a)))) :: st => match w[a]? with
      | some (.inr (0, n, is, rs)) => if pm_inb i n = true then some (.inr (.inl (m, nx, ls, st, w.set a (.inr (0, n, (i.toNatClampNeg, x) :: is, rs)), c, sl))) else none
      | _ => none
    | _ => none
  | .invokespecial idx => match (cn_cl.getD m []).lookup idx, st with
    | some (ci, _), some (.inr (.inr (some (0, a)))) :: st => if ci = 99 then (if pm_cats st ≤ 8 then some (.inr (.inl (m, nx, ls, st, w, c, sl))) else none) else
        if ci < 9 ∧ c + (cn_cp ci).1 ≤ (cn_cp m).1 ∧ sl + (cn_cp ci).2 ≤ (cn_cp m).2 ∧ pm_cats st ≤ 8 ∧ a < w.length then some (.inr (.inr (ci, a, (m, nx, ls, st, w, c + (cn_cp ci).1, sl + (cn_cp ci).2)))) else none
    | _, _ => none
  | .return_ => match st with
    | [] => if c ≤ (cn_cp m).1 ∧ sl ≤ (cn_cp m).2 then some (.inl ()) else none
    | _ => none
  | _ => none
def cn_pre (σ : CS) : CA := match σ with
  | (m, pc, ls, st, w, c, sl) => match cn_fetch m pc with
    | none => none
    | some (i, n) => cn_op m pc (pc + n) ls st w c sl i
def cn_ent (m a : Nat) : List PV := vr 0 a :: List.replicate (cn_nmx m - 1) none
def cn_ex : Nat → CS → Option (List CE)
  | 0, _ => none
  | n + 1, σ => match cn_pre σ with
    | none => none
    | some (.inl _) => some σ.2.2.2.2.1
    | some (.inr (.inl σ')) => cn_ex n σ'
    | some (.inr (.inr (ci, a, (m, pc, ls, st, w, c, sl)))) => match cn_ex n (ci, 0, cn_ent ci a, [], w, 0, 0) with
      | none => none
      | some w' => if w.length ≤ w'.length then cn_ex n (m, pc, ls, st, w', c, sl) else none
def cn_n (m : Nat) : String := cn_nm.getD m ""
def cn_b (m : Nat) : ByteArray := cn_by.getD m ByteArray.empty
def cn_y (m : Nat) : MethodName := ⟨cn_n m, "<init>", "()V"⟩
def cn_ndm (m : Nat) : Nat × Nat := cn_nd.getD m (0, 0)
def cn_fv (as : Nat → Nat) (f : CF) : Value := match f with
  | .inl x => .int x
  | .inr none => .long 0
  | .inr (some none) => .null
  | .inr (some (some k)) => .ref (as k)
def cn_ce (as : Nat → Nat) (cA : ClassId) (e : CE) : va_E := match e with
  | .inl (ci, fs) => .inr (ci, fs.map (cn_fv as))
  | .inr (kd, n, is, rs) => .inl (cA, n, if kd = 1 then .inr (.inl (fun _ => 0)) else if kd < 3 then .inl (fun j => (is.lookup j).getD 0) else .inr (.inr (.inr (.inr (fun j => (rs.lookup j).map as)))))
theorem up_ag {α : Type} {as : Nat → α} {n : Nat} {q : α} : ∀ k, k < n → va_up as n q k = as k := fun k h => if_neg (by omega)
def cn_ws (as : Nat → Nat) (cA : Nat → ClassId) (w : List CE) : va_W := (List.range w.length).map fun k => (as k, cn_ce as (cA k) (w.getD k (.inl (0, []))))
theorem cn_ws_get (as : Nat → Nat) (cA : Nat → ClassId) (w : List CE) (k : Nat) : (cn_ws as cA w)[k]? = w[k]?.map fun e => (as k, cn_ce as (cA k) e) := by
  unfold cn_ws
  rw [List.getElem?_map]
  by_cases h : k < w.length
  · rw [List.getElem?_range h, List.getElem?_eq_getElem h]
    show some (as k, cn_ce as (cA k) (w.getD k (.inl (0, [])))) = some (as k, cn_ce as (cA k) w[k])
    rw [List.getD_eq_getElem?_getD, List.getElem?_eq_getElem h]
    rfl
  · rw [List.getElem?_eq_none_iff.mpr (by rw [List.length_range]; omega), List.getElem?_eq_none_iff.mpr (Nat.not_lt.mp h)]
    rfl
def cn_ty (kd : Nat) : FieldType := match kd with
  | 0 => .int
  | 1 => .long
  | 2 => .boolean
  | k => .object (cn_n (k - 10))
theorem cn_ce_up {as : Nat → Nat} {cA : ClassId} {e : CE} {n q : Nat} (h : cn_rk n e = true) : cn_ce (va_up as n q) cA e = cn_ce as cA e := by
  unfold cn_rk at h
  unfold cn_ce
  split
  · rename_i ci fs
    dsimp only at h
    rw [List.all_eq_true] at h
    have : fs.map (cn_fv (va_up as n q)) = fs.map (cn_fv as) := by
      refine List.map_congr_left fun f hf => ?_
      have h1 := h f hf
      unfold cn_fv
      split
      · rfl
      · rfl
      · rfl
      · rename_i k
        have h1 : k < n := by simpa using h1
        show Value.ref (va_up as n q k) = Value.ref (as k)
        rw [up_ag k h1]
    rw [this]
  · rename_i kd nn is rs
    dsimp only at h
    rw [List.all_eq_true] at h
    have : (fun j => (rs.lookup j).map (va_up as n q)) = (fun j => (rs.lookup j).map as) := by
      funext j
      cases e : rs.lookup j with
      | none => rfl
      | some k =>
        have h1 := h _ (pm_lookup_mem e)
        have h1 : k < n := by simpa using h1
        show some (va_up as n q k) = some (as k)
        rw [up_ag k h1]
    rw [this]
theorem cn_ws_push {as : Nat → Nat} {cA : Nat → ClassId} {w : List CE} {q : Nat} {cq : ClassId} {e : CE} (hw : cn_ok w = true) (he : cn_rk w.length e = true) : cn_ws (va_up as w.length q) (va_up cA w.length cq) (w ++ [e]) = cn_ws as cA w ++ [(q, cn_ce as cq e)] := by
  refine List.ext_getElem? fun k => ?_
  have hlen : (cn_ws as cA w).length = w.length := by unfold cn_ws; rw [List.length_map, List.length_range]
  rw [cn_ws_get]
  rcases Nat.lt_trichotomy k w.length with h | h | h
  · rw [List.getElem?_append_left h, List.getElem?_append_left (by rw [hlen]; exact h), cn_ws_get]
    cases ew : w[k]? with
    | none => rfl
    | some x =>
      have hx : cn_rk w.length x = true := List.all_eq_true.mp hw x (List.mem_of_getElem? ew)
      show some (va_up as w.length q k, cn_ce (va_up as w.length q) (va_up cA w.length cq k) x) = some (as k, cn_ce as (cA k) x)
      rw [up_ag k h, up_ag k h, cn_ce_up hx]
  · subst h
    rw [List.getElem?_append_right (Nat.le_refl _), List.getElem?_append_right (by rw [hlen]; exact Nat.le_refl _), hlen, Nat.sub_self]
    show some (va_up as w.length q w.length, cn_ce (va_up as w.length q) (va_up cA w.length cq w.length) e) = some (q, cn_ce as cq e)
    rw [va_up_self, va_up_self, cn_ce_up he]
  · rw [List.getElem?_eq_none_iff.mpr (by rw [List.length_append]; simp; omega), List.getElem?_eq_none_iff.mpr (by rw [List.length_append, hlen]; simp; omega)]
    rfl
theorem cn_ws_set {as : Nat → Nat} {cA : Nat → ClassId} {w : List CE} {a : Nat} {e : CE} : (cn_ws as cA w).set a (as a, cn_ce as (cA a) e) = cn_ws as cA (w.set a e) := by
  refine List.ext_getElem? fun k => ?_
  have hlen : (cn_ws as cA w).length = w.length := by unfold cn_ws; rw [List.length_map, List.length_range]
  rw [cn_ws_get, List.getElem?_set, List.getElem?_set, cn_ws_get, hlen]
  by_cases h : a = k
  · subst h
    rw [if_pos rfl, if_pos rfl]
    split <;> rfl
  · rw [if_neg h, if_neg h]
def cn_il (i : Instr) : Nat := match i with
  | .new _ => 3
  | .newarray _ => 2
  | .anewarray _ => 3
  | .invokespecial _ => 3
  | .iconst _ => 1
  | .bipush _ => 2
  | .sipush _ => 3
  | .iinc _ _ => 3
  | .if_icmp _ _ => 3
  | .goto _ => 3
  | .getfield _ => 3
  | .putfield _ => 3
  | _ => 1
theorem cck : (List.range 9).all (fun m => (cn_cd.getD m []).all (fun q => decide (decode (cn_b m) q.1 = .ok q.2) && decide (q.2.2 = cn_il q.2.1) && pm_tok q.1 q.2.1)) = true := by decide +kernel
theorem cn_tabm {β : Type} {L : List (List (Nat × β))} (hL : L.length ≤ 9) {chk : Nat → (Nat × β) → Bool} (hc : (List.range 9).all (fun m => (L.getD m []).all (chk m)) = true) {m a : Nat} {b : β} (h : (L.getD m []).lookup a = some b) : m < 9 ∧ chk m (a, b) = true := by
  have hm := pm_lookup_mem h
  have hw : m < 9 := by
    refine Nat.not_le.mp fun z => ?_
    have : L.getD m [] = [] := by
      rw [List.getD_eq_getElem?_getD, List.getElem?_eq_none_iff.mpr (Nat.le_trans hL z)]
      rfl
    rw [this] at hm
    cases hm
  exact ⟨hw, List.all_eq_true.mp (List.all_eq_true.mp hc m (List.mem_range.mpr hw)) _ hm⟩
theorem cf_dec {m pc : Nat} {i : Instr} {n : Nat} (h : cn_fetch m pc = some (i, n)) : m < 9 ∧ decode (cn_b m) pc = .ok (i, n) ∧ n = cn_il i ∧ pm_tok pc i = true := by
  obtain ⟨h1, h2⟩ := cn_tabm (by decide) cck h
  simp only [Bool.and_eq_true, decide_eq_true_eq] at h2
  exact ⟨h1, h2.1.1, h2.1.2, h2.2⟩
def cn_any (w : Cond) : Bool := lw_tbl.any (fun v => decide (v = w) && goodWord v)
theorem cnk : (List.range 9).all (fun m => (cn_new.getD m []).all (fun q => decide (q.2.1 < 9) && pm_is q.2.2 (Cond.classLink (cn_n m) q.1 (cn_n q.2.1)) && cn_any (Cond.instantiable (cn_n q.2.1) (pm_nf q.2.1)) && cn_any (Cond.initialized (cn_n q.2.1)))) = true := by decide +kernel
theorem cf_vw {ci : Nat} (h : ci < 9) : ∃ (C : String) (T : u_T), vwCl[ci]? = some (C, T, pm_nf ci) ∧ C = cn_n ci := by
  match ci, h with
  | 0, _ => exact ⟨_, _, rfl, rfl⟩
  | 1, _ => exact ⟨_, _, rfl, rfl⟩
  | 2, _ => exact ⟨_, _, rfl, rfl⟩
  | 3, _ => exact ⟨_, _, rfl, rfl⟩
  | 4, _ => exact ⟨_, _, rfl, rfl⟩
  | 5, _ => exact ⟨_, _, rfl, rfl⟩
  | 6, _ => exact ⟨_, _, rfl, rfl⟩
  | 7, _ => exact ⟨_, _, rfl, rfl⟩
  | 8, _ => exact ⟨_, _, rfl, rfl⟩
  | n + 9, h => exact absurd h (by omega)
theorem cf_new {m idx ci pl : Nat} (h : (cn_new.getD m []).lookup idx = some (ci, pl)) : Cond.classLink (cn_n m) idx (cn_n ci) ∈ pm_tb ∧ Cond.instantiable (cn_n ci) (pm_nf ci) ∈ pm_tb ∧ Cond.initialized (cn_n ci) ∈ pm_tb ∧ ci < 9 ∧ ∃ (C : String) (T : u_T), vwCl[ci]? = some (C, T, pm_nf ci) ∧ C = cn_n ci := by
  obtain ⟨h1, h2⟩ := cn_tabm (by decide) cnk h
  simp only [Bool.and_eq_true, decide_eq_true_eq] at h2
  exact ⟨pm_is_tb h2.1.1.2, pm_any_tb h2.1.2, pm_any_tb h2.2, h2.1.1.1, cf_vw h2.1.1.1⟩
def cn_dv (k : Nat) : Value := match k with
  | 0 => .int 0
  | 2 => .int 0
  | 1 => .long 0
  | _ => .null
theorem cn_d1_v (as : Nat → Nat) : ∀ k, cn_fv as (cn_d1 k) = cn_dv k
  | 0 => rfl
  | 1 => rfl
  | 2 => rfl
  | _ + 3 => rfl
theorem cf_dv : (List.range 9).all (fun ci => match vwCl[ci]? with
  | some (_, T, N) => decide (N = (pm_ft.getD ci []).length) && (List.range N).all (fun j => match parseFieldDescriptor (T j).2.2.1 with
    | some ty => decide (defaultValue ty = cn_dv ((pm_ft.getD ci []).getD j 9))
    | none => false)
  | none => false) = true := by decide +kernel
theorem cf_df {ci : Nat} {C : String} {T : u_T} {N : Nat} {ty : Nat → FieldType} {as : Nat → Nat} (hcl : vwCl[ci]? = some (C, T, N)) (hty : ∀ k, k < N → parseFieldDescriptor (T k).2.2.1 = some (ty k)) : ∀ j, j < N → defaultValue (ty j) = vp_V ((cn_df ci).map (cn_fv as)) j := by
  intro j hj
  have hci : ci < 9 := (List.getElem?_eq_some_iff.mp hcl).1
  have h := List.all_eq_true.mp cf_dv ci (List.mem_range.mpr hci)
  rw [hcl] at h
  simp only [Bool.and_eq_true, decide_eq_true_eq] at h
  have h2 := List.all_eq_true.mp h.2 j (List.mem_range.mpr hj)
  rw [hty j hj] at h2
  have h2 : defaultValue (ty j) = cn_dv ((pm_ft.getD ci []).getD j 9) := by simpa using h2
  rw [h2]
  unfold vp_V cn_df
  have hlt : j < (pm_ft.getD ci []).length := by rw [← h.1]; exact hj
  generalize pm_ft.getD ci [] = l at hlt ⊢
  rw [List.map_map, List.getD_eq_getElem?_getD, List.getD_eq_getElem?_getD, List.getElem?_map, List.getElem?_eq_getElem hlt]
  exact (cn_d1_v as _).symm
theorem cf_dfk (ci n : Nat) : cn_rk n (.inl (ci, cn_df ci)) = true := by
  unfold cn_rk
  dsimp only
  rw [List.all_eq_true]
  intro f hf
  unfold cn_df at hf
  obtain ⟨k, -, e⟩ := List.mem_map.mp hf
  rw [← e]
  match k with
  | 0 => rfl
  | 1 => rfl
  | 2 => rfl
  | _ + 3 => rfl
theorem cf_aw : (cn_any (Cond.arrayClass .int) && cn_any (Cond.arrayClass .long) && cn_any (Cond.arrayClass .boolean)) = true := by decide +kernel
theorem cf_arr (t : ArrayType) (h : cn_kd t < 3) : Cond.arrayClass (newarray.typeOf t) ∈ pm_tb ∧ newarray.typeOf t = cn_ty (cn_kd t) := by
  have ha := cf_aw
  simp only [Bool.and_eq_true] at ha
  cases t
  case int => exact ⟨pm_any_tb ha.1.1, rfl⟩
  case long => exact ⟨pm_any_tb ha.1.2, rfl⟩
  case boolean => exact ⟨pm_any_tb ha.2, rfl⟩
  all_goals exact absurd h (by decide)
theorem cf_arrc (t : ArrayType) (h : cn_kd t < 3) (cA : ClassId) (n : Nat) : vp_cell cA (n, if cn_kd t = 1 then .inr (.inl (fun _ => 0)) else .inl (fun _ => 0)) = arrV cA n (fun _ => defaultValue (cn_ty (cn_kd t))) := by
  cases t
  all_goals first | rfl | exact absurd h (by decide)
theorem cf_arrb (t : ArrayType) (h : cn_kd t < 3) {n : Nat} (hn : n ≤ 10000) : n * componentBytes (cn_ty (cn_kd t)) ≤ 536870912 := by
  have : componentBytes (cn_ty (cn_kd t)) ≤ 8 := by
    cases t
    all_goals first | decide | exact absurd h (by decide)
  exact Nat.le_trans (Nat.mul_le_mul hn this) (Nat.le_of_ble_eq_true rfl)
def cn_refty (t : FieldType) : Bool := match t with
  | .object _ => true
  | .array _ => true
  | _ => false
theorem cn_refty_ok {t : FieldType} (h : cn_refty t = true) (a : Nat) : narrow t (.ref a) = .ref a ∧ fits t (.ref a) = true := by
  unfold cn_refty at h
  split at h
  · exact ⟨rfl, rfl⟩
  · exact ⟨rfl, rfl⟩
  · cases h
theorem cfk : (List.range 9).all (fun m => (cn_fl.getD m []).all (fun q => match vwCl[m]? with
  | some (C, T, N) => decide (N = pm_nf m) && decide (q.2.1 < N) && pm_is q.2.2 (Cond.fieldLink (cn_n m) q.1 C (T q.2.1).2.1 (T q.2.1).2.2.1) && decide ((T q.2.1).1 = C) && decide (C = cn_n m) && (decide (pm_fty m q.2.1 ≠ 0) || (decide (parseFieldDescriptor (T q.2.1).2.2.1 = some .int) && decide ((T q.2.1).2.2.2 = false))) && (decide (pm_fty m q.2.1 ≠ 3) || (decide ((T q.2.1).2.2.2 = true) && (match parseFieldDescriptor (T q.2.1).2.2.1 with
    | some ty => cn_refty ty
    | none => false)))
  | none => false)) = true := by decide +kernel
theorem cf_fl {m idx k pl : Nat} (hm : m < 9) (h : (cn_fl.getD m []).lookup idx = some (k, pl)) : ∃ (C : String) (T : u_T), vwCl[m]? = some (C, T, pm_nf m) ∧ k < pm_nf m ∧ Cond.fieldLink (cn_n m) idx C (T k).2.1 (T k).2.2.1 ∈ pm_tb ∧ (T k).1 = C ∧ (pm_fty m k = 0 → parseFieldDescriptor (T k).2.2.1 = some .int ∧ (T k).2.2.2 = false) ∧ (pm_fty m k = 3 → (T k).2.2.2 = true ∧ ∃ ty3, parseFieldDescriptor (T k).2.2.1 = some ty3 ∧ (∀ a : Nat, narrow ty3 (.ref a) = .ref a ∧ fits ty3 (.ref a) = true) ∧ C = cn_n m) := by
  obtain ⟨-, h2⟩ := cn_tabm (by decide) cfk h
  dsimp only at h2
  split at h2
  · rename_i C T N hv
    simp only [Bool.and_eq_true, Bool.or_eq_true, decide_eq_true_eq] at h2
    obtain ⟨⟨⟨⟨⟨⟨a1, a2⟩, a3⟩, a4⟩, a5⟩, a6⟩, a7⟩ := h2
    subst a1
    refine ⟨C, T, hv, a2, pm_is_tb a3, a4, fun z => a6.resolve_left (fun y => y z), fun z => ?_⟩
    have a8 := a7.resolve_left (fun y => y z)
    refine ⟨a8.1, ?_⟩
    have a9 := a8.2
    split at a9
    · rename_i ty e
      exact ⟨ty, e, cn_refty_ok a9, a5⟩
    · cases a9
  · cases h2
theorem clk : (List.range 9).all (fun m => (cn_cl.getD m []).all (fun q => if q.2.1 = 99 then pm_is q.2.2.2 (Cond.methodLink (cn_n m) q.1 Lib.objectInit) else decide (q.2.1 < 9) && (decide (q.2.2.1 = 1) || (decide (q.2.2.1 = 0) && pm_is q.2.2.2 (Cond.methodLink (cn_n m) q.1 (cn_y q.2.1)))) && decide ((cn_ndm q.2.1).1 + 1 ≤ (cn_ndm m).1 ∧ 19 + cn_nmx q.2.1 + (cn_ndm q.2.1).2 ≤ (cn_ndm m).2))) = true := by decide +kernel
theorem ccw_0 : Cond.code ⟨"IllLight$Coast", "<init>", "()V"⟩ prog_2_method_1_code 1 none ∈ pm_tb := List.mem_filter.mpr ⟨(List.mem_append_right (k2_sels lw_privs) (List.mem_append_left _ (List.mem_of_getElem? (l := tables_1_1) (i := 42) rfl))), rfl⟩
theorem ccw_1 : Cond.code ⟨"IllLight$Course", "<init>", "()V"⟩ prog_3_method_1_code 1 none ∈ pm_tb := List.mem_filter.mpr ⟨(List.mem_append_right (k2_sels lw_privs) (List.mem_append_right _ (List.mem_append_left _ (List.mem_of_getElem? (l := tables_1_2) (i := 23) rfl)))), rfl⟩
theorem ccw_2 : Cond.code ⟨"IllLight$Log", "<init>", "()V"⟩ prog_4_method_1_code 1 none ∈ pm_tb := List.mem_filter.mpr ⟨(List.mem_append_right (k2_sels lw_privs) (List.mem_append_left _ (List.mem_of_getElem? (l := tables_1_1) (i := 143) rfl))), rfl⟩
theorem ccw_3 : Cond.code ⟨"IllLight$Night", "<init>", "()V"⟩ prog_5_method_1_code 1 none ∈ pm_tb := List.mem_filter.mpr ⟨(List.mem_append_right (k2_sels lw_privs) (List.mem_append_left _ (List.mem_of_getElem? (l := tables_1_1) (i := 123) rfl))), rfl⟩
theorem ccw_4 : Cond.code ⟨"IllLight$Reader", "<init>", "()V"⟩ prog_6_method_1_code 1 none ∈ pm_tb := List.mem_filter.mpr ⟨(List.mem_append_right (k2_sels lw_privs) (List.mem_append_left _ (List.mem_of_getElem? (l := tables_1_1) (i := 208) rfl))), rfl⟩
theorem ccw_5 : Cond.code ⟨"IllLight$Sea", "<init>", "()V"⟩ prog_8_method_1_code 1 none ∈ pm_tb := List.mem_filter.mpr ⟨(List.mem_append_right (k2_sels lw_privs) (List.mem_append_right _ (List.mem_append_left _ (List.mem_of_getElem? (l := tables_1_2) (i := 52) rfl)))), rfl⟩
theorem ccw_6 : Cond.code ⟨"IllLight$Told", "<init>", "()V"⟩ prog_9_method_1_code 2 none ∈ pm_tb := List.mem_filter.mpr ⟨(List.mem_append_right (k2_sels lw_privs) (List.mem_append_left _ (List.mem_of_getElem? (l := tables_1_1) (i := 31) rfl))), rfl⟩
theorem ccw_7 : Cond.code ⟨"IllLight", "<init>", "()V"⟩ prog_1_method_1_code 2 none ∈ pm_tb := List.mem_filter.mpr ⟨(List.mem_append_right (k2_sels lw_privs) (List.mem_append_left _ (List.mem_of_getElem? (l := tables_1_1) (i := 23) rfl))), rfl⟩
theorem ccw_8 : Cond.code ⟨"IllLightModel", "<init>", "()V"⟩ prog_11_method_1_code 1 none ∈ pm_tb := List.mem_filter.mpr ⟨(List.mem_append_right (k2_sels lw_privs) (List.mem_append_right _ (List.mem_append_right _ (List.mem_append_right _ (List.mem_append_right _ (List.mem_append_left _ (List.mem_of_getElem? (l := tables_1_5) (i := 121) rfl))))))), rfl⟩
theorem cf_code {m : Nat} (hm : m < 9) : Cond.code (cn_y m) (cn_b m) (cn_nmx m) none ∈ pm_tb := by
  match m, hm with
  | 0, _ => exact ccw_0
  | 1, _ => exact ccw_1
  | 2, _ => exact ccw_2
  | 3, _ => exact ccw_3
  | 4, _ => exact ccw_4
  | 5, _ => exact ccw_5
  | 6, _ => exact ccw_6
  | 7, _ => exact ccw_7
  | 8, _ => exact ccw_8
  | n + 9, h => exact absurd h (by omega)
theorem cf_ocode : Cond.code Lib.objectInit ⟨#[0xb1]⟩ 1 none ∈ pm_tb := by
  have h : object_method_1_code = ⟨#[0xb1]⟩ := by decide +kernel
  rw [← h]
  exact List.mem_filter.mpr ⟨(List.mem_append_right (k2_sels lw_privs) (List.mem_append_left _ (List.mem_of_getElem? (l := tables_1_1) (i := 26) rfl))), rfl⟩
theorem cmk : (List.range 9).all (fun m => plainName (cn_y m).cls && decide (1 ≤ cn_nmx m) && decide (1 ≤ (cn_ndm m).1 ∧ 40 ≤ (cn_ndm m).2) && cn_any (Cond.initialized (cn_n m)) && cn_any (Cond.instanceMethod (cn_y m)) && decide ((cn_y m).cls ≠ "java/lang/invoke/MethodHandle" ∧ (cn_y m).cls ≠ "java/lang/invoke/VarHandle")) = true := by decide +kernel
theorem cf_m {m : Nat} (hm : m < 9) : plainName (cn_y m).cls = true ∧ 1 ≤ cn_nmx m ∧ (1 ≤ (cn_ndm m).1 ∧ 40 ≤ (cn_ndm m).2) ∧ Cond.initialized (cn_n m) ∈ pm_tb ∧ Cond.instanceMethod (cn_y m) ∈ pm_tb ∧ ((cn_y m).cls ≠ "java/lang/invoke/MethodHandle" ∧ (cn_y m).cls ≠ "java/lang/invoke/VarHandle") := by
  have h := List.all_eq_true.mp cmk m (List.mem_range.mpr hm)
  simp only [Bool.and_eq_true, decide_eq_true_eq] at h
  obtain ⟨⟨⟨⟨⟨a1, a2⟩, a3⟩, a4⟩, a5⟩, a6⟩ := h
  exact ⟨a1, a2, a3, pm_any_tb a4, pm_any_tb a5, a6⟩
theorem cf_plain {m : Nat} (hm : m < 9) : plainName (cn_y m).cls = true := (cf_m hm).1
theorem cf_mx {m : Nat} (hm : m < 9) : 1 ≤ cn_nmx m := (cf_m hm).2.1
theorem cf_ow : cn_any (Cond.instanceMethod Lib.objectInit) = true := by decide +kernel
theorem cf_obj {m idx x y : Nat} (h : (cn_cl.getD m []).lookup idx = some (99, x, y)) : Cond.methodLink (cn_n m) idx Lib.objectInit ∈ pm_tb ∧ Cond.instanceMethod Lib.objectInit ∈ pm_tb ∧ Cond.code Lib.objectInit ⟨#[0xb1]⟩ 1 none ∈ pm_tb := by
  obtain ⟨-, h2⟩ := cn_tabm (by decide) clk h
  exact ⟨pm_is_tb h2, pm_any_tb cf_ow, cf_ocode⟩
theorem cf_cl {m idx ci nst y : Nat} (h : (cn_cl.getD m []).lookup idx = some (ci, nst, y)) (hc : ci ≠ 99) : ci < 9 ∧ (nst = 1 ∨ (nst = 0 ∧ Cond.methodLink (cn_n m) idx (cn_y ci) ∈ pm_tb)) ∧ (cn_ndm ci).1 + 1 ≤ (cn_ndm m).1 ∧ 19 + cn_nmx ci + (cn_ndm ci).2 ≤ (cn_ndm m).2 := by
  obtain ⟨-, h2⟩ := cn_tabm (by decide) clk h
  dsimp only at h2
  rw [if_neg hc] at h2
  simp only [Bool.and_eq_true, Bool.or_eq_true, decide_eq_true_eq] at h2
  exact ⟨h2.1.1, h2.1.2.imp id (fun z => ⟨z.1, pm_is_tb z.2⟩), h2.2.1, h2.2.2⟩
theorem cf_tyn {ci : Nat} (h : ci < 9) : cn_ty (10 + ci) = .object (vwCl[ci]'h).1 := by
  match ci, h with
  | 0, _ => rfl
  | 1, _ => rfl
  | 2, _ => rfl
  | 3, _ => rfl
  | 4, _ => rfl
  | 5, _ => rfl
  | 6, _ => rfl
  | 7, _ => rfl
  | 8, _ => rfl
  | n + 9, h => exact absurd h (by omega)
