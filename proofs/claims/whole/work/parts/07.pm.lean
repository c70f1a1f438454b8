def pm_sI (h : PH) (t i k : Nat) (v : Int32) : PH := (fun a b c => if a = t then (if c = k then (if b = i then v else h.1 a b c) else h.1 a b c) else h.1 a b c, h.2)
def pm_sL (h : PH) (t i k : Nat) (v : Int64) : PH := (h.1, fun a b c => if a = t then (if c = k then (if b = i then v else h.2 a b c) else h.2 a b c) else h.2 a b c)
/-- a stretch of ints copied: n of them from (t, i) at sp to (t', i') at dp -/
def pm_cp (h : PH) (t i sp t' i' dp n : Nat) : PH := (fun a b c => if a = t' then (if b = i' ∧ dp ≤ c ∧ c < dp + n then h.1 t i (sp + (c - dp)) else h.1 a b c) else h.1 a b c, h.2)
theorem pm_sI_at (h : PH) (t i k : Nat) (v : Int32) (a b c : Nat) : (pm_sI h t i k v).1 a b c = if a = t ∧ b = i ∧ c = k then v else h.1 a b c := by
  show (if a = t then (if c = k then (if b = i then v else h.1 a b c) else h.1 a b c) else h.1 a b c) = _
  by_cases h1 : a = t
  · by_cases h2 : c = k
    · by_cases h3 : b = i
      · simp [h1, h2, h3]
      · simp [h1, h2, h3]
    · simp [h2]
  · simp [h1]
theorem pm_sL_at (h : PH) (t i k : Nat) (v : Int64) (a b c : Nat) : (pm_sL h t i k v).2 a b c = if a = t ∧ b = i ∧ c = k then v else h.2 a b c := by
  show (if a = t then (if c = k then (if b = i then v else h.2 a b c) else h.2 a b c) else h.2 a b c) = _
  by_cases h1 : a = t
  · by_cases h2 : c = k
    · by_cases h3 : b = i
      · simp [h1, h2, h3]
      · simp [h1, h2, h3]
    · simp [h2]
  · simp [h1]
theorem pm_cp_at (h : PH) (t i sp t' i' dp n : Nat) (a b c : Nat) : (pm_cp h t i sp t' i' dp n).1 a b c = if a = t' ∧ b = i' ∧ dp ≤ c ∧ c < dp + n then h.1 t i (sp + (c - dp)) else h.1 a b c := by
  show (if a = t' then (if b = i' ∧ dp ≤ c ∧ c < dp + n then h.1 t i (sp + (c - dp)) else h.1 a b c) else h.1 a b c) = _
  by_cases h1 : a = t'
  · simp [h1]
  · simp [h1]
def pm_cat (v : PV) : Nat := match v with
  | some (.inr (.inl _)) => 2
  | _ => 1
/-- the locals that are kept at a jump's target -/
def pm_mk (kp : Option (List Bool)) (ls : List PV) : List PV := match kp with
  | none => ls
  | some bs => List.zipWith (fun b v => if b = true then v else none) bs ls
/-- a long in front of place i is no more -/
def pm_kl (ls : List PV) (i : Nat) : List PV := match i with
  | 0 => ls
  | j + 1 => match ls[j]? with
    | some (some (.inr (.inl _))) => ls.set j none
    | _ => ls
def pm_s1 (ls : List PV) (i : Nat) (v : PV) : List PV := (pm_kl ls i).set i v
def pm_s2 (ls : List PV) (i : Nat) (v : PV) : List PV := ((pm_kl ls i).set i v).set (i + 1) none
def pm_loc (as : List PV) : List PV := as.flatMap fun v => if pm_cat v = 2 then [v, none] else [v]
def pm_tg (pc : Nat) (off : Int) : Nat := ((pc : Int) + off).toNat
/-- an array's length -/
def pm_len (h : PH) (t i : Nat) : Nat := if t < 44 then (pm_nth pm_at (t - 10) (9, 0)).2 else if t = 61 then pm_nth pm_SL i 0 else if t = 62 then 4 else if t = 63 then 21 else if t = 64 then 84 else if t = 65 then (h.1 66 0 0).toNatClampNeg else 0
/-- tags of arrays of ints that may be read, and written -/
def pm_isI (t : Nat) : Bool := (10 ≤ t && t < 44 && pm_ak t == 0) || t == 62 || t == 63 || t == 64 || t == 65
def pm_isW (t k : Nat) : Bool := 10 ≤ t && t < 44 && pm_ak t == k
def pm_nar (c : Nat) (x : Int32) : Int32 := match c with
  | 2 => x &&& 1
  | 5 => (x.toUInt32 % 65536).toInt32
  | 6 => x.toInt8.toInt32
  | _ => x
def pm_sw {α : Type} (k : Int → α) (x : Int32) : Int → List Int → Int → α
  | _, [], d => k d
  | a, o :: r, d => if x = Int32.ofInt a then k o else pm_sw k x (a + 1) r d
def pm_ls {α : Type} (k : Int → α) (x : Int32) : List (Int × Int) → Int → α
  | [], d => k d
  | (a, o) :: r, d => if x = Int32.ofInt a then k o else pm_ls k x r d
/-- the tag of what a method answers that answers with a reference -/
def pm_rtg (m : Nat) : Nat := pm_nth pm_RT m 0
/-- an answer taken: an int, a long, nothing, a reference -/
def pm_bI (o : Option PR) (f : Int32 → PH → Option PR) : Option PR := match o with
  | some (some (some (.inl x)), h) => f x h
  | _ => none
def pm_bL (o : Option PR) (f : Int64 → PH → Option PR) : Option PR := match o with
  | some (some (some (.inr (.inl x))), h) => f x h
  | _ => none
def pm_bV (o : Option PR) (f : PH → Option PR) : Option PR := match o with
  | some (none, h) => f h
  | _ => none
def pm_bR (o : Option PR) (t : Nat) (f0 : PH → Option PR) (f1 : Nat → PH → Option PR) : Option PR := match o with
  | some (some (some (.inr (.inr none))), h) => f0 h
  | some (some (some (.inr (.inr (some (t', i))))), h) => if t' = t then f1 i h else none
  | _ => none
def pm_ent (m : Nat) (as : List PV) : List PV := pm_loc as ++ List.replicate (pm_mxl m - (pm_loc as).length) none
def pm_cats (st : List PV) : Nat := (st.map pm_cat).sum
/-- a call of m' with its arguments on the stack; v: virtual -/
def pm_call {α : Type} (z : α) (g : PS → α) (c : PS → PC → α) (v : Bool) (m' m pc : Nat) (ls st : List PV) (h : PH) : α :=
  let as := (st.take (pm_na m')).reverse
  let rest := st.drop (pm_na m')
  if pm_na m' ≤ st.length ∧ pm_cats rest ≤ 8 ∧ pm_fr m' + 1 ≤ pm_fr m ∧ 19 + pm_mxl m' + pm_lo m' ≤ pm_lo m ∧ (pm_loc as).length ≤ pm_mxl m' ∧ (v = decide (pm_cls m' ≠ 0)) then
    match v, as with
    | false, _ => c (m', 0, pm_ent m' as, [], h) (m, pc, ls, rest)
    | true, some (.inr (.inr (some (t, _)))) :: _ => if t + 1 = pm_cls m' then c (m', 0, pm_ent m' as, [], h) (m, pc, ls, rest) else z
    | _, _ => z
  else z
def pm_inv {α : Type} (z : α) (g : PS → α) (c : PS → PC → α) (v : Bool) (idx m pc : Nat) (ls st : List PV) (h : PH) : α := match pm_lk (pm_nth pm_L (pm_own m) []) idx with
  | none => z
  | some m' => if m' = 1000 then (match v, st with
      | false, some (.inl n) :: some (.inl dp) :: some (.inr (.inr (some (t', i')))) :: some (.inl sp) :: some (.inr (.inr (some (t, i)))) :: rest =>
        if pm_isW t 0 = true ∧ pm_isW t' 0 = true ∧ ¬ sp < 0 ∧ ¬ dp < 0 ∧ ¬ n < 0 ∧ sp.toNatClampNeg + n.toNatClampNeg ≤ pm_len h t i ∧ dp.toNatClampNeg + n.toNatClampNeg ≤ pm_len h t' i' ∧ 1 ≤ pm_fr m ∧ pm_cats rest + 18 ≤ pm_lo m then
          g (m, pc, ls, rest, (pm_cp h t i sp.toNatClampNeg t' i' dp.toNatClampNeg n.toNatClampNeg)) else z
      | _, _ => z)
    else if 1000 < m' then (match v, m', st with
      | false, 1001, some (.inl x) :: rest => if 1 ≤ pm_fr m ∧ pm_cats rest + 13 ≤ pm_lo m then g (m, pc, ls, vi (if 0 ≤ x then x else 0 - x) :: rest, h) else z
      | false, 1002, some (.inl y) :: some (.inl x) :: rest => if 1 ≤ pm_fr m ∧ pm_cats rest + 13 ≤ pm_lo m then g (m, pc, ls, vi (if x < y then y else x) :: rest, h) else z
      | false, 1003, some (.inl y) :: some (.inl x) :: rest => if 1 ≤ pm_fr m ∧ pm_cats rest + 13 ≤ pm_lo m then g (m, pc, ls, vi (if y < x then y else x) :: rest, h) else z
      | _, _, _ => z)
    else pm_call z g c v m' m pc ls st h
def pm_ild {α : Type} (z : α) (g : PS → α) (ls : List PV) (i m pc : Nat) (st : List PV) (h : PH) : α := match ls[i]? with
  | some (some (.inl x)) => g (m, pc, ls, (vi x :: st), h)
  | _ => z
def pm_lld {α : Type} (z : α) (g : PS → α) (ls : List PV) (i m pc : Nat) (st : List PV) (h : PH) : α := match ls[i]? with
  | some (some (.inr (.inl x))) => g (m, pc, ls, (vl x :: st), h)
  | _ => z
def pm_ald {α : Type} (z : α) (g : PS → α) (ls : List PV) (i m pc : Nat) (st : List PV) (h : PH) : α := match ls[i]? with
  | some (some (.inr (.inr x))) => g (m, pc, ls, (some (.inr (.inr x)) :: st), h)
  | _ => z
def pm_ist {α : Type} (z : α) (g : PS → α) (ls : List PV) (i m pc : Nat) (st : List PV) (h : PH) : α := match st with
  | some (.inl x) :: st => if i < ls.length then g (m, pc, (pm_s1 ls i (vi x)), st, h) else z
  | _ => z
def pm_lst {α : Type} (z : α) (g : PS → α) (ls : List PV) (i m pc : Nat) (st : List PV) (h : PH) : α := match st with
  | some (.inr (.inl x)) :: st => if i + 1 < ls.length then g (m, pc, (pm_s2 ls i (vl x)), st, h) else z
  | _ => z
def pm_ast {α : Type} (z : α) (g : PS → α) (ls : List PV) (i m pc : Nat) (st : List PV) (h : PH) : α := match st with
  | some (.inr (.inr x)) :: st => if i < ls.length then g (m, pc, (pm_s1 ls i (some (.inr (.inr x)))), st, h) else z
  | _ => z
def pm_b1 {α : Type} (z : α) (g : PS → α) (f : Int32 → Int32) (m pc : Nat) (ls st : List PV) (h : PH) : α := match st with
  | some (.inl x) :: st => g (m, pc, ls, (vi (f x) :: st), h)
  | _ => z
def pm_b2 {α : Type} (z : α) (g : PS → α) (f : Int32 → Int32 → Int32) (m pc : Nat) (ls st : List PV) (h : PH) : α := match st with
  | some (.inl y) :: some (.inl x) :: st => g (m, pc, ls, (vi (f x y) :: st), h)
  | _ => z
def pm_l2 {α : Type} (z : α) (g : PS → α) (f : Int64 → Int64 → Int64) (m pc : Nat) (ls st : List PV) (h : PH) : α := match st with
  | some (.inr (.inl y)) :: some (.inr (.inl x)) :: st => g (m, pc, ls, (vl (f x y) :: st), h)
  | _ => z
def pm_lsh {α : Type} (z : α) (g : PS → α) (f : Int64 → Int32 → Int64) (m pc : Nat) (ls st : List PV) (h : PH) : α := match st with
  | some (.inl y) :: some (.inr (.inl x)) :: st => g (m, pc, ls, (vl (f x y) :: st), h)
  | _ => z
def pm_ifz {α : Type} (c : ClassFile.Cond) (x : Int32) (a b : α) : α := match c with
  | .eq => if x = 0 then a else b
  | .ne => if x = 0 then b else a
  | .lt => if x < 0 then a else b
  | .ge => if x < 0 then b else a
  | .gt => if 0 < x then a else b
  | .le => if 0 < x then b else a
def pm_ifc {α : Type} (c : ClassFile.Cond) (x y : Int32) (a b : α) : α := match c with
  | .eq => if x = y then a else b
  | .ne => if x = y then b else a
  | .lt => if x < y then a else b
  | .ge => if x < y then b else a
  | .gt => if y < x then a else b
  | .le => if y < x then b else a
def pm_if1 {α : Type} (z : α) (g : PS → α) (cd : ClassFile.Cond) (m pc tg : Nat) (ls st : List PV) (h : PH) : α := match st with
  | some (.inl x) :: st => pm_ifz cd x (g (m, tg, ls, st, h)) (g (m, pc, ls, st, h))
  | _ => z
def pm_if2 {α : Type} (z : α) (g : PS → α) (cd : ClassFile.Cond) (m pc tg : Nat) (ls st : List PV) (h : PH) : α := match st with
  | some (.inl y) :: some (.inl x) :: st => pm_ifc cd x y (g (m, tg, ls, st, h)) (g (m, pc, ls, st, h))
  | _ => z
def pm_cz (c : ClassFile.Cond) (x : Int32) : Bool := match c with
  | .eq => decide (x = 0)
  | .ne => decide (¬ x = 0)
  | .lt => decide (x < 0)
  | .ge => decide (0 ≤ x)
  | .gt => decide (0 < x)
  | .le => decide (x ≤ 0)
def pm_cc (c : ClassFile.Cond) (x y : Int32) : Bool := match c with
  | .eq => decide (x = y)
  | .ne => decide (¬ x = y)
  | .lt => decide (x < y)
  | .ge => decide (y ≤ x)
  | .gt => decide (y < x)
  | .le => decide (x ≤ y)
def pm_get {α : Type} (z : α) (g : PS → α) (idx m pc : Nat) (ls st : List PV) (h : PH) : α := match st with
  | some (.inr (.inr (some (t, i)))) :: st => match pm_lk (pm_nth pm_F (pm_own m) []) idx with
    | none => z
    | some (ci, k) => if t = ci then (if ci = 60 then (if k = 0 then g (m, pc, ls, (vr 61 i :: st), h) else if k = 1 then g (m, pc, ls, (vi 0 :: st), h) else z) else match pm_fty ci k with
      | 0 => g (m, pc, ls, (vi (h.1 t i k) :: st), h)
      | 2 => g (m, pc, ls, (vi (h.1 t i k) :: st), h)
      | 1 => g (m, pc, ls, (vl (h.2 t i k) :: st), h)
      | 3 => g (m, pc, ls, (pm_rf ci k i :: st), h)
      | _ => z) else z
  | _ => z
def pm_put {α : Type} (z : α) (g : PS → α) (idx m pc : Nat) (ls st : List PV) (h : PH) : α := match st with
  | v :: some (.inr (.inr (some (t, i)))) :: st => match pm_lk (pm_nth pm_F (pm_own m) []) idx with
    | none => z
    | some (ci, k) => if t = ci ∧ ci < 9 then (match pm_fty ci k, v with
      | 0, some (.inl x) => g (m, pc, ls, st, (pm_sI h t i k x))
      | 2, some (.inl x) => if x &&& 1 = x then g (m, pc, ls, st, (pm_sI h t i k x)) else z
      | 1, some (.inr (.inl x)) => g (m, pc, ls, st, (pm_sL h t i k x))
      | _, _ => z) else z
  | _ => z
def pm_gst {α : Type} (z : α) (g : PS → α) (idx m pc : Nat) (ls st : List PV) (h : PH) : α := match pm_lk (pm_nth pm_G (pm_own m) []) idx with
  | some 0 => g (m, pc, ls, (vr 62 0 :: st), h)
  | some 1 => g (m, pc, ls, (vr 63 0 :: st), h)
  | some 2 => g (m, pc, ls, (vr 64 0 :: st), h)
  | some 3 => g (m, pc, ls, (vi 1 :: st), h)
  | some 4 => g (m, pc, ls, (vr 67 0 :: st), h)
  | _ => z
def pm_inb (j : Int32) (n : Nat) : Bool := decide (0 ≤ j) && decide (j.toNatClampNeg < n)
def pm_iald {α : Type} (z : α) (g : PS → α) (m pc : Nat) (ls st : List PV) (h : PH) : α := match st with
  | some (.inl j) :: some (.inr (.inr (some (t, i)))) :: st => if pm_isI t = true then (if pm_inb j (pm_len h t i) = true then g (m, pc, ls, (vi (h.1 t i j.toNatClampNeg) :: st), h) else z) else z
  | _ => z
def pm_bald {α : Type} (z : α) (g : PS → α) (m pc : Nat) (ls st : List PV) (h : PH) : α := match st with
  | some (.inl j) :: some (.inr (.inr (some (t, i)))) :: st => if (pm_isW t 2 || t == 61) = true then (if pm_inb j (pm_len h t i) = true then g (m, pc, ls, (vi (h.1 t i j.toNatClampNeg) :: st), h) else z) else z
  | _ => z
def pm_lald {α : Type} (z : α) (g : PS → α) (m pc : Nat) (ls st : List PV) (h : PH) : α := match st with
  | some (.inl j) :: some (.inr (.inr (some (t, i)))) :: st => if pm_isW t 1 = true then (if pm_inb j (pm_len h t i) = true then g (m, pc, ls, (vl (h.2 t i j.toNatClampNeg) :: st), h) else z) else z
  | _ => z
def pm_aald {α : Type} (z : α) (g : PS → α) (m pc : Nat) (ls st : List PV) (h : PH) : α := match st with
  | some (.inl j) :: some (.inr (.inr (some (t, i)))) :: st => if pm_isW t 3 = true then (if pm_inb j (pm_len h t i) = true then g (m, pc, ls, (pm_aref t i j.toNatClampNeg :: st), h) else z) else z
  | _ => z
def pm_iast {α : Type} (z : α) (g : PS → α) (m pc : Nat) (ls st : List PV) (h : PH) : α := match st with
  | some (.inl x) :: some (.inl j) :: some (.inr (.inr (some (t, i)))) :: st => if pm_isW t 0 = true then (if pm_inb j (pm_len h t i) = true then g (m, pc, ls, st, (pm_sI h t i j.toNatClampNeg x)) else z) else z
  | _ => z
def pm_bast {α : Type} (z : α) (g : PS → α) (m pc : Nat) (ls st : List PV) (h : PH) : α := match st with
  | some (.inl x) :: some (.inl j) :: some (.inr (.inr (some (t, i)))) :: st => if pm_isW t 2 = true then (if pm_inb j (pm_len h t i) = true then g (m, pc, ls, st, (pm_sI h t i j.toNatClampNeg (x &&& 1))) else z) else z
  | _ => z
def pm_last {α : Type} (z : α) (g : PS → α) (m pc : Nat) (ls st : List PV) (h : PH) : α := match st with
  | some (.inr (.inl x)) :: some (.inl j) :: some (.inr (.inr (some (t, i)))) :: st => if pm_isW t 1 = true then (if pm_inb j (pm_len h t i) = true then g (m, pc, ls, st, (pm_sL h t i j.toNatClampNeg x)) else z) else z
  | _ => z
def pm_alen {α : Type} (z : α) (g : PS → α) (m pc : Nat) (ls st : List PV) (h : PH) : α := match st with
  | some (.inr (.inr (some (t, i)))) :: st => if (pm_isI t || pm_isW t 1 || pm_isW t 2 || pm_isW t 3 || t == 61) = true then g (m, pc, ls, (vi (Int32.ofNat (pm_len h t i)) :: st), h) else z
  | _ => z
def pm_op {α : Type} (z : α) (g : PS → α) (r : PR → α) (c : PS → PC → α) (m pc nx : Nat) (ls st : List PV) (h : PH) (ins : Instr) : α := match ins with
  | .iconst v => g (m, nx, ls, (vi (Int32.ofInt v) :: st), h)
  | .bipush v => g (m, nx, ls, (vi (Int8.ofInt v).toInt32 :: st), h)
  | .sipush v => g (m, nx, ls, (vi (Int16.ofInt v).toInt32 :: st), h)
  | .lconst v => g (m, nx, ls, (vl (Int64.ofNat v.val) :: st), h)
  | .iload i => pm_ild z g ls i m nx st h
  | .iload_n i => pm_ild z g ls i.val m nx st h
  | .lload i => pm_lld z g ls i m nx st h
  | .lload_n i => pm_lld z g ls i.val m nx st h
  | .aload i => pm_ald z g ls i m nx st h
  | .aload_n i => pm_ald z g ls i.val m nx st h
  | .istore i => pm_ist z g ls i m nx st h
  | .istore_n i => pm_ist z g ls i.val m nx st h
  | .lstore i => pm_lst z g ls i m nx st h
  | .lstore_n i => pm_lst z g ls i.val m nx st h
  | .astore i => pm_ast z g ls i m nx st h
  | .astore_n i => pm_ast z g ls i.val m nx st h
  | .iinc i v => match ls[i]? with
    | some (some (.inl x)) => g (m, nx, (pm_s1 ls i (vi (x + Int32.ofInt v))), st, h)
    | _ => z
  | .iadd => pm_b2 z g (fun x y => x + y) m nx ls st h
  | .isub => pm_b2 z g (fun x y => x - y) m nx ls st h
  | .imul => pm_b2 z g (fun x y => x * y) m nx ls st h
  | .iand => pm_b2 z g (fun x y => x &&& y) m nx ls st h
  | .ior => pm_b2 z g (fun x y => x ||| y) m nx ls st h
  | .ixor => pm_b2 z g (fun x y => x ^^^ y) m nx ls st h
  | .ishl => pm_b2 z g (fun x y => x <<< (y &&& 31)) m nx ls st h
  | .ishr => pm_b2 z g (fun x y => x >>> (y &&& 31)) m nx ls st h
  | .iushr => pm_b2 z g (fun x y => (x.toUInt32 >>> (y.toUInt32 &&& Int32.toUInt32 31)).toInt32) m nx ls st h
  | .idiv => match st with
    | some (.inl y) :: some (.inl x) :: st => if y = 0 then z else g (m, nx, ls, (vi (x / y) :: st), h)
    | _ => z
  | .irem => match st with
    | some (.inl y) :: some (.inl x) :: st => if y = 0 then z else g (m, nx, ls, (vi (x - x / y * y) :: st), h)
    | _ => z
  | .ineg => pm_b1 z g (fun x => -x) m nx ls st h
  | .i2c => pm_b1 z g (fun x => (x.toUInt32 % 65536).toInt32) m nx ls st h
  | .ladd => pm_l2 z g (fun x y => x + y) m nx ls st h
  | .lsub => pm_l2 z g (fun x y => x - y) m nx ls st h
  | .lmul => pm_l2 z g (fun x y => x * y) m nx ls st h
  | .land => pm_l2 z g (fun x y => x &&& y) m nx ls st h
  | .lor => pm_l2 z g (fun x y => x ||| y) m nx ls st h
  | .lxor => pm_l2 z g (fun x y => x ^^^ y) m nx ls st h
  | .ldiv => match st with
    | some (.inr (.inl y)) :: some (.inr (.inl x)) :: st => if y = 0 then z else g (m, nx, ls, (vl (x / y) :: st), h)
    | _ => z
  | .lrem => match st with
    | some (.inr (.inl y)) :: some (.inr (.inl x)) :: st => if y = 0 then z else g (m, nx, ls, (vl (x - x / y * y) :: st), h)
    | _ => z
  | .lshl => pm_lsh z g (fun x y => x <<< (y.toInt64 &&& 63)) m nx ls st h
  | .lushr => pm_lsh z g (fun x y => (x.toUInt64 >>> (y.toInt64.toUInt64 &&& Int64.toUInt64 63)).toInt64) m nx ls st h
  | .i2l => match st with
    | some (.inl x) :: st => g (m, nx, ls, (vl x.toInt64 :: st), h)
    | _ => z
  | .l2i => match st with
    | some (.inr (.inl x)) :: st => g (m, nx, ls, (vi x.toInt32 :: st), h)
    | _ => z
  | .lcmp => match st with
    | some (.inr (.inl y)) :: some (.inr (.inl x)) :: st => g (m, nx, ls, (vi (lg_cmp x y) :: st), h)
    | _ => z
  | .dup => match st with
    | some v :: st => if pm_cat (some v) = 1 then g (m, nx, ls, (some v :: some v :: st), h) else z
    | _ => z
  | .pop => match st with
    | some v :: st => if pm_cat (some v) = 1 then g (m, nx, ls, st, h) else z
    | _ => z
  | .dup2 => match st with
    | some v :: some w :: st => if pm_cat (some v) = 1 ∧ pm_cat (some w) = 1 then g (m, nx, ls, (some v :: some w :: some v :: some w :: st), h) else if pm_cat (some v) = 2 then g (m, nx, ls, (some v :: some v :: some w :: st), h) else z
    | some v :: [] => if pm_cat (some v) = 2 then g (m, nx, ls, (some v :: some v :: []), h) else z
    | _ => z
  | .ifCond cd off => pm_if1 z g cd m nx (pm_tg pc off) ls st h
  | .if_icmp cd off => pm_if2 z g cd m nx (pm_tg pc off) ls st h
  | .goto off => g (m, (pm_tg pc off), ls, st, h)
  | .ifnull off => match st with
    | some (.inr (.inr none)) :: st => g (m, (pm_tg pc off), ls, st, h)
    | some (.inr (.inr (some (t, _)))) :: st => if t = 67 then z else g (m, nx, ls, st, h)
    | _ => z
  | .ifnonnull off => match st with
    | some (.inr (.inr none)) :: st => g (m, nx, ls, st, h)
    | some (.inr (.inr (some (t, _)))) :: st => if t = 67 then z else g (m, (pm_tg pc off), ls, st, h)
    | _ => z
  | .aconst_null => g (m, nx, ls, (vn :: st), h)
  | .tableswitch d lo hi offs => match st with
    | some (.inl x) :: st => if hi + 1 = lo + offs.size ∧ -2147483648 ≤ lo ∧ hi < 2147483648 then pm_sw (fun o => g (m, pm_tg pc o, ls, st, h)) x lo offs.toList d else z
    | _ => z
  | .lookupswitch d ps => match st with
    | some (.inl x) :: st => if (ps.toList.zip (ps.toList.drop 1)).all (fun (a, next) => decide (a.1 < next.1)) = true ∧ ps.toList.all (fun a => decide (-2147483648 ≤ a.1 ∧ a.1 < 2147483648)) = true then pm_ls (fun o => g (m, pm_tg pc o, ls, st, h)) x ps.toList d else z
    | _ => z
  | .getfield idx => pm_get z g idx m nx ls st h
  | .putfield idx => pm_put z g idx m nx ls st h
  | .getstatic idx => pm_gst z g idx m nx ls st h
  | .iaload => pm_iald z g m nx ls st h
  | .baload => pm_bald z g m nx ls st h
  | .laload => pm_lald z g m nx ls st h
  | .aaload => pm_aald z g m nx ls st h
  | .iastore => pm_iast z g m nx ls st h
  | .bastore => pm_bast z g m nx ls st h
  | .lastore => pm_last z g m nx ls st h
  | .arraylength => pm_alen z g m nx ls st h
  | .ldc idx => match pm_lk (pm_nth pm_CI (pm_own m) []) idx with
    | some v => g (m, nx, ls, (vi v :: st), h)
    | none => match pm_lk (pm_nth pm_CS (pm_own m) []) idx with
      | some i => g (m, nx, ls, (vr 60 i :: st), h)
      | none => z
  | .ldc_w idx => match pm_lk (pm_nth pm_CI (pm_own m) []) idx with
    | some v => g (m, nx, ls, (vi v :: st), h)
    | none => z
  | .ldc2_w idx => match pm_lk (pm_nth pm_CL (pm_own m) []) idx with
    | some v => g (m, nx, ls, (vl v :: st), h)
    | none => z
  | .invokevirtual idx => pm_inv z g c true idx m nx ls st h
  | .invokestatic idx => pm_inv z g c false idx m nx ls st h
  | .ireturn => match st with
    | [some (.inl x)] => match pm_ret m with
      | 1 => r (some (vi x), h)
      | 2 => if x &&& 1 = x then r (some (vi x), h) else z
      | 5 => if (x.toUInt32 % 65536).toInt32 = x then r (some (vi x), h) else z
      | 6 => if x.toInt8.toInt32 = x then r (some (vi x), h) else z
      | _ => z
    | _ => z
  | .lreturn => match st with
    | [some (.inr (.inl x))] => if pm_ret m = 3 then r (some (vl x), h) else z
    | _ => z
  | .areturn => match st with
    | [some (.inr (.inr x))] => if pm_ret m = 4 then r (some (some (.inr (.inr x))), h) else z
    | _ => z
  | .return_ => match st with
    | [] => if pm_ret m = 0 then r (none, h) else z
    | _ => z
  | _ => z
/-- one step: z a stop, g goes on, r returns, c calls -/
def pm_st {α : Type} (z : α) (g : PS → α) (r : PR → α) (c : PS → PC → α) (σ : PS) : α := match σ with
  | (m, pc, ls, st, h) => match pm_fetch m pc with
    | none => z
    | some (ins, n, kp) => pm_op z g r c m pc (pc + n) (pm_mk kp ls) st h ins
def pm_pre (σ : PS) : PA := pm_st none (fun σ => some (.inr (.inl σ))) (fun r => some (.inl r)) (fun σ k => some (.inr (.inr (σ, k)))) σ
/-- a call's answer comes onto the stack: f runs the callee, ih goes on -/
def pm_cl (f ih : PS → Option PR) (σ : PS) (q : PC) : Option PR := match pm_ret σ.1 with
  | 0 => pm_bV (f σ) (fun h => ih (q.1, q.2.1, q.2.2.1, q.2.2.2, h))
  | 3 => pm_bL (f σ) (fun x h => ih (q.1, q.2.1, q.2.2.1, vl x :: q.2.2.2, h))
  | 4 => pm_bR (f σ) (pm_rtg σ.1) (fun h => ih (q.1, q.2.1, q.2.2.1, vn :: q.2.2.2, h)) (fun i h => ih (q.1, q.2.1, q.2.2.1, vr (pm_rtg σ.1) i :: q.2.2.2, h))
  | 1 => pm_bI (f σ) (fun x h => ih (q.1, q.2.1, q.2.2.1, vi x :: q.2.2.2, h))
  | 2 => pm_bI (f σ) (fun x h => ih (q.1, q.2.1, q.2.2.1, vi x :: q.2.2.2, h))
  | 5 => pm_bI (f σ) (fun x h => ih (q.1, q.2.1, q.2.2.1, vi x :: q.2.2.2, h))
  | 6 => pm_bI (f σ) (fun x h => ih (q.1, q.2.1, q.2.2.1, vi x :: q.2.2.2, h))
  | _ => none
def pm_act (ih : PS → Option PR) (a : PA) : Option PR := match a with
  | none => none
  | some (.inl r) => some r
  | some (.inr (.inl σ)) => ih σ
  | some (.inr (.inr (σ, q))) => pm_cl ih ih σ q
def pm_ex : Nat → PS → Option PR
  | 0 => fun _ => none
  | n + 1 => fun σ => pm_act (pm_ex n) (pm_pre σ)
