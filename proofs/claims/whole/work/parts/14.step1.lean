section PMT
variable {p : Program} {l : Launch} {e : Env} {R : Room} {s : State} {mm : MethodId} {args : Array Value} {below : List Frame} {meth : Method} {c : Code} {cells slots : Nat} {Q : State → Prop}
variable {D : va_G} {cA : Nat → Nat → ClassId} {ad : Nat → Nat → Nat} {fm : Value} {A : Nat → Prop} {ex : Nat → Nat → Nat → Int32}
variable {m pc : Nat} {ls st : List PV} {h : PH} {G : PS → Prop} {Rt : PR → Prop} {Cl : PS → PC → Prop}
theorem pm_tg_ok {pc : Nat} {o : Int} (h : decide (0 ≤ (pc : Int) + o) = true) : (pc : Int) + o = (pm_tg pc o : Int) := by
  unfold pm_tg
  have := of_decide_eq_true h
  omega
/-- how a frame ends -/
def pm_RtW (p : Program) (l : Launch) (e : Env) (R : Room) (s : State) (mm : MethodId) (args : Array Value) (below : List Frame) (meth : Method) (c : Code) (cells slots : Nat) (Q : State → Prop) (D : va_G) (cA : Nat → Nat → ClassId) (ad : Nat → Nat → Nat) (fm : Value) (A : Nat → Prop) (ex : Nat → Nat → Nat → Int32) (m : Nat) (r : PR) : Prop :=
  ∀ (H : Heap) (locs : List Loc) (la : Array Slot) (pc0 : Nat), pm_HR s D cA ad A ex r.2 H locs →
    (∀ x : Int32, r.1 = some (vi x) → pm_nar (pm_ret m) x = x → (pm_ret m = 1 ∨ pm_ret m = 2 ∨ pm_ret m = 5 ∨ pm_ret m = 6) → decode (pm_by m) pc0 = .ok (.ireturn, 1) → W p l e R s mm args below meth c H locs cells slots Q (F0 mm pc0 la [.int x])) ∧
    (∀ x : Int64, r.1 = some (vl x) → pm_ret m = 3 → decode (pm_by m) pc0 = .ok (.lreturn, 1) → W p l e R s mm args below meth c H locs cells slots Q (F0 mm pc0 la [.long x])) ∧
    (∀ x : Option (Nat × Nat), r.1 = some (some (.inr (.inr x))) → pm_ret m = 4 → pm_okv (some (.inr (.inr x))) → decode (pm_by m) pc0 = .ok (.areturn, 1) → W p l e R s mm args below meth c H locs cells slots Q (F0 mm pc0 la [pm_mp ad fm (some (.inr (.inr x)))])) ∧
    (r.1 = none → pm_ret m = 0 → decode (pm_by m) pc0 = .ok (.return_, 1) → W p l e R s mm args below meth c H locs cells slots Q (F0 mm pc0 la []))
theorem pm_At_mk {kp : Option (List Bool)} (hk : ∀ bs, kp = some bs → bs.length = pm_mxl m) (hA : pm_At p l e R s mm args below meth c cells slots Q D cA ad fm A ex (m, pc, pm_mk kp ls, st, h)) : pm_At p l e R s mm args below meth c cells slots Q D cA ad fm A ex (m, pc, ls, st, h) := by
  intro H locs la hH hL
  refine hA H locs la hH ⟨hL.1, hL.2.1, ?_, fun i v hv hn => hL.2.2.2 i v (pm_mk_get hv hn) hn⟩
  have h1 : ls.length = pm_mxl m := hL.2.2.1
  show (pm_mk kp ls).length = pm_mxl m
  unfold pm_mk
  split
  · exact h1
  · rename_i bs
    rw [List.length_zipWith, hk bs rfl, h1, Nat.min_self]
theorem fb_ofI' {z : Int} (h1 : -2147483648 ≤ z) (h2 : z < 2147483648) : (Int32.ofInt z).toInt = z := by
  rw [Int32.toInt_ofInt]
  show z.bmod (2 ^ 32) = z
  exact Int.bmod_eq_of_le (by omega) (by omega)
theorem pm_ls_off {pc : Nat} {d x : Int} {l : List (Int × Int)} (h1 : decide (0 ≤ (pc : Int) + d) = true) (h2 : ∀ o ∈ l, decide (0 ≤ (pc : Int) + o.2) = true) : decide (0 ≤ (pc : Int) + Op.lookupswitch.offset l d x) = true := by
  induction l with
  | nil => exact h1
  | cons a r ih =>
    obtain ⟨b, o⟩ := a
    by_cases hx : b = x
    · have : Op.lookupswitch.offset ((b, o) :: r) d x = o := by simp [Op.lookupswitch.offset, hx]
      rw [this]
      exact h2 (b, o) List.mem_cons_self
    · have : Op.lookupswitch.offset ((b, o) :: r) d x = Op.lookupswitch.offset r d x := by simp [Op.lookupswitch.offset, hx]
      rw [this]
      exact ih (fun q hq => h2 q (List.mem_cons_of_mem _ hq))
theorem pm_sw_at (G0 : Int → Prop) (x : Int32) : ∀ (l : List Int) (a d : Int), -2147483648 ≤ a → a + l.length ≤ 2147483648 → pm_sw G0 x a l d → (x.toInt < a ∨ a + l.length ≤ x.toInt → G0 d) ∧ (∀ o, a ≤ x.toInt → x.toInt < a + l.length → l[(x.toInt - a).toNat]? = some o → G0 o)
  | [], a, d, _, _, hs => ⟨fun _ => hs, fun o h1 h2 => by simp at h2; omega⟩
  | o :: r, a, d, h1, h2, hs => by
    unfold pm_sw at hs
    have hl : ((o :: r).length : Int) = r.length + 1 := by simp
    split at hs
    · rename_i hx
      have e0 : x.toInt = a := by rw [hx]; exact fb_ofI' h1 (by omega)
      refine ⟨fun q => by omega, fun o' _ _ q => ?_⟩
      rw [e0] at q
      have e1 : (a - a).toNat = 0 := by omega
      rw [e1] at q
      have q : o = o' := by simpa using q
      rw [← q]
      exact hs
    · rename_i hx
      have hne : x.toInt ≠ a := fun q => hx (by rw [← q]; exact (Int32.ofInt_toInt x).symm)
      obtain ⟨i1, i2⟩ := pm_sw_at G0 x r (a + 1) d (by omega) (by omega) hs
      refine ⟨fun q => i1 (by omega), fun o' q1 q2 q => i2 o' (by omega) (by omega) ?_⟩
      have e1 : (x.toInt - a).toNat = (x.toInt - (a + 1)).toNat + 1 := by omega
      rw [e1] at q
      simpa using q
theorem pm_ls_at (G0 : Int → Prop) (x : Int32) : ∀ (l : List (Int × Int)) (d : Int), l.all (fun a => decide (-2147483648 ≤ a.1 ∧ a.1 < 2147483648)) = true → pm_ls G0 x l d → G0 (Op.lookupswitch.offset l d x.toInt)
  | [], d, _, hs => hs
  | (a, o) :: r, d, h1, hs => by
    rw [List.all_cons, Bool.and_eq_true, decide_eq_true_eq] at h1
    unfold pm_ls at hs
    split at hs
    · rename_i hx
      have e0 : x.toInt = a := by rw [hx]; exact fb_ofI' h1.1.1 h1.1.2
      rw [e0]
      simpa [Op.lookupswitch.offset] using hs
    · rename_i hx
      have hne : ¬ x = Int32.ofInt a := hx
      rw [lv_osw (k := Int32.ofInt a) hne (fb_ofI' h1.1.1 h1.1.2)]
      exact pm_ls_at G0 x r d h1.2 hs
set_option maxHeartbeats 4000000 in
theorem pm_step1 (F : pm_Fr p R s mm args c cells slots D cA ad fm A ex m) (hop0 : pm_st False G Rt Cl (m, pc, ls, st, h)) (hG : ∀ σ, G σ → σ.1 = m → pm_Ok σ → pm_At p l e R s mm args below meth c cells slots Q D cA ad fm A ex σ)
    (hR : ∀ r, Rt r → pm_RtW p l e R s mm args below meth c cells slots Q D cA ad fm A ex m r)
    (hC : ∀ (v : Bool) (idx : Nat) (ls' : List PV), decode (pm_by m) pc = .ok ((match v with | true => .invokevirtual idx | false => .invokestatic idx), 3) → pm_inv False G Cl v idx m (pc + 3) ls' st h → pm_Ok (m, pc, ls', st, h) → pm_At p l e R s mm args below meth c cells slots Q D cA ad fm A ex (m, pc, ls', st, h))
    (ok0 : pm_Ok (m, pc, ls, st, h)) : pm_At p l e R s mm args below meth c cells slots Q D cA ad fm A ex (m, pc, ls, st, h) := by
  have hx := F.1
  have hb := F.2.1
  have hown := F.2.2.2.1
  have hts := F.2.2.2.2.1
  have hX := F.2.2.2.2.2.2.1
  have hfm := hX.1
  unfold pm_st at hop0
  dsimp only at hop0
  cases hf : pm_fetch m pc with
  | none => rw [hf] at hop0; exact hop0.elim
  | some q =>
  obtain ⟨ins, n, kp⟩ := q
  rw [hf] at hop0
  dsimp only at hop0
  obtain ⟨hdg, hn, hkp⟩ := tf_dec hf
  have htk := tf_tok hf
  refine pm_At_mk hkp ?_
  have ok : pm_Ok (m, pc, pm_mk kp ls, st, h) := ⟨pm_mk_ok ok0.1 trivial kp, ok0.2⟩
  generalize pm_mk kp ls = ls at hop0 ok ⊢
  cases ins
  all_goals try (exact (show False from hop0).elim)
  all_goals (have hop := hop0)
  all_goals try (replace hn := hn.resolve_left (fun z => absurd z (Nat.succ_ne_zero _)); dsimp only [pm_il] at hn; subst hn)
  all_goals (unfold pm_op at hop; dsimp only at hop)
  case iconst v => exact fun H locs la hH hL => lv_iconst hx hb hdg rfl (hG _ hop rfl ⟨ok.1, ok_push ok.2 (by simp) trivial⟩ H locs la hH hL)
  case bipush v => exact fun H locs la hH hL => lv_bipush hx hb hdg rfl (hG _ hop rfl ⟨ok.1, ok_push ok.2 (by simp) trivial⟩ H locs la hH hL)
  case sipush v => exact fun H locs la hH hL => lv_sipush hx hb hdg rfl (hG _ hop rfl ⟨ok.1, ok_push ok.2 (by simp) trivial⟩ H locs la hH hL)
  case lconst v => exact fun H locs la hH hL => lv_lconst hx hb hdg rfl (hG _ hop rfl ⟨ok.1, ok_push ok.2 (by simp) trivial⟩ H locs la hH hL)
  case iload i => exact sd_ild hop hG ok (fun x H locs la q k => lv_iload hx hb hdg q k)
  case iload_n i => exact sd_ild hop hG ok (fun x H locs la q k => lv_iload_n hx hb hdg rfl q k)
  case lload i => exact sd_lld hop hG ok (fun x H locs la q k => lv_lload hx hb hdg q k)
  case lload_n i => exact sd_lld hop hG ok (fun x H locs la q k => lv_lload_n hx hb hdg rfl q k)
  case aload i => exact sd_ald hfm hop hG ok (fun x H locs la q k => lv_aload hx hb hdg q k) (fun H locs la q k => lv_aloadN hx hb hdg q k)
  case aload_n i => exact sd_ald hfm hop hG ok (fun x H locs la q k => lv_aload_n hx hb hdg rfl q k) (fun H locs la q k => lv_aload_nN hx hb hdg rfl q k)
  case istore i => exact sd_ist hfm hop hG ok (fun x rest H locs la lv lv' a b d k => lv_istore hx hb hdg a b d k)
  case istore_n i => exact sd_ist hfm hop hG ok (fun x rest H locs la lv lv' a b d k => lv_istore_n hx hb hdg rfl a b d k)
  case lstore i => exact sd_lst hfm hop hG ok (fun x rest H locs la lv lv' a b d k => lv_lstore hx hb hdg a b d k)
  case lstore_n i => exact sd_lst hfm hop hG ok (fun x rest H locs la lv lv' a b d k => lv_lstore_n hx hb hdg rfl a b d k)
  case astore i => exact sd_ast hfm hop hG ok (fun x rest H locs la lv lv' a b d k => lv_astore hx hb hdg a b d k) (fun rest H locs la lv lv' a b d k => lv_astoreN hx hb hdg a b d k)
  case astore_n i => exact sd_ast hfm hop hG ok (fun x rest H locs la lv lv' a b d k => lv_astore_n hx hb hdg rfl a b d k) (fun rest H locs la lv lv' a b d k => lv_astore_nN hx hb hdg rfl a b d k)
  case iinc i v =>
    split at hop
    · rename_i x hxx
      intro H locs la hH hL
      have hi' : i < pm_mxl m := by rw [← hL.2.2.1]; exact (List.getElem?_eq_some_iff.mp hxx).1
      have hmem : (i, pm_mp ad fm (vi x)) ∈ pm_lv ad fm ls := pm_lv_mem.mpr ⟨_, hxx, rfl⟩
      obtain ⟨k, hk⟩ := List.mem_iff_getElem?.mp hmem
      refine lv_iinc hx hb hdg hL.has hk rfl hi' rfl fun la' hl' => ?_
      exact hG _ hop rfl ⟨pm_s1_ok ok.1 trivial (pm_okv_i _) i, ok.2⟩ H locs la' hH (pm_LR.of (by show (pm_s1 ls i _).length = pm_mxl m; rw [pm_s1_len]; exact hL.2.2.1) hl' (fun q hq => pm_s1_lv hfm hq))
    · exact hop.elim
  case iadd => exact sd_b2 hop hG ok (fun x y rest H locs la k => lv_iadd hx hb hdg k)
  case isub => exact sd_b2 hop hG ok (fun x y rest H locs la k => lv_isub hx hb hdg k)
  case imul => exact sd_b2 hop hG ok (fun x y rest H locs la k => lv_imul hx hb hdg k)
  case iand => exact sd_b2 hop hG ok (fun x y rest H locs la k => lv_iand hx hb hdg k)
  case ior => exact sd_b2 hop hG ok (fun x y rest H locs la k => lv_ior hx hb hdg k)
  case ixor => exact sd_b2 hop hG ok (fun x y rest H locs la k => lv_ixor hx hb hdg k)
  case ishl => exact sd_b2 hop hG ok (fun x y rest H locs la k => lv_ishl hx hb hdg k)
  case ishr => exact sd_b2 hop hG ok (fun x y rest H locs la k => lv_ishr hx hb hdg k)
  case iushr => exact sd_b2 hop hG ok (fun x y rest H locs la k => lv_iushr hx hb hdg rfl k)
  case idiv =>
    split at hop
    · rename_i y x st'
      split at hop
      · exact hop.elim
      · rename_i hne
        exact fun H locs la hH hL => lv_idiv hx hb hdg hne (hG _ hop rfl ⟨ok.1, ok_push (ok_tl (ok_tl ok.2)) (by simp) trivial⟩ H locs la hH hL)
    · exact hop.elim
  case irem =>
    split at hop
    · rename_i y x st'
      split at hop
      · exact hop.elim
      · rename_i hne
        exact fun H locs la hH hL => lv_irem hx hb hdg hne (hG _ hop rfl ⟨ok.1, ok_push (ok_tl (ok_tl ok.2)) (by simp) trivial⟩ H locs la hH hL)
    · exact hop.elim
  case ineg => exact sd_b1 hop hG ok (fun x rest H locs la k => lv_ineg hx hb hdg k)
  case i2c => exact sd_b1 hop hG ok (fun x rest H locs la k => lv_i2c hx hb hdg rfl k)
  case ladd => exact sd_l2 hop hG ok (fun x y rest H locs la k => lv_ladd hx hb hdg k)
  case lsub => exact sd_l2 hop hG ok (fun x y rest H locs la k => lv_lsub hx hb hdg k)
  case lmul => exact sd_l2 hop hG ok (fun x y rest H locs la k => lv_lmul hx hb hdg k)
  case land => exact sd_l2 hop hG ok (fun x y rest H locs la k => lv_land hx hb hdg k)
  case lor => exact sd_l2 hop hG ok (fun x y rest H locs la k => lv_lor hx hb hdg k)
  case lxor => exact sd_l2 hop hG ok (fun x y rest H locs la k => lv_lxor hx hb hdg k)
  case ldiv =>
    split at hop
    · rename_i y x st'
      split at hop
      · exact hop.elim
      · rename_i hne
        exact fun H locs la hH hL => lv_ldiv hx hb hdg hne (hG _ hop rfl ⟨ok.1, ok_push (ok_tl (ok_tl ok.2)) (by simp) trivial⟩ H locs la hH hL)
    · exact hop.elim
  case lrem =>
    split at hop
    · rename_i y x st'
      split at hop
      · exact hop.elim
      · rename_i hne
        exact fun H locs la hH hL => lv_lrem hx hb hdg hne (hG _ hop rfl ⟨ok.1, ok_push (ok_tl (ok_tl ok.2)) (by simp) trivial⟩ H locs la hH hL)
    · exact hop.elim
  case lshl => exact sd_lsh hop hG ok (fun x y rest H locs la k => lv_lshl hx hb hdg rfl k)
  case lushr => exact sd_lsh hop hG ok (fun x y rest H locs la k => lv_lushr hx hb hdg rfl k)
  case i2l =>
    split at hop
    · exact fun H locs la hH hL => lv_i2l hx hb hdg rfl (hG _ hop rfl ⟨ok.1, ok_push (ok_tl ok.2) (by simp) trivial⟩ H locs la hH hL)
    · exact hop.elim
  case l2i =>
    split at hop
    · exact fun H locs la hH hL => lv_l2i hx hb hdg rfl (hG _ hop rfl ⟨ok.1, ok_push (ok_tl ok.2) (by simp) trivial⟩ H locs la hH hL)
    · exact hop.elim
  case lcmp =>
    split at hop
    · exact fun H locs la hH hL => W.lcmp hx hb hdg (hG _ hop rfl ⟨ok.1, ok_push (ok_tl (ok_tl ok.2)) (by simp) trivial⟩ H locs la hH hL)
    · exact hop.elim
  case dup =>
    split at hop
    · split at hop
      · rename_i hc
        exact fun H locs la hH hL => lv_dup hx hb hdg (by rw [pm_cat_mp hfm]; exact hc) (hG _ hop rfl ⟨ok.1, ok_push ok.2 (by simp) (ok_hd ok.2)⟩ H locs la hH hL)
      · exact hop.elim
    · exact hop.elim
  case pop =>
    split at hop
    · split at hop
      · rename_i hc
        exact fun H locs la hH hL => lv_pop hx hb hdg (by rw [pm_cat_mp hfm]; exact hc) (hG _ hop rfl ⟨ok.1, ok_tl ok.2⟩ H locs la hH hL)
      · exact hop.elim
    · exact hop.elim
  case dup2 =>
    split at hop
    · rename_i v w st'
      split at hop
      · rename_i hc
        exact fun H locs la hH hL => lv_dup2_11 hx hb hdg (by rw [pm_cat_mp hfm]; exact hc.1) (by rw [pm_cat_mp hfm]; exact hc.2) (hG _ hop rfl ⟨ok.1, ok_push (ok_push ok.2 (by simp) (ok_hd (ok_tl ok.2))) (by simp) (ok_hd ok.2)⟩ H locs la hH hL)
      · split at hop
        · rename_i hc
          exact fun H locs la hH hL => lv_dup2_2 hx hb hdg (by rw [pm_cat_mp hfm]; exact hc) (hG _ hop rfl ⟨ok.1, ok_push ok.2 (by simp) (ok_hd ok.2)⟩ H locs la hH hL)
        · exact hop.elim
    · split at hop
      · rename_i hc
        exact fun H locs la hH hL => lv_dup2_2 hx hb hdg (by rw [pm_cat_mp hfm]; exact hc) (hG _ hop rfl ⟨ok.1, ok_push ok.2 (by simp) (ok_hd ok.2)⟩ H locs la hH hL)
      · exact hop.elim
    · exact hop.elim
  case ifCond cd off =>
    have ht := pm_tg_ok htk
    cases cd
    case eq => exact sd_if1 hop hG ok (fun x rest H locs la k1 k2 => lv_if_eq hx hb hdg ht (fun q => k1 (decide_eq_true q)) (fun q => k2 (fun z => q (of_decide_eq_true z))))
    case ne => exact sd_if1 hop hG ok (fun x rest H locs la k1 k2 => lv_if_ne hx hb hdg ht (fun q => k1 (decide_eq_true q)) (fun q => k2 (fun z => (of_decide_eq_true z) q)))
    case lt => exact sd_if1 hop hG ok (fun x rest H locs la k1 k2 => lv_if_lt hx hb hdg ht (fun q => k1 (decide_eq_true q)) (fun q => k2 (fun z => q (of_decide_eq_true z))))
    case ge => exact sd_if1 hop hG ok (fun x rest H locs la k1 k2 => lv_if_ge hx hb hdg ht (fun q => k1 (decide_eq_true q)) (fun q => k2 (fun z => q (of_decide_eq_true z))))
    case gt => exact sd_if1 hop hG ok (fun x rest H locs la k1 k2 => lv_if_gt hx hb hdg ht (fun q => k1 (decide_eq_true q)) (fun q => k2 (fun z => q (of_decide_eq_true z))))
    case le => exact sd_if1 hop hG ok (fun x rest H locs la k1 k2 => lv_if_le hx hb hdg ht (fun q => k1 (decide_eq_true q)) (fun q => k2 (fun z => q (of_decide_eq_true z))))
  case if_icmp cd off =>
    have ht := pm_tg_ok htk
    cases cd
    case eq => exact sd_if2 hop hG ok (fun x y rest H locs la k1 k2 => lv_icmp_eq hx hb hdg ht (fun q => k1 (decide_eq_true q)) (fun q => k2 (fun z => q (of_decide_eq_true z))))
    case ne => exact sd_if2 hop hG ok (fun x y rest H locs la k1 k2 => lv_icmp_ne hx hb hdg ht (fun q => k1 (decide_eq_true q)) (fun q => k2 (fun z => (of_decide_eq_true z) q)))
    case lt => exact sd_if2 hop hG ok (fun x y rest H locs la k1 k2 => lv_icmp_lt hx hb hdg ht (fun q => k1 (decide_eq_true q)) (fun q => k2 (fun z => q (of_decide_eq_true z))))
    case ge => exact sd_if2 hop hG ok (fun x y rest H locs la k1 k2 => lv_icmp_ge hx hb hdg ht (fun q => k1 (decide_eq_true q)) (fun q => k2 (fun z => q (of_decide_eq_true z))))
    case gt => exact sd_if2 hop hG ok (fun x y rest H locs la k1 k2 => lv_icmp_gt hx hb hdg ht (fun q => k1 (decide_eq_true q)) (fun q => k2 (fun z => q (of_decide_eq_true z))))
    case le => exact sd_if2 hop hG ok (fun x y rest H locs la k1 k2 => lv_icmp_le hx hb hdg ht (fun q => k1 (decide_eq_true q)) (fun q => k2 (fun z => q (of_decide_eq_true z))))
  case goto off => exact fun H locs la hH hL => lv_goto hx hb hdg (pm_tg_ok htk) (hG _ hop rfl ⟨ok.1, ok.2⟩ H locs la hH hL)
  case aconst_null => exact fun H locs la hH hL => lv_null hx hb hdg (hG _ hop rfl ⟨ok.1, ok_push ok.2 (by simp) trivial⟩ H locs la hH hL)
  case ifnull off =>
    split at hop
    · exact fun H locs la hH hL => lv_ifnullN hx hb hdg (pm_tg_ok htk) (hG _ hop rfl ⟨ok.1, ok_tl ok.2⟩ H locs la hH hL)
    · rename_i t i st'
      split at hop
      · exact hop.elim
      · rename_i h67
        intro H locs la hH hL
        have g1 := hG _ hop rfl ⟨ok.1, ok_tl ok.2⟩ H locs la hH hL
        show W p l e R s mm args below meth c H locs cells slots Q (F0 mm pc la (pm_mp ad fm (vr t i) :: st'.map (pm_mp ad fm)))
        rw [pm_mp_ref h67]
        exact lv_ifnull hx hb hdg g1
    · exact hop.elim
  case ifnonnull off =>
    split at hop
    · exact fun H locs la hH hL => lv_ifnonnullN hx hb hdg (hG _ hop rfl ⟨ok.1, ok_tl ok.2⟩ H locs la hH hL)
    · rename_i t i st'
      split at hop
      · exact hop.elim
      · rename_i h67
        intro H locs la hH hL
        have g1 := hG _ hop rfl ⟨ok.1, ok_tl ok.2⟩ H locs la hH hL
        show W p l e R s mm args below meth c H locs cells slots Q (F0 mm pc la (pm_mp ad fm (vr t i) :: st'.map (pm_mp ad fm)))
        rw [pm_mp_ref h67]
        exact lv_ifnonnull hx hb hdg (pm_tg_ok htk) g1
    · exact hop.elim
  case tableswitch d lo hi offs =>
    split at hop
    · rename_i x st'
      split at hop
      · rename_i hc
        obtain ⟨hc1, hc2, hc3⟩ := hc
        have hsz : (offs.toList.length : Int) = offs.size := by simp
        obtain ⟨g1, g2⟩ := pm_sw_at _ x offs.toList lo d hc2 (by omega) hop
        have htk2 : decide (0 ≤ (pc : Int) + d) = true ∧ ∀ o ∈ offs.toList, decide (0 ≤ (pc : Int) + o) = true := by
          have := htk
          unfold pm_tok at this
          simp only [Bool.and_eq_true, List.all_eq_true] at this
          exact this
        intro H locs la hH hL
        by_cases h1 : x.toInt < lo ∨ hi < x.toInt
        · exact lv_tableOut hx hb hdg h1 (pm_tg_ok htk2.1) (hG _ (g1 (by omega)) rfl ⟨ok.1, ok_tl ok.2⟩ H locs la hH hL)
        · have hlt : (x.toInt - lo).toNat < offs.toList.length := by omega
          have ho : offs.toList[(x.toInt - lo).toNat]? = some (offs.toList[(x.toInt - lo).toNat]) := List.getElem?_eq_getElem hlt
          refine lv_tableIn hx hb hdg (off := offs.toList[(x.toInt - lo).toNat]) (fun q => h1 (Or.inl q)) (fun q => h1 (Or.inr q)) (by rw [← Array.getElem?_toList]; exact ho) (pm_tg_ok (htk2.2 _ (List.getElem_mem hlt))) ?_
          exact hG _ (g2 _ (by omega) (by omega) ho) rfl ⟨ok.1, ok_tl ok.2⟩ H locs la hH hL
      · exact hop.elim
    · exact hop.elim
  case lookupswitch d ps =>
    split at hop
    · rename_i x st'
      split at hop
      · rename_i hc
        obtain ⟨hc1, hc2⟩ := hc
        have g1 := pm_ls_at _ x ps.toList d hc2 hop
        have htk2 : decide (0 ≤ (pc : Int) + d) = true ∧ ∀ o ∈ ps.toList, decide (0 ≤ (pc : Int) + o.2) = true := by
          have := htk
          unfold pm_tok at this
          simp only [Bool.and_eq_true, List.all_eq_true] at this
          exact this
        intro H locs la hH hL
        refine lv_lookup hx hb hdg (off := Op.lookupswitch.offset ps.toList d x.toInt) hc1 rfl (pm_tg_ok ?_) (hG _ g1 rfl ⟨ok.1, ok_tl ok.2⟩ H locs la hH hL)
        exact pm_ls_off htk2.1 htk2.2
      · exact hop.elim
    · exact hop.elim
  case getfield idx => exact sd_get F hdg hop hG ok
  case putfield idx => exact sd_put F hdg hop hG ok
  case getstatic idx => exact sd_gst F hdg hop hG ok
  case iaload => exact sd_iald F hdg hop hG ok
  case baload => exact sd_bald F hdg hop hG ok
  case laload => exact sd_lald F hdg hop hG ok
  case aaload => exact sd_aald F hdg hop hG ok
  case iastore => exact sd_iast F hdg hop hG ok
  case bastore => exact sd_bast F hdg hop hG ok
  case lastore => exact sd_last F hdg hop hG ok
  case arraylength => exact sd_alen F hdg hop hG ok
  case ldc idx =>
    split at hop
    · rename_i v hv
      exact fun H locs la hH hL => lv_ldc hx hb hown (hts _ (tf_ci hv)) hdg (hG _ hop rfl ⟨ok.1, ok_push ok.2 (by simp) trivial⟩ H locs la hH hL)
    · split at hop
      · rename_i i hi
        obtain ⟨i1, i2, i3⟩ := tf_cs hi
        intro H locs la hH hL
        have g1 := hG _ hop rfl ⟨ok.1, ok_push ok.2 (by simp) (Or.inr (Or.inl ⟨Or.inl rfl, i1⟩))⟩ H locs la hH hL
        rw [List.map_cons, pm_mp_ref (by decide)] at g1
        have hz := hX.2.2.2.2.2.2.2.2 i i1
        rw [i3, ← i2] at hz
        exact va_ldcS hx hb hown hz hdg g1
      · exact hop.elim
  case ldc_w idx =>
    split at hop
    · rename_i v hv
      exact fun H locs la hH hL => lv_ldcw hx hb hown (hts _ (tf_ci hv)) hdg (hG _ hop rfl ⟨ok.1, ok_push ok.2 (by simp) trivial⟩ H locs la hH hL)
    · exact hop.elim
  case ldc2_w idx =>
    split at hop
    · rename_i v hv
      exact fun H locs la hH hL => lv_ldc2 hx hb hown (hts _ (tf_cl hv)) hdg (hG _ hop rfl ⟨ok.1, ok_push ok.2 (by simp) trivial⟩ H locs la hH hL)
    · exact hop.elim
  case invokevirtual idx => exact hC true idx ls hdg hop ok
  case invokestatic idx => exact hC false idx ls hdg hop ok
  case ireturn =>
    split at hop
    · rename_i x
      split at hop
      · rename_i hc
        exact fun H locs la hH hL => (hR _ hop H locs la pc hH).1 x rfl (by rw [hc]; rfl) (Or.inl hc) hdg
      · rename_i hc
        split at hop
        · rename_i hv
          exact fun H locs la hH hL => (hR _ hop H locs la pc hH).1 x rfl (by rw [hc]; exact hv) (Or.inr (Or.inl hc)) hdg
        · exact hop.elim
      · rename_i hc
        split at hop
        · rename_i hv
          exact fun H locs la hH hL => (hR _ hop H locs la pc hH).1 x rfl (by rw [hc]; exact hv) (Or.inr (Or.inr (Or.inl hc))) hdg
        · exact hop.elim
      · rename_i hc
        split at hop
        · rename_i hv
          exact fun H locs la hH hL => (hR _ hop H locs la pc hH).1 x rfl (by rw [hc]; exact hv) (Or.inr (Or.inr (Or.inr hc))) hdg
        · exact hop.elim
      · exact hop.elim
    · exact hop.elim
  case lreturn =>
    split at hop
    · rename_i x
      split at hop
      · rename_i hc
        exact fun H locs la hH hL => (hR _ hop H locs la pc hH).2.1 x rfl hc hdg
      · exact hop.elim
    · exact hop.elim
  case areturn =>
    split at hop
    · rename_i x
      split at hop
      · rename_i hc
        exact fun H locs la hH hL => (hR _ hop H locs la pc hH).2.2.1 x rfl hc (ok_hd ok.2) hdg
      · exact hop.elim
    · exact hop.elim
  case return_ =>
    split at hop
    · split at hop
      · rename_i hc
        exact fun H locs la hH hL => (hR _ hop H locs la pc hH).2.2.2 rfl hc hdg
      · exact hop.elim
    · exact hop.elim
end PMT
