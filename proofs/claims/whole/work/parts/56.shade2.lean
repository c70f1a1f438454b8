/-! ===== shade, both sides ===== -/
theorem shade_48 {g : PH} {a : Nat} {c : AC} (hv : cV c) (hm : ModS g a c) {u v : Nat} (hu : u < (c (0)).val) (hw : v < (c (1)).val) : ∀ r k, k + r = (c (0)).val * (c (1)).val → pm_ev (249, 48, [vr 8 0, none, none, vi (nI ((c (0)).val * v + u)), vi (nI (fb_ct (fun n => aBtw (c (2)).val (c (3)).val u v (n % (c (0)).val) (n / (c (0)).val)) k)), vi (nI k)], [], g) = some (some (vi (nI (fb_ct (fun n => aBtw (c (2)).val (c (3)).val u v (n % (c (0)).val) (n / (c (0)).val)) ((c (0)).val * (c (1)).val)))), g) := by
  have hV1 := hv.1
  have hWb := WH_le hv
  have m14 := hm.2.2.1
  have m15 := hm.2.2.2.1
  intro r
  induction r with
  | zero =>
    intro k hk
    have hk : k = (c (0)).val * (c (1)).val := by omega
    rw [E_X9_shade_48, m14, m15, nI_mul, hk, if_neg (by rw [nn_lt (by omega) (by omega)]; omega)]
  | succ r ih =>
    intro k hk
    have e := ih (k + 1) (by omega)
    rw [fb_ct_succ] at e
    obtain ⟨x1, x2, x3⟩ := cell_xy (show 0 < (c (0)).val by omega) (show k < (c (0)).val * (c (1)).val by omega)
    have B := btw_M hv hm hu hw x1 x2
    rw [Nat.div_add_mod] at B
    rw [E_X9_shade_48, m14, m15, nI_mul, if_pos (by rw [nn_lt (by omega) (by omega)]; omega), B, cI_s]
    cases q : aBtw (c (2)).val (c (3)).val u v (k % (c (0)).val) (k / (c (0)).val)
    · rw [q, if_neg (by decide)] at e
      rw [bI_f, if_pos rfl, y_0, y_1, nI_add, nI_add]
      exact e
    · rw [q, if_pos rfl] at e
      rw [bI_t, if_neg (by decide), y_1, nI_add, nI_add]
      exact e
