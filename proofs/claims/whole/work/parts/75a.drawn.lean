theorem aDrw_V {s d k m : Nat} {σ : CrS} (hV : csV σ) (hs : s < 4) (hk : k < 4) (hm : m < 10) : csV (aDrwC s d k m σ) ∧ (aDrwC s d k m σ).1 6 = σ.1 6 := by
  unfold aDrwC
  split
  · exact ⟨aDo_V (kd := 0) (s := s) (b := d) (m := 0) hV (fun _ => by omega) (by decide), aDo_6 (by omega) (by omega)⟩
  · split
    · exact ⟨aDo_V (kd := 1) (s := s) (b := k) (m := m) hV (fun _ => by omega) (by omega), aDo_6 (by omega) (by omega)⟩
    · split
      · exact ⟨aDo_V (kd := 2) (s := s) (b := 0) (m := 0) hV (fun z => by omega) (by decide), aDo_6 (by omega) (by omega)⟩
      · exact ⟨aDo_V (kd := 3) (s := 0) (b := 0) (m := 0) hV (fun z => by omega) (by decide), aDo_6 (by omega) (by omega)⟩
theorem aDraw_V {nx : Int32 → Int32} {rd : Int32 → Nat → Nat} (hR : RdOk nx rd) {x : Int32} {σ : CrS} (hV : csV σ) (h6 : 0 < (σ.1 6).val) : csV (aDrawC nx rd x σ) ∧ (aDrawC nx rd x σ).1 6 = σ.1 6 := by
  have hV1 := hV.1.1
  have r0 := hR.1 x _ h6
  have r4 := hR.1 (nx (nx x)) 4 (by decide)
  have r10 := hR.1 (nx (nx (nx x))) 10 (by decide)
  unfold aDrawC
  generalize rd x (σ.1 6).val = a1 at *
  generalize rd (nx x) 8 = a2 at *
  generalize rd (nx (nx x)) 4 = a3 at *
  generalize rd (nx (nx (nx x))) 10 = a4 at *
  exact aDrw_V hV (by omega) r4 r10
