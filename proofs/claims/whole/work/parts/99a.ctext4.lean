theorem gdC.fr {s k : Nat} {h h' : PH} {c : AC} (he : ∀ t, (t = 0 ∨ t = 2 ∨ t = 3 ∨ (10 ≤ t ∧ t ≤ 23)) → ∀ i, h'.1 t k i = h.1 t k i) (h2 : h'.2 0 k 4 = h.2 0 k 4) (x : gdC s h k c) : gdC s h' k c := by
  unfold gdC at x ⊢
  by_cases s0 : s = 0
  · rw [if_pos s0] at x ⊢
    exact CoastC.fr (fun t i h1 h2 => he t (by omega) i) h2 x
  · rw [if_neg s0] at x ⊢
    by_cases s1 : s = 1
    · rw [if_pos s1] at x ⊢
      exact x.fr (fun i => he 3 (by omega) i) (fun i => he 22 (by omega) i) (fun i => he 23 (by omega) i)
    · rw [if_neg s1] at x ⊢
      exact x.fr (fun i => he 2 (by omega) i) (fun i => he 19 (by omega) i) (fun i => he 20 (by omega) i) (fun i => he 21 (by omega) i)
theorem gdC.sI {s k : Nat} {h : PH} {c : AC} {t i : Nat} (ht : t = 6 ∨ t = 27) (p : Nat) (v : Int32) (x : gdC s h k c) : gdC s (pm_sI h t i p v) k c :=
  x.fr (fun a ha b => sI_tag _ _ _ _ _ _ (by omega)) rfl
theorem DCs_gdC {s : Nat} {h : PH} {D : DD} (hs : s < 3) (x : DCs s h D) : gdC s h 8 D.1 := by
  unfold DCs at x
  unfold gdC
  by_cases s0 : s = 0
  · rw [if_pos s0] at x ⊢; exact x.1
  · rw [if_neg s0] at x ⊢; exact x
def rd6 (t i : Nat) : Bool := rdT t i || (t == 6 && i == 0)
def tkT (s k t i : Nat) : Bool := rd6 t i || (t == 27 && i == 0) || kT s k t i
/-- what a text that is taken in leaves in the class -/
def TxC (T : Nat → Nat) (n s k m : Nat) (h h' : PH) (v : PV) : Prop :=
  h'.1 6 0 1 = nI 0 ∧ h'.1 6 0 2 = nI (aFin n s (aRes T n s)).1 ∧ h'.1 6 0 3 = plI (aFin n s (aRes T n s)).1 (aFin n s (aRes T n s)).2 ∧
  (((aFin n s (aRes T n s)).1 ≠ 0 ∧ v = vi (-1) ∧ Fr rd6 h h') ∨
   ((aFin n s (aRes T n s)).1 = 0 ∧ v = vi (nI k) ∧ h'.1 27 0 s = nI (max m (k + 1)) ∧ (∀ x, x ≠ s → h'.1 27 0 x = h.1 27 0 x) ∧ gdV s (aRes T n s).2.1 ∧ gdC s h' k (aRes T n s).2.1 ∧ Fr (tkT s k) h h'))
def h0T (h : PH) : PH := pm_sI (pm_sI (pm_sI h 6 0 2 0) 6 0 3 (-1)) 6 0 1 0
theorem h0T_fr (h : PH) : Fr (fun t i => t == 6 && i == 0) h (h0T h) := ((Fr.sI _ _ _ rfl).tr (Fr.sI _ _ _ rfl)).tr (Fr.sI _ _ _ rfl)
/-- read, and taken if there is no fault -/
theorem textGo_C {T : Nat → Nat} {n s k m : Nat} (hn : n ≤ 600) (hs : s < 3) (hk : k < 2) (hm : m ≤ 2) {h : PH} (hS : StC h) (hT : TapC h n T) (h27 : h.1 27 0 s = nI m) : ∃ h3, pm_ev (64, 0, [vr 4 0, vr 26 0, vi (nI n), vi (nI s), none], [], h0T h) = some (none, h3) ∧ ∃ v h', TxC T n s k m h h' v ∧ (if h3.1 4 0 3 = 0 then pm_ev (110, 157, [vr 7 0, vi (nI s), none, none, none, none, vi (nI k)], [], (pm_sI (pm_sI h3 6 0 2 (h3.1 4 0 3)) 6 0 3 (h3.1 4 0 4))) else some (some (vi (-1)), (pm_sI (pm_sI h3 6 0 2 (h3.1 4 0 3)) 6 0 3 (h3.1 4 0 4)))) = some (some v, h') := by
  have f0 := h0T_fr h
  have S0 : StC (h0T h) := ⟨fun i x => (f0 61 i rfl x).1.trans (hS.1 i x), fun x => (f0 62 0 rfl x).1.trans (hS.2.1 x), fun x => (f0 63 0 rfl x).1.trans (hS.2.2.1 x), fun x => (f0 64 0 rfl x).1.trans (hS.2.2.2 x)⟩
  have T0 : TapC (h0T h) n T := fun x hx => ⟨(hT x hx).1, (f0 26 0 rfl x).1.trans (hT x hx).2⟩
  obtain ⟨h3, e3, x3, x4, x6, xd, f3⟩ := read_C hn hs S0 T0
  refine ⟨h3, e3, ?_⟩
  have F3 : Fr rd6 h h3 := (f0.mono (fun t i z => by unfold rd6 at z; rw [Bool.or_eq_false_iff] at z; exact z.2)).tr (f3.mono (fun t i z => by unfold rd6 at z; rw [Bool.or_eq_false_iff] at z; exact z.1))
  have l1 : h3.1 6 0 1 = nI 0 := by
    rw [(f3 6 0 rfl 1).1]
    unfold h0T; rw [sI_same]; rfl
  generalize hH : pm_sI (pm_sI h3 6 0 2 (h3.1 4 0 3)) 6 0 3 (h3.1 4 0 4) = h4
  have F4 : Fr rd6 h h4 := by
    rw [← hH]
    exact (F3.tr (Fr.sI _ _ _ rfl)).tr (Fr.sI _ _ _ rfl)
  have y1 : h4.1 6 0 1 = nI 0 := by rw [← hH, sI_pl _ _ _ _ _ (by decide), sI_pl _ _ _ _ _ (by decide)]; exact l1
  have y2 : h4.1 6 0 2 = nI (aFin n s (aRes T n s)).1 := by rw [← hH, sI_pl _ _ _ _ _ (by decide), sI_same]; exact x3
  have y3 : h4.1 6 0 3 = plI (aFin n s (aRes T n s)).1 (aFin n s (aRes T n s)).2 := by rw [← hH, sI_same]; exact x4
  by_cases q : (aFin n s (aRes T n s)).1 = 0
  · have z : h3.1 4 0 3 = 0 := by rw [x3, q]; rfl
    rw [if_pos z]
    obtain ⟨dd, dv⟩ := xd q
    have g4 : gdC s h4 8 (aRes T n s).2.1 := by
      rw [← hH]
      exact ((DCs_gdC hs dd).sI (Or.inl rfl) _ _).sI (Or.inl rfl) _ _
    have m4 : h4.1 27 0 s = nI m := (F4 27 0 rfl s).1.trans h27
    obtain ⟨h5, e5, f5, c5⟩ := take_C hs hk hm m4
    have n27 : kT s k 27 0 = false := by
      unfold kT
      have : s = 0 ∨ s = 1 ∨ s = 2 := by omega
      rcases this with e | e | e <;> subst e <;> simp [show Nat.ble 27 18 = false from rfl]
    have n6 : kT s k 6 0 = false := by
      unfold kT
      have : s = 0 ∨ s = 1 ∨ s = 2 := by omega
      rcases this with e | e | e <;> subst e <;> simp [show Nat.ble 10 6 = false from rfl]
    refine ⟨vi (nI k), pm_sI h5 27 0 s (nI (max m (k + 1))), ⟨?_, ?_, ?_, Or.inr ⟨q, rfl, sI_same _ _ _ _ _, fun x hx => ?_, dv, (c5 _ dv g4).sI (Or.inr rfl) _ _, ?_⟩⟩, ?_⟩
    · rw [sI_tag _ _ _ _ _ _ (by decide), (f5 6 0 n6 1).1]; exact y1
    · rw [sI_tag _ _ _ _ _ _ (by decide), (f5 6 0 n6 2).1]; exact y2
    · rw [sI_tag _ _ _ _ _ _ (by decide), (f5 6 0 n6 3).1]; exact y3
    · rw [sI_pl _ _ _ _ _ hx, (f5 27 0 n27 x).1, (F4 27 0 rfl x).1]
    · have A : Fr (tkT s k) h h4 := F4.mono (fun t i z => by unfold tkT at z; simp only [Bool.or_eq_false_iff] at z; exact z.1.1)
      have B : Fr (tkT s k) h4 h5 := f5.mono (fun t i z => by unfold tkT at z; simp only [Bool.or_eq_false_iff] at z; exact z.2)
      exact (A.tr B).tr (Fr.sI _ _ _ (by unfold tkT; rfl))
    · rw [E_X8_text_157, e5, cV_s, E_X8_text_171]
  · have z : ¬ h3.1 4 0 3 = 0 := by
      rw [x3, show (0 : Int32) = nI 0 from rfl, nn_eq (by omega) (by decide)]; exact q
    rw [if_neg z]
    exact ⟨vi (-1), h4, ⟨y1, y2, y3, Or.inl ⟨q, rfl, F4⟩⟩, rfl⟩
