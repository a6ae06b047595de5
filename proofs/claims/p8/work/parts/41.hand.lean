theorem s_X12_keeps {μ : gm_M} (h : MI μ) : gwV (f_X12_keeps 65 μ) (fun m => kp μ m) := by
  refine gwV_of ?_
  unfold f_X12_keeps
  have l0 : (0 : Int32).toInt = 0 := rfl
  have l1 : (1 : Int32).toInt = 1 := rfl
  have l26 : (26 : Int32).toInt = 26 := rfl
  refine gw_loop (fun s => (0 ≤ s.1.toInt ∧ s.1.toInt ≤ 26) ∧ s.2.1 = μ.1 ∧ s.2.2.2 = μ.2.2 ∧ (∀ r : Nat, r ≠ 68 → s.2.2.1 r = μ.2.1 r) ∧ ∀ k : Nat, (k : Int) < s.1.toInt → s.2.2.1 68 k = μ.2.1 66 k) (fun s => 26 - s.1.toInt) (fun s ⟨h1, h2, h3, h4, h5⟩ => ?_) 5000 ((0 : Int32), μ) ⟨⟨by show 0 ≤ (0 : Int32).toInt; omega, by show (0 : Int32).toInt ≤ 26; omega⟩, rfl, rfl, fun _ _ => rfl, fun k hk => by have : (k : Int) < (0 : Int32).toInt := hk; omega⟩ (by show 26 - (0 : Int32).toInt < ((5000 : Nat) : Int); omega) (by show 0 ≤ 26 - (0 : Int32).toInt; omega)
  have hS : gS s.2 := h.1.same h2 h3
  refine gw_le (fun g => ?_) (fun g => ?_)
  · exact gw_some (gs_inr (gq_V ⟨h2, h3, h4, fun k hk => h5 k (by omega)⟩))
  · refine gw_gRa 68 (hS.c (r := 65) rfl) (hS.r (by decide)) ?_
    refine gw_gRa 66 (hS.c (r := 65) rfl) (hS.r (by decide)) ?_
    refine gw_aI (i := s.1) (hS.t (r := 66) rfl) (hS.l (r := 66) rfl) (by omega) (by omega) (fun v ev => ?_)
    refine gw_sI (i := s.1) (hS.t (r := 68) rfl) (hS.l (r := 68) rfl) (by omega) (by omega) (fun m em => ?_)
    subst em
    have n : (s.1 + (1 : Int32)).toInt = s.1.toInt + (1 : Int32).toInt := gx_add (by omega) (by omega)
    refine gw_some (gs_inl ⟨⟨by show 0 ≤ (s.1 + (1 : Int32)).toInt; omega, by show (s.1 + (1 : Int32)).toInt ≤ 26; omega⟩, h2, h3, fun r hr => ?_, fun k hk => ?_⟩ (by show 26 - (s.1 + (1 : Int32)).toInt < 26 - s.1.toInt; omega) (by show 0 ≤ 26 - (s.1 + (1 : Int32)).toInt; omega))
    · show gm_u s.2.2.1 68 s.1.toInt.toNat v r = _
      rw [gu_row hr]; exact h4 r hr
    · have hk : (k : Int) < (s.1 + (1 : Int32)).toInt := hk
      show gm_u s.2.2.1 68 s.1.toInt.toNat v 68 k = _
      by_cases e : k = s.1.toInt.toNat
      · subst e
        rw [gu_eq, ev, h4 66 (by decide)]
      · rw [gu_ne e]; exact h5 k (by omega)
theorem s_X12_goesBack {μ : gm_M} (h : MI μ) : gwV (f_X12_goesBack 65 μ) (fun m => km A1 μ m ∧ rs m) := by
  refine gwV_of ?_
  unfold f_X12_goesBack
  have l0 : (0 : Int32).toInt = 0 := rfl
  have l1 : (1 : Int32).toInt = 1 := rfl
  have l26 : (26 : Int32).toInt = 26 := rfl
  refine gw_loop (fun s => (0 ≤ s.1.toInt ∧ s.1.toInt ≤ 26) ∧ km A1 μ s.2 ∧ ∀ k : Nat, (k : Int) < s.1.toInt → s.2.2.1 66 k = μ.2.1 68 k) (fun s => 26 - s.1.toInt) (fun s ⟨h1, h2, h3⟩ => ?_) 5000 ((0 : Int32), μ) ⟨⟨by show 0 ≤ (0 : Int32).toInt; omega, by show (0 : Int32).toInt ≤ 26; omega⟩, km.refl A1 μ, fun k hk => by have : (k : Int) < (0 : Int32).toInt := hk; omega⟩ (by show 26 - (0 : Int32).toInt < ((5000 : Nat) : Int); omega) (by show 0 ≤ 26 - (0 : Int32).toInt; omega)
  have hS : gS s.2 := (h.of1 h2).1
  have e68 : s.2.2.1 68 = μ.2.1 68 := h2.2.2.1 68 (by decide) (by decide) (by decide) (by decide) (by decide) (by decide) (by decide)
  refine gw_le (fun g => ?_) (fun g => ?_)
  · exact gw_some (gs_inr (gq_V ⟨h2, fun k hk => by rw [h3 k (by omega), e68]⟩))
  · refine gw_gRa 66 (hS.c (r := 65) rfl) (hS.r (by decide)) ?_
    refine gw_gRa 68 (hS.c (r := 65) rfl) (hS.r (by decide)) ?_
    refine gw_aI (i := s.1) (hS.t (r := 68) rfl) (hS.l (r := 68) rfl) (by omega) (by omega) (fun v ev => ?_)
    refine gw_sI (i := s.1) (hS.t (r := 66) rfl) (hS.l (r := 66) rfl) (by omega) (by omega) (fun m em => ?_)
    have hk1 := h2.ws em (by unfold A1; omega)
    subst em
    have n : (s.1 + (1 : Int32)).toInt = s.1.toInt + (1 : Int32).toInt := gx_add (by omega) (by omega)
    refine gw_some (gs_inl ⟨⟨by show 0 ≤ (s.1 + (1 : Int32)).toInt; omega, by show (s.1 + (1 : Int32)).toInt ≤ 26; omega⟩, hk1, fun k hk => ?_⟩ (by show 26 - (s.1 + (1 : Int32)).toInt < 26 - s.1.toInt; omega) (by show 0 ≤ 26 - (s.1 + (1 : Int32)).toInt; omega))
    have hk : (k : Int) < (s.1 + (1 : Int32)).toInt := hk
    show gm_u s.2.2.1 66 s.1.toInt.toNat v 66 k = _
    by_cases e : k = s.1.toInt.toNat
    · subst e
      rw [gu_eq, ev, e68]
    · rw [gu_ne e]; exact h3 k (by omega)
theorem gx_l0 {x : Int64} : x = 0 ↔ x.toInt = 0 := by
  constructor
  · intro e; rw [e]; rfl
  · intro e; exact Int64.toInt_inj.mp e
theorem gx_lcmp (x : Int64) : lg_cmp x 0 = 0 ↔ x.toInt = 0 := by
  rw [← gx_l0]
  constructor
  · intro e
    unfold lg_cmp at e
    by_cases h : x = 0
    · exact h
    · exfalso
      simp only [h, if_false] at e
      split at e <;> first | exact absurd e (by decide) | (split at e <;> exact absurd e (by decide))
  · intro e
    subst e
    simp [lg_cmp]
theorem s_X12_lowest {μ : gm_M} {a0 a1 : Int64} {a2 : Int32} (q0 : 1 ≤ a1.toInt ∧ a1.toInt ≤ 1000) : gwL (f_X12_lowest a0 a1 a2 μ) (fun x m => m = μ) := by
  refine gwL_of ?_
  unfold f_X12_lowest
  refine gw_loop (fun s => s.2.toInt.natAbs ≤ 1000 ∧ (s.2.toInt = 0 → s.1.toInt ≠ 0)) (fun s => (s.2.toInt.natAbs : Int)) (fun s ⟨h1, h2⟩ => ?_) 5000 (a0, a1) ⟨by show a1.toInt.natAbs ≤ 1000; omega, fun e => by have : a1.toInt = 0 := e; omega⟩ (by show (a1.toInt.natAbs : Int) < ((5000 : Nat) : Int); omega) (by show 0 ≤ (a1.toInt.natAbs : Int); omega)
  refine gw_ite (fun g => ?_) (fun g => ?_)
  · rw [gx_lcmp] at g
    have hx := h2 g
    have hne : ¬ s.1 = 0 := fun e => hx (gx_l0.mp e)
    refine gw_j (fun _ => True) (fun s2 _ => ?_) (fun j hj => ?_)
    · rw [if_neg hne]
      exact gw_some (gs_inr (gq_L rfl))
    · exact gw_ite (fun _ => hj _ trivial) (fun _ => hj _ trivial)
  · rw [gx_lcmp] at g
    have hne : ¬ s.2 = 0 := fun e => g (gx_l0.mp e)
    rw [if_neg hne, gx_mod64]
    have e : (s.1 % s.2).toInt = s.1.toInt.tmod s.2.toInt := Int64.toInt_mod _ _
    have b : (s.1.toInt.tmod s.2.toInt).natAbs < s.2.toInt.natAbs := by
      rw [Int.natAbs_tmod]
      exact Nat.mod_lt _ (by omega)
    exact gw_some (gs_inl ⟨by show (s.1 % s.2).toInt.natAbs ≤ 1000; rw [e]; omega, fun _ => by show s.2.toInt ≠ 0; exact g⟩ (by show ((s.1 % s.2).toInt.natAbs : Int) < (s.2.toInt.natAbs : Int); rw [e]; omega) (by show 0 ≤ ((s.1 % s.2).toInt.natAbs : Int); omega))
theorem MI.lk {μ : gm_M} (h : MI μ) {x : Int32} (f : ((μ.2.1 66 32).toInt = -1 ∧ x = 0) ∨ (0 ≤ (μ.2.1 66 32).toInt ∧ (μ.2.1 66 32).toInt ≤ 4 ∧ x = μ.2.1 66 ((220 : Int32).toInt + (μ.2.1 66 32).toInt).toNat)) : 0 ≤ x.toInt ∧ x.toInt ≤ 139 ∧ ∃ tp : Nat → Nat, tp 0 = 0 ∧ ∀ i : Nat, (i : Int) < x.toInt → wst (μ.2.1 66 ((225 + 140 * (μ.2.1 66 32).toInt) + (i : Int)).toNat) (tp i) (tp (i + 1)) := by
  have l0 : (0 : Int32).toInt = 0 := rfl
  have l220 : (220 : Int32).toInt = 220 := rfl
  rcases f with ⟨-, b⟩ | ⟨a1, a2, b⟩
  · subst b
    exact ⟨by omega, by omega, fun _ => 0, rfl, fun i hi => by omega⟩
  · obtain ⟨w1, w2, tp, w3, w4⟩ := h.prog (μ.2.1 66 32).toInt.toNat (by omega)
    rw [show ((220 : Int32).toInt + (μ.2.1 66 32).toInt).toNat = 220 + (μ.2.1 66 32).toInt.toNat by omega] at b
    rw [← b] at w1 w2 w4
    refine ⟨w1, w2, tp, w3, fun i hi => ?_⟩
    rw [show ((225 + 140 * (μ.2.1 66 32).toInt) + (i : Int)).toNat = 225 + 140 * (μ.2.1 66 32).toInt.toNat + i by omega]
    exact w4 i hi
