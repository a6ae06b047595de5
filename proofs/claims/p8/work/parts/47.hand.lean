def sw (w a b : Nat) (σ : Nat → Int32) : Nat → Int32 := fun k => if k = w + a then σ (w + b) else if k = w + b then σ (w + a) else σ k
def sw2 (a b : Nat) (σ : Nat → Int32) : Nat → Int32 := sw 6 a b (sw 1 a b σ)
theorem sw_sw (w a b : Nat) (σ : Nat → Int32) : sw w a b (sw w a b σ) = σ := by
  funext k
  unfold sw
  by_cases h1 : k = w + a
  · subst h1
    by_cases h2 : w + b = w + a
    · rw [if_pos rfl, if_pos h2]; exact congrArg σ h2
    · rw [if_pos rfl, if_neg h2, if_pos rfl]
  · by_cases h2 : k = w + b
    · subst h2
      rw [if_neg h1, if_pos rfl, if_pos rfl]
    · rw [if_neg h1, if_neg h2, if_neg h1, if_neg h2]
theorem sw_comm {a b : Nat} (ha : a < 5) (hb : b < 5) (σ : Nat → Int32) : sw 6 a b (sw 1 a b σ) = sw 1 a b (sw 6 a b σ) := by
  funext k
  unfold sw
  by_cases h1 : k = 6 + a
  · rw [if_pos h1, if_neg (show ¬ 6 + b = 1 + a by omega), if_neg (show ¬ 6 + b = 1 + b by omega), if_neg (show ¬ k = 1 + a by omega), if_neg (show ¬ k = 1 + b by omega), if_pos h1]
  · by_cases h2 : k = 6 + b
    · rw [if_neg h1, if_pos h2, if_neg (show ¬ 6 + a = 1 + a by omega), if_neg (show ¬ 6 + a = 1 + b by omega), if_neg (show ¬ k = 1 + a by omega), if_neg (show ¬ k = 1 + b by omega), if_neg h1, if_pos h2]
    · rw [if_neg h1, if_neg h2]
      by_cases h3 : k = 1 + a
      · rw [if_pos h3, if_pos h3, if_neg (show ¬ 1 + b = 6 + a by omega), if_neg (show ¬ 1 + b = 6 + b by omega)]
      · by_cases h4 : k = 1 + b
        · rw [if_neg h3, if_pos h4, if_neg h3, if_pos h4, if_neg (show ¬ 1 + a = 6 + a by omega), if_neg (show ¬ 1 + a = 6 + b by omega)]
        · rw [if_neg h3, if_neg h4, if_neg h3, if_neg h4, if_neg h1, if_neg h2]
theorem sw2_sw2 {a b : Int32} (ha : 0 ≤ a.toInt ∧ a.toInt < 5) (hb : 0 ≤ b.toInt ∧ b.toInt < 5) (σ : Nat → Int32) : sw2 a.toInt.toNat b.toInt.toNat (sw2 a.toInt.toNat b.toInt.toNat σ) = σ := by
  unfold sw2
  rw [sw_comm (by omega) (by omega) σ, sw_sw, sw_sw]
theorem s_X12_swapsAt {μ : gm_M} (h : MI μ) {w a b : Int32} (hw : w.toInt = 1 ∨ w.toInt = 6) (ha : 0 ≤ a.toInt ∧ a.toInt < 5) (hb : 0 ≤ b.toInt ∧ b.toInt < 5) : gwV (f_X12_swapsAt 65 w a b μ) (fun m => km A1 μ m ∧ m.2.1 66 = sw w.toInt.toNat a.toInt.toNat b.toInt.toNat (μ.2.1 66)) := by
  refine gwV_of ?_
  unfold f_X12_swapsAt
  have k0 := km.refl A1 μ
  have n1 : (w + a).toInt = w.toInt + a.toInt := gx_add (by omega) (by omega)
  have n2 : (w + b).toInt = w.toInt + b.toInt := gx_add (by omega) (by omega)
  refine gw_gRa 66 (h.1.c (r := 65) rfl) (h.1.r (by decide)) ?_
  refine gw_aI (i := w + a) (h.1.t (r := 66) rfl) (h.1.l (r := 66) rfl) (by omega) (by omega) (fun v2 e2 => ?_)
  refine gw_gRa 66 (h.1.c (r := 65) rfl) (h.1.r (by decide)) ?_
  refine gw_gRa 66 (h.1.c (r := 65) rfl) (h.1.r (by decide)) ?_
  refine gw_aI (i := w + b) (h.1.t (r := 66) rfl) (h.1.l (r := 66) rfl) (by omega) (by omega) (fun v5 e5 => ?_)
  refine gw_sI (i := w + a) (h.1.t (r := 66) rfl) (h.1.l (r := 66) rfl) (by omega) (by omega) (fun m6 e6 => ?_)
  have k6 := k0.ws e6 (by unfold A1; omega)
  have h6 := h.of1 k6
  refine gw_gRa 66 (h6.1.c (r := 65) rfl) (h6.1.r (by decide)) ?_
  refine gw_sI (i := w + b) (h6.1.t (r := 66) rfl) (h6.1.l (r := 66) rfl) (by omega) (by omega) (fun m8 e8 => ?_)
  have k8 := k6.ws e8 (by unfold A1; omega)
  refine gw_some (gq_V ⟨k8, ?_⟩)
  subst e8
  subst e6
  funext k
  show gm_u (gm_u μ.2.1 66 (w + a).toInt.toNat v5) 66 (w + b).toInt.toNat v2 66 k = _
  rw [e2, e5, show (w + a).toInt.toNat = w.toInt.toNat + a.toInt.toNat by omega, show (w + b).toInt.toNat = w.toInt.toNat + b.toInt.toNat by omega]
  unfold sw
  by_cases g2 : k = w.toInt.toNat + b.toInt.toNat
  · subst g2
    rw [gu_eq, if_pos rfl]
    by_cases g1 : w.toInt.toNat + b.toInt.toNat = w.toInt.toNat + a.toInt.toNat
    · rw [if_pos g1, g1]
    · rw [if_neg g1]
  · rw [gu_ne g2, if_neg g2]
    by_cases g1 : k = w.toInt.toNat + a.toInt.toNat
    · subst g1
      rw [gu_eq, if_pos rfl]
    · rw [gu_ne g1, if_neg g1]
theorem s_X12_swaps {μ : gm_M} (h : MI μ) {a1 a2 : Int32} (q0 : 0 ≤ a1.toInt ∧ a1.toInt < 5) (q1 : 0 ≤ a2.toInt ∧ a2.toInt < 5) : gwV (f_X12_swaps 65 a1 a2 μ) (fun m => km A1 μ m ∧ m.2.1 66 = sw2 a1.toInt.toNat a2.toInt.toNat (μ.2.1 66)) := by
  refine gwV_of ?_
  unfold f_X12_swaps
  refine gw_if (h.1.t (r := 65) rfl) ?_
  refine gw_bV (s_X12_swapsAt h (Or.inl rfl) q0 q1) (fun m1 ⟨k1, f1⟩ => ?_)
  have h1 := h.of1 k1
  refine gw_if (h1.1.t (r := 65) rfl) ?_
  refine gw_bV (s_X12_swapsAt h1 (Or.inr rfl) q0 q1) (fun m2 ⟨k2, f2⟩ => ?_)
  refine gw_some (gq_V ⟨k1.trans k2, ?_⟩)
  rw [f2, f1]
  rfl
theorem km.s66 {μ m : gm_M} (h : km A1 μ m) (e : m.2.1 66 = μ.2.1 66) : km A0 μ m := by
  obtain ⟨h1, h2, h3, h4, h5, h6, h7⟩ := h
  exact ⟨h1, h2, h3, fun k _ => by rw [e], h5, h6, h7⟩
/-- the places of v, but i -/
def vs (i : Nat) (b m : gm_M) : Prop := ∀ k : Nat, 38 ≤ k → k < 43 → k ≠ i → m.2.1 66 k = b.2.1 66 k
theorem vs.refl {i : Nat} {b : gm_M} : vs i b b := fun _ _ _ _ => rfl
theorem vs.ws {i j : Nat} {b m m' : gm_M} {x : Int32} (h : vs i b m) (e : m' = (m.1, gm_u m.2.1 66 j x, m.2.2)) (hj : j = i) : vs i b m' := by
  subst e; subst hj
  intro k h1 h2 h3
  show gm_u m.2.1 66 j x 66 k = _
  rw [gu_ne h3]
  exact h k h1 h2 h3
theorem vs.k1 {i : Nat} {b m m' : gm_M} (h : vs i b m) (g : km A1 m m') : vs i b m' := fun k h1 h2 h3 => by
  rw [g.2.2.2.1 k (by unfold A1; omega)]
  exact h k h1 h2 h3
theorem vs.fin {i j : Nat} {b m m' : gm_M} {x : Int32} (h : vs i b m) (e : m' = (m.1, gm_u m.2.1 66 j x, m.2.2)) (hj : j = i) (hx : x = b.2.1 66 i) : ∀ k : Nat, 38 ≤ k → k < 43 → m'.2.1 66 k = b.2.1 66 k := by
  subst e; subst hj
  intro k h1 h2
  show gm_u m.2.1 66 j x 66 k = _
  by_cases hk : k = j
  · subst hk; rw [gu_eq, hx]
  · rw [gu_ne hk]; exact h k h1 h2 hk
theorem km.rest {b m : gm_M} (h : km A2 b m) (z : ∀ k : Nat, 38 ≤ k → k < 43 → m.2.1 66 k = b.2.1 66 k) : km A1 b m := by
  obtain ⟨h1, h2, h3, h4, h5, h6, h7⟩ := h
  refine ⟨h1, h2, h3, fun k hk => ?_, h5, h6, h7⟩
  by_cases hv : 38 ≤ k ∧ k < 43
  · exact z k hv.1 hv.2
  · exact h4 k (fun q => by unfold A2 at q; unfold A1 at hk; omega)
theorem rs.ws {m m' : gm_M} {j : Nat} {x : Int32} (h : rs m) (e : m' = (m.1, gm_u m.2.1 66 j x, m.2.2)) (hj : 26 ≤ j) : rs m' := by
  subst e
  intro k hk
  show gm_u m.2.1 66 j x 66 k = gm_u m.2.1 66 j x 68 k
  rw [gu_ne (by omega), gu_row (by decide)]
  exact h k hk
