theorem kin.at {μ : gm_M} (h : gS μ) {k : Nat} (h1 : k < 7) : μ.2.2 2 k = 8 + k := by
  have e : k = 0 ∨ k = 1 ∨ k = 2 ∨ k = 3 ∨ k = 4 ∨ k = 5 ∨ k = 6 := by omega
  rcases e with rfl | rfl | rfl | rfl | rfl | rfl | rfl <;> exact h.r (by decide)
theorem gS.kd {μ m : gm_M} (h : gS μ) {a kd : Nat} (ha : isch a) (e1 : m.1 = μ.1) (e2 : m.2.2 = gm_u μ.2.2 a 1 kd) : gS m := by
  refine ⟨fun r q e => by rw [e1]; exact h.1 r q e, fun q hq => ?_⟩
  rw [e2]
  have : ∀ q ∈ gRl, ¬ ((q.1 = 29 ∨ q.1 = 31 ∨ q.1 = 33 ∨ q.1 = 35 ∨ q.1 = 37) ∧ q.2.1 = 1) := by decide
  have hn := this q hq
  by_cases e : q.1 = a
  · rw [e, gu_ne (fun e3 => hn ⟨by rw [e]; exact ha, e3⟩), ← e]; exact h.2 q hq
  · rw [gu_row e]; exact h.2 q hq
theorem rde2 {b m : gm_M} {r j : Nat} {x : Int32} (e : m = (b.1, gm_u b.2.1 r j x, b.2.2)) : m.2.1 r j = x := by
  rw [e]
  show gm_u b.2.1 r j x r j = _
  exact gu_eq
theorem rdn2 {b m : gm_M} {r j k : Nat} {x : Int32} (e : m = (b.1, gm_u b.2.1 r j x, b.2.2)) (h : k ≠ j) : m.2.1 r k = b.2.1 r k := by
  rw [e]
  show gm_u b.2.1 r j x r k = _
  exact gu_ne h
theorem gx_p1 (x : Int32) : x + 1 - 1 = x := by
  rw [Int32.add_sub_cancel]
def CB (μ m : gm_M) (n : Nat) (a b : Int32) : Prop := m.1 = μ.1 ∧ m.2.2 = gm_u μ.2.2 (29 + 2 * n) 1 (8 + a.toInt.toNat) ∧ (∀ r : Nat, r ≠ 15 → r ≠ 29 + 2 * n → r ≠ 29 + 2 * n + 1 → m.2.1 r = μ.2.1 r) ∧ (∀ j : Nat, j ≠ 1 → m.2.1 15 j = μ.2.1 15 j) ∧ m.2.1 15 1 = μ.2.1 15 1 + 1 ∧ m.2.1 (29 + 2 * n) 0 = μ.2.1 (29 + 2 * n) 0 ∧ m.2.1 (29 + 2 * n) 2 = b ∧ ∀ j : Nat, j < 4 → m.2.1 (29 + 2 * n + 1) j = 0
theorem CB.mk {μ b m : gm_M} {v kd n : Nat} {a w : Int32} (hv : v = 29 + 2 * n) (hk : kd = 8 + a.toInt.toNat) (hn : n < 5) (B1 : b.1 = μ.1) (B2 : b.2.2 = gm_u μ.2.2 v 1 kd) (B3 : ∀ r : Nat, r ≠ v → r ≠ v + 1 → b.2.1 r = μ.2.1 r) (B4 : b.2.1 v 0 = μ.2.1 v 0) (B5 : b.2.1 v 2 = w) (B11 : ∀ j : Nat, j < 4 → b.2.1 (v + 1) j = 0) (e : m = (b.1, gm_u b.2.1 15 1 (μ.2.1 15 1 + 1), b.2.2)) : CB μ m n a w := by
  subst hv
  subst hk
  have o : ∀ q : Nat, q ≠ 15 → m.2.1 q = b.2.1 q := fun q hq => rdo e hq
  refine ⟨by rw [e]; exact B1, by rw [e]; exact B2, fun r r1 r2 r3 => by rw [o r r1, B3 r r2 r3], fun j hj => by rw [rdn2 e hj, B3 15 (by omega) (by omega)], rde2 e, by rw [o _ (by omega)]; exact B4, by rw [o _ (by omega)]; exact B5, fun j hj => by rw [o _ (by omega)]; exact B11 j hj⟩
def MB (μ m : gm_M) (n : Nat) (a b : Int32) : Prop := m.1 = μ.1 ∧ m.2.2 = μ.2.2 ∧ (∀ r : Nat, r ≠ 66 → m.2.1 r = μ.2.1 r) ∧ m.2.1 66 26 = μ.2.1 66 26 + 1 ∧ m.2.1 66 (33 + n) = a ∧ m.2.1 66 (38 + n) = b ∧ (∀ j : Nat, j < 4 → m.2.1 66 (43 + 4 * n + j) = 0) ∧ ∀ i : Nat, i ≠ 26 → i ≠ 33 + n → i ≠ 38 + n → ¬ (43 + 4 * n ≤ i ∧ i < 43 + 4 * n + 4) → ¬ (1 ≤ i ∧ i < 26) → m.2.1 66 i = μ.2.1 66 i
/-- a child comes -/
theorem A_child {μ m1 m2 : gm_M} (h : ALL μ) {n : Nat} {a b : Int32} (hn : (μ.2.1 15 1).toInt = n) (n5 : n < 5) (ha : 0 ≤ a.toInt ∧ a.toInt ≤ 6) (c : CB μ m1 n a b) (d : MB m1 m2 n a b) : ALL m2 := by
  obtain ⟨c1, c2, c3, c4, c5, c6, c7, c8⟩ := c
  obtain ⟨d1, d2, d3, d4, d5, d6, d7, d8⟩ := d
  have hN := h.n26
  have E26 : μ.2.1 15 1 = μ.2.1 66 26 := h.2.2.2.1.1.2.1
  have hc := h.2.2.1
  obtain ⟨hM, h2, -, h4, h5, h6, h7⟩ := h
  have isn : isch (29 + 2 * n) := by unfold isch; omega
  have r66 : m1.2.1 66 = μ.2.1 66 := c3 66 (by omega) (by omega) (by omega)
  have o : ∀ r : Nat, r ≠ 66 → r ≠ 15 → r ≠ 29 + 2 * n → r ≠ 29 + 2 * n + 1 → m2.2.1 r = μ.2.1 r := fun r r0 r1 r2 r3 => by rw [d3 r r0, c3 r r1 r2 r3]
  have o6 : ∀ i : Nat, i ≠ 26 → i ≠ 33 + n → i ≠ 38 + n → ¬ (43 + 4 * n ≤ i ∧ i < 43 + 4 * n + 4) → ¬ (1 ≤ i ∧ i < 26) → m2.2.1 66 i = μ.2.1 66 i := fun i i1 i2 i3 i4 i5 => by rw [d8 i i1 i2 i3 i4 i5, r66]
  have o15 : ∀ j : Nat, j ≠ 1 → m2.2.1 15 j = μ.2.1 15 j := fun j hj => by rw [d3 15 (by omega), c4 j hj]
  have e15 : m2.2.1 15 1 = μ.2.1 15 1 + 1 := by rw [d3 15 (by omega), c5]
  have R : m2.2.2 = gm_u μ.2.2 (29 + 2 * n) 1 (8 + a.toInt.toNat) := by rw [d2, c2]
  have T : m2.1 = μ.1 := by rw [d1, c1]
  have Rn : ∀ r j : Nat, ¬ (r = 29 + 2 * n ∧ j = 1) → m2.2.2 r j = μ.2.2 r j := fun r j hr => by
    rw [R]
    by_cases e : r = 29 + 2 * n
    · subst e; exact gu_ne (fun q => hr ⟨rfl, q⟩)
    · rw [gu_row e]
  have Re : m2.2.2 (29 + 2 * n) 1 = 8 + a.toInt.toNat := by rw [R]; exact gu_eq
  have hS : gS m2 := hM.1.kd isn T R
  have hb := cnt1 (x := μ.2.1 15 1) (L := 5) (by omega) (by omega) (by decide)
  have hA : ∀ q, AfW μ q → AfW m2 q := fun q p => by
    have p0 := p.1
    exact p.same (fun r q e => by rw [T]; exact e) (funext fun j => Rn _ j (by omega)) (o _ (by omega) (by omega) (by omega) (by omega)) (o _ (by omega) (by omega) (by omega) (by omega))
  have hmi : mI (m2.2.1 66) := by
    obtain ⟨h26, h27, h28, h29, h30, h31, h32, hs, hp, hb2, hw⟩ := hM.2
    refine ⟨by rw [d4, r66, ← E26]; exact hb, by rw [o6 27 (by omega) (by omega) (by omega) (by omega) (by omega)]; exact h27, by rw [o6 28 (by omega) (by omega) (by omega) (by omega) (by omega)]; exact h28, by rw [o6 29 (by omega) (by omega) (by omega) (by omega) (by omega)]; exact h29, by rw [o6 30 (by omega) (by omega) (by omega) (by omega) (by omega)]; exact h30, by rw [o6 31 (by omega) (by omega) (by omega) (by omega) (by omega)]; exact h31, by rw [o6 32 (by omega) (by omega) (by omega) (by omega) (by omega)]; exact h32, fun k hk => ?_, fun k hk => ?_, fun k hk => ?_, fun q hq => ?_⟩
    · rw [o6 _ (by omega) (by omega) (by omega) (by omega) (by omega)]; exact hs k hk
    · rw [o6 _ (by omega) (by omega) (by omega) (by omega) (by omega), o6 _ (by omega) (by omega) (by omega) (by omega) (by omega)]; exact hp k hk
    · rw [o6 _ (by omega) (by omega) (by omega) (by omega) (by omega)]; exact hb2 k hk
    · obtain ⟨w1, w2, tp, w3, w4⟩ := hw q hq
      unfold wfp
      rw [o6 _ (by omega) (by omega) (by omega) (by omega) (by omega)]
      refine ⟨w1, w2, tp, w3, fun i hi => ?_⟩
      rw [o6 _ (by omega) (by omega) (by omega) (by omega) (by omega)]
      exact w4 i hi
  have hci : cI m2 := by
    obtain ⟨h0, s1, s2, k1, t1⟩ := hc
    refine ⟨?_, s2.same (fun r q e => by rw [T]; exact e) (fun j _ => by rw [o 39 (by omega) (by omega) (by omega) (by omega)]) (Rn 39 6 (by omega)) (fun r hr => o r (by omega) (by omega) (by omega) (by omega)) (hA _), fun q hq => ?_, by rw [o 3 (by omega) (by omega) (by omega) (by omega)]; exact t1⟩
    · obtain ⟨p1, p2, p3, p4, p5, p6, p7, p8, p9, p10, p11⟩ := s1
      unfold scI
      rw [e15, o15 4 (by omega), o15 5 (by omega), Rn 15 6 (by omega), o (15 + 8) (by omega) (by omega) (by omega) (by omega), o (15 + 9) (by omega) (by omega) (by omega) (by omega), o (15 + 10) (by omega) (by omega) (by omega) (by omega), o (15 + 12) (by omega) (by omega) (by omega) (by omega)]
      exact ⟨hb, p2, p3, hA _ p4, p5, p6, p7, p8, p9, p10, p11⟩
    · by_cases e : q = 29 + 2 * n
      · subst e; rw [Re]; unfold kid; omega
      · rw [Rn q 1 (fun z => e z.1)]; exact k1 q hq
  refine ⟨⟨hS, hmi⟩, by rw [o 67 (by omega) (by omega) (by omega) (by omega)]; exact h2, ⟨hS, hci⟩, ?_, ?_, ?_, ?_⟩
  · obtain ⟨p, pk⟩ := h4
    refine ⟨?_, fun k hk => ?_⟩
    · rw [o15 0 (by omega), e15, d4, r66, ← E26, o (15 + 8) (by omega) (by omega) (by omega) (by omega), o (15 + 10) (by omega) (by omega) (by omega) (by omega), o (15 + 12) (by omega) (by omega) (by omega) (by omega), o6 0 (by omega) (by omega) (by omega) (by omega) (by omega), o6 28 (by omega) (by omega) (by omega) (by omega) (by omega), o6 29 (by omega) (by omega) (by omega) (by omega) (by omega), o6 30 (by omega) (by omega) (by omega) (by omega) (by omega)]
      exact ⟨p.1, rfl, p.2.2.1, p.2.2.2.1, p.2.2.2.2⟩
    · obtain ⟨⟨a1, a2, a3⟩, a4⟩ := pk k hk
      by_cases e : k = n
      · subst e
        refine ⟨⟨?_, ?_, ?_⟩, fun j hj => ?_⟩
        · rw [d3 _ (by omega), c6]; exact a1
        · rw [Re, d5]; omega
        · rw [d3 _ (by omega), c7, d6]
        · rw [d3 _ (by omega), c8 j hj, d7 j hj]
      · refine ⟨⟨?_, ?_, ?_⟩, fun j hj => ?_⟩
        · rw [o _ (by omega) (by omega) (by omega) (by omega)]; exact a1
        · rw [Rn _ 1 (by omega), o6 _ (by omega) (by omega) (by omega) (by omega) (by omega)]; exact a2
        · rw [o _ (by omega) (by omega) (by omega) (by omega), o6 _ (by omega) (by omega) (by omega) (by omega) (by omega)]; exact a3
        · rw [o _ (by omega) (by omega) (by omega) (by omega), o6 _ (by omega) (by omega) (by omega) (by omega) (by omega)]; exact a4 j hj
  · exact h5.fr (by rw [o 39 (by omega) (by omega) (by omega) (by omega)]) (by rw [o 39 (by omega) (by omega) (by omega) (by omega)]) ⟨by rw [o _ (by omega) (by omega) (by omega) (by omega)], by rw [o _ (by omega) (by omega) (by omega) (by omega)], by rw [o _ (by omega) (by omega) (by omega) (by omega)]⟩ (fun k hk => ⟨by rw [o _ (by omega) (by omega) (by omega) (by omega)], by rw [o _ (by omega) (by omega) (by omega) (by omega)], Rn _ 1 (by omega), fun j _ => by rw [o _ (by omega) (by omega) (by omega) (by omega)]⟩) (fun i _ => by rw [o 67 (by omega) (by omega) (by omega) (by omega)])
  · rw [o 1 (by omega) (by omega) (by omega) (by omega), o 65 (by omega) (by omega) (by omega) (by omega)]; exact h6
  · unfold LT
    rw [o 3 (by omega) (by omega) (by omega) (by omega), o 65 (by omega) (by omega) (by omega) (by omega), o 4 (by omega) (by omega) (by omega) (by omega), o 74 (by omega) (by omega) (by omega) (by omega)]
    exact h7
