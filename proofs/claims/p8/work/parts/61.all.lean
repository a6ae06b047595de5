theorem gS.w {b m : gm_M} {r j : Nat} {x : Int32} (h : gS b) (e : m = (b.1, gm_u b.2.1 r j x, b.2.2)) : gS m := by rw [e]; exact h
theorem r66w {μ b m : gm_M} {r j : Nat} {x : Int32} (p : b.2.1 66 = μ.2.1 66) (e : m = (b.1, gm_u b.2.1 r j x, b.2.2)) (hr : r ≠ 66) : m.2.1 66 = μ.2.1 66 := by
  rw [e]
  show gm_u b.2.1 r j x 66 = _
  rw [gu_row (Ne.symm hr), p]
theorem kid15 {μ : gm_M} (h : gS μ) {a : Nat} (p : kid a) {v : Int32} (i : (v.toInt = 1 ∧ [15].contains (gm_tag μ a) = true) ∨ (v.toInt = 0 ∧ ¬ [15].contains (gm_tag μ a) = true)) : (v.toInt = 1 ∧ a = 14) ∨ (v.toInt = 0 ∧ a ≠ 14) := by
  have q : [15].contains (gm_tag μ a) = true ↔ a = 14 := by
    obtain ⟨p1, p2⟩ := p
    obtain rfl | rfl | rfl | rfl | rfl | rfl | rfl : a = 8 ∨ a = 9 ∨ a = 10 ∨ a = 11 ∨ a = 12 ∨ a = 13 ∨ a = 14 := by omega
    all_goals (rw [h.t rfl]; decide)
  rcases i with ⟨i1, i2⟩ | ⟨i1, i2⟩
  · exact Or.inl ⟨i1, q.mp i2⟩
  · exact Or.inr ⟨i1, fun e => i2 (q.mpr e)⟩
/-! the two sides agree, as far as the light goes -/
def lp (i : Nat) : Prop := i = 0 ∨ i = 26 ∨ (28 ≤ i ∧ i < 31) ∨ (33 ≤ i ∧ i < 63)
def nm (μ : gm_M) (s c : Nat) (σ : Nat → Int32) : Prop := (μ.2.1 s 0 = σ 0 ∧ μ.2.1 s 1 = σ 26 ∧ μ.2.1 (s + 8) 2 = σ 28 ∧ μ.2.1 (s + 10) 2 = σ 29 ∧ μ.2.1 (s + 12) 2 = σ 30) ∧ ∀ k : Nat, k < 5 → (μ.2.1 (c + 2 * k) 0 = Int32.ofNat k ∧ ((μ.2.2 (c + 2 * k) 1 : Nat) : Int) = 8 + (σ (33 + k)).toInt ∧ μ.2.1 (c + 2 * k) 2 = σ (38 + k)) ∧ ∀ j : Nat, j < 4 → μ.2.1 (c + 2 * k + 1) j = σ (43 + 4 * k + j)
def LT (μ : gm_M) : Prop := μ.2.1 3 2 = μ.2.1 65 19 ∧ ∀ i : Nat, i < 20 → (i : Int) < (μ.2.1 3 2).toInt → μ.2.1 4 (3 * i) = μ.2.1 74 i
def ALL (μ : gm_M) : Prop := MI μ ∧ mI (μ.2.1 67) ∧ CI μ ∧ nm μ 15 29 (μ.2.1 66) ∧ nm μ 39 53 (μ.2.1 67) ∧ (μ.2.1 1 3 = μ.2.1 65 4 ∧ (μ.2.1 1 3 = 0 ∨ μ.2.1 1 3 = 1)) ∧ LT μ
theorem nm.fr {μ m : gm_M} {s c : Nat} {σ τ : Nat → Int32} (p : nm μ s c σ) (e0 : m.2.1 s 0 = μ.2.1 s 0) (e1 : m.2.1 s 1 = μ.2.1 s 1) (e2 : m.2.1 (s + 8) 2 = μ.2.1 (s + 8) 2 ∧ m.2.1 (s + 10) 2 = μ.2.1 (s + 10) 2 ∧ m.2.1 (s + 12) 2 = μ.2.1 (s + 12) 2) (e3 : ∀ k : Nat, k < 5 → m.2.1 (c + 2 * k) 0 = μ.2.1 (c + 2 * k) 0 ∧ m.2.1 (c + 2 * k) 2 = μ.2.1 (c + 2 * k) 2 ∧ m.2.2 (c + 2 * k) 1 = μ.2.2 (c + 2 * k) 1 ∧ ∀ j : Nat, j < 4 → m.2.1 (c + 2 * k + 1) j = μ.2.1 (c + 2 * k + 1) j) (et : ∀ i : Nat, lp i → τ i = σ i) : nm m s c τ := by
  obtain ⟨⟨p0, p1, p2, p3, p4⟩, pk⟩ := p
  refine ⟨⟨?_, ?_, ?_, ?_, ?_⟩, fun k hk => ?_⟩
  · rw [e0, et 0 (Or.inl rfl)]; exact p0
  · rw [e1, et 26 (Or.inr (Or.inl rfl))]; exact p1
  · rw [e2.1, et 28 (by unfold lp; omega)]; exact p2
  · rw [e2.2.1, et 29 (by unfold lp; omega)]; exact p3
  · rw [e2.2.2, et 30 (by unfold lp; omega)]; exact p4
  · obtain ⟨⟨a1, a2, a3⟩, a4⟩ := pk k hk
    obtain ⟨b1, b2, b3, b4⟩ := e3 k hk
    refine ⟨⟨?_, ?_, ?_⟩, fun j hj => ?_⟩
    · rw [b1]; exact a1
    · rw [b3, et (33 + k) (by unfold lp; omega)]; exact a2
    · rw [b2, et (38 + k) (by unfold lp; omega)]; exact a3
    · rw [b4 j hj, et (43 + 4 * k + j) (by unfold lp; omega)]; exact a4 j hj
theorem ALL.kc {μ m : gm_M} (h : ALL μ) (g : kc μ m) : ALL m := by
  obtain ⟨h1, h2, h3, h4, h5, h6, h7⟩ := h
  have r1 : ∀ j : Nat, j ≠ 9 → m.2.1 1 j = μ.2.1 1 j := g.2.2.1
  refine ⟨⟨g.gS h1.1, by rw [g.row (by decide)]; exact h1.2⟩, by rw [g.row (by decide)]; exact h2, h3.of g, ?_, ?_, ?_, ?_⟩
  · refine h4.fr (by rw [g.row (by decide)]) (by rw [g.row (by decide)]) ⟨by rw [g.row (by decide)], by rw [g.row (by decide)], by rw [g.row (by decide)]⟩ (fun k hk => ⟨by rw [g.row (by omega)], by rw [g.row (by omega)], by rw [g.ref (by omega)], fun j _ => by rw [g.row (by omega)]⟩) (fun i _ => by rw [g.row (by decide)])
  · refine h5.fr (by rw [g.row (by decide)]) (by rw [g.row (by decide)]) ⟨by rw [g.row (by decide)], by rw [g.row (by decide)], by rw [g.row (by decide)]⟩ (fun k hk => ⟨by rw [g.row (by omega)], by rw [g.row (by omega)], by rw [g.ref (by omega)], fun j _ => by rw [g.row (by omega)]⟩) (fun i _ => by rw [g.row (by decide)])
  · rw [r1 3 (by decide), g.row (r := 65) (by decide)]; exact h6
  · unfold LT
    rw [g.row (r := 3) (by decide), g.row (r := 65) (by decide), g.row (r := 4) (by decide), g.row (r := 74) (by decide)]
    exact h7
theorem CI.rows {μ m : gm_M} (h : CI μ) (e1 : m.1 = μ.1) (e2 : m.2.2 = μ.2.2) (e3 : ∀ r : Nat, (r < 65 ∨ 75 ≤ r) → m.2.1 r = μ.2.1 r) : CI m := by
  obtain ⟨h0, h1, h2, h3, h4⟩ := h
  have hA : ∀ q, AfW μ q → AfW m q := fun q p => by
    have p0 := p.1
    exact p.same (fun r q e => by rw [e1]; exact e) (by rw [e2]) (e3 _ (by omega)) (e3 _ (by omega))
  refine ⟨h0.same e1 e2, h1.same (fun r q e => by rw [e1]; exact e) (fun j _ => by rw [e3 15 (by omega)]) (by rw [e2]) (fun r hr => e3 r (by omega)) (hA _), h2.same (fun r q e => by rw [e1]; exact e) (fun j _ => by rw [e3 39 (by omega)]) (by rw [e2]) (fun r hr => e3 r (by omega)) (hA _), fun a ha => by rw [e2]; exact h3 a ha, by rw [e3 3 (by omega)]; exact h4⟩
theorem ALL.qm {μ m : gm_M} (h : ALL μ) (g : qm μ m) : ALL m := by
  have hM := h.1.q g
  obtain ⟨h1, h2, h3, h4, h5, h6, h7⟩ := h
  obtain ⟨g1, g2, g3, g5, g6, g7⟩ := g
  have row : ∀ r : Nat, (r ≠ 65 ∧ r ≠ 68 ∧ r ≠ 69 ∧ r ≠ 70 ∧ r ≠ 71 ∧ r ≠ 72 ∧ r ≠ 73) → m.2.1 r = μ.2.1 r := fun r q => g3 r q.1 q.2.1 q.2.2.1 q.2.2.2.1 q.2.2.2.2.1 q.2.2.2.2.2.1 q.2.2.2.2.2.2
  refine ⟨hM, by rw [row 67 (by decide)]; exact h2, h3.rows g1 g2 (fun r hr => row r (by omega)), ?_, ?_, ?_, ?_⟩
  · refine h4.fr (by rw [row _ (by decide)]) (by rw [row _ (by decide)]) ⟨by rw [row _ (by decide)], by rw [row _ (by decide)], by rw [row _ (by decide)]⟩ (fun k hk => ⟨by rw [row _ (by omega)], by rw [row _ (by omega)], by rw [g2], fun j _ => by rw [row _ (by omega)]⟩) (fun i _ => by rw [row _ (by decide)])
  · refine h5.fr (by rw [row _ (by decide)]) (by rw [row _ (by decide)]) ⟨by rw [row _ (by decide)], by rw [row _ (by decide)], by rw [row _ (by decide)]⟩ (fun k hk => ⟨by rw [row _ (by omega)], by rw [row _ (by omega)], by rw [g2], fun j _ => by rw [row _ (by omega)]⟩) (fun i _ => by rw [row _ (by decide)])
  · rw [row 1 (by decide), g6]; exact h6
  · unfold LT
    rw [row 3 (by decide), g7, row 4 (by decide), row 74 (by decide)]
    exact h7
theorem ALL.n26 {μ : gm_M} (h : ALL μ) : (μ.2.1 15 1).toInt = (μ.2.1 66 26).toInt := by rw [h.2.2.2.1.1.2.1]
theorem ALL.n0 {μ : gm_M} (h : ALL μ) : (μ.2.1 15 0).toInt = (μ.2.1 66 0).toInt := by rw [h.2.2.2.1.1.1]
theorem ALL.n28 {μ : gm_M} (h : ALL μ) : (μ.2.1 23 2).toInt = (μ.2.1 66 28).toInt := by rw [h.2.2.2.1.1.2.2.1]
theorem ALL.n29 {μ : gm_M} (h : ALL μ) : (μ.2.1 25 2).toInt = (μ.2.1 66 29).toInt := by rw [h.2.2.2.1.1.2.2.2.1]
theorem ALL.n30 {μ : gm_M} (h : ALL μ) : (μ.2.1 27 2).toInt = (μ.2.1 66 30).toInt := by rw [h.2.2.2.1.1.2.2.2.2]
theorem ALL.ch {μ : gm_M} (h : ALL μ) {c : Int32} (h0 : 0 ≤ c.toInt) (h1 : c.toInt < 5) {v : Nat} (e : v = μ.2.2 16 c.toInt.toNat) : v = 29 + 2 * c.toInt.toNat := by
  rw [e]; exact isch.at h.2.2.1.1 (by omega)
theorem ALL.kd {μ : gm_M} (h : ALL μ) (k : Nat) (hk : k < 5) : ((μ.2.2 (29 + 2 * k) 1 : Nat) : Int) = 8 + (μ.2.1 66 (33 + k)).toInt := (h.2.2.2.1.2 k hk).1.2.1
theorem ALL.vv {μ : gm_M} (h : ALL μ) (k : Nat) (hk : k < 5) : μ.2.1 (29 + 2 * k) 2 = μ.2.1 66 (38 + k) := (h.2.2.2.1.2 k hk).1.2.2
theorem ALL.no {μ : gm_M} (h : ALL μ) (k : Nat) (hk : k < 5) : μ.2.1 (29 + 2 * k) 0 = Int32.ofNat k := (h.2.2.2.1.2 k hk).1.1
theorem ALL.rw {μ : gm_M} (h : ALL μ) (k j : Nat) (hk : k < 5) (hj : j < 4) : μ.2.1 (29 + 2 * k + 1) j = μ.2.1 66 (43 + 4 * k + j) := (h.2.2.2.1.2 k hk).2 j hj
theorem ict.n66 {a : Nat} (p : ict a) : a ≠ 66 ∧ a + 1 ≠ 66 := by unfold ict isch at p; omega
theorem CI.int {μ m : gm_M} (h : CI μ) (e1 : m.1 = μ.1) (e2 : m.2.2 = μ.2.2) (e3 : ∀ r : Nat, (r = 18 ∨ r = 42 ∨ r = 20 ∨ r = 44 ∨ 75 ≤ r ∨ r = 39 ∨ r = 47 ∨ r = 48 ∨ r = 49 ∨ r = 51) → m.2.1 r = μ.2.1 r) (b1 : (0 ≤ (m.2.1 15 1).toInt ∧ (m.2.1 15 1).toInt ≤ 5) ∧ (0 ≤ (m.2.1 15 4).toInt ∧ (m.2.1 15 4).toInt ≤ 100) ∧ (0 ≤ (m.2.1 15 5).toInt ∧ (m.2.1 15 5).toInt ≤ 5)) (b2 : (0 ≤ (m.2.1 23 2).toInt ∧ (m.2.1 23 2).toInt ≤ 5) ∧ (0 ≤ (m.2.1 25 2).toInt ∧ (m.2.1 25 2).toInt ≤ 8) ∧ (0 ≤ (m.2.1 27 2).toInt ∧ (m.2.1 27 2).toInt ≤ 8)) (b3 : m.2.1 23 0 = μ.2.1 23 0 ∧ m.2.1 25 0 = μ.2.1 25 0 ∧ m.2.1 27 0 = μ.2.1 27 0) (b4 : ∀ k : Nat, k < 5 → (m.2.1 24 (3 * k + 2)).toInt ≤ 60) (b5 : (0 ≤ (m.2.1 3 2).toInt ∧ (m.2.1 3 2).toInt ≤ 1000) ∧ m.2.1 3 0 = μ.2.1 3 0) : CI m := by
  obtain ⟨h0, h1, h2, h3, h4⟩ := h
  have hA : ∀ q, AfW μ q → AfW m q := fun q p => by
    have p0 := p.1
    exact p.same (fun r q e => by rw [e1]; exact e) (by rw [e2]) (e3 _ (by omega)) (e3 _ (by omega))
  refine ⟨h0.same e1 e2, ?_, h2.same (fun r q e => by rw [e1]; exact e) (fun j _ => by rw [e3 39 (by omega)]) (by rw [e2]) (fun r hr => e3 r (by omega)) (hA _), fun a ha => by rw [e2]; exact h3 a ha, b5.1, by rw [b5.2]; exact h4.2⟩
  obtain ⟨p1, p2, p3, p4, p5, p6, p7, p8, p9, p10, p11⟩ := h1
  refine ⟨b1.1, b1.2.1, b1.2.2, by rw [e2]; exact hA _ p4, b2.1, b2.2.1, b2.2.2, ?_, ?_, ?_, b4⟩
  · show (m.2.1 23 0).toInt = 5
    rw [b3.1]; exact p8
  · show (m.2.1 25 0).toInt = 8
    rw [b3.2.1]; exact p9
  · show (m.2.1 27 0).toInt = 8
    rw [b3.2.2]; exact p10
theorem wI_g {μ : gm_M} {r j q k : Nat} {x : Int32} : (wI μ r j x).2.1 q k = if q = r ∧ k = j then x else μ.2.1 q k := by
  show gm_u μ.2.1 r j x q k = _
  unfold gm_u
  by_cases h1 : q = r
  · by_cases h2 : k = j
    · rw [if_pos h1, if_pos h2, if_pos ⟨h1, h2⟩]
    · rw [if_pos h1, if_neg h2, if_neg (fun e => h2 e.2)]
  · rw [if_neg h1, if_neg (fun e => h1 e.1)]
theorem ALL.upd {μ m : gm_M} (h : ALL μ) (e1 : m.1 = μ.1) (e2 : m.2.2 = μ.2.2) (ez : ∀ r : Nat, (r = 1 ∨ r = 18 ∨ r = 20 ∨ (39 ≤ r ∧ r < 63) ∨ r = 67 ∨ 75 ≤ r) → m.2.1 r = μ.2.1 r) (e65 : m.2.1 65 4 = μ.2.1 65 4) (mi : mI (m.2.1 66)) (b1 : (0 ≤ (m.2.1 15 1).toInt ∧ (m.2.1 15 1).toInt ≤ 5) ∧ (0 ≤ (m.2.1 15 4).toInt ∧ (m.2.1 15 4).toInt ≤ 100) ∧ (0 ≤ (m.2.1 15 5).toInt ∧ (m.2.1 15 5).toInt ≤ 5)) (b2 : (0 ≤ (m.2.1 23 2).toInt ∧ (m.2.1 23 2).toInt ≤ 5) ∧ (0 ≤ (m.2.1 25 2).toInt ∧ (m.2.1 25 2).toInt ≤ 8) ∧ (0 ≤ (m.2.1 27 2).toInt ∧ (m.2.1 27 2).toInt ≤ 8)) (b3 : m.2.1 23 0 = μ.2.1 23 0 ∧ m.2.1 25 0 = μ.2.1 25 0 ∧ m.2.1 27 0 = μ.2.1 27 0) (b4 : ∀ k : Nat, k < 5 → (m.2.1 24 (3 * k + 2)).toInt ≤ 60) (b5 : (0 ≤ (m.2.1 3 2).toInt ∧ (m.2.1 3 2).toInt ≤ 1000) ∧ m.2.1 3 0 = μ.2.1 3 0) (n1 : nm m 15 29 (m.2.1 66)) (l1 : LT m) : ALL m := by
  obtain ⟨h1, h2, h3, h4, h5, h6, h7⟩ := h
  refine ⟨⟨h1.1.same e1 e2, mi⟩, by rw [ez 67 (by omega)]; exact h2, h3.int e1 e2 (fun r hr => ez r (by omega)) b1 b2 b3 b4 b5, n1, ?_, by rw [ez 1 (by omega), e65]; exact h6, l1⟩
  refine h5.fr (by rw [ez 39 (by omega)]) (by rw [ez 39 (by omega)]) ⟨by rw [ez _ (by omega)], by rw [ez _ (by omega)], by rw [ez _ (by omega)]⟩ (fun k hk => ⟨by rw [ez _ (by omega)], by rw [ez _ (by omega)], by rw [e2], fun j _ => by rw [ez _ (by omega)]⟩) (fun i _ => by rw [ez 67 (by omega)])
/-- only children's rows and the reference's row change -/
theorem ALL.upc {μ m : gm_M} (h : ALL μ) (e1 : m.1 = μ.1) (e2 : m.2.2 = μ.2.2) (ez : ∀ r : Nat, (r < 29 ∨ (39 ≤ r ∧ r < 63) ∨ r = 65 ∨ 67 ≤ r) → m.2.1 r = μ.2.1 r) (mi : mI (m.2.1 66)) (n1 : nm m 15 29 (m.2.1 66)) : ALL m := by
  have hc := h.2.2.1
  refine h.upd e1 e2 (fun r hr => ez r (by omega)) (by rw [ez 65 (by omega)]) mi ?_ ?_ ?_ ?_ ?_ n1 ?_
  · rw [ez 15 (by omega)]; exact ⟨hc.n1, hc.n4, hc.n5⟩
  · rw [ez 23 (by omega), ez 25 (by omega), ez 27 (by omega)]; exact ⟨hc.n23, hc.n25, hc.n27⟩
  · rw [ez 23 (by omega), ez 25 (by omega), ez 27 (by omega)]; exact ⟨rfl, rfl, rfl⟩
  · rw [ez 24 (by omega)]; exact hc.sm
  · rw [ez 3 (by omega)]; exact ⟨hc.n3, rfl⟩
  · unfold LT
    rw [ez 3 (by omega), ez 65 (by omega), ez 4 (by omega), ez 74 (by omega)]
    exact h.2.2.2.2.2.2
/-- a word of a child's row -/
theorem A_row {μ : gm_M} (h : ALL μ) {k j : Nat} (hk : k < 5) (hj : j < 4) (x : Int32) : ALL (wI (wI μ (29 + 2 * k + 1) j x) 66 (43 + 4 * k + j) x) := by
  have o : ∀ q : Nat, q ≠ 29 + 2 * k + 1 → q ≠ 66 → (wI (wI μ (29 + 2 * k + 1) j x) 66 (43 + 4 * k + j) x).2.1 q = μ.2.1 q := fun q q1 q2 => by rw [wI_o _ _ _ _ q2, wI_o _ _ _ _ q1]
  have o66 : ∀ i : Nat, i ≠ 43 + 4 * k + j → (wI (wI μ (29 + 2 * k + 1) j x) 66 (43 + 4 * k + j) x).2.1 66 i = μ.2.1 66 i := fun i hi => by rw [wI_n _ _ _ _ hi, wI_o _ _ _ _ (by omega)]
  refine h.upc rfl rfl (fun r hr => o r (by omega) (by omega)) (h.1.2.same (fun i hi => o66 i (by unfold mp at hi; omega))) ?_
  obtain ⟨p, pk⟩ := h.2.2.2.1
  refine ⟨?_, fun q hq => ?_⟩
  · rw [o 15 (by omega) (by omega), o 23 (by omega) (by omega), o 25 (by omega) (by omega), o 27 (by omega) (by omega), o66 0 (by omega), o66 26 (by omega), o66 28 (by omega), o66 29 (by omega), o66 30 (by omega)]
    exact p
  · obtain ⟨⟨a1, a2, a3⟩, a4⟩ := pk q hq
    refine ⟨⟨?_, ?_, ?_⟩, fun i hi => ?_⟩
    · rw [o _ (by omega) (by omega)]; exact a1
    · rw [o66 _ (by omega)]; exact a2
    · rw [o _ (by omega) (by omega), o66 _ (by omega)]; exact a3
    · by_cases e : q = k
      · subst e
        by_cases e2 : i = j
        · subst e2
          rw [wI_e, wI_o _ _ _ _ (by omega), wI_e]
        · rw [wI_o _ _ _ _ (by omega), wI_n _ _ _ _ e2, o66 _ (by omega)]; exact a4 i hi
      · rw [o _ (by omega) (by omega), o66 _ (by omega)]; exact a4 i hi
/-- what of a child is not compared here -/
theorem A_set {μ : gm_M} (h : ALL μ) {k j i : Nat} (hk : k < 5) (hj : 3 ≤ j) (hi : 1 ≤ i) (hi2 : i < 26) (x y : Int32) : ALL (wI (wI μ (29 + 2 * k) j x) 66 i y) := by
  have o : ∀ q : Nat, q ≠ 29 + 2 * k → q ≠ 66 → (wI (wI μ (29 + 2 * k) j x) 66 i y).2.1 q = μ.2.1 q := fun q q1 q2 => by rw [wI_o _ _ _ _ q2, wI_o _ _ _ _ q1]
  have o66 : ∀ q : Nat, q ≠ i → (wI (wI μ (29 + 2 * k) j x) 66 i y).2.1 66 q = μ.2.1 66 q := fun q hi => by rw [wI_n _ _ _ _ hi, wI_o _ _ _ _ (by omega)]
  refine h.upc rfl rfl (fun r hr => o r (by omega) (by omega)) (h.1.2.same (fun q hq => o66 q (by unfold mp at hq; omega))) (h.2.2.2.1.fr ?_ ?_ ?_ (fun q hq => ?_) (fun q hq => o66 q (by unfold lp at hq; omega)))
  · rw [o 15 (by omega) (by omega)]
  · rw [o 15 (by omega) (by omega)]
  · rw [o (15 + 8) (by omega) (by omega), o (15 + 10) (by omega) (by omega), o (15 + 12) (by omega) (by omega)]; exact ⟨rfl, rfl, rfl⟩
  · refine ⟨?_, ?_, rfl, fun j _ => by rw [o _ (by omega) (by omega)]⟩
    · by_cases e : q = k
      · subst e; rw [wI_o _ _ _ _ (by omega), wI_n _ _ _ _ (by omega)]
      · rw [o _ (by omega) (by omega)]
    · by_cases e : q = k
      · subst e; rw [wI_o _ _ _ _ (by omega), wI_n _ _ _ _ (by omega)]
      · rw [o _ (by omega) (by omega)]
