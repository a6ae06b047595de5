theorem A_chg {μ m : gm_M} (h : ALL μ) {k : Nat} (hk : k < 5) (g : chg (29 + 2 * k) μ m) : ALL m := by
  obtain ⟨g1, g2, g3, g4⟩ := g
  refine h.upc g1 g2 (fun r hr => g3 r (by omega)) (by rw [g3 66 (by omega)]; exact h.1.2) (h.2.2.2.1.fr ?_ ?_ ?_ (fun q hq => ?_) (fun q hq => by rw [g3 66 (by omega)]))
  · rw [g3 15 (by omega)]
  · rw [g3 15 (by omega)]
  · rw [g3 (15 + 8) (by omega), g3 (15 + 10) (by omega), g3 (15 + 12) (by omega)]; exact ⟨rfl, rfl, rfl⟩
  · refine ⟨?_, ?_, by rw [g2], fun j _ => by rw [g3 _ (by omega)]⟩
    · by_cases e : q = k
      · subst e; exact g4 0 (by omega)
      · rw [g3 _ (by omega)]
    · by_cases e : q = k
      · subst e; exact g4 2 (by omega)
      · rw [g3 _ (by omega)]
theorem A_km3 {μ m : gm_M} (h : ALL μ) (g : km A3 μ m) : ALL m := by
  obtain ⟨g1, g2, g3, g4, g5, g6, g7⟩ := g
  have row : ∀ r : Nat, (r ≠ 65 ∧ r ≠ 66 ∧ r ≠ 69 ∧ r ≠ 70 ∧ r ≠ 71 ∧ r ≠ 72 ∧ r ≠ 73) → m.2.1 r = μ.2.1 r := fun r q => g3 r q.1 q.2.1 q.2.2.1 q.2.2.2.1 q.2.2.2.2.1 q.2.2.2.2.2.1 q.2.2.2.2.2.2
  have hc := h.2.2.1
  refine h.upd g1 g2 (fun r hr => row r (by omega)) g6 (h.1.2.same (fun i hi => g4 i (by unfold A3; unfold mp at hi; omega))) ?_ ?_ ?_ ?_ ?_ ?_ ?_
  · rw [row 15 (by decide)]; exact ⟨hc.n1, hc.n4, hc.n5⟩
  · rw [row 23 (by decide), row 25 (by decide), row 27 (by decide)]; exact ⟨hc.n23, hc.n25, hc.n27⟩
  · rw [row 23 (by decide), row 25 (by decide), row 27 (by decide)]; exact ⟨rfl, rfl, rfl⟩
  · rw [row 24 (by decide)]; exact hc.sm
  · rw [row 3 (by decide)]; exact ⟨hc.n3, rfl⟩
  · refine h.2.2.2.1.fr (by rw [row 15 (by decide)]) (by rw [row 15 (by decide)]) ⟨by rw [row (15 + 8) (by decide)], by rw [row (15 + 10) (by decide)], by rw [row (15 + 12) (by decide)]⟩ (fun k hk => ⟨by rw [row _ (by omega)], by rw [row _ (by omega)], by rw [g2], fun j _ => by rw [row _ (by omega)]⟩) (fun i hi => g4 i (by unfold A3; unfold lp at hi; omega))
  · unfold LT
    rw [row 3 (by decide), g7, row 4 (by decide), row 74 (by decide)]
    exact h.2.2.2.2.2.2
/-- a row of SEEN, PLAN or BOOK comes or all go -/
theorem ALL.upr {μ m : gm_M} (h : ALL μ) {r s : Nat} {L : Int} (hr : (r = 23 ∧ s = 28 ∧ L = 5) ∨ (r = 25 ∧ s = 29 ∧ L = 8) ∨ (r = 27 ∧ s = 30 ∧ L = 8)) (e1 : m.1 = μ.1) (e2 : m.2.2 = μ.2.2) (ez : ∀ q : Nat, q ≠ r → q ≠ r + 1 → q ≠ 66 → m.2.1 q = μ.2.1 q) (er : m.2.1 r 0 = μ.2.1 r 0) (ec : m.2.1 r 2 = m.2.1 66 s) (bc : 0 ≤ (m.2.1 r 2).toInt ∧ (m.2.1 r 2).toInt ≤ L) (b4 : ∀ k : Nat, k < 5 → (m.2.1 24 (3 * k + 2)).toInt ≤ 60) (mi : mI (m.2.1 66)) (el : ∀ i : Nat, lp i → i ≠ s → m.2.1 66 i = μ.2.1 66 i) : ALL m := by
  have hc := h.2.2.1
  obtain ⟨p, pk⟩ := h.2.2.2.1
  have h7 := h.2.2.2.2.2.2
  refine h.upd e1 e2 (fun q hq => ez q (by omega) (by omega) (by omega)) (by rw [ez 65 (by omega) (by omega) (by omega)]) mi ?_ ?_ ?_ b4 ?_ ?_ ?_
  · rw [ez 15 (by omega) (by omega) (by omega)]; exact ⟨hc.n1, hc.n4, hc.n5⟩
  · rcases hr with ⟨rfl, rfl, rfl⟩ | ⟨rfl, rfl, rfl⟩ | ⟨rfl, rfl, rfl⟩
    · rw [ez 25 (by omega) (by omega) (by omega), ez 27 (by omega) (by omega) (by omega)]; exact ⟨bc, hc.n25, hc.n27⟩
    · rw [ez 23 (by omega) (by omega) (by omega), ez 27 (by omega) (by omega) (by omega)]; exact ⟨hc.n23, bc, hc.n27⟩
    · rw [ez 23 (by omega) (by omega) (by omega), ez 25 (by omega) (by omega) (by omega)]; exact ⟨hc.n23, hc.n25, bc⟩
  · rcases hr with ⟨rfl, rfl, rfl⟩ | ⟨rfl, rfl, rfl⟩ | ⟨rfl, rfl, rfl⟩
    · rw [ez 25 (by omega) (by omega) (by omega), ez 27 (by omega) (by omega) (by omega)]; exact ⟨er, rfl, rfl⟩
    · rw [ez 23 (by omega) (by omega) (by omega), ez 27 (by omega) (by omega) (by omega)]; exact ⟨rfl, er, rfl⟩
    · rw [ez 23 (by omega) (by omega) (by omega), ez 25 (by omega) (by omega) (by omega)]; exact ⟨rfl, rfl, er⟩
  · rw [ez 3 (by omega) (by omega) (by omega)]; exact ⟨hc.n3, rfl⟩
  · refine ⟨?_, fun k hk => ?_⟩
    · rw [ez 15 (by omega) (by omega) (by omega), el 0 (by unfold lp; omega) (by omega), el 26 (by unfold lp; omega) (by omega)]
      rcases hr with ⟨rfl, rfl, rfl⟩ | ⟨rfl, rfl, rfl⟩ | ⟨rfl, rfl, rfl⟩
      · rw [ez (15 + 10) (by omega) (by omega) (by omega), ez (15 + 12) (by omega) (by omega) (by omega), el 29 (by unfold lp; omega) (by omega), el 30 (by unfold lp; omega) (by omega)]
        exact ⟨p.1, p.2.1, ec, p.2.2.2.1, p.2.2.2.2⟩
      · rw [ez (15 + 8) (by omega) (by omega) (by omega), ez (15 + 12) (by omega) (by omega) (by omega), el 28 (by unfold lp; omega) (by omega), el 30 (by unfold lp; omega) (by omega)]
        exact ⟨p.1, p.2.1, p.2.2.1, ec, p.2.2.2.2⟩
      · rw [ez (15 + 8) (by omega) (by omega) (by omega), ez (15 + 10) (by omega) (by omega) (by omega), el 28 (by unfold lp; omega) (by omega), el 29 (by unfold lp; omega) (by omega)]
        exact ⟨p.1, p.2.1, p.2.2.1, p.2.2.2.1, ec⟩
    · obtain ⟨⟨a1, a2, a3⟩, a4⟩ := pk k hk
      refine ⟨⟨?_, ?_, ?_⟩, fun j hj => ?_⟩
      · rw [ez _ (by omega) (by omega) (by omega)]; exact a1
      · rw [e2, el _ (by unfold lp; omega) (by omega)]; exact a2
      · rw [ez _ (by omega) (by omega) (by omega), el _ (by unfold lp; omega) (by omega)]; exact a3
      · rw [ez _ (by omega) (by omega) (by omega), el _ (by unfold lp; omega) (by omega)]; exact a4 j hj
  · unfold LT
    rw [ez 3 (by omega) (by omega) (by omega), ez 65 (by omega) (by omega) (by omega), ez 4 (by omega) (by omega) (by omega), ez 74 (by omega) (by omega) (by omega)]
    exact h7
theorem ad_o {μ : gm_M} {r : Nat} {a b c : Int32} {q : Nat} (h1 : q ≠ r) (h2 : q ≠ r + 1) : (ad μ r a b c).2.1 q = μ.2.1 q := by
  unfold ad; rw [wI_o _ _ _ _ h1, wI_o _ _ _ _ h2, wI_o _ _ _ _ h2, wI_o _ _ _ _ h2]
theorem ad_c {μ : gm_M} {r : Nat} {a b c : Int32} : (ad μ r a b c).2.1 r 2 = μ.2.1 r 2 + 1 := by unfold ad; rw [wI_e]
theorem ad_0 {μ : gm_M} {r : Nat} {a b c : Int32} : (ad μ r a b c).2.1 r 0 = μ.2.1 r 0 := by
  unfold ad; rw [wI_n _ _ _ _ (by decide), wI_o _ _ _ _ (by omega), wI_o _ _ _ _ (by omega), wI_o _ _ _ _ (by omega)]
theorem ad_2 {μ : gm_M} {r : Nat} {a b c : Int32} (k : Nat) : (ad μ r a b c).2.1 (r + 1) (3 * k + 2) = if k = (μ.2.1 r 2).toInt.toNat then c else μ.2.1 (r + 1) (3 * k + 2) := by
  unfold ad
  rw [wI_o _ _ _ _ (by omega)]
  by_cases e : k = (μ.2.1 r 2).toInt.toNat
  · rw [if_pos e, e, wI_e]
  · rw [if_neg e, wI_n _ _ _ _ (by omega), wI_n _ _ _ _ (by omega), wI_n _ _ _ _ (by omega)]
theorem mI.row {σ τ : Nat → Int32} (h : mI σ) {n : Nat} (c : (n < 5 ∧ (∀ k, mp k → k ≠ 28 → k ≠ 63 + n → τ k = σ k) ∧ (0 ≤ (τ 28).toInt ∧ (τ 28).toInt ≤ 5) ∧ 0 ≤ (τ (63 + n)).toInt ∧ (τ (63 + n)).toInt ≤ 4) ∨ (n < 8 ∧ (∀ k, mp k → k ≠ 29 → k ≠ 78 + n → k ≠ 86 + n → τ k = σ k) ∧ (0 ≤ (τ 29).toInt ∧ (τ 29).toInt ≤ 8) ∧ (0 ≤ (τ (78 + n)).toInt ∧ (τ (78 + n)).toInt ≤ 3) ∧ ((τ (78 + n)).toInt ≠ 0 → 0 ≤ (τ (86 + n)).toInt ∧ (τ (86 + n)).toInt ≤ 4)) ∨ (n < 8 ∧ (∀ k, mp k → k ≠ 30 → k ≠ 94 + n → τ k = σ k) ∧ (0 ≤ (τ 30).toInt ∧ (τ 30).toInt ≤ 8) ∧ 0 ≤ (τ (94 + n)).toInt ∧ (τ (94 + n)).toInt ≤ 4)) : mI τ := by
  obtain ⟨h26, h27, h28, h29, h30, h31, h32, hs, hp, hb, hw⟩ := h
  have hW : (∀ k, 220 ≤ k → k < 925 → τ k = σ k) → ∀ a : Nat, a < 5 → wfp τ a := fun e a ha => by
    obtain ⟨w1, w2, tp, w3, w4⟩ := hw a ha
    unfold wfp
    rw [e (220 + a) (by omega) (by omega)]
    refine ⟨w1, w2, tp, w3, fun i hi => ?_⟩
    rw [e (225 + 140 * a + i) (by omega) (by omega)]
    exact w4 i hi
  unfold mp at c
  rcases c with ⟨hn, e, c1, c2⟩ | ⟨hn, e, c1, c2, c3⟩ | ⟨hn, e, c1, c2⟩
  · refine ⟨by rw [e 26 (by omega) (by omega) (by omega)]; exact h26, by rw [e 27 (by omega) (by omega) (by omega)]; exact h27, c1, by rw [e 29 (by omega) (by omega) (by omega)]; exact h29, by rw [e 30 (by omega) (by omega) (by omega)]; exact h30, by rw [e 31 (by omega) (by omega) (by omega)]; exact h31, by rw [e 32 (by omega) (by omega) (by omega)]; exact h32, fun k hk => ?_, fun k hk => ?_, fun k hk => ?_, hW (fun k hk hk2 => e k (by omega) (by omega) (by omega))⟩
    · by_cases q : k = n
      · subst q; exact c2
      · rw [e _ (by omega) (by omega) (by omega)]; exact hs k hk
    · rw [e _ (by omega) (by omega) (by omega), e _ (by omega) (by omega) (by omega)]; exact hp k hk
    · rw [e _ (by omega) (by omega) (by omega)]; exact hb k hk
  · refine ⟨by rw [e 26 (by omega) (by omega) (by omega) (by omega)]; exact h26, by rw [e 27 (by omega) (by omega) (by omega) (by omega)]; exact h27, by rw [e 28 (by omega) (by omega) (by omega) (by omega)]; exact h28, c1, by rw [e 30 (by omega) (by omega) (by omega) (by omega)]; exact h30, by rw [e 31 (by omega) (by omega) (by omega) (by omega)]; exact h31, by rw [e 32 (by omega) (by omega) (by omega) (by omega)]; exact h32, fun k hk => ?_, fun k hk => ?_, fun k hk => ?_, hW (fun k hk hk2 => e k (by omega) (by omega) (by omega) (by omega))⟩
    · rw [e _ (by omega) (by omega) (by omega) (by omega)]; exact hs k hk
    · by_cases q : k = n
      · subst q; exact ⟨c2, c3⟩
      · rw [e _ (by omega) (by omega) (by omega) (by omega), e _ (by omega) (by omega) (by omega) (by omega)]; exact hp k hk
    · rw [e _ (by omega) (by omega) (by omega) (by omega)]; exact hb k hk
  · refine ⟨by rw [e 26 (by omega) (by omega) (by omega)]; exact h26, by rw [e 27 (by omega) (by omega) (by omega)]; exact h27, by rw [e 28 (by omega) (by omega) (by omega)]; exact h28, by rw [e 29 (by omega) (by omega) (by omega)]; exact h29, c1, by rw [e 31 (by omega) (by omega) (by omega)]; exact h31, by rw [e 32 (by omega) (by omega) (by omega)]; exact h32, fun k hk => ?_, fun k hk => ?_, fun k hk => ?_, hW (fun k hk hk2 => e k (by omega) (by omega) (by omega))⟩
    · rw [e _ (by omega) (by omega) (by omega)]; exact hs k hk
    · rw [e _ (by omega) (by omega) (by omega), e _ (by omega) (by omega) (by omega)]; exact hp k hk
    · by_cases q : k = n
      · subst q; exact c2
      · rw [e _ (by omega) (by omega) (by omega)]; exact hb k hk
