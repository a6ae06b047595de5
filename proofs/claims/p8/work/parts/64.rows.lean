theorem cnt1 {x : Int32} {L : Int} (h0 : 0 ≤ x.toInt) (h1 : x.toInt < L) (hL : L ≤ 1000) : 0 ≤ (x + 1).toInt ∧ (x + 1).toInt ≤ L := by
  have l1 : (1 : Int32).toInt = 1 := rfl
  have e : (x + 1).toInt = x.toInt + (1 : Int32).toInt := gx_add (by omega) (by omega)
  omega
theorem A_clr {μ : gm_M} (h : ALL μ) {r s : Nat} (hr : (r = 23 ∧ s = 28) ∨ (r = 25 ∧ s = 29) ∨ (r = 27 ∧ s = 30)) : ALL (wI (wI μ r 2 0) 66 s 0) := by
  have l0 : (0 : Int32).toInt = 0 := rfl
  have o : ∀ q : Nat, q ≠ r → q ≠ 66 → (wI (wI μ r 2 0) 66 s 0).2.1 q = μ.2.1 q := fun q q1 q2 => by rw [wI_o _ _ _ _ q2, wI_o _ _ _ _ q1]
  have o6 : ∀ i : Nat, i ≠ s → (wI (wI μ r 2 0) 66 s 0).2.1 66 i = μ.2.1 66 i := fun i hi => by rw [wI_n _ _ _ _ hi, wI_o _ _ _ _ (by omega)]
  have e6 : (wI (wI μ r 2 0) 66 s 0).2.1 66 s = 0 := wI_e _ _ _ _
  have er2 : (wI (wI μ r 2 0) 66 s 0).2.1 r 2 = 0 := by rw [wI_o _ _ _ _ (by omega), wI_e]
  have er0 : (wI (wI μ r 2 0) 66 s 0).2.1 r 0 = μ.2.1 r 0 := by rw [wI_o _ _ _ _ (by omega), wI_n _ _ _ _ (by decide)]
  have hsm := h.2.2.1.sm
  have m := h.1.2
  refine h.upr (r := r) (s := s) (L := if r = 23 then 5 else 8) (by rcases hr with ⟨rfl, rfl⟩ | ⟨rfl, rfl⟩ | ⟨rfl, rfl⟩ <;> simp) rfl rfl (fun q q1 _ q3 => o q q1 q3) er0 (by rw [er2, e6]) (by rw [er2]; constructor; exact Int.le_refl 0; show (0 : Int) ≤ _; split <;> decide) (fun k hk => ?_) ?_ (fun i _ hi => o6 i hi)
  · rw [o 24 (by omega) (by omega)]; exact hsm k hk
  · obtain ⟨h26, h27, h28, h29, h30, h31, h32, hs, hp, hb, hw⟩ := m
    have h63 := hs 0 (by decide)
    have h78 := hp 0 (by decide)
    have h94 := hb 0 (by decide)
    rcases hr with ⟨rfl, rfl⟩ | ⟨rfl, rfl⟩ | ⟨rfl, rfl⟩
    · exact h.1.2.row (n := 0) (Or.inl ⟨by decide, fun k _ k1 _ => o6 k k1, by rw [e6]; decide, by rw [o6 (63 + 0) (by decide)]; exact h63⟩)
    · exact h.1.2.row (n := 0) (Or.inr (Or.inl ⟨by decide, fun k _ k1 _ _ => o6 k k1, by rw [e6]; decide, by rw [o6 (78 + 0) (by decide)]; exact h78.1, by rw [o6 (78 + 0) (by decide), o6 (86 + 0) (by decide)]; exact h78.2⟩))
    · exact h.1.2.row (n := 0) (Or.inr (Or.inr ⟨by decide, fun k _ k1 _ => o6 k k1, by rw [e6]; decide, by rw [o6 (94 + 0) (by decide)]; exact h94⟩))
theorem A_see {μ : gm_M} (h : ALL μ) {a b c : Int32} {N : Nat} (hN : (μ.2.1 66 28).toInt = N) (n : N < 5) (ha : 0 ≤ a.toInt ∧ a.toInt < 5) (hc : c.toInt ≤ 60) : ALL (wI (wI (wI (wI (ad μ 23 a b c) 66 (63 + N) a) 66 (68 + N) b) 66 (73 + N) c) 66 28 (μ.2.1 66 28 + 1)) := by
  have hn := h.n28
  have e28 : μ.2.1 23 2 = μ.2.1 66 28 := h.2.2.2.1.1.2.2.1
  generalize hM : wI (wI (wI (wI (ad μ 23 a b c) 66 (63 + N) a) 66 (68 + N) b) 66 (73 + N) c) 66 28 (μ.2.1 66 28 + 1) = M
  have o : ∀ q : Nat, q ≠ 66 → M.2.1 q = (ad μ 23 a b c).2.1 q := fun q q1 => by rw [← hM, wI_o _ _ _ _ q1, wI_o _ _ _ _ q1, wI_o _ _ _ _ q1, wI_o _ _ _ _ q1]
  have o6 : ∀ i : Nat, i ≠ 28 → i ≠ 63 + N → i ≠ 68 + N → i ≠ 73 + N → M.2.1 66 i = μ.2.1 66 i := fun i i1 i2 i3 i4 => by rw [← hM, wI_n _ _ _ _ i1, wI_n _ _ _ _ i4, wI_n _ _ _ _ i3, wI_n _ _ _ _ i2, ad_o (by omega) (by omega)]
  have e6 : M.2.1 66 28 = μ.2.1 66 28 + 1 := by rw [← hM, wI_e]
  have e63 : M.2.1 66 (63 + N) = a := by rw [← hM, wI_n _ _ _ _ (by omega), wI_n _ _ _ _ (by omega), wI_n _ _ _ _ (by omega), wI_e]
  have M1 : M.1 = μ.1 := by rw [← hM]; rfl
  have M2 : M.2.2 = μ.2.2 := by rw [← hM]; rfl
  clear hM
  have hb := cnt1 (x := μ.2.1 66 28) (L := 5) (by omega) (by omega) (by decide)
  refine h.upr (r := 23) (s := 28) (L := 5) (Or.inl ⟨rfl, rfl, rfl⟩) M1 M2 (fun q q1 q2 q3 => by rw [o q q3, ad_o q1 q2]) (by rw [o 23 (by decide), ad_0]) (by rw [o 23 (by decide), ad_c, e6, e28]) (by rw [o 23 (by decide), ad_c, e28]; exact hb) (fun k hk => ?_) ?_ (fun i hi hi2 => o6 i hi2 (by unfold lp at hi; omega) (by unfold lp at hi; omega) (by unfold lp at hi; omega))
  · rw [o 24 (by decide), ad_2 (r := 23)]
    split
    · exact hc
    · exact h.2.2.1.sm k hk
  · exact h.1.2.row (n := N) (Or.inl ⟨n, fun k hk k1 k2 => o6 k k1 k2 (by unfold mp at hk; omega) (by unfold mp at hk; omega), by rw [e6]; exact hb, by rw [e63]; omega⟩)
theorem A_plan {μ : gm_M} (h : ALL μ) {a b c : Int32} {N : Nat} (hN : (μ.2.1 66 29).toInt = N) (n : N < 8) (ha : 0 ≤ a.toInt ∧ a.toInt ≤ 3) (hb0 : a.toInt ≠ 0 → 0 ≤ b.toInt ∧ b.toInt < 5) : ALL (wI (wI (wI (ad μ 25 a b c) 66 (78 + N) a) 66 (86 + N) b) 66 29 (μ.2.1 66 29 + 1)) := by
  have hn := h.n29
  have e28 : μ.2.1 25 2 = μ.2.1 66 29 := h.2.2.2.1.1.2.2.2.1
  generalize hM : wI (wI (wI (ad μ 25 a b c) 66 (78 + N) a) 66 (86 + N) b) 66 29 (μ.2.1 66 29 + 1) = M
  have o : ∀ q : Nat, q ≠ 66 → M.2.1 q = (ad μ 25 a b c).2.1 q := fun q q1 => by rw [← hM, wI_o _ _ _ _ q1, wI_o _ _ _ _ q1, wI_o _ _ _ _ q1]
  have o6 : ∀ i : Nat, i ≠ 29 → i ≠ 78 + N → i ≠ 86 + N → M.2.1 66 i = μ.2.1 66 i := fun i i1 i2 i3 => by rw [← hM, wI_n _ _ _ _ i1, wI_n _ _ _ _ i3, wI_n _ _ _ _ i2, ad_o (by omega) (by omega)]
  have e6 : M.2.1 66 29 = μ.2.1 66 29 + 1 := by rw [← hM, wI_e]
  have e78 : M.2.1 66 (78 + N) = a := by rw [← hM, wI_n _ _ _ _ (by omega), wI_n _ _ _ _ (by omega), wI_e]
  have e86 : M.2.1 66 (86 + N) = b := by rw [← hM, wI_n _ _ _ _ (by omega), wI_e]
  have M1 : M.1 = μ.1 := by rw [← hM]; rfl
  have M2 : M.2.2 = μ.2.2 := by rw [← hM]; rfl
  clear hM
  have hb := cnt1 (x := μ.2.1 66 29) (L := 8) (by omega) (by omega) (by decide)
  refine h.upr (r := 25) (s := 29) (L := 8) (Or.inr (Or.inl ⟨rfl, rfl, rfl⟩)) M1 M2 (fun q q1 q2 q3 => by rw [o q q3, ad_o q1 q2]) (by rw [o 25 (by decide), ad_0]) (by rw [o 25 (by decide), ad_c, e6, e28]) (by rw [o 25 (by decide), ad_c, e28]; exact hb) (fun k hk => ?_) ?_ (fun i hi hi2 => o6 i hi2 (by unfold lp at hi; omega) (by unfold lp at hi; omega))
  · rw [o 24 (by decide), ad_o (by decide) (by decide)]
    exact h.2.2.1.sm k hk
  · exact h.1.2.row (n := N) (Or.inr (Or.inl ⟨n, fun k hk k1 k2 k3 => o6 k k1 k2 k3, by rw [e6]; exact hb, by rw [e78]; exact ha, by rw [e78, e86]; intro q; have := hb0 q; omega⟩))
theorem A_book {μ : gm_M} (h : ALL μ) {a b c : Int32} {N : Nat} (hN : (μ.2.1 66 30).toInt = N) (n : N < 8) (ha : 0 ≤ a.toInt ∧ a.toInt < 5) : ALL (wI (wI (wI (ad μ 27 a b c) 66 (94 + N) a) 66 (102 + N) b) 66 30 (μ.2.1 66 30 + 1)) := by
  have hn := h.n30
  have e28 : μ.2.1 27 2 = μ.2.1 66 30 := h.2.2.2.1.1.2.2.2.2
  generalize hM : wI (wI (wI (ad μ 27 a b c) 66 (94 + N) a) 66 (102 + N) b) 66 30 (μ.2.1 66 30 + 1) = M
  have o : ∀ q : Nat, q ≠ 66 → M.2.1 q = (ad μ 27 a b c).2.1 q := fun q q1 => by rw [← hM, wI_o _ _ _ _ q1, wI_o _ _ _ _ q1, wI_o _ _ _ _ q1]
  have o6 : ∀ i : Nat, i ≠ 30 → i ≠ 94 + N → i ≠ 102 + N → M.2.1 66 i = μ.2.1 66 i := fun i i1 i2 i3 => by rw [← hM, wI_n _ _ _ _ i1, wI_n _ _ _ _ i3, wI_n _ _ _ _ i2, ad_o (by omega) (by omega)]
  have e6 : M.2.1 66 30 = μ.2.1 66 30 + 1 := by rw [← hM, wI_e]
  have e94 : M.2.1 66 (94 + N) = a := by rw [← hM, wI_n _ _ _ _ (by omega), wI_n _ _ _ _ (by omega), wI_e]
  have M1 : M.1 = μ.1 := by rw [← hM]; rfl
  have M2 : M.2.2 = μ.2.2 := by rw [← hM]; rfl
  clear hM
  have hb := cnt1 (x := μ.2.1 66 30) (L := 8) (by omega) (by omega) (by decide)
  refine h.upr (r := 27) (s := 30) (L := 8) (Or.inr (Or.inr ⟨rfl, rfl, rfl⟩)) M1 M2 (fun q q1 q2 q3 => by rw [o q q3, ad_o q1 q2]) (by rw [o 27 (by decide), ad_0]) (by rw [o 27 (by decide), ad_c, e6, e28]) (by rw [o 27 (by decide), ad_c, e28]; exact hb) (fun k hk => ?_) ?_ (fun i hi hi2 => o6 i hi2 (by unfold lp at hi; omega) (by unfold lp at hi; omega))
  · rw [o 24 (by decide), ad_o (by decide) (by decide)]
    exact h.2.2.1.sm k hk
  · exact h.1.2.row (n := N) (Or.inr (Or.inr ⟨n, fun k hk k1 k2 => o6 k k1 k2 (by unfold mp at hk; omega), by rw [e6]; exact hb, by rw [e94]; omega⟩))
theorem rdn {b m : gm_M} {j k : Nat} {x : Int32} (e : m = (b.1, gm_u b.2.1 66 j x, b.2.2)) (h : k ≠ j) : m.2.1 66 k = b.2.1 66 k := by
  rw [e]
  show gm_u b.2.1 66 j x 66 k = _
  exact gu_ne h
theorem rde {b m : gm_M} {j : Nat} {x : Int32} (e : m = (b.1, gm_u b.2.1 66 j x, b.2.2)) : m.2.1 66 j = x := by
  rw [e]
  show gm_u b.2.1 66 j x 66 j = _
  exact gu_eq
theorem A_feedc {μ : gm_M} (h : ALL μ) {N : Nat} {x : Int32} (h0 : 0 ≤ (x + 1).toInt) (h1 : (x + 1).toInt ≤ 100) (a : Int32) : ALL (wI (wI μ 17 N a) 15 4 (x + 1)) := by
  have o : ∀ q : Nat, q ≠ 17 → q ≠ 15 → (wI (wI μ 17 N a) 15 4 (x + 1)).2.1 q = μ.2.1 q := fun q q1 q2 => by rw [wI_o _ _ _ _ q2, wI_o _ _ _ _ q1]
  have o5 : ∀ i : Nat, i ≠ 4 → (wI (wI μ 17 N a) 15 4 (x + 1)).2.1 15 i = μ.2.1 15 i := fun i hi => by rw [wI_n _ _ _ _ hi, wI_o _ _ _ _ (by decide)]
  have hc := h.2.2.1
  refine h.upd rfl rfl (fun q hq => o q (by omega) (by omega)) (by rw [o 65 (by decide) (by decide)]) (by rw [o 66 (by decide) (by decide)]; exact h.1.2) ?_ ?_ ?_ ?_ ?_ ?_ ?_
  · rw [o5 1 (by decide), o5 5 (by decide), wI_e]; exact ⟨hc.n1, ⟨h0, h1⟩, hc.n5⟩
  · rw [o 23 (by decide) (by decide), o 25 (by decide) (by decide), o 27 (by decide) (by decide)]; exact ⟨hc.n23, hc.n25, hc.n27⟩
  · rw [o 23 (by decide) (by decide), o 25 (by decide) (by decide), o 27 (by decide) (by decide)]; exact ⟨rfl, rfl, rfl⟩
  · rw [o 24 (by decide) (by decide)]; exact hc.sm
  · rw [o 3 (by decide) (by decide)]; exact ⟨hc.n3, rfl⟩
  · refine h.2.2.2.1.fr (by rw [o5 0 (by decide)]) (by rw [o5 1 (by decide)]) ⟨by rw [o (15 + 8) (by decide) (by decide)], by rw [o (15 + 10) (by decide) (by decide)], by rw [o (15 + 12) (by decide) (by decide)]⟩ (fun k hk => ⟨by rw [o _ (by omega) (by omega)], by rw [o _ (by omega) (by omega)], rfl, fun j _ => by rw [o _ (by omega) (by omega)]⟩) (fun i _ => by rw [o 66 (by decide) (by decide)])
  · unfold LT
    rw [o 3 (by decide) (by decide), o 65 (by decide) (by decide), o 4 (by decide) (by decide), o 74 (by decide) (by decide)]
    exact h.2.2.2.2.2.2
/-- only the reference's row changes, where the light doesn't look -/
theorem ALL.upm {μ m : gm_M} (h : ALL μ) (e1 : m.1 = μ.1) (e2 : m.2.2 = μ.2.2) (ez : ∀ q : Nat, q ≠ 66 → m.2.1 q = μ.2.1 q) (mi : mI (m.2.1 66)) (el : ∀ i : Nat, lp i → m.2.1 66 i = μ.2.1 66 i) : ALL m := by
  have hc := h.2.2.1
  refine h.upd e1 e2 (fun q hq => ez q (by omega)) (by rw [ez 65 (by decide)]) mi ?_ ?_ ?_ ?_ ?_ ?_ ?_
  · rw [ez 15 (by decide)]; exact ⟨hc.n1, hc.n4, hc.n5⟩
  · rw [ez 23 (by decide), ez 25 (by decide), ez 27 (by decide)]; exact ⟨hc.n23, hc.n25, hc.n27⟩
  · rw [ez 23 (by decide), ez 25 (by decide), ez 27 (by decide)]; exact ⟨rfl, rfl, rfl⟩
  · rw [ez 24 (by decide)]; exact hc.sm
  · rw [ez 3 (by decide)]; exact ⟨hc.n3, rfl⟩
  · exact h.2.2.2.1.fr (by rw [ez 15 (by decide)]) (by rw [ez 15 (by decide)]) ⟨by rw [ez (15 + 8) (by decide)], by rw [ez (15 + 10) (by decide)], by rw [ez (15 + 12) (by decide)]⟩ (fun k hk => ⟨by rw [ez _ (by omega)], by rw [ez _ (by omega)], by rw [e2], fun j _ => by rw [ez _ (by omega)]⟩) el
  · unfold LT
    rw [ez 3 (by decide), ez 65 (by decide), ez 4 (by decide), ez 74 (by decide)]
    exact h.2.2.2.2.2.2
theorem A_feedm {μ : gm_M} (h : ALL μ) {N : Nat} (hN : N < 100) (h1 : (μ.2.1 66 31).toInt < 100) (a : Int32) : ALL (wI (wI μ 66 (110 + N) a) 66 31 (μ.2.1 66 31 + 1)) := by
  have o6 : ∀ i : Nat, i ≠ 31 → i ≠ 110 + N → (wI (wI μ 66 (110 + N) a) 66 31 (μ.2.1 66 31 + 1)).2.1 66 i = μ.2.1 66 i := fun i i1 i2 => by rw [wI_n _ _ _ _ i1, wI_n _ _ _ _ i2]
  have e31 : (wI (wI μ 66 (110 + N) a) 66 31 (μ.2.1 66 31 + 1)).2.1 66 31 = μ.2.1 66 31 + 1 := wI_e _ _ _ _
  have n31 := h.1.n31
  have hb := cnt1 (x := μ.2.1 66 31) (L := 100) n31.1 h1 (by decide)
  refine h.upm rfl rfl (fun q hq => by rw [wI_o _ _ _ _ hq, wI_o _ _ _ _ hq]) ?_ (fun i hi => o6 i (by unfold lp at hi; omega) (by unfold lp at hi; omega))
  obtain ⟨h26, h27, h28, h29, h30, h31, h32, hs, hp, hb2, hw⟩ := h.1.2
  refine ⟨by rw [o6 26 (by omega) (by omega)]; exact h26, by rw [o6 27 (by omega) (by omega)]; exact h27, by rw [o6 28 (by omega) (by omega)]; exact h28, by rw [o6 29 (by omega) (by omega)]; exact h29, by rw [o6 30 (by omega) (by omega)]; exact h30, by rw [e31]; exact hb, by rw [o6 32 (by omega) (by omega)]; exact h32, fun k hk => ?_, fun k hk => ?_, fun k hk => ?_, fun a ha => ?_⟩
  · rw [o6 _ (by omega) (by omega)]; exact hs k hk
  · rw [o6 _ (by omega) (by omega), o6 _ (by omega) (by omega)]; exact hp k hk
  · rw [o6 _ (by omega) (by omega)]; exact hb2 k hk
  · obtain ⟨w1, w2, tp, w3, w4⟩ := hw a ha
    unfold wfp
    rw [o6 _ (by omega) (by omega)]
    refine ⟨w1, w2, tp, w3, fun i hi => ?_⟩
    rw [o6 _ (by omega) (by omega)]
    exact w4 i hi
theorem rdo {b m : gm_M} {r j q : Nat} {x : Int32} (e : m = (b.1, gm_u b.2.1 r j x, b.2.2)) (h : q ≠ r) : m.2.1 q = b.2.1 q := by
  rw [e]
  show gm_u b.2.1 r j x q = _
  exact gu_row h
