theorem s_read {μ : gm_M} (hS : gS μ) {A : Nat} (hA : 75 ≤ A) (hT : μ.1[A]? = some (5, 10) ∧ μ.1[A + 1]? = some (1, 10) ∧ μ.1[A + 2]? = some (1, 10) ∧ μ.1[A + 3]? = some (1, 100)) (hR : μ.2.2 A 3 = A + 1 ∧ μ.2.2 A 4 = A + 2 ∧ μ.2.2 A 5 = A + 3) (h9 : μ.2.1 A 9 = 0 ∧ μ.2.1 A 6 = 0 ∧ μ.2.1 A 2 = 0) (hz : ∀ k : Nat, μ.2.1 (A + 2) k = 0) {n : Int32} (hn : 0 ≤ n.toInt ∧ n.toInt ≤ 100) : gwI (f_X0_read A 17 n μ) (fun _ m => m.1 = μ.1 ∧ (∀ r : Nat, r ≠ A → m.2.2 r = μ.2.2 r) ∧ (∀ r : Nat, r ≠ A → r ≠ A + 1 → r ≠ A + 2 → r ≠ A + 3 → m.2.1 r = μ.2.1 r) ∧ RI A m) := by
  refine gwI_of ?_
  unfold f_X0_read
  have l0 : (0 : Int32).toInt = 0 := rfl
  have l1 : (1 : Int32).toInt = 1 := rfl
  have l10 : (10 : Int32).toInt = 10 := rfl
  have l59 : (59 : Int32).toInt = 59 := rfl
  have lo : (Int32.ofNat 100).toInt = 100 := rfl
  have t5 : [5].contains (gm_tag μ A) = true := by unfold gm_tag; rw [hT.1]; rfl
  refine gw_pRw t5 ?_
  refine gw_al (hS.t (r := 17) rfl) (hS.l (r := 17) rfl) ?_
  refine gw_pIw t5 ?_
  generalize hx : (if Int32.ofNat 100 < n then Int32.ofNat 100 else n) = x
  have bx : 0 ≤ x.toInt ∧ x.toInt ≤ 100 := by
    rw [← hx]
    split
    · omega
    · exact hn
  clear hx
  generalize hB : wI (wR μ A 7 17) A 8 x = B
  have B1 : B.1 = μ.1 := by rw [← hB]; rfl
  have B2 : ∀ r : Nat, r ≠ A → B.2.2 r = μ.2.2 r := fun r hr => by rw [← hB]; show gm_u μ.2.2 A 7 17 r = _; exact gu_row hr
  have B2n : ∀ j : Nat, j ≠ 7 → B.2.2 A j = μ.2.2 A j := fun j hj => by rw [← hB]; show gm_u μ.2.2 A 7 17 A j = _; exact gu_ne hj
  have B27 : B.2.2 A 7 = 17 := by rw [← hB]; show gm_u μ.2.2 A 7 17 A 7 = _; exact gu_eq
  have Bo : ∀ r : Nat, r ≠ A → B.2.1 r = μ.2.1 r := fun r hr => by rw [← hB, wI_o _ _ _ _ hr]; rfl
  have Bn : ∀ j : Nat, j ≠ 8 → B.2.1 A j = μ.2.1 A j := fun j hj => by rw [← hB, wI_n _ _ _ _ hj]; rfl
  have B8 : B.2.1 A 8 = x := by rw [← hB, wI_e]
  clear hB
  have hSB : gS B := by
    refine ⟨fun r q e => by rw [B1]; exact hS.1 r q e, fun q hq => ?_⟩
    have hlt : q.1 < 75 := by
      have : ∀ q ∈ gRl, q.1 < 75 := by decide
      exact this q hq
    rw [B2 q.1 (by omega)]; exact hS.2 q hq
  have hI : RI A B := ⟨hSB, hA, by rw [B1]; exact hT, ⟨by rw [B2n 3 (by decide)]; exact hR.1, by rw [B2n 4 (by decide)]; exact hR.2.1, by rw [B2n 5 (by decide)]; exact hR.2.2, B27⟩, by rw [B8]; exact bx, by rw [B8, Bn 9 (by decide), h9.1]; exact ⟨by decide, by have : (0 : Int32).toInt = 0 := rfl; omega⟩, by rw [Bn 6 (by decide), h9.2.1]; exact ⟨by decide, by decide⟩, by rw [Bn 2 (by decide), h9.2.2]; exact ⟨by decide, by decide⟩, fun k _ => by rw [Bo (A + 2) (by omega), hz k]; exact ⟨by decide, by decide⟩⟩
  have fin : ∀ (y : Int32) (m : gm_M), RR A B m → gqI (fun _ m => m.1 = μ.1 ∧ (∀ r : Nat, r ≠ A → m.2.2 r = μ.2.2 r) ∧ (∀ r : Nat, r ≠ A → r ≠ A + 1 → r ≠ A + 2 → r ≠ A + 3 → m.2.1 r = μ.2.1 r) ∧ RI A m) (some (.int y), m) := fun y m k => gq_I ⟨k.1.trans B1, fun r hr => by rw [k.2.1]; exact B2 r hr, fun r r1 r2 r3 r4 => by rw [k.2.2.1 r r1 r2 r3 r4]; exact Bo r r1, k.ri⟩
  refine gw_loop (fun s => RR A B s.2 ∧ 0 ≤ s.1.toInt ∧ s.1.toInt ≤ 10) (fun s => 10 - s.1.toInt) (fun s ⟨k, u1, u2⟩ => ?_) 5000 ((0 : Int32), B) ⟨RR.refl hI, by show 0 ≤ (0 : Int32).toInt; omega, by show (0 : Int32).toInt ≤ 10; omega⟩ (by show 10 - (0 : Int32).toInt < ((5000 : Nat) : Int); omega) (by show 0 ≤ 10 - (0 : Int32).toInt; omega)
  refine gw_le (fun g => ?_) (fun g => ?_)
  · refine gw_gIw k.ri.tc ?_
    exact gw_some (gs_inr (fin _ _ k))
  · refine gw_j (fun m => RR A B m) (fun m km => ?_) (fun j hj => ?_)
    · refine gw_if km.ri.t ?_
      refine gw_bI (s_X0_readClause km.ri) (fun x10 m9 ⟨g9, f9⟩ => ?_)
      have k9 := km.trans g9
      refine gw_ne (fun _ => ?_) (fun _ => ?_)
      · refine gw_gIw k9.ri.tc ?_
        refine gw_gIw k9.ri.tc ?_
        refine gw_lt (fun _ => ?_) (fun _ => ?_)
        · have n : (s.1 + (1 : Int32)).toInt = s.1.toInt + (1 : Int32).toInt := gx_add (by omega) (by omega)
          exact gw_some (gs_inl ⟨k9, by show 0 ≤ (s.1 + (1 : Int32)).toInt; omega, by show (s.1 + (1 : Int32)).toInt ≤ 10; omega⟩ (by show 10 - (s.1 + (1 : Int32)).toInt < 10 - s.1.toInt; omega) (by show 0 ≤ 10 - (s.1 + (1 : Int32)).toInt; omega))
        · exact gw_some (gs_inr (fin _ _ k9))
      · refine gw_gIw k9.ri.tc ?_
        exact gw_some (gs_inr (fin _ _ k9))
    · refine gw_le (fun _ => hj _ k) (fun _ => ?_)
      refine gw_if k.ri.t ?_
      refine gw_bI (s_X0_take k.ri (by omega)) (fun x15 m14 ⟨g14, f14⟩ => ?_)
      have k14 := k.trans g14
      refine gw_ne (fun _ => hj _ k14) (fun _ => ?_)
      refine gw_gIw k14.ri.tc ?_
      exact gw_some (gs_inr (fin _ _ k14))
theorem gS.len {μ : gm_M} (h : gS μ) : 75 ≤ μ.1.length := by
  have := h.1 74 (1, 20) rfl
  have := (List.getElem?_eq_some_iff.mp this).1
  omega
set_option maxHeartbeats 2000000 in
theorem c_afternoon {μ : gm_M} (h : ALL μ) : gwI (f_X11_afternoon 1 μ) (fun _ m => ALL m) := by
  have hc := h.2.2.1
  have hg := hc.1
  have n4 := hc.n4
  have n5 := hc.n5
  have hL := hg.len
  have l5 : (5 : Int32).toInt = 5 := rfl
  have l1 : (1 : Int32).toInt = 1 := rfl
  have l0 : (0 : Int32).toInt = 0 := rfl
  refine gwI_of ?_
  unfold f_X11_afternoon
  refine gw_gRa 15 (hg.c (r := 1) rfl) (hg.r (by decide)) ?_
  refine gw_gIw (hg.c (r := 15) rfl) ?_
  refine gw_lt (fun g5 => ?_) (fun g5 => gw_some (gq_I h))
  show gw (gm_mk μ 5 10 _) _
  unfold gm_mk
  have tq : gm_tag (gm_nw μ 5 10) μ.1.length = 5 := by
    unfold gm_tag; rw [nw_1, List.getElem?_append_right (Nat.le_refl _), Nat.sub_self]; rfl
  refine gw_if (by rw [tq]; decide) ?_
  refine gw_bV s_ainit (fun m5 ⟨a1, a2, a3, a4, a5, a6⟩ => ?_)
  generalize hA : μ.1.length = A at *
  have up : ∀ (r : Nat) (q : Nat × Nat), μ.1[r]? = some q → m5.1[r]? = some q := fun r q e => by
    rw [a1, List.getElem?_append_left (List.getElem?_eq_some_iff.mp e).1]; exact e
  have lt75 : ∀ q ∈ gRl, q.1 < 75 := by decide
  have hS5 : gS m5 := ⟨fun r q e => up r q (hg.1 r q e), fun q hq => by rw [a3 q.1 (by have := lt75 q hq; omega)]; exact hg.2 q hq⟩
  have hT : m5.1[A]? = some (5, 10) ∧ m5.1[A + 1]? = some (1, 10) ∧ m5.1[A + 2]? = some (1, 10) ∧ m5.1[A + 3]? = some (1, 100) := by
    rw [a1, ← hA]
    refine ⟨?_, ?_, ?_, ?_⟩
    · rw [List.getElem?_append_right (Nat.le_refl _), Nat.sub_self]; rfl
    · rw [List.getElem?_append_right (Nat.le_add_right _ _), Nat.add_sub_cancel_left]; rfl
    · rw [List.getElem?_append_right (Nat.le_add_right _ _), Nat.add_sub_cancel_left]; rfl
    · rw [List.getElem?_append_right (Nat.le_add_right _ _), Nat.add_sub_cancel_left]; rfl
  refine gw_gRa 15 (hS5.c (r := 1) rfl) (hS5.r (by decide)) ?_
  refine gw_gRa 17 (hS5.c (r := 15) rfl) (hS5.r (by decide)) ?_
  refine gw_gRa 15 (hS5.c (r := 1) rfl) (hS5.r (by decide)) ?_
  refine gw_gIw (hS5.c (r := 15) rfl) ?_
  rw [a2 15 (by omega)]
  have t5 : gm_tag m5 A = 5 := by unfold gm_tag; rw [hT.1]
  refine gw_if t5 ?_
  refine gw_bI (s_read hS5 hL hT a4 a5 a6 n4) (fun x m ⟨b1, b2, b3, b4⟩ => ?_)
  have hS := b4.1
  have ir : ∀ r : Nat, r < A → m.2.1 r = μ.2.1 r := fun r hr => by rw [b3 r (by omega) (by omega) (by omega) (by omega), a2 r hr]
  have rr : ∀ r : Nat, r < A → m.2.2 r = μ.2.2 r := fun r hr => by rw [b2 r (by omega), a3 r hr]
  have ut : ∀ (r : Nat) (q : Nat × Nat), μ.1[r]? = some q → m.1[r]? = some q := fun r q e => by rw [b1]; exact up r q e
  -- what there was stays
  have old : ∀ q : Nat, AfW μ q → q + 3 < A := fun q p => by
    have := (List.getElem?_eq_some_iff.mp p.2.1.2.2.2).1
    omega
  have fin : ∀ (y : Int32) (M : gm_M), M.1 = m.1 → (∀ r : Nat, r ≠ 15 → M.2.1 r = m.2.1 r) → (∀ j : Nat, j ≠ 4 → j ≠ 5 → M.2.1 15 j = m.2.1 15 j) → (0 ≤ (M.2.1 15 4).toInt ∧ (M.2.1 15 4).toInt ≤ 100) → (0 ≤ (M.2.1 15 5).toInt ∧ (M.2.1 15 5).toInt ≤ 5) → (∀ r j : Nat, ¬ (r = 15 ∧ j = 6) → M.2.2 r j = m.2.2 r j) → (M.2.2 15 6 = μ.2.2 15 6 ∨ M.2.2 15 6 = A) → gqI (fun _ m => ALL m) (some (.int y), M) := by
    intro y M c1 c2 c3 c4 c5 c6 c7
    have cs : gS M := by
      refine ⟨fun r q e => by rw [c1]; exact hS.1 r q e, fun q hq => ?_⟩
      have : ∀ q ∈ gRl, ¬ (q.1 = 15 ∧ q.2.1 = 6) := by decide
      rw [c6 q.1 q.2.1 (this q hq)]; exact hS.2 q hq
    have row : ∀ r : Nat, r < A → r ≠ 15 → M.2.1 r = μ.2.1 r := fun r r1 r2 => (c2 r r2).trans (ir r r1)
    have rf : ∀ r j : Nat, r < A → ¬ (r = 15 ∧ j = 6) → M.2.2 r j = μ.2.2 r j := fun r j r1 r2 => by rw [c6 r j r2, rr r r1]
    have hO : ∀ q : Nat, AfW μ q → AfW M q := fun q p => by
      have p0 := p.1
      have p1 := old q p
      exact p.same (fun r z e => by rw [c1]; exact ut r z e) (funext fun j => rf q j (by omega) (by omega)) (row q (by omega) (by omega)) (row (q + 2) (by omega) (by omega))
    have hN : AfW M A := by
      obtain ⟨-, w0, w1, w2, w3, w4, w5, w6, w7⟩ := b4
      refine ⟨Or.inr (Or.inr w0), ⟨by rw [c1]; exact w1.1, by rw [c1]; exact w1.2.1, by rw [c1]; exact w1.2.2.1, by rw [c1]; exact w1.2.2.2⟩, ⟨by rw [c6 A 3 (by omega)]; exact w2.1, by rw [c6 A 4 (by omega)]; exact w2.2.1, by rw [c6 A 5 (by omega)]; exact w2.2.2.1⟩, by rw [c2 A (by omega)]; exact w6, fun k hk => by rw [c2 (A + 2) (by omega)]; exact w7 k hk⟩
    obtain ⟨h1, h2, -, h4, h5, h6, h7⟩ := h
    obtain ⟨-, s15, s39, kd, tr⟩ := hc
    refine gq_I ⟨⟨cs, by rw [row 66 (by omega) (by omega)]; exact h1.2⟩, by rw [row 67 (by omega) (by omega)]; exact h2, ⟨cs, ?_, ?_, fun a ha => ?_, by rw [row 3 (by omega) (by omega)]; exact tr⟩, ?_, ?_, ?_, ?_⟩
    · obtain ⟨p1, p2, p3, p4, p5, p6, p7, p8, p9, p10, p11⟩ := s15
      unfold scI
      rw [c3 1 (by decide) (by decide), ir 15 (by omega), row (15 + 8) (by omega) (by omega), row (15 + 9) (by omega) (by omega), row (15 + 10) (by omega) (by omega), row (15 + 12) (by omega) (by omega)]
      refine ⟨p1, c4, c5, ?_, p5, p6, p7, p8, p9, p10, p11⟩
      rcases c7 with e | e
      · rw [e]; exact hO _ p4
      · rw [e]; exact hN
    · exact s39.same (fun r q e => by rw [c1]; exact ut r q e) (fun j _ => by rw [row 39 (by omega) (by omega)]) (rf 39 6 (by omega) (by omega)) (fun r hr => row r (by omega) (by omega)) (hO _)
    · have := (show icl a from ha).odd
      rw [rf a 1 (by omega) (by omega)]; exact kd a ha
    · exact h4.fr (by rw [c3 0 (by decide) (by decide), ir 15 (by omega)]) (by rw [c3 1 (by decide) (by decide), ir 15 (by omega)]) ⟨by rw [row (15 + 8) (by omega) (by omega)], by rw [row (15 + 10) (by omega) (by omega)], by rw [row (15 + 12) (by omega) (by omega)]⟩ (fun k hk => ⟨by rw [row _ (by omega) (by omega)], by rw [row _ (by omega) (by omega)], rf _ 1 (by omega) (by omega), fun j _ => by rw [row _ (by omega) (by omega)]⟩) (fun i _ => by rw [row 66 (by omega) (by omega)])
    · exact h5.fr (by rw [row 39 (by omega) (by omega)]) (by rw [row 39 (by omega) (by omega)]) ⟨by rw [row (39 + 8) (by omega) (by omega)], by rw [row (39 + 10) (by omega) (by omega)], by rw [row (39 + 12) (by omega) (by omega)]⟩ (fun k hk => ⟨by rw [row _ (by omega) (by omega)], by rw [row _ (by omega) (by omega)], rf _ 1 (by omega) (by omega), fun j _ => by rw [row _ (by omega) (by omega)]⟩) (fun i _ => by rw [row 67 (by omega) (by omega)])
    · rw [row 1 (by omega) (by omega), row 65 (by omega) (by omega)]; exact h6
    · unfold LT
      rw [row 3 (by omega) (by omega), row 65 (by omega) (by omega), row 4 (by omega) (by omega), row 74 (by omega) (by omega)]
      exact h7
  refine gw_gRa 15 (hS.c (r := 1) rfl) (hS.r (by decide)) ?_
  refine gw_pIw (hS.c (r := 15) rfl) ?_
  refine gw_lt (fun g => ?_) (fun g => ?_)
  · refine gw_gRa 15 (hS.c (r := 1) rfl) (hS.r (by decide)) ?_
    refine gw_pRw (hS.c (r := 15) rfl) ?_
    have hS6 : gS (wR (wI m 15 4 0) 15 6 A) := gS.w6 (μ := wI m 15 4 0) (s := 15) (v := A) hS (Or.inl rfl) rfl rfl
    refine gw_gRa 15 (hS6.c (r := 1) rfl) (hS6.r (by decide)) ?_
    refine gw_gIw (hS6.c (r := 15) rfl) ?_
    refine gw_pIw (hS6.c (r := 15) rfl) ?_
    refine gw_gRa 15 (hS6.c (r := 1) rfl) (hS6.r (r := 1) (j := 1) (a := 15) (by decide)) ?_
    refine gw_gIw (hS6.c (r := 15) rfl) ?_
    have e5 : (wR (wI m 15 4 0) 15 6 A).2.1 15 5 = μ.2.1 15 5 := by
      show (wI m 15 4 0).2.1 15 5 = _
      rw [wI_n _ _ _ _ (by decide), ir 15 (by omega)]
    rw [e5]
    have hb := cnt1 (x := μ.2.1 15 5) (L := 5) n5.1 (by omega) (by decide)
    refine gw_some (fin _ _ rfl (fun r hr => by rw [wI_o _ _ _ _ hr]; show (wI m 15 4 0).2.1 r = _; exact wI_o _ _ _ _ hr) (fun j j4 j5 => by rw [wI_n _ _ _ _ j5]; show (wI m 15 4 0).2.1 15 j = _; exact wI_n _ _ _ _ j4) ?_ (by rw [wI_e]; exact hb) (fun r j hr => ?_) (Or.inr ?_))
    · rw [wI_n _ _ _ _ (by decide)]
      show 0 ≤ ((wI m 15 4 0).2.1 15 4).toInt ∧ ((wI m 15 4 0).2.1 15 4).toInt ≤ 100
      rw [wI_e]; exact ⟨by decide, by decide⟩
    · show gm_u m.2.2 15 6 A r j = m.2.2 r j
      by_cases e : r = 15
      · subst e; exact gu_ne (fun q => hr ⟨rfl, q⟩)
      · rw [gu_row e]
    · show gm_u m.2.2 15 6 A 15 6 = A
      exact gu_eq
  · refine gw_some (fin _ _ rfl (fun r hr => wI_o _ _ _ _ hr) (fun j j4 _ => wI_n _ _ _ _ j4) (by rw [wI_e]; exact ⟨by decide, by decide⟩) (by rw [wI_n _ _ _ _ (by decide), ir 15 (by omega)]; exact n5) (fun r j hr => rfl) (Or.inl (by show m.2.2 15 6 = _; rw [rr 15 (by omega)])))
