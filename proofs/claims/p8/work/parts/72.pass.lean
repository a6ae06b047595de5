def cps (i : Nat) (μ m : gm_M) : Prop := m.1 = μ.1 ∧ m.2.2 = μ.2.2 ∧ (∀ r : Nat, r ≠ 15 → ¬ isch r → m.2.1 r = μ.2.1 r) ∧ (∀ j : Nat, j ≠ 0 → m.2.1 15 j = μ.2.1 15 j) ∧ m.2.1 15 0 = itn i (μ.2.1 15 0) ∧ ∀ a : Nat, isch a → ∀ j : Nat, j < 3 → m.2.1 a j = μ.2.1 a j
theorem cps.refl (μ : gm_M) : cps 0 μ μ := ⟨rfl, rfl, fun _ _ _ => rfl, fun _ _ => rfl, rfl, fun _ _ _ _ => rfl⟩
theorem cps.ci {i : Nat} {μ m : gm_M} (g : cps i μ m) (hc : CI μ) : CI m := by
  obtain ⟨g1, g2, g3, g4, g5, g6⟩ := g
  refine hc.int g1 g2 (fun r hr => g3 r (by omega) (by unfold isch; omega)) ?_ ?_ ?_ ?_ ?_
  · rw [g4 1 (by decide), g4 4 (by decide), g4 5 (by decide)]; exact ⟨hc.n1, hc.n4, hc.n5⟩
  · rw [g3 23 (by decide) (by unfold isch; omega), g3 25 (by decide) (by unfold isch; omega), g3 27 (by decide) (by unfold isch; omega)]; exact ⟨hc.n23, hc.n25, hc.n27⟩
  · rw [g3 23 (by decide) (by unfold isch; omega), g3 25 (by decide) (by unfold isch; omega), g3 27 (by decide) (by unfold isch; omega)]; exact ⟨rfl, rfl, rfl⟩
  · rw [g3 24 (by decide) (by unfold isch; omega)]; exact hc.sm
  · rw [g3 3 (by decide) (by unfold isch; omega)]; exact ⟨hc.n3, rfl⟩
theorem cps.ch {i : Nat} {μ m m' : gm_M} {a : Nat} (g : cps i μ m) (ha : isch a) (c : chg a m m') : cps i μ m' := by
  obtain ⟨g1, g2, g3, g4, g5, g6⟩ := g
  obtain ⟨c1, c2, c3, c4⟩ := c
  have a15 : 15 ≠ a := by unfold isch at ha; omega
  refine ⟨c1.trans g1, c2.trans g2, fun r h1 h2 => (c3 r (fun e => h2 (by rw [e]; exact ha))).trans (g3 r h1 h2), fun j hj => by rw [c3 15 a15]; exact g4 j hj, by rw [c3 15 a15]; exact g5, fun b hb j hj => ?_⟩
  by_cases e : b = a
  · subst e; rw [c4 j hj]; exact g6 b hb j hj
  · rw [c3 b e]; exact g6 b hb j hj
theorem cps.mi {i : Nat} {μ m : gm_M} (g : cps i μ m) : cps (i + 1) μ (wI m 15 0 (m.2.1 15 0 + 1)) := by
  obtain ⟨g1, g2, g3, g4, g5, g6⟩ := g
  refine ⟨g1, g2, fun r h1 h2 => by rw [wI_o _ _ _ _ h1]; exact g3 r h1 h2, fun j hj => by rw [wI_n _ _ _ _ hj]; exact g4 j hj, by rw [wI_e, g5]; rfl, fun b hb j hj => by rw [wI_o _ _ _ _ (by unfold isch at hb; omega)]; exact g6 b hb j hj⟩
set_option maxHeartbeats 1000000 in
theorem c_pass {μ : gm_M} (h : CI μ) {a : Int32} : gwI (f_X11_pass 1 a μ) (fun x m => (m = μ ∧ x = -2 ∧ (a.toInt < 0 ∨ 60 < a.toInt)) ∨ (m = μ ∧ x = -3 ∧ (0 ≤ a.toInt ∧ a.toInt ≤ 60) ∧ 9999 < (μ.2.1 15 0 + a).toInt) ∨ ((0 ≤ a.toInt ∧ a.toInt ≤ 60) ∧ (μ.2.1 15 0 + a).toInt ≤ 9999 ∧ x = m.2.1 15 0 ∧ cps a.toInt.toNat μ m)) := by
  refine gwI_of ?_
  unfold f_X11_pass
  have l0 : (0 : Int32).toInt = 0 := rfl
  have l1 : (1 : Int32).toInt = 1 := rfl
  have l60 : (60 : Int32).toInt = 60 := rfl
  have l9 : (9999 : Int32).toInt = 9999 := rfl
  have hg := h.1
  refine gw_bI s_X11_isOutside (fun x2 m2 ⟨z2, f2⟩ => ?_)
  replace z2 := z2.symm
  subst z2
  refine gw_eq (fun g2 => ?_) (fun g2 => gw_some (gq_I (Or.inl ⟨rfl, rfl, by omega⟩)))
  refine gw_gRa 15 (hg.c (r := 1) rfl) (hg.r (by decide)) ?_
  refine gw_gIw (hg.c (r := 15) rfl) ?_
  refine gw_le (fun g4 => ?_) (fun g4 => gw_some (gq_I (Or.inr (Or.inl ⟨rfl, rfl, by omega, by omega⟩))))
  refine gw_loop (fun s => (0 ≤ s.1.toInt ∧ s.1.toInt ≤ a.toInt) ∧ cps s.1.toInt.toNat μ s.2) (fun s => 60 - s.1.toInt) (fun s ⟨q1, q2⟩ => ?_) 5000 ((0 : Int32), μ) ⟨⟨by show 0 ≤ (0 : Int32).toInt; omega, by show (0 : Int32).toInt ≤ a.toInt; omega⟩, cps.refl μ⟩ (by show 60 - (0 : Int32).toInt < ((5000 : Nat) : Int); omega) (by show 0 ≤ 60 - (0 : Int32).toInt; omega)
  have hs := (q2.ci h).1
  refine gw_le (fun g => ?_) (fun g => ?_)
  · refine gw_gRa 15 (hs.c (r := 1) rfl) (hs.r (by decide)) ?_
    refine gw_gIw (hs.c (r := 15) rfl) ?_
    refine gw_some (gs_inr (gq_I (Or.inr (Or.inr ⟨by omega, by omega, rfl, ?_⟩))))
    rw [show a.toInt.toNat = s.1.toInt.toNat by omega]
    exact q2
  · refine gw_loop (fun t => (0 ≤ t.1.toInt ∧ t.1.toInt ≤ 5) ∧ cps s.1.toInt.toNat μ t.2) (fun t => 5 - t.1.toInt) (fun t ⟨p1, p2⟩ => ?_) 5000 ((0 : Int32), s.2) ⟨⟨by show 0 ≤ (0 : Int32).toInt; omega, by show (0 : Int32).toInt ≤ 5; omega⟩, q2⟩ (by show 5 - (0 : Int32).toInt < ((5000 : Nat) : Int); omega) (by show 0 ≤ 5 - (0 : Int32).toInt; omega)
    have ht := p2.ci h
    have htg := ht.1
    have b1 := ht.n1
    refine gw_gRa 15 (htg.c (r := 1) rfl) (htg.r (by decide)) ?_
    refine gw_gIw (htg.c (r := 15) rfl) ?_
    refine gw_le (fun gg => ?_) (fun gg => ?_)
    · refine gw_gRa 15 (htg.c (r := 1) rfl) (htg.r (by decide)) ?_
      refine gw_gIw (htg.c (r := 15) rfl) ?_
      refine gw_pIw (htg.c (r := 15) rfl) ?_
      have n : (s.1 + (1 : Int32)).toInt = s.1.toInt + (1 : Int32).toInt := gx_add (by omega) (by omega)
      refine gw_some (gs_inr (gs_inl ⟨⟨by show 0 ≤ (s.1 + (1 : Int32)).toInt; omega, by show (s.1 + (1 : Int32)).toInt ≤ a.toInt; omega⟩, ?_⟩ (by show 60 - (s.1 + (1 : Int32)).toInt < 60 - s.1.toInt; omega) (by show 0 ≤ 60 - (s.1 + (1 : Int32)).toInt; omega)))
      show cps (s.1 + (1 : Int32)).toInt.toNat μ _
      rw [show (s.1 + (1 : Int32)).toInt.toNat = s.1.toInt.toNat + 1 by omega]
      exact p2.mi
    · refine gw_gRa 15 (htg.c (r := 1) rfl) (htg.r (by decide)) ?_
      refine gw_gRa 16 (htg.c (r := 15) rfl) (htg.r (by decide)) ?_
      refine gw_aR (i := t.1) (htg.t (r := 16) rfl) (htg.l (r := 16) rfl) (by omega) (by omega) (fun v ev => ?_)
      have cv : isch v := by rw [ev]; exact isch.of htg (by omega) (by omega)
      refine gw_gRa 15 (htg.c (r := 1) rfl) (htg.r (by decide)) ?_
      refine gw_gIw (htg.c (r := 15) rfl) ?_
      refine gw_if (isch.t htg cv) ?_
      refine gw_bV (s_X2_passMinute ht (Or.inl cv)) (fun m19 g19 => ?_)
      have n : (t.1 + (1 : Int32)).toInt = t.1.toInt + (1 : Int32).toInt := gx_add (by omega) (by omega)
      exact gw_some (gs_inl ⟨⟨by show 0 ≤ (t.1 + (1 : Int32)).toInt; omega, by show (t.1 + (1 : Int32)).toInt ≤ 5; omega⟩, p2.ch cv g19⟩ (by show 5 - (t.1 + (1 : Int32)).toInt < 5 - t.1.toInt; omega) (by show 0 ≤ 5 - (t.1 + (1 : Int32)).toInt; omega))
theorem m_pass {μ : gm_M} (h : MI μ) {a : Int32} : gwI (f_X12_pass 65 a μ) (fun y m => (m = μ ∧ y = -2 ∧ (a.toInt < 0 ∨ 60 < a.toInt)) ∨ (m = μ ∧ y = -3 ∧ (0 ≤ a.toInt ∧ a.toInt ≤ 60) ∧ 9999 < (μ.2.1 66 0 + a).toInt) ∨ ((0 ≤ a.toInt ∧ a.toInt ≤ 60) ∧ (μ.2.1 66 0 + a).toInt ≤ 9999 ∧ y = m.2.1 66 0 ∧ km A1 μ m ∧ m.2.1 66 0 = itn a.toInt.toNat (μ.2.1 66 0))) := by
  refine gwI_of ?_
  unfold f_X12_pass
  have l0 : (0 : Int32).toInt = 0 := rfl
  have l60 : (60 : Int32).toInt = 60 := rfl
  have l9 : (9999 : Int32).toInt = 9999 := rfl
  have hg := h.1
  refine gw_bI s_X12_in (fun x2 m2 ⟨z2, f2⟩ => ?_)
  replace z2 := z2.symm
  subst z2
  refine gw_ne (fun g2 => ?_) (fun g2 => gw_some (gq_I (Or.inl ⟨rfl, rfl, by omega⟩)))
  refine gw_gRa 66 (hg.c (r := 65) rfl) (hg.r (by decide)) ?_
  refine gw_aIw 0 (hg.t (r := 66) rfl) (hg.l (r := 66) rfl) (by omega) (by omega) ?_
  refine gw_le (fun g4 => ?_) (fun g4 => gw_some (gq_I (Or.inr (Or.inl ⟨rfl, rfl, by omega, by omega⟩))))
  refine gw_if (hg.t (r := 65) rfl) ?_
  refine gw_bV (s_X12_goesOn h (by omega)) (fun m5 ⟨k5, f5⟩ => ?_)
  have h5 := (h.of1 k5).1
  refine gw_gRa 66 (h5.c (r := 65) rfl) (h5.r (by decide)) ?_
  refine gw_aIw 0 (h5.t (r := 66) rfl) (h5.l (r := 66) rfl) (by omega) (by omega) ?_
  exact gw_some (gq_I (Or.inr (Or.inr ⟨by omega, by omega, rfl, k5, f5⟩)))
theorem A_pass {μ m1 m2 : gm_M} (h : ALL μ) {n : Nat} (c : cps n μ m1) (k : km A1 m1 m2) (k0 : m2.2.1 66 0 = itn n (m1.2.1 66 0)) : ALL m2 ∧ m2.2.1 66 0 = m1.2.1 15 0 := by
  have hc1 := c.ci h.2.2.1
  obtain ⟨c1, c2, c3, c4, c5, c6⟩ := c
  obtain ⟨g1, g2, g3, g4, g5, g6, g7⟩ := k
  have row : ∀ r : Nat, (r ≠ 65 ∧ r ≠ 66 ∧ r ≠ 69 ∧ r ≠ 70 ∧ r ≠ 71 ∧ r ≠ 72 ∧ r ≠ 73) → m2.2.1 r = m1.2.1 r := fun r q => g3 r q.1 q.2.1 q.2.2.1 q.2.2.2.1 q.2.2.2.2.1 q.2.2.2.2.2.1 q.2.2.2.2.2.2
  have ro : ∀ r : Nat, (r ≠ 65 ∧ r ≠ 66 ∧ r ≠ 69 ∧ r ≠ 70 ∧ r ≠ 71 ∧ r ≠ 72 ∧ r ≠ 73) → r ≠ 15 → ¬ isch r → m2.2.1 r = μ.2.1 r := fun r q q1 q2 => (row r q).trans (c3 r q1 q2)
  have r66 : m1.2.1 66 = μ.2.1 66 := c3 66 (by omega) (by unfold isch; omega)
  have r65 : m1.2.1 65 = μ.2.1 65 := c3 65 (by omega) (by unfold isch; omega)
  have o6 : ∀ i : Nat, 26 ≤ i → m2.2.1 66 i = μ.2.1 66 i := fun i hi => by rw [g4 i (by unfold A1; omega), r66]
  have E0 : μ.2.1 15 0 = μ.2.1 66 0 := h.2.2.2.1.1.1
  have M0 : m2.2.1 66 0 = m1.2.1 15 0 := by rw [k0, r66, c5, E0]
  refine ⟨?_, M0⟩
  have hc := h.2.2.1
  have hmi : mI (m2.2.1 66) := h.1.2.same (fun i hi => o6 i (by unfold mp at hi; omega))
  refine h.upd (g1.trans c1) (g2.trans c2) (fun r hr => ro r (by omega) (by omega) (by unfold isch; omega)) (by rw [g6, r65]) hmi ?_ ?_ ?_ ?_ ?_ ?_ ?_
  · rw [row 15 (by decide)]; exact ⟨hc1.n1, hc1.n4, hc1.n5⟩
  · rw [row 23 (by decide), row 25 (by decide), row 27 (by decide)]; exact ⟨hc1.n23, hc1.n25, hc1.n27⟩
  · rw [ro 23 (by decide) (by decide) (by unfold isch; omega), ro 25 (by decide) (by decide) (by unfold isch; omega), ro 27 (by decide) (by decide) (by unfold isch; omega)]; exact ⟨rfl, rfl, rfl⟩
  · rw [row 24 (by decide)]; exact hc1.sm
  · rw [ro 3 (by decide) (by decide) (by unfold isch; omega)]; exact ⟨hc.n3, rfl⟩
  · obtain ⟨p, pk⟩ := h.2.2.2.1
    refine ⟨?_, fun k hk => ?_⟩
    · rw [row 15 (by decide), c4 1 (by decide), ro (15 + 8) (by decide) (by decide) (by unfold isch; omega), ro (15 + 10) (by decide) (by decide) (by unfold isch; omega), ro (15 + 12) (by decide) (by decide) (by unfold isch; omega), o6 26 (by decide), o6 28 (by decide), o6 29 (by decide), o6 30 (by decide)]
      exact ⟨M0.symm, p.2⟩
    · obtain ⟨⟨a1, a2, a3⟩, a4⟩ := pk k hk
      have ik : isch (29 + 2 * k) := by unfold isch; omega
      refine ⟨⟨?_, ?_, ?_⟩, fun j hj => ?_⟩
      · rw [row _ (by omega), c6 _ ik 0 (by decide)]; exact a1
      · rw [g2, c2, o6 _ (by omega)]; exact a2
      · rw [row _ (by omega), c6 _ ik 2 (by decide), o6 _ (by omega)]; exact a3
      · rw [ro _ (by omega) (by omega) (by unfold isch; omega), o6 _ (by omega)]; exact a4 j hj
  · unfold LT
    rw [ro 3 (by decide) (by decide) (by unfold isch; omega), g7, r65, ro 4 (by decide) (by decide) (by unfold isch; omega), ro 74 (by decide) (by decide) (by unfold isch; omega)]
    exact h.2.2.2.2.2.2
theorem p_pass {μ : gm_M} (h : ALL μ) {a1 : Int32} : gwI (f_X11_pass 1 a1 μ) (fun x m => gwI (f_X12_pass 65 a1 m) (fun y m2 => y = x ∧ ALL m2)) := by
  have E0 : μ.2.1 15 0 = μ.2.1 66 0 := h.2.2.2.1.1.1
  refine gwI_mono (c_pass h.2.2.1) (fun x m hx => ?_)
  rcases hx with ⟨rfl, hx, q⟩ | ⟨rfl, hx, q1, q2⟩ | ⟨q1, q2, hx, hc⟩
  · refine gwI_mono (m_pass h.1) (fun y m2 hy => ?_)
    rcases hy with ⟨rfl, hy, p⟩ | ⟨rfl, hy, p1, p2⟩ | ⟨p1, p2, hy, hm, hm2⟩
    · exact ⟨hy.trans hx.symm, h⟩
    all_goals (exfalso; omega)
  · refine gwI_mono (m_pass h.1) (fun y m2 hy => ?_)
    rw [← E0] at hy
    rcases hy with ⟨rfl, hy, p⟩ | ⟨rfl, hy, p1, p2⟩ | ⟨p1, p2, hy, hm, hm2⟩
    · exfalso; omega
    · exact ⟨hy.trans hx.symm, h⟩
    · exfalso; omega
  · have r66 : m.2.1 66 = μ.2.1 66 := hc.2.2.1 66 (by omega) (by unfold isch; omega)
    have hM : MI m := ⟨(hc.ci h.2.2.1).1, by rw [r66]; exact h.1.2⟩
    refine gwI_mono (m_pass hM) (fun y m2 hy => ?_)
    rcases hy with ⟨rfl, hy, p⟩ | ⟨rfl, hy, p1, p2⟩ | ⟨p1, p2, hy, hm, hm2⟩
    · exfalso; omega
    · exfalso; rw [r66, ← E0] at p2; omega
    · have A := A_pass h hc hm hm2
      exact ⟨by rw [hy, hx, A.2], A.1⟩
