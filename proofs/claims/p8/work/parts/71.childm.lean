set_option maxHeartbeats 1000000 in
theorem m_child {μ : gm_M} (h : MI μ) {a b : Int32} : gwI (f_X12_child 65 a b μ) (fun y m => (m = μ ∧ y = -1 ∧ (a.toInt < 0 ∨ 6 < a.toInt)) ∨ (m = μ ∧ y = -2 ∧ (0 ≤ a.toInt ∧ a.toInt ≤ 6) ∧ (b.toInt < 0 ∨ 9 < b.toInt)) ∨ (m = μ ∧ y = -4 ∧ (0 ≤ a.toInt ∧ a.toInt ≤ 6) ∧ (0 ≤ b.toInt ∧ b.toInt ≤ 9) ∧ 5 ≤ (μ.2.1 66 26).toInt) ∨ ((0 ≤ a.toInt ∧ a.toInt ≤ 6) ∧ (0 ≤ b.toInt ∧ b.toInt ≤ 9) ∧ (μ.2.1 66 26).toInt < 5 ∧ y = μ.2.1 66 26 ∧ MB μ m (μ.2.1 66 26).toInt.toNat a b)) := by
  refine gwI_of ?_
  unfold f_X12_child
  have l0 : (0 : Int32).toInt = 0 := rfl
  have l1 : (1 : Int32).toInt = 1 := rfl
  have l4 : (4 : Int32).toInt = 4 := rfl
  have l5 : (5 : Int32).toInt = 5 := rfl
  have l6 : (6 : Int32).toInt = 6 := rfl
  have l9 : (9 : Int32).toInt = 9 := rfl
  have l11 : (11 : Int32).toInt = 11 := rfl
  have l16 : (16 : Int32).toInt = 16 := rfl
  have l21 : (21 : Int32).toInt = 21 := rfl
  have l26 : (26 : Int32).toInt = 26 := rfl
  have l33 : (33 : Int32).toInt = 33 := rfl
  have l38 : (38 : Int32).toInt = 38 := rfl
  have l43 : (43 : Int32).toInt = 43 := rfl
  have hn := h.n26
  have hg := h.1
  refine gw_bI s_X12_in (fun x2 m2 ⟨z2, f2⟩ => ?_)
  replace z2 := z2.symm
  subst z2
  refine gw_ne (fun g2 => ?_) (fun g2 => gw_some (gq_I (Or.inl ⟨rfl, rfl, by omega⟩)))
  refine gw_bI s_X12_in (fun x4 m4 ⟨z4, f4⟩ => ?_)
  replace z4 := z4.symm
  subst z4
  refine gw_ne (fun g4 => ?_) (fun g4 => gw_some (gq_I (Or.inr (Or.inl ⟨rfl, rfl, by omega, by omega⟩))))
  refine gw_gRa 66 (hg.c (r := 65) rfl) (hg.r (by decide)) ?_
  refine gw_aIw 26 (hg.t (r := 66) rfl) (hg.l (r := 66) rfl) (by omega) (by omega) ?_
  refine gw_ne (fun g6 => ?_) (fun g6 => gw_some (gq_I (Or.inr (Or.inr (Or.inl ⟨rfl, rfl, by omega, by omega, by omega⟩)))))
  refine gw_gRa 66 (hg.c (r := 65) rfl) (hg.r (by decide)) ?_
  refine gw_aIw 26 (hg.t (r := 66) rfl) (hg.l (r := 66) rfl) (by omega) (by omega) ?_
  generalize hn0 : μ.2.1 66 26 = n at *
  obtain ⟨N, hN⟩ : ∃ N : Nat, n.toInt = N := ⟨n.toInt.toNat, by omega⟩
  have n33 : ((33 : Int32) + n).toInt = (33 : Int32).toInt + n.toInt := gx_add (by omega) (by omega)
  have n38 : ((38 : Int32) + n).toInt = (38 : Int32).toInt + n.toInt := gx_add (by omega) (by omega)
  have n1 : ((1 : Int32) + n).toInt = (1 : Int32).toInt + n.toInt := gx_add (by omega) (by omega)
  have n6 : ((6 : Int32) + n).toInt = (6 : Int32).toInt + n.toInt := gx_add (by omega) (by omega)
  have n11 : ((11 : Int32) + n).toInt = (11 : Int32).toInt + n.toInt := gx_add (by omega) (by omega)
  have n16 : ((16 : Int32) + n).toInt = (16 : Int32).toInt + n.toInt := gx_add (by omega) (by omega)
  have n21 : ((21 : Int32) + n).toInt = (21 : Int32).toInt + n.toInt := gx_add (by omega) (by omega)
  have n4 : ((4 : Int32) * n).toInt = 4 * n.toInt := gx_mul 4 rfl (by omega) (by omega)
  have n43 : ((43 : Int32) + (4 : Int32) * n).toInt = (43 : Int32).toInt + ((4 : Int32) * n).toInt := gx_add (by omega) (by omega)
  refine gw_gRa 66 (hg.c (r := 65) rfl) (hg.r (by decide)) ?_
  refine gw_sIw (33 + N) (hg.t (r := 66) rfl) (hg.l (r := 66) rfl) (by omega) (by omega) ?_
  refine gw_gRa 66 (hg.c (r := 65) rfl) (hg.r (by decide)) ?_
  refine gw_sIw (38 + N) (hg.t (r := 66) rfl) (hg.l (r := 66) rfl) (by omega) (by omega) ?_
  refine gw_gRa 66 (hg.c (r := 65) rfl) (hg.r (by decide)) ?_
  refine gw_sIw (1 + N) (hg.t (r := 66) rfl) (hg.l (r := 66) rfl) (by omega) (by omega) ?_
  refine gw_gRa 66 (hg.c (r := 65) rfl) (hg.r (by decide)) ?_
  refine gw_if (hg.t (r := 65) rfl) ?_
  have hM3 : MI (wI (wI (wI μ 66 (33 + N) a) 66 (38 + N) b) 66 (1 + N) 1) := ⟨hg, h.2.same (fun k hk => by unfold mp at hk; rw [wI_n _ _ _ _ (by omega), wI_n _ _ _ _ (by omega), wI_n _ _ _ _ (by omega)])⟩
  refine gw_bI (s_X12_sweetNow hM3) (fun x17 m17 z17 => ?_)
  replace z17 := z17.symm
  subst z17
  refine gw_sIw (6 + N) (hg.t (r := 66) rfl) (hg.l (r := 66) rfl) (by omega) (by omega) ?_
  refine gw_gRa 66 (hg.c (r := 65) rfl) (hg.r (by decide)) ?_
  refine gw_sIw (11 + N) (hg.t (r := 66) rfl) (hg.l (r := 66) rfl) (by omega) (by omega) ?_
  refine gw_gRa 66 (hg.c (r := 65) rfl) (hg.r (by decide)) ?_
  refine gw_sIw (16 + N) (hg.t (r := 66) rfl) (hg.l (r := 66) rfl) (by omega) (by omega) ?_
  refine gw_gRa 66 (hg.c (r := 65) rfl) (hg.r (by decide)) ?_
  refine gw_sIw (21 + N) (hg.t (r := 66) rfl) (hg.l (r := 66) rfl) (by omega) (by omega) ?_
  generalize hB : wI (wI (wI (wI (wI (wI (wI μ 66 (33 + N) a) 66 (38 + N) b) 66 (1 + N) 1) 66 (6 + N) x17) 66 (11 + N) 0) 66 (16 + N) 0) 66 (21 + N) 0 = B
  have B1 : B.1 = μ.1 := by rw [← hB]; rfl
  have B2 : B.2.2 = μ.2.2 := by rw [← hB]; rfl
  have Bo : ∀ r : Nat, r ≠ 66 → B.2.1 r = μ.2.1 r := fun r hr => by rw [← hB, wI_o _ _ _ _ hr, wI_o _ _ _ _ hr, wI_o _ _ _ _ hr, wI_o _ _ _ _ hr, wI_o _ _ _ _ hr, wI_o _ _ _ _ hr, wI_o _ _ _ _ hr]
  have Bk : B.2.1 66 (33 + N) = a := by rw [← hB, wI_n _ _ _ _ (by omega), wI_n _ _ _ _ (by omega), wI_n _ _ _ _ (by omega), wI_n _ _ _ _ (by omega), wI_n _ _ _ _ (by omega), wI_n _ _ _ _ (by omega), wI_e]
  have Bv : B.2.1 66 (38 + N) = b := by rw [← hB, wI_n _ _ _ _ (by omega), wI_n _ _ _ _ (by omega), wI_n _ _ _ _ (by omega), wI_n _ _ _ _ (by omega), wI_n _ _ _ _ (by omega), wI_e]
  have Be : ∀ i : Nat, i ≠ 33 + N → i ≠ 38 + N → ¬ (1 ≤ i ∧ i < 26) → B.2.1 66 i = μ.2.1 66 i := fun i i1 i2 i3 => by rw [← hB, wI_n _ _ _ _ (by omega), wI_n _ _ _ _ (by omega), wI_n _ _ _ _ (by omega), wI_n _ _ _ _ (by omega), wI_n _ _ _ _ (by omega), wI_n _ _ _ _ i2, wI_n _ _ _ _ i1]
  clear hB
  refine gw_loop (fun s => (0 ≤ s.1.toInt ∧ s.1.toInt ≤ 4) ∧ s.2.1 = μ.1 ∧ s.2.2.2 = μ.2.2 ∧ (∀ r : Nat, r ≠ 66 → s.2.2.1 r = μ.2.1 r) ∧ (∀ j : Nat, (j : Int) < s.1.toInt → s.2.2.1 66 (43 + 4 * N + j) = 0) ∧ ∀ i : Nat, ¬ (43 + 4 * N ≤ i ∧ i < 43 + 4 * N + 4) → s.2.2.1 66 i = B.2.1 66 i) (fun s => 4 - s.1.toInt) (fun s ⟨g1, g2, g3, g4, g5, g7⟩ => ?_) 5000 ((0 : Int32), B) ⟨⟨by show 0 ≤ (0 : Int32).toInt; omega, by show (0 : Int32).toInt ≤ 4; omega⟩, B1, B2, Bo, fun j hj => by have : (j : Int) < (0 : Int32).toInt := hj; omega, fun _ _ => rfl⟩ (by show 4 - (0 : Int32).toInt < ((5000 : Nat) : Int); omega) (by show 0 ≤ 4 - (0 : Int32).toInt; omega)
  have hs : gS s.2 := hg.same g2 g3
  refine gw_le (fun q => ?_) (fun q => ?_)
  · refine gw_gRa 66 (hs.c (r := 65) rfl) (hs.r (by decide)) ?_
    refine gw_aIw 26 (hs.t (r := 66) rfl) (hs.l (r := 66) rfl) (by omega) (by omega) ?_
    refine gw_sIw 26 (hs.t (r := 66) rfl) (hs.l (r := 66) rfl) (by omega) (by omega) ?_
    have e26 : s.2.2.1 66 26 = n := by rw [g7 26 (by omega), Be 26 (by omega) (by omega) (by omega), hn0]
    refine gw_some (gs_inr (gq_I (Or.inr (Or.inr (Or.inr ⟨by omega, by omega, by omega, rfl, ?_⟩)))))
    rw [show n.toInt.toNat = N by omega]
    refine ⟨g2, g3, fun r hr => by rw [wI_o _ _ _ _ hr]; exact g4 r hr, by rw [wI_e, e26, hn0], ?_, ?_, fun j hj => ?_, fun i i1 i2 i3 i4 i5 => ?_⟩
    · rw [wI_n _ _ _ _ (by omega), g7 _ (by omega)]; exact Bk
    · rw [wI_n _ _ _ _ (by omega), g7 _ (by omega)]; exact Bv
    · rw [wI_n _ _ _ _ (by omega)]; exact g5 j (by omega)
    · rw [wI_n _ _ _ _ i1, g7 i i4]; exact Be i i2 i3 i5
  · refine gw_gRa 66 (hs.c (r := 65) rfl) (hs.r (by decide)) ?_
    have nn : (((43 : Int32) + (4 : Int32) * n) + s.1).toInt = ((43 : Int32) + (4 : Int32) * n).toInt + s.1.toInt := gx_add (by omega) (by omega)
    refine gw_sIw (43 + 4 * N + s.1.toInt.toNat) (hs.t (r := 66) rfl) (hs.l (r := 66) rfl) (by omega) (by omega) ?_
    have nx : (s.1 + (1 : Int32)).toInt = s.1.toInt + (1 : Int32).toInt := gx_add (by omega) (by omega)
    refine gw_some (gs_inl ⟨⟨by show 0 ≤ (s.1 + (1 : Int32)).toInt; omega, by show (s.1 + (1 : Int32)).toInt ≤ 4; omega⟩, g2, g3, fun r hr => (wI_o _ _ _ _ hr).trans (g4 r hr), fun j hj => ?_, fun i hi => ?_⟩ (by show 4 - (s.1 + (1 : Int32)).toInt < 4 - s.1.toInt; omega) (by show 0 ≤ 4 - (s.1 + (1 : Int32)).toInt; omega))
    · have hj : (j : Int) < (s.1 + (1 : Int32)).toInt := hj
      show (wI s.2 66 (43 + 4 * N + s.1.toInt.toNat) 0).2.1 66 (43 + 4 * N + j) = 0
      by_cases e : j = s.1.toInt.toNat
      · subst e; rw [wI_e]
      · rw [wI_n _ _ _ _ (by omega)]; exact g5 j (by omega)
    · show (wI s.2 66 (43 + 4 * N + s.1.toInt.toNat) 0).2.1 66 i = _
      rw [wI_n _ _ _ _ (by omega)]; exact g7 i hi
theorem p_child {μ : gm_M} (h : ALL μ) {a1 a2 : Int32} : gwI (f_X11_child 1 a1 a2 μ) (fun x m => gwI (f_X12_child 65 a1 a2 m) (fun y m2 => y = x ∧ ALL m2)) := by
  have hN := h.n26
  have E26 : μ.2.1 15 1 = μ.2.1 66 26 := h.2.2.2.1.1.2.1
  have b26 := h.1.n26
  refine gwI_mono (c_child h) (fun x m hx => ?_)
  rcases hx with ⟨rfl, hx, q⟩ | ⟨rfl, hx, q1, q2⟩ | ⟨rfl, hx, q1, q2, q3⟩ | ⟨q1, q2, q3, hx, hc⟩
  · refine gwI_mono (m_child h.1) (fun y m2 hy => ?_)
    rcases hy with ⟨rfl, hy, p⟩ | ⟨rfl, hy, p1, p2⟩ | ⟨rfl, hy, p1, p2, p3⟩ | ⟨p1, p2, p3, hy, hm⟩
    · exact ⟨hy.trans hx.symm, h⟩
    all_goals (exfalso; omega)
  · refine gwI_mono (m_child h.1) (fun y m2 hy => ?_)
    rcases hy with ⟨rfl, hy, p⟩ | ⟨rfl, hy, p1, p2⟩ | ⟨rfl, hy, p1, p2, p3⟩ | ⟨p1, p2, p3, hy, hm⟩
    · exfalso; omega
    · exact ⟨hy.trans hx.symm, h⟩
    all_goals (exfalso; omega)
  · refine gwI_mono (m_child h.1) (fun y m2 hy => ?_)
    rcases hy with ⟨rfl, hy, p⟩ | ⟨rfl, hy, p1, p2⟩ | ⟨rfl, hy, p1, p2, p3⟩ | ⟨p1, p2, p3, hy, hm⟩
    · exfalso; omega
    · exfalso; omega
    · exact ⟨hy.trans hx.symm, h⟩
    · exfalso; omega
  · have n5 := hc
    obtain ⟨c1, c2, c3, -⟩ := n5
    have isn : isch (29 + 2 * (μ.2.1 15 1).toInt.toNat) := by unfold isch; omega
    have r66 : m.2.1 66 = μ.2.1 66 := c3 66 (by omega) (by omega) (by omega)
    have hM : MI m := ⟨h.1.1.kd isn c1 c2, by rw [r66]; exact h.1.2⟩
    refine gwI_mono (m_child hM) (fun y m2 hy => ?_)
    rw [r66] at hy
    rcases hy with ⟨rfl, hy, p⟩ | ⟨rfl, hy, p1, p2⟩ | ⟨rfl, hy, p1, p2, p3⟩ | ⟨p1, p2, p3, hy, hm⟩
    · exfalso; omega
    · exfalso; omega
    · exfalso; omega
    · refine ⟨by rw [hy, hx, E26], A_child (n := (μ.2.1 15 1).toInt.toNat) h (by omega) (by omega) q1 hc ?_⟩
      rw [show (μ.2.1 15 1).toInt.toNat = (μ.2.1 66 26).toInt.toNat by omega]
      exact hm
