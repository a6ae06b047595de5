/-! askings that both sides answer, and the start, over REL -/
theorem kC_ext {μ : gm_M} {σ : Nat → Int32} {t k : Nat} (h : ∀ j : Nat, j < 12 → kC μ t j = kR σ k j) : kC μ t = kR σ k := by
  funext j
  by_cases q : j < 12
  · exact h j q
  · unfold kC kR
    rw [if_neg (by omega), if_neg (by omega), if_neg q, if_neg (by omega), if_neg (by omega), if_neg (by omega), if_neg (by omega), if_neg q]
def gi_rkb (k : Nat → Int32) : Bool := gi_in (k 1) 0 6 && gi_in (k 2) 0 9 && gi_in (k 3) 0 6 && gi_in (k 4) 0 999 && gi_in (k 5) 0 99 && gi_in (k 6) 0 100000 && gi_in (k 7) 0 9999 && gi_all 4 (fun j => gi_in (k (8 + j)) 0 9)
theorem gi_rk {k : Nat → Int32} (h : gi_rkb k = true) : RK k := by
  unfold gi_rkb at h
  simp only [Bool.and_eq_true] at h
  obtain ⟨⟨⟨⟨⟨⟨⟨h1, h2⟩, h3⟩, h4⟩, h5⟩, h6⟩, h7⟩, h8⟩ := h
  exact ⟨⟨gi_ins h1, gi_ins h2, gi_ins h3⟩, ⟨gi_ins h4, gi_ins h5, gi_ins h6, gi_ins h7⟩, fun j hj => gi_ins (gi_alls h8 j hj)⟩
theorem REL_0 : REL gi5 := by
  have kd : gi_all 7 (fun i => decide (gi5.2.1 (8 + i) 0 = Int32.ofNat i)) = true := by decide +kernel
  have vk : gi_all 5 (fun k => gi_all 12 (fun j => decide (kC gi5 (29 + 2 * k) j = kR (gi5.2.1 66) k j)) && gi_rkb (kR (gi5.2.1 66) k)) = true := by decide +kernel
  have z31 : (gi5.2.1 66 31).toInt = 0 := by decide +kernel
  have z28 : (gi5.2.1 66 28).toInt = 0 := by decide +kernel
  have z30 : (gi5.2.1 66 30).toInt = 0 := by decide +kernel
  have z13 : gi5.2.1 1 3 = 0 := by decide +kernel
  have c0 : gi5.2.1 (gi5.2.2 15 6) 0 = 0 := by decide +kernel
  have c1 : gi5.2.1 (gi5.2.2 15 6) 1 = 20 := by decide +kernel
  have c2 : gi5.2.1 (gi5.2.2 15 6) 2 = 0 := by decide +kernel
  have c6 : gi5.2.1 (gi5.2.2 15 6) 6 = 0 := by decide +kernel
  have s32 : gi5.2.1 66 32 = -1 := by decide +kernel
  refine ⟨ALL_0, fun i hi => of_decide_eq_true (gi_alls kd i hi), ⟨fun k hk => ?_, ⟨by decide +kernel, by decide +kernel⟩, ⟨by decide +kernel, by decide +kernel, fun i hi => ?_⟩, ⟨fun i _ hi => ?_, fun i _ hi => ?_⟩, ⟨0, 20, [], ⟨⟨fun q hq => absurd hq List.not_mem_nil, Nat.zero_le _, Nat.zero_le _⟩, Or.inl ⟨s32, rfl, rfl, rfl⟩⟩, ⟨⟨c0, c1⟩, ⟨c6, fun i hi => absurd hi (Nat.not_lt_zero i)⟩, c2, fun i q hq => ?_⟩, ⟨⟨by decide, by decide⟩, by decide, by decide⟩⟩, by decide +kernel⟩, fun q => ?_⟩
  · have q := gi_alls vk k hk
    rw [Bool.and_eq_true] at q
    exact ⟨kC_ext (fun j hj => of_decide_eq_true (gi_alls q.1 j hj)), gi_rk q.2⟩
  · rw [z31] at hi; omega
  · rw [z28] at hi; omega
  · rw [z30] at hi; omega
  · cases hq
  · rw [z13] at q; exact absurd q (by decide)
