/-! an image, back to it -/
theorem kC_x {μ m : gm_M} {t u : Nat} (e1 : m.2.2 u 1 = μ.2.2 t 1) (e2 : ∀ j : Nat, j < 8 → j ≠ 1 → m.2.1 u j = μ.2.1 t j) (e3 : ∀ j : Nat, j < 4 → m.2.1 (u + 1) j = μ.2.1 (t + 1) j) : kC m u = kC μ t := by
  funext i
  unfold kC
  rw [e1]
  by_cases h0 : i = 1
  · rw [if_pos h0, if_pos h0]
  · rw [if_neg h0, if_neg h0]
    by_cases h1 : i < 8
    · rw [if_pos h1, if_pos h1, e2 i h1 h0]
    · rw [if_neg h1, if_neg h1]
      by_cases h2 : i < 12
      · rw [if_pos h2, if_pos h2, e3 _ (by omega)]
      · rw [if_neg h2, if_neg h2]
theorem kR_x {σ τ : Nat → Int32} {k : Nat} (hk : k < 5) (e2 : ∀ i : Nat, (1 ≤ i ∧ i < 26) ∨ (33 ≤ i ∧ i < 63) → τ i = σ i) : kR τ k = kR σ k := by
  funext j
  unfold kR
  by_cases h0 : j = 0
  · rw [if_pos h0, if_pos h0]
  · rw [if_neg h0, if_neg h0]
    by_cases h1 : j = 1
    · rw [if_pos h1, if_pos h1, e2 _ (by omega)]
    · rw [if_neg h1, if_neg h1]
      by_cases h2 : j = 2
      · rw [if_pos h2, if_pos h2, e2 _ (by omega)]
      · rw [if_neg h2, if_neg h2]
        by_cases h8 : j < 8
        · rw [if_pos h8, if_pos h8, e2 _ (by omega)]
        · rw [if_neg h8, if_neg h8]
          by_cases h12 : j < 12
          · rw [if_pos h12, if_pos h12, e2 _ (by omega)]
          · rw [if_neg h12, if_neg h12]
theorem HR.of9 {σ τ : Nat → Int32} {w sw : Int32} {P : List (List Int32 × Int32)} (h : HR σ w sw P) (e : ∀ k : Nat, k < 925 → τ k = σ k) : HR τ w sw P := by
  obtain ⟨h1, h2⟩ := h
  have hl := h1.2.2
  refine ⟨h1, ?_⟩
  rcases h2 with ⟨a, b⟩ | ⟨a, ha, e1, ⟨e2, e3⟩, e4, e5⟩
  · exact Or.inl ⟨by rw [e 32 (by omega)]; exact a, b⟩
  · exact Or.inr ⟨a, ha, by rw [e 32 (by omega)]; exact e1, ⟨by rw [e _ (by omega)]; exact e2, by rw [e _ (by omega)]; exact e3⟩, by rw [e _ (by omega)]; exact e4, fun i hi => by rw [e _ (by omega)]; exact e5 i hi⟩
/-- a scene's values, from one scene to the other -/
theorem VS.cp {s t c d : Nat} {μ m1 m2 : gm_M} {σ τ : Nat → Int32} (H0 : (s = 15 ∧ t = 39 ∧ c = 29 ∧ d = 53) ∨ (s = 39 ∧ t = 15 ∧ c = 53 ∧ d = 29)) (v : VS t d μ σ) (n31 : (σ 31).toInt ≤ 100) (aw : AfW μ (μ.2.2 t 6)) (g : scp s t c d μ m1) (e2 : m2.2.2 = m1.2.2) (er : ∀ r : Nat, (15 ≤ r ∧ r < 63) ∨ 75 ≤ r → m2.2.1 r = m1.2.1 r) (ep : ∀ k : Nat, k < 925 → τ k = σ k) : VS s c m2 τ := by
  obtain ⟨v1, v2, ⟨t1, t2, t3⟩, ⟨w1, w2⟩, ⟨w, sw, P, o1, o2, o3⟩, o4⟩ := v
  obtain ⟨-, ⟨g1, -⟩, g2, ⟨g3, g4, g5, g6⟩, g7, g8, g9⟩ := g
  have p0 := aw.1
  refine ⟨fun k hk => ?_, by rw [ep 0 (by omega)]; exact v2, ⟨by rw [er s (by omega), g5, ep 31 (by omega)]; exact t1, by rw [er s (by omega), g6, ep 27 (by omega)]; exact t2, fun i hi => ?_⟩, ⟨fun i h5 hi => ?_, fun i h8 hi => ?_⟩, ⟨w, sw, P, o1.of9 ep, ?_, o3⟩, by rw [ep 32 (by omega), ep 27 (by omega)]; exact o4⟩
  · obtain ⟨q1, q2, q3⟩ := g9 k hk
    have a : kC m2 (c + 2 * k) = kC μ (d + 2 * k) := kC_x (by rw [e2, q1]) (fun j j1 j2 => by rw [er _ (by omega)]; exact q2 j j1 j2) (fun j hj => by rw [er _ (by omega)]; exact q3 j hj)
    rw [a, kR_x (σ := σ) hk (fun i hi => ep i (by omega))]
    exact v1 k hk
  · rw [ep 31 (by omega)] at hi
    rw [er (s + 2) (by omega), g7 i (by omega), ep _ (by omega)]
    exact t3 i hi
  · rw [ep 28 (by omega)] at hi
    have q := (g8 8 (by omega)).2.2
    rw [er (s + 9) (by omega), ep (63 + i) (by omega), ep (68 + i) (by omega), ep (73 + i) (by omega), ep 26 (by omega)]
    show m1.2.1 (s + 8 + 1) (3 * i) = _ ∧ m1.2.1 (s + 8 + 1) (3 * i + 1) = _ ∧ m1.2.1 (s + 8 + 1) (3 * i + 2) = _ ∧ _
    rw [q _ (by omega), q _ (by omega), q _ (by omega)]
    exact w1 i h5 hi
  · rw [ep 30 (by omega)] at hi
    have q := (g8 12 (by omega)).2.2
    rw [er (s + 13) (by omega), ep (94 + i) (by omega), ep (102 + i) (by omega), ep 26 (by omega)]
    show m1.2.1 (s + 12 + 1) (3 * i) = _ ∧ m1.2.1 (s + 12 + 1) (3 * i + 1) = _ ∧ _
    rw [q _ (by omega), q _ (by omega)]
    exact w2 i h8 hi
  · rw [e2, g1]
    unfold AFC at o2 ⊢
    have z : ∀ x : Nat, x < 4 → m2.2.1 (μ.2.2 t 6 + x) = μ.2.1 (μ.2.2 t 6 + x) := fun x hx => (er _ (by omega)).trans (g2 _ (by omega) (by omega) (by omega) (fun k hk => by omega))
    have z0 := z 0 (by omega)
    rw [Nat.add_zero] at z0
    rw [z0, z 1 (by omega), z 2 (by omega), z 3 (by omega)]
    exact o2
theorem R_scp {s t c d p q : Nat} {μ m1 m2 : gm_M} (H : (s = 15 ∧ t = 39 ∧ c = 29 ∧ d = 53 ∧ p = 66 ∧ q = 67) ∨ (s = 39 ∧ t = 15 ∧ c = 53 ∧ d = 29 ∧ p = 67 ∧ q = 66)) (h : REL μ) (hf : p = 66 → μ.2.1 1 3 = 1) (g : scp s t c d μ m1) (e2 : m2.2.2 = m1.2.2) (er : ∀ r : Nat, r ≠ p → r ≠ 1 → r ≠ 65 → m2.2.1 r = m1.2.1 r) (ep : ∀ k : Nat, k < 925 → m2.2.1 p k = m1.2.1 q k) (hB : ALL m2) : REL m2 := by
  have H0 : (s = 15 ∧ t = 39 ∧ c = 29 ∧ d = 53) ∨ (s = 39 ∧ t = 15 ∧ c = 53 ∧ d = 29) := by omega
  have o : ∀ r : Nat, r ≠ s → r ≠ s + 2 → (r < s + 8 ∨ s + 13 < r) → (∀ k : Nat, k < 5 → r ≠ c + 2 * k ∧ r ≠ c + 2 * k + 1) → m1.2.1 r = μ.2.1 r := g.2.2.1
  have rf : ∀ r j : Nat, ¬ (r = s ∧ j = 6) → (∀ k : Nat, k < 5 → ¬ (r = c + 2 * k ∧ j = 1)) → m2.2.2 r j = μ.2.2 r j := fun r j r1 r2 => by rw [e2]; exact g.2.1.2 r j r1 r2
  have eq : m1.2.1 q = μ.2.1 q := o q (by omega) (by omega) (by omega) (fun k hk => by omega)
  have eq2 : m2.2.1 q = μ.2.1 q := (er q (by omega) (by omega) (by omega)).trans eq
  have kd : KD m2 := fun i hi => by rw [er _ (by omega) (by omega) (by omega), o _ (by omega) (by omega) (by omega) (fun k hk => by omega)]; exact h.2.1 i hi
  have row : ∀ r : Nat, r ≠ p → r ≠ 1 → r ≠ 65 → r ≠ s → r ≠ s + 2 → (r < s + 8 ∨ s + 13 < r) → (∀ k : Nat, k < 5 → r ≠ c + 2 * k ∧ r ≠ c + 2 * k + 1) → m2.2.1 r = μ.2.1 r := fun r a1 a2 a3 a4 a5 a6 a7 => (er r a1 a2 a3).trans (o r a4 a5 a6 a7)
  -- what was copied from stays
  have old : VS t d μ (μ.2.1 q) → AfW μ (μ.2.2 t 6) → VS t d m2 (m2.2.1 q) := fun v aw => by
    have p0 := aw.1
    rw [eq2]
    obtain ⟨v1, v2, v3, v4, v5⟩ := v
    exact ⟨v1.fr (fun k hk => kC_o (rf _ 1 (by omega) (fun k hk => by omega)) (row _ (by omega) (by omega) (by omega) (by omega) (by omega) (by omega) (fun k hk => by omega)) (fun j _ => by rw [row _ (by omega) (by omega) (by omega) (by omega) (by omega) (by omega) (fun k hk => by omega)])) (fun _ _ => rfl), v2, v3.fr ⟨by rw [row t (by omega) (by omega) (by omega) (by omega) (by omega) (by omega) (fun k hk => by omega)], by rw [row t (by omega) (by omega) (by omega) (by omega) (by omega) (by omega) (fun k hk => by omega)]⟩ (row _ (by omega) (by omega) (by omega) (by omega) (by omega) (by omega) (fun k hk => by omega)) (fun _ _ => rfl), v4.fr (row _ (by omega) (by omega) (by omega) (by omega) (by omega) (by omega) (fun k hk => by omega)) (row _ (by omega) (by omega) (by omega) (by omega) (by omega) (by omega) (fun k hk => by omega)) (fun _ _ => rfl) (Int.le_refl _), v5.fr (rf t 6 (by omega) (fun k hk => by omega)) (fun x hx => row _ (by omega) (by omega) (by omega) (by omega) (by omega) (by omega) (fun k hk => by omega)) (fun _ _ => rfl)⟩
  have new : VS t d μ (μ.2.1 q) → (μ.2.1 q 31).toInt ≤ 100 → AfW μ (μ.2.2 t 6) → VS s c m2 (m2.2.1 p) := fun v n31 aw => VS.cp H0 v n31 aw g e2 (fun r hr => er r (by omega) (by omega) (by omega)) (fun k hk => (ep k hk).trans (by rw [eq]))
  have n66 := h.mi.n31
  have n67 := (show MI (μ.1, fun r => if r = 66 then μ.2.1 67 else μ.2.1 r, μ.2.2) from ⟨h.mi.1.same rfl rfl, by show mI (if (66 : Nat) = 66 then μ.2.1 67 else μ.2.1 66); rw [if_pos rfl]; exact h.1.2.1⟩).n31
  have n67 : (μ.2.1 67 31).toInt ≤ 100 := by
    have := n67.2
    dsimp only at this
    rw [if_pos rfl] at this
    exact this
  rcases H with ⟨rfl, rfl, rfl, rfl, rfl, rfl⟩ | ⟨rfl, rfl, rfl, rfl, rfl, rfl⟩
  · have v := h.2.2.2 (hf rfl)
    exact ⟨hB, kd, new v n67 h.aw2, fun _ => old v h.aw2⟩
  · exact ⟨hB, kd, old h.vs h.aw, fun _ => new h.vs n66.2 h.aw⟩
section
variable {μ : gm_M}
theorem N_image (h : REL μ) : PR (f_X11_image 1 μ) (f_X12_image 65) := by
  refine PR.mk2 (L_image h.1) ?_
  refine gwI_mono (c_image h.ci) (fun x m ⟨m0, g, em, hx⟩ => ?_)
  have HH : ((39 : Nat) = 15 ∧ (15 : Nat) = 39 ∧ (53 : Nat) = 29 ∧ (29 : Nat) = 53) ∨ ((39 : Nat) = 39 ∧ (15 : Nat) = 15 ∧ (53 : Nat) = 53 ∧ (29 : Nat) = 29) := Or.inr ⟨rfl, rfl, rfl, rfl⟩
  have hs := scp.gS HH h.mi.1 g
  have r66 : m0.2.1 66 = μ.2.1 66 := g.2.2.1 66 (by omega) (by omega) (by omega) (fun k hk => by omega)
  subst em
  have hM : MI (wI m0 1 3 1) := ⟨hs, by rw [wI_o _ _ _ _ (by decide), r66]; exact h.mi.2⟩
  refine gwI_mono (m_image hM) (fun y m2 ⟨hy, e1, e2, er, e4, e19, ek⟩ => ?_)
  exact R_scp (s := 39) (t := 15) (c := 53) (d := 29) (p := 67) (q := 66) (Or.inr ⟨rfl, rfl, rfl, rfl, rfl, rfl⟩) h (fun e => absurd e (by decide)) g e2 (fun r r1 r2 r3 => by rw [er r r1 r3, wI_o _ _ _ _ r2]) (fun k hk => by rw [ek k hk, wI_o _ _ _ _ (by decide)])
theorem N_undo (h : REL μ) : PR (f_X11_undo 1 μ) (f_X12_undo 65) := by
  refine PR.mk2 (L_undo h.1) ?_
  have hg := h.mi.1
  have fl := h.1.2.2.2.2.2.1
  refine gwI_of ?_
  unfold f_X11_undo
  refine gw_gIw (hg.c (r := 1) rfl) ?_
  refine gw_ite (fun g => ?_) (fun g => ?_)
  · refine gw_gRa 15 (hg.c (r := 1) rfl) (hg.r (by decide)) ?_
    refine gw_gRa 39 (hg.c (r := 1) rfl) (hg.r (by decide)) ?_
    refine gw_if (hg.t (r := 15) rfl) ?_
    have HH : ((15 : Nat) = 15 ∧ (39 : Nat) = 39 ∧ (29 : Nat) = 29 ∧ (53 : Nat) = 53) ∨ ((15 : Nat) = 39 ∧ (39 : Nat) = 15 ∧ (29 : Nat) = 53 ∧ (53 : Nat) = 29) := Or.inl ⟨rfl, rfl, rfl, rfl⟩
    refine gw_bV (s_scopy hg HH) (fun m0 s => ?_)
    have hs := scp.gS HH hg s
    have r67 : m0.2.1 67 = μ.2.1 67 := s.2.2.1 67 (by omega) (by omega) (by omega) (fun k hk => by omega)
    have r65 : m0.2.1 65 = μ.2.1 65 := s.2.2.1 65 (by omega) (by omega) (by omega) (fun k hk => by omega)
    refine gw_gRa 15 (hs.c (r := 1) rfl) (hs.r (by decide)) ?_
    refine gw_gIw (hs.c (r := 15) rfl) ?_
    refine gw_some (gq_I ?_)
    refine gwI_mono (m_undo hs (by rw [r65, ← fl.1]; exact g)) (fun y m2 ⟨hy, e1, e2, er, ek⟩ => ?_)
    exact R_scp (s := 15) (t := 39) (c := 29) (d := 53) (p := 66) (q := 67) (Or.inl ⟨rfl, rfl, rfl, rfl, rfl, rfl⟩) h (fun _ => fl.2.resolve_left g) s e2 (fun r r1 _ _ => er r r1) ek
  · have g0 : μ.2.1 1 3 = 0 := Classical.byContradiction (fun q => g q)
    refine gw_some (gq_I ?_)
    refine gwI_of ?_
    unfold f_X12_undo
    refine gw_gIw (hg.c (r := 65) rfl) ?_
    rw [← fl.1, if_neg (fun q => q g0)]
    exact gw_some (gq_I (fun _ => h))
end
