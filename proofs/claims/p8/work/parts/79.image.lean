theorem scp.af {s t c d : Nat} {μ m : gm_M} (H : (s = 15 ∧ t = 39 ∧ c = 29 ∧ d = 53) ∨ (s = 39 ∧ t = 15 ∧ c = 53 ∧ d = 29)) (g : scp s t c d μ m) {q : Nat} (p : AfW μ q) : AfW m q := by
  have p0 := p.1
  obtain ⟨g1, g2, g3, -⟩ := g
  exact p.same (fun r z e => by rw [g1]; exact e) (funext fun j => g2.2 q j (by omega) (fun k hk => by omega)) (g3 _ (by omega) (by omega) (by omega) (fun k hk => by omega)) (g3 _ (by omega) (by omega) (by omega) (fun k hk => by omega))
theorem scp.sc {s t c d : Nat} {μ m : gm_M} (H : (s = 15 ∧ t = 39 ∧ c = 29 ∧ d = 53) ∨ (s = 39 ∧ t = 15 ∧ c = 53 ∧ d = 29)) (g : scp s t c d μ m) (ht : scI μ t) (hs : scI μ s) : scI m s := by
  have A := fun q => scp.af H g (q := q)
  obtain ⟨g1, g2, g3, ⟨a0, a1, a4, a5⟩, g5, g6, g7⟩ := g
  obtain ⟨p1, p2, p3, p4, p5, p6, p7, p8, p9, p10, p11⟩ := ht
  obtain ⟨q1, q2, q3, q4, q5, q6, q7, q8, q9, q10, q11⟩ := hs
  have r8 := g6 8 (by omega)
  have r10 := g6 10 (by omega)
  have r12 := g6 12 (by omega)
  unfold scI
  rw [a1, a4, a5, g2.1, r8.1, r10.1, r12.1, r8.2.1 0 (by decide), r10.2.1 0 (by decide), r12.2.1 0 (by decide)]
  refine ⟨p1, p2, p3, A _ p4, p5, p6, p7, q8, q9, q10, fun k hk => ?_⟩
  rw [show s + 9 = s + 8 + 1 by omega, r8.2.2 _ (Or.inl (by omega))]
  exact p11 k hk
theorem scp.nm {s t c d : Nat} {μ m : gm_M} {σ τ : Nat → Int32} (H : (s = 15 ∧ t = 39 ∧ c = 29 ∧ d = 53) ∨ (s = 39 ∧ t = 15 ∧ c = 53 ∧ d = 29)) (g : scp s t c d μ m) (h : nm μ t d τ) (e : ∀ i : Nat, lp i → σ i = τ i) : nm m s c σ := by
  obtain ⟨g1, g2, g3, ⟨a0, a1, a4, a5⟩, g5, g6, g7⟩ := g
  obtain ⟨⟨p0, p1, p2, p3, p4⟩, pk⟩ := h
  refine ⟨⟨?_, ?_, ?_, ?_, ?_⟩, fun k hk => ?_⟩
  · rw [a0, e 0 (by unfold lp; omega)]; exact p0
  · rw [a1, e 26 (by unfold lp; omega)]; exact p1
  · rw [(g6 8 (by omega)).1, e 28 (by unfold lp; omega)]; exact p2
  · rw [(g6 10 (by omega)).1, e 29 (by unfold lp; omega)]; exact p3
  · rw [(g6 12 (by omega)).1, e 30 (by unfold lp; omega)]; exact p4
  · obtain ⟨⟨b1, b2, b3⟩, b4⟩ := pk k hk
    obtain ⟨k1, k2, k3⟩ := g7 k hk
    refine ⟨⟨?_, ?_, ?_⟩, fun j hj => ?_⟩
    · rw [k2 0 (by decide) (by decide)]; exact b1
    · rw [k1, e _ (by unfold lp; omega)]; exact b2
    · rw [k2 2 (by decide) (by decide), e _ (by unfold lp; omega)]; exact b3
    · rw [k3 j hj, e _ (by unfold lp; omega)]; exact b4 j hj
theorem scp.gS {s t c d : Nat} {μ m : gm_M} (H : (s = 15 ∧ t = 39 ∧ c = 29 ∧ d = 53) ∨ (s = 39 ∧ t = 15 ∧ c = 53 ∧ d = 29)) (h : gS μ) (g : scp s t c d μ m) : gS m := by
  refine ⟨fun r q e => by rw [g.1]; exact h.1 r q e, fun q hq => ?_⟩
  have : ∀ q ∈ gRl, ¬ ((q.1 = 29 ∨ q.1 = 31 ∨ q.1 = 33 ∨ q.1 = 35 ∨ q.1 = 37 ∨ q.1 = 53 ∨ q.1 = 55 ∨ q.1 = 57 ∨ q.1 = 59 ∨ q.1 = 61) ∧ q.2.1 = 1) ∧ ¬ ((q.1 = 15 ∨ q.1 = 39) ∧ q.2.1 = 6) := by decide
  have hn := this q hq
  rw [g.2.1.2 q.1 q.2.1 (fun e => hn.2 ⟨by omega, e.2⟩) (fun k hk e => hn.1 ⟨by omega, e.2⟩)]
  exact h.2 q hq
/-- both sides' scene comes from the other one: rows of the reference p (to), q (from) -/
theorem A_scp {s t c d p q : Nat} {μ m1 m2 : gm_M} (H : (s = 15 ∧ t = 39 ∧ c = 29 ∧ d = 53 ∧ p = 66 ∧ q = 67) ∨ (s = 39 ∧ t = 15 ∧ c = 53 ∧ d = 29 ∧ p = 67 ∧ q = 66)) (h : ALL μ) {x : Int32} (hx : (x = 0 ∨ x = 1)) (g : scp s t c d μ m1) (e1 : m2.1 = m1.1) (e2 : m2.2.2 = m1.2.2) (er : ∀ r : Nat, r ≠ p → r ≠ 1 → r ≠ 65 → m2.2.1 r = m1.2.1 r) (e13 : m2.2.1 1 3 = x) (e65 : m2.2.1 65 4 = x) (e19 : m2.2.1 65 19 = m1.2.1 65 19) (ep : ∀ k : Nat, k < 925 → m2.2.1 p k = m1.2.1 q k) : ALL m2 := by
  have H0 : (s = 15 ∧ t = 39 ∧ c = 29 ∧ d = 53) ∨ (s = 39 ∧ t = 15 ∧ c = 53 ∧ d = 29) := by omega
  have hs1 : gS m1 := scp.gS H0 h.1.1 g
  have hs2 : gS m2 := hs1.same e1 e2
  have A1 : ∀ z, AfW μ z → AfW m1 z := fun z => scp.af H0 g
  have A2 : ∀ z, AfW m1 z → AfW m2 z := fun z w => by
    have w0 := w.1
    exact w.same (fun r y e => by rw [e1]; exact e) (by rw [e2]) (er _ (by omega) (by omega) (by omega)) (er _ (by omega) (by omega) (by omega))
  have o : ∀ r : Nat, r ≠ s → r ≠ s + 2 → (r < s + 8 ∨ s + 13 < r) → (∀ k : Nat, k < 5 → r ≠ c + 2 * k ∧ r ≠ c + 2 * k + 1) → m1.2.1 r = μ.2.1 r := g.2.2.1
  obtain ⟨⟨-, h1⟩, h2, ⟨-, s15, s39, kd, tr⟩, n15, n39, fl, lt⟩ := h
  have r66 : m1.2.1 66 = μ.2.1 66 := o 66 (by omega) (by omega) (by omega) (fun k hk => by omega)
  have r67 : m1.2.1 67 = μ.2.1 67 := o 67 (by omega) (by omega) (by omega) (fun k hk => by omega)
  -- class
  have sc1 : scI m1 15 ∧ scI m1 39 := by
    rcases H0 with ⟨rfl, rfl, rfl, rfl⟩ | ⟨rfl, rfl, rfl, rfl⟩
    · refine ⟨scp.sc (Or.inl ⟨rfl, rfl, rfl, rfl⟩) g s39 s15, s39.same (fun r z e => by rw [g.1]; exact e) (fun j _ => by rw [o 39 (by omega) (by omega) (by omega) (fun k hk => by omega)]) (g.2.1.2 39 6 (by omega) (fun k hk => by omega)) (fun r hr => o r (by omega) (by omega) (by omega) (fun k hk => by omega)) (A1 _)⟩
    · refine ⟨s15.same (fun r z e => by rw [g.1]; exact e) (fun j _ => by rw [o 15 (by omega) (by omega) (by omega) (fun k hk => by omega)]) (g.2.1.2 15 6 (by omega) (fun k hk => by omega)) (fun r hr => o r (by omega) (by omega) (by omega) (fun k hk => by omega)) (A1 _), scp.sc (Or.inr ⟨rfl, rfl, rfl, rfl⟩) g s15 s39⟩
  have kd1 : ∀ a : Nat, icl a → kid (m1.2.2 a 1) := fun a ha => by
    by_cases e : ∃ k : Nat, k < 5 ∧ a = c + 2 * k
    · obtain ⟨k, hk, rfl⟩ := e
      rw [(g.2.2.2.2.2.2 k hk).1]
      exact kd _ (by unfold icl ict isch; omega)
    · rw [g.2.1.2 a 1 (by omega) (fun k hk q => e ⟨k, hk, q.1⟩)]
      exact kd a ha
  have o3 : m1.2.1 3 = μ.2.1 3 := o 3 (by omega) (by omega) (by omega) (fun k hk => by omega)
  have c2 : CI m2 := by
    refine ⟨hs2, sc1.1.same (fun r z e => by rw [e1]; exact e) (fun j _ => by rw [er 15 (by omega) (by omega) (by omega)]) (by rw [e2]) (fun r hr => er r (by omega) (by omega) (by omega)) (A2 _), sc1.2.same (fun r z e => by rw [e1]; exact e) (fun j _ => by rw [er 39 (by omega) (by omega) (by omega)]) (by rw [e2]) (fun r hr => er r (by omega) (by omega) (by omega)) (A2 _), fun a ha => by rw [e2]; exact kd1 a ha, by rw [er 3 (by omega) (by omega) (by omega), o3]; exact tr⟩
  -- the relation
  have nmk : ∀ {s' c' : Nat} {σ τ : Nat → Int32}, ((s' = 15 ∧ c' = 29) ∨ (s' = 39 ∧ c' = 53)) → nm m1 s' c' σ → (∀ i, lp i → τ i = σ i) → nm m2 s' c' τ := fun {s' c' σ τ} hz w ew => by
    refine w.fr (by rw [er s' (by omega) (by omega) (by omega)]) (by rw [er s' (by omega) (by omega) (by omega)]) ⟨by rw [er _ (by omega) (by omega) (by omega)], by rw [er _ (by omega) (by omega) (by omega)], by rw [er _ (by omega) (by omega) (by omega)]⟩ (fun k hk => ⟨by rw [er _ (by omega) (by omega) (by omega)], by rw [er _ (by omega) (by omega) (by omega)], by rw [e2], fun j _ => by rw [er _ (by omega) (by omega) (by omega)]⟩) ew
  have lt2 : LT m2 := by
    unfold LT
    rw [er 3 (by omega) (by omega) (by omega), o3, e19, o 65 (by omega) (by omega) (by omega) (fun k hk => by omega), er 4 (by omega) (by omega) (by omega), o 4 (by omega) (by omega) (by omega) (fun k hk => by omega), er 74 (by omega) (by omega) (by omega), o 74 (by omega) (by omega) (by omega) (fun k hk => by omega)]
    exact lt
  have fl2 : m2.2.1 1 3 = m2.2.1 65 4 ∧ (m2.2.1 1 3 = 0 ∨ m2.2.1 1 3 = 1) := ⟨by rw [e13, e65], by rw [e13]; exact hx⟩
  rcases H with ⟨rfl, rfl, rfl, rfl, rfl, rfl⟩ | ⟨rfl, rfl, rfl, rfl, rfl, rfl⟩
  · have e67 : m2.2.1 67 = μ.2.1 67 := by rw [er 67 (by decide) (by decide) (by decide), r67]
    refine ⟨⟨hs2, h2.same (fun k hk => by rw [ep k (by unfold mp at hk; omega), r67])⟩, by rw [e67]; exact h2, c2, ?_, ?_, fl2, lt2⟩
    · exact nmk (Or.inl ⟨rfl, rfl⟩) (scp.nm (Or.inl ⟨rfl, rfl, rfl, rfl⟩) g n39 (fun i _ => rfl)) (fun i hi => by rw [ep i (by unfold lp at hi; omega), r67])
    · rw [e67]
      refine nmk (Or.inr ⟨rfl, rfl⟩) (n39.fr ?_ ?_ ?_ (fun k hk => ⟨?_, ?_, ?_, fun j _ => ?_⟩) (fun i _ => rfl)) (fun i _ => rfl)
      · rw [o 39 (by omega) (by omega) (by omega) (fun k hk => by omega)]
      · rw [o 39 (by omega) (by omega) (by omega) (fun k hk => by omega)]
      · rw [o (39 + 8) (by omega) (by omega) (by omega) (fun k hk => by omega), o (39 + 10) (by omega) (by omega) (by omega) (fun k hk => by omega), o (39 + 12) (by omega) (by omega) (by omega) (fun k hk => by omega)]; exact ⟨rfl, rfl, rfl⟩
      · rw [o _ (by omega) (by omega) (by omega) (fun k hk => by omega)]
      · rw [o _ (by omega) (by omega) (by omega) (fun k hk => by omega)]
      · exact g.2.1.2 _ 1 (by omega) (fun k hk => by omega)
      · rw [o _ (by omega) (by omega) (by omega) (fun k hk => by omega)]
  · have e66 : m2.2.1 66 = μ.2.1 66 := by rw [er 66 (by decide) (by decide) (by decide), r66]
    refine ⟨⟨hs2, by rw [e66]; exact h1⟩, h1.same (fun k hk => by rw [ep k (by unfold mp at hk; omega), r66]), c2, ?_, ?_, fl2, lt2⟩
    · rw [e66]
      refine nmk (Or.inl ⟨rfl, rfl⟩) (n15.fr ?_ ?_ ?_ (fun k hk => ⟨?_, ?_, ?_, fun j _ => ?_⟩) (fun i _ => rfl)) (fun i _ => rfl)
      · rw [o 15 (by omega) (by omega) (by omega) (fun k hk => by omega)]
      · rw [o 15 (by omega) (by omega) (by omega) (fun k hk => by omega)]
      · rw [o (15 + 8) (by omega) (by omega) (by omega) (fun k hk => by omega), o (15 + 10) (by omega) (by omega) (by omega) (fun k hk => by omega), o (15 + 12) (by omega) (by omega) (by omega) (fun k hk => by omega)]; exact ⟨rfl, rfl, rfl⟩
      · rw [o _ (by omega) (by omega) (by omega) (fun k hk => by omega)]
      · rw [o _ (by omega) (by omega) (by omega) (fun k hk => by omega)]
      · exact g.2.1.2 _ 1 (by omega) (fun k hk => by omega)
      · rw [o _ (by omega) (by omega) (by omega) (fun k hk => by omega)]
    · exact nmk (Or.inr ⟨rfl, rfl⟩) (scp.nm (Or.inr ⟨rfl, rfl, rfl, rfl⟩) g n15 (fun i _ => rfl)) (fun i hi => by rw [ep i (by unfold lp at hi; omega), r66])
theorem c_image {μ : gm_M} (h : CI μ) : gwI (f_X11_image 1 μ) (fun x m => ∃ m0 : gm_M, scp 39 15 53 29 μ m0 ∧ m = wI m0 1 3 1 ∧ x = μ.2.1 15 1) := by
  refine gwI_of ?_
  unfold f_X11_image
  have l1 : (1 : Int32).toInt = 1 := rfl
  have hg := h.1
  refine gw_gRa 39 (hg.c (r := 1) rfl) (hg.r (by decide)) ?_
  refine gw_gRa 15 (hg.c (r := 1) rfl) (hg.r (by decide)) ?_
  refine gw_if (hg.t (r := 39) rfl) ?_
  have HH : ((39 : Nat) = 15 ∧ (15 : Nat) = 39 ∧ (53 : Nat) = 29 ∧ (29 : Nat) = 53) ∨ ((39 : Nat) = 39 ∧ (15 : Nat) = 15 ∧ (53 : Nat) = 53 ∧ (29 : Nat) = 29) := Or.inr ⟨rfl, rfl, rfl, rfl⟩
  refine gw_bV (s_scopy hg HH) (fun m0 g => ?_)
  have hs := scp.gS HH hg g
  refine gw_pZw (hs.c (r := 1) rfl) (by omega) ?_
  refine gw_gRa 15 (hs.c (r := 1) rfl) (hs.r (by decide)) ?_
  refine gw_gIw (hs.c (r := 15) rfl) ?_
  exact gw_some (gq_I ⟨m0, g, rfl, by rw [wI_o _ _ _ _ (by decide), g.2.2.1 15 (by omega) (by omega) (by omega) (fun k hk => by omega)]⟩)
theorem m_image {μ : gm_M} (h : MI μ) : gwI (f_X12_image 65 μ) (fun y m => y = μ.2.1 66 26 ∧ m.1 = μ.1 ∧ m.2.2 = μ.2.2 ∧ (∀ r : Nat, r ≠ 67 → r ≠ 65 → m.2.1 r = μ.2.1 r) ∧ m.2.1 65 4 = 1 ∧ m.2.1 65 19 = μ.2.1 65 19 ∧ ∀ k : Nat, k < 925 → m.2.1 67 k = μ.2.1 66 k) := by
  refine gwI_of ?_
  unfold f_X12_image
  have l0 : (0 : Int32).toInt = 0 := rfl
  have l1 : (1 : Int32).toInt = 1 := rfl
  have l26 : (26 : Int32).toInt = 26 := rfl
  have l9 : (925 : Int32).toInt = 925 := rfl
  refine gw_loop (fun s => (0 ≤ s.1.toInt ∧ s.1.toInt ≤ 925) ∧ s.2.1 = μ.1 ∧ s.2.2.2 = μ.2.2 ∧ (∀ r : Nat, r ≠ 67 → s.2.2.1 r = μ.2.1 r) ∧ ∀ k : Nat, (k : Int) < s.1.toInt → s.2.2.1 67 k = μ.2.1 66 k) (fun s => 925 - s.1.toInt) (fun s ⟨h1, h2, h3, h4, h5⟩ => ?_) 5000 ((0 : Int32), μ) ⟨⟨by show 0 ≤ (0 : Int32).toInt; omega, by show (0 : Int32).toInt ≤ 925; omega⟩, rfl, rfl, fun _ _ => rfl, fun k hk => by have : (k : Int) < (0 : Int32).toInt := hk; omega⟩ (by show 925 - (0 : Int32).toInt < ((5000 : Nat) : Int); omega) (by show 0 ≤ 925 - (0 : Int32).toInt; omega)
  have hS : gS s.2 := h.1.same h2 h3
  refine gw_le (fun g => ?_) (fun g => ?_)
  · refine gw_pZw (hS.c (r := 65) rfl) (by omega) ?_
    refine gw_gRa 66 (hS.c (r := 65) rfl) (hS.r (by decide)) ?_
    refine gw_aIw 26 (hS.t (r := 66) rfl) (hS.l (r := 66) rfl) (by omega) (by omega) ?_
    rw [wI_o _ _ _ _ (by decide)]
    refine gw_some (gs_inr (gq_I ⟨by rw [h4 66 (by decide)], h2, h3, fun r r1 r2 => by rw [wI_o _ _ _ _ r2]; exact h4 r r1, wI_e _ _ _ _, by rw [wI_n _ _ _ _ (by decide), h4 65 (by decide)], fun k hk => by rw [wI_o _ _ _ _ (by decide)]; exact h5 k (by omega)⟩))
  · refine gw_gRa 67 (hS.c (r := 65) rfl) (hS.r (by decide)) ?_
    refine gw_gRa 66 (hS.c (r := 65) rfl) (hS.r (by decide)) ?_
    refine gw_aIw s.1.toInt.toNat (hS.t (r := 66) rfl) (hS.l (r := 66) rfl) (by omega) (by omega) ?_
    refine gw_sIw s.1.toInt.toNat (hS.t (r := 67) rfl) (hS.l (r := 67) rfl) (by omega) (by omega) ?_
    have n : (s.1 + (1 : Int32)).toInt = s.1.toInt + (1 : Int32).toInt := gx_add (by omega) (by omega)
    refine gw_some (gs_inl ⟨⟨by show 0 ≤ (s.1 + (1 : Int32)).toInt; omega, by show (s.1 + (1 : Int32)).toInt ≤ 925; omega⟩, h2, h3, fun r hr => (wI_o _ _ _ _ hr).trans (h4 r hr), fun k hk => ?_⟩ (by show 925 - (s.1 + (1 : Int32)).toInt < 925 - s.1.toInt; omega) (by show 0 ≤ 925 - (s.1 + (1 : Int32)).toInt; omega))
    have hk : (k : Int) < (s.1 + (1 : Int32)).toInt := hk
    show (wI s.2 67 s.1.toInt.toNat _).2.1 67 k = _
    by_cases e : k = s.1.toInt.toNat
    · subst e; rw [wI_e, h4 66 (by decide)]
    · rw [wI_n _ _ _ _ e]; exact h5 k (by omega)
theorem p_image {μ : gm_M} (h : ALL μ) : gwI (f_X11_image 1 μ) (fun x m => gwI (f_X12_image 65 m) (fun y m2 => y = x ∧ ALL m2)) := by
  have E26 : μ.2.1 15 1 = μ.2.1 66 26 := h.2.2.2.1.1.2.1
  refine gwI_mono (c_image h.2.2.1) (fun x m ⟨m0, g, em, hx⟩ => ?_)
  have HH : ((39 : Nat) = 15 ∧ (15 : Nat) = 39 ∧ (53 : Nat) = 29 ∧ (29 : Nat) = 53) ∨ ((39 : Nat) = 39 ∧ (15 : Nat) = 15 ∧ (53 : Nat) = 53 ∧ (29 : Nat) = 29) := Or.inr ⟨rfl, rfl, rfl, rfl⟩
  have hs := scp.gS HH h.1.1 g
  have r66 : m0.2.1 66 = μ.2.1 66 := g.2.2.1 66 (by omega) (by omega) (by omega) (fun k hk => by omega)
  subst em
  have hM : MI (wI m0 1 3 1) := ⟨hs, by rw [wI_o _ _ _ _ (by decide), r66]; exact h.1.2⟩
  refine gwI_mono (m_image hM) (fun y m2 ⟨hy, e1, e2, er, e4, e19, ek⟩ => ?_)
  refine ⟨by rw [hy, hx, wI_o _ _ _ _ (by decide), r66, E26], A_scp (s := 39) (t := 15) (c := 53) (d := 29) (p := 67) (q := 66) (x := 1) (Or.inr ⟨rfl, rfl, rfl, rfl, rfl, rfl⟩) h (Or.inr rfl) g e1 e2 (fun r r1 r2 r3 => by rw [er r r1 r3, wI_o _ _ _ _ r2]) ?_ e4 ?_ (fun k hk => by rw [ek k hk, wI_o _ _ _ _ (by decide)])⟩
  · rw [er 1 (by decide) (by decide), wI_e]
  · rw [e19, wI_o _ _ _ _ (by decide)]
theorem m_undo {μ : gm_M} (h : gS μ) (h1 : ¬ μ.2.1 65 4 = 0) : gwI (f_X12_undo 65 μ) (fun y m => y = μ.2.1 67 26 ∧ m.1 = μ.1 ∧ m.2.2 = μ.2.2 ∧ (∀ r : Nat, r ≠ 66 → m.2.1 r = μ.2.1 r) ∧ ∀ k : Nat, k < 925 → m.2.1 66 k = μ.2.1 67 k) := by
  refine gwI_of ?_
  unfold f_X12_undo
  have l0 : (0 : Int32).toInt = 0 := rfl
  have l1 : (1 : Int32).toInt = 1 := rfl
  have l26 : (26 : Int32).toInt = 26 := rfl
  have l9 : (925 : Int32).toInt = 925 := rfl
  refine gw_gIw (h.c (r := 65) rfl) ?_
  refine gw_if h1 ?_
  refine gw_loop (fun s => (0 ≤ s.1.toInt ∧ s.1.toInt ≤ 925) ∧ s.2.1 = μ.1 ∧ s.2.2.2 = μ.2.2 ∧ (∀ r : Nat, r ≠ 66 → s.2.2.1 r = μ.2.1 r) ∧ ∀ k : Nat, (k : Int) < s.1.toInt → s.2.2.1 66 k = μ.2.1 67 k) (fun s => 925 - s.1.toInt) (fun s ⟨h1, h2, h3, h4, h5⟩ => ?_) 5000 ((0 : Int32), μ) ⟨⟨by show 0 ≤ (0 : Int32).toInt; omega, by show (0 : Int32).toInt ≤ 925; omega⟩, rfl, rfl, fun _ _ => rfl, fun k hk => by have : (k : Int) < (0 : Int32).toInt := hk; omega⟩ (by show 925 - (0 : Int32).toInt < ((5000 : Nat) : Int); omega) (by show 0 ≤ 925 - (0 : Int32).toInt; omega)
  have hS : gS s.2 := h.same h2 h3
  refine gw_le (fun g => ?_) (fun g => ?_)
  · refine gw_gRa 66 (hS.c (r := 65) rfl) (hS.r (by decide)) ?_
    refine gw_aIw 26 (hS.t (r := 66) rfl) (hS.l (r := 66) rfl) (by omega) (by omega) ?_
    exact gw_some (gs_inr (gq_I ⟨h5 26 (by omega), h2, h3, h4, fun k hk => h5 k (by omega)⟩))
  · refine gw_gRa 66 (hS.c (r := 65) rfl) (hS.r (by decide)) ?_
    refine gw_gRa 67 (hS.c (r := 65) rfl) (hS.r (by decide)) ?_
    refine gw_aIw s.1.toInt.toNat (hS.t (r := 67) rfl) (hS.l (r := 67) rfl) (by omega) (by omega) ?_
    refine gw_sIw s.1.toInt.toNat (hS.t (r := 66) rfl) (hS.l (r := 66) rfl) (by omega) (by omega) ?_
    have n : (s.1 + (1 : Int32)).toInt = s.1.toInt + (1 : Int32).toInt := gx_add (by omega) (by omega)
    refine gw_some (gs_inl ⟨⟨by show 0 ≤ (s.1 + (1 : Int32)).toInt; omega, by show (s.1 + (1 : Int32)).toInt ≤ 925; omega⟩, h2, h3, fun r hr => (wI_o _ _ _ _ hr).trans (h4 r hr), fun k hk => ?_⟩ (by show 925 - (s.1 + (1 : Int32)).toInt < 925 - s.1.toInt; omega) (by show 0 ≤ 925 - (s.1 + (1 : Int32)).toInt; omega))
    have hk : (k : Int) < (s.1 + (1 : Int32)).toInt := hk
    show (wI s.2 66 s.1.toInt.toNat _).2.1 66 k = _
    by_cases e : k = s.1.toInt.toNat
    · subst e; rw [wI_e, h4 67 (by decide)]
    · rw [wI_n _ _ _ _ e]; exact h5 k (by omega)
theorem p_undo {μ : gm_M} (h : ALL μ) : gwI (f_X11_undo 1 μ) (fun x m => gwI (f_X12_undo 65 m) (fun y m2 => y = x ∧ ALL m2)) := by
  have hg := h.1.1
  have fl := h.2.2.2.2.2.1
  have N39 : μ.2.1 39 1 = μ.2.1 67 26 := h.2.2.2.2.1.1.2.1
  refine gwI_of ?_
  unfold f_X11_undo
  refine gw_gIw (hg.c (r := 1) rfl) ?_
  refine gw_ite (fun g => ?_) (fun g => ?_)
  · refine gw_gRa 15 (hg.c (r := 1) rfl) (hg.r (by decide)) ?_
    refine gw_gRa 39 (hg.c (r := 1) rfl) (hg.r (by decide)) ?_
    refine gw_if (hg.t (r := 15) rfl) ?_
    have HH : ((15 : Nat) = 15 ∧ (39 : Nat) = 39 ∧ (29 : Nat) = 29 ∧ (53 : Nat) = 53) ∨ ((15 : Nat) = 39 ∧ (39 : Nat) = 15 ∧ (29 : Nat) = 53 ∧ (53 : Nat) = 29) := Or.inl ⟨rfl, rfl, rfl, rfl⟩
    refine gw_bV (s_scopy hg HH) (fun m0 s => ?_)
    have hs := scp.gS HH hg s
    have r67 : m0.2.1 67 = μ.2.1 67 := s.2.2.1 67 (by omega) (by omega) (by omega) (fun k hk => by omega)
    have r65 : m0.2.1 65 = μ.2.1 65 := s.2.2.1 65 (by omega) (by omega) (by omega) (fun k hk => by omega)
    have r1 : m0.2.1 1 = μ.2.1 1 := s.2.2.1 1 (by omega) (by omega) (by omega) (fun k hk => by omega)
    refine gw_gRa 15 (hs.c (r := 1) rfl) (hs.r (by decide)) ?_
    refine gw_gIw (hs.c (r := 15) rfl) ?_
    refine gw_some (gq_I ?_)
    refine gwI_mono (m_undo hs (by rw [r65, ← fl.1]; exact g)) (fun y m2 ⟨hy, e1, e2, er, ek⟩ => ?_)
    refine ⟨by rw [hy, r67, s.2.2.2.1.2.1, N39], A_scp (s := 15) (t := 39) (c := 29) (d := 53) (p := 66) (q := 67) (x := μ.2.1 1 3) (Or.inl ⟨rfl, rfl, rfl, rfl, rfl, rfl⟩) h fl.2 s e1 e2 (fun r r1 _ _ => er r r1) (by rw [er 1 (by decide), r1]) (by rw [er 65 (by decide), r65, fl.1]) (by rw [er 65 (by decide)]) ek⟩
  · have g0 : μ.2.1 1 3 = 0 := Classical.byContradiction (fun q => g q)
    refine gw_some (gq_I ?_)
    refine gwI_of ?_
    unfold f_X12_undo
    refine gw_gIw (hg.c (r := 65) rfl) ?_
    rw [← fl.1, if_neg (fun q => q g0)]
    exact gw_some (gq_I ⟨rfl, h⟩)
