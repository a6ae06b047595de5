theorem sr_parse : ∀ d : Nat, Ff d 5 (r_X12_every d).1 ∧ Ff d 4 (r_X12_every d).2.1 ∧ Ff d 6 (r_X12_every d).2.2
  | 0 => ⟨fun _ ho _ hd => by omega, fun _ ho _ hd => by omega, fun _ ho _ hd => by omega⟩
  | d + 1 => ⟨s_every (R0 := (r_X12_every d).1) (R2 := (r_X12_every d).2.2) (sr_parse d).2.1, s_factor (R0 := (r_X12_every d).1) (sr_parse d).2.1 (sr_parse d).2.2, s_some (R1 := (r_X12_every d).2.1) (R2 := (r_X12_every d).2.2) (sr_parse d).1⟩
def CP (A : Nat) (μ m : gm_M) : Prop := po A μ m ∧ op m = op μ ∧ ∃ t' : Nat, PM A m t' ∧ (wr m = 0 → t' = 0)
theorem s_much {A : Nat} {μ : gm_M} (p : PM A μ 0) (ho : op μ = 0) {kd : Int32} (hk : kd.toInt = -10 ∨ kd.toInt = -200) {u : UInt32} (hu : gm_isS u) : gwV (f_X12_much 65 kd u μ) (fun m => CP A μ m) := by
  have h0 : sp μ - mn A μ ≥ 0 := by have := p.2.2.2.1; omega
  refine gwV_of ?_
  unfold f_X12_much
  refine gw_if (p.g.t (r := 65) rfl) ?_
  refine gw_bV (s_spells p.1 hu) (fun m1 a1 => ?_)
  obtain ⟨p1, -, -, o1, k1⟩ := p.q a1
  refine gw_if (p1.g.t (r := 65) rfl) ?_
  refine gw_bI (s_figures p1.1) (fun n m3 ⟨a2, f2⟩ => ?_)
  obtain ⟨p2, -, n2, o2, k2⟩ := p1.q a2
  refine gw_if (p2.g.t (r := 65) rfl) ?_
  refine gw_bV (s_must p2.1 (by decide)) (fun m5 ⟨a3, _⟩ => ?_)
  obtain ⟨p3, -, -, o3, k3⟩ := p2.q a3
  refine gw_if (p3.g.t (r := 65) rfl) ?_
  refine gw_bV ((sr_parse 64).2.2 p3 (by omega) (fun _ => by omega) (by omega)) (fun m7 ⟨a4, o4, t4, p4, f4⟩ => ?_)
  refine gw_if (p4.g.t (r := 65) rfl) ?_
  have w3 := a3.2.2.2
  have w4 := a4.2.2.2
  have k := ((k1.trans k2).trans k3).trans a4
  have e1 := k1.2.1
  have e3 := k3.2.1
  have e4 := a4.2.1
  have pt := p4.2.2.2.2.1
  refine gw_bV (s_emit (t' := 0) p4 k (x := kd - n) (fun z => ?_) h0) (fun m9 ⟨b1, b2, b3, b4, v, b5, b6⟩ => ?_)
  · obtain ⟨q1, q2⟩ := f4 z
    obtain ⟨r1, r2⟩ := f2 (w3 (w4 z))
    have nn : (kd - n).toInt = kd.toInt - n.toInt := gx_sub (by omega) (by omega)
    exact ⟨⟨by have := p4.t20; omega, Or.inr (Or.inr (Or.inr ⟨by omega, rfl⟩))⟩, by omega, by have := p4.1.2.1; omega⟩
  · exact gw_some (gq_V ⟨b1, by omega, v, b5, b6⟩)
theorem s_tells {A t : Nat} {μ : gm_M} (p : PM A μ t) {wh : Int32} (hk : wh.toInt = 210 ∨ wh.toInt = 215) {u : UInt32} (hu : gm_isS u) : gwV (f_X12_tellsHere 65 wh u μ) (fun m => po A μ m ∧ op m = op μ ∧ PM A m t) := by
  refine gwV_of ?_
  unfold f_X12_tellsHere
  have l0 : (0 : Int32).toInt = 0 := rfl
  refine gw_if (p.g.t (r := 65) rfl) ?_
  refine gw_bV (s_spells p.1 hu) (fun m1 a1 => ?_)
  obtain ⟨p1, -, -, o1, k1⟩ := p.q a1
  refine gw_if (p1.g.t (r := 65) rfl) ?_
  refine gw_bI (s_figures p1.1) (fun n m3 ⟨a2, f2⟩ => ?_)
  obtain ⟨p2, -, n2, o2, k2⟩ := p1.q a2
  have k := k1.trans k2
  refine gw_gIw (p2.g.c (r := 65) rfl) ?_
  refine gw_ne (fun _ => gw_some (gq_V ⟨k, by omega, p2⟩)) (fun g => ?_)
  have a5 := p2.2.1
  have ea := p2.2.2.1
  have nn : (wh + m3.2.1 65 5).toInt = wh.toInt + (m3.2.1 65 5).toInt := gx_add (by omega) (by omega)
  obtain ⟨j, hj, hj2⟩ : ∃ j : Nat, (wh + m3.2.1 65 5).toInt = j ∧ (j = 210 + A ∨ j = 215 + A) := by
    rcases hk with q | q
    · exact ⟨210 + A, by omega, Or.inl rfl⟩
    · exact ⟨215 + A, by omega, Or.inr rfl⟩
  refine gw_gRa 66 (p2.g.c (r := 65) rfl) (p2.g.r (by decide)) ?_
  refine gw_gIw (p2.g.c (r := 65) rfl) ?_
  refine gw_sIw j (p2.g.t (r := 66) rfl) (p2.g.l (r := 66) rfl) hj (by omega) ?_
  have e65 : (wI m3 66 j n).2.1 65 = m3.2.1 65 := wI_o _ _ _ _ (by decide)
  have e6 : ∀ i : Nat, i ≠ j → (wI m3 66 j n).2.1 66 i = m3.2.1 66 i := fun i hi => wI_n _ _ _ _ hi
  have es : sp (wI m3 66 j n) = sp m3 ∧ en (wI m3 66 j n) = en m3 ∧ wr (wI m3 66 j n) = wr m3 ∧ op (wI m3 66 j n) = op m3 := by unfold sp en wr op; rw [e65]; exact ⟨rfl, rfl, rfl, rfl⟩
  have em : mn A (wI m3 66 j n) = mn A m3 := by unfold mn; rw [e6 _ (by omega)]
  obtain ⟨s1, s2, s3, s4⟩ := es
  have kk : po A m3 (wI m3 66 j n) := ⟨⟨rfl, rfl, fun r _ r2 => wI_o _ _ _ _ r2, fun i i1 i2 i3 i4 => e6 i (by omega), fun i _ _ _ => by rw [e65]⟩, by omega, by omega, fun z => by omega⟩
  obtain ⟨⟨h1, h2, h3⟩, h4, h5, h6, h7, tp, h8, h9, h10⟩ := p2
  refine gw_some (gq_V ⟨k.trans kk, by omega, ⟨h1, by rw [s1, s2]; exact h2, by rw [s3]; exact h3⟩, h4, by rw [e65]; exact h5, by rw [em, s1]; exact h6, by rw [s1]; exact h7, tp, h8, fun i hi => ?_, by rw [em]; exact h10⟩)
  rw [em] at hi
  rw [e6 _ (by omega)]
  exact h9 i hi
theorem s_wordOfS {A : Nat} {μ : gm_M} (p : PM A μ 0) (ho : op μ = 0) : gwV (f_X12_wordOfS 65 μ) (fun m => CP A μ m) := by
  refine gwV_of ?_
  unfold f_X12_wordOfS
  refine gw_if (p.g.t (r := 65) rfl) ?_
  refine gw_bV (s_must p.1 (by decide)) (fun m1 ⟨a1, _⟩ => ?_)
  obtain ⟨p1, -, -, o1, k1⟩ := p.q a1
  refine gw_if (p1.g.t (r := 65) rfl) ?_
  refine gw_bI (s_here p1.1) (fun x m ⟨z, _⟩ => ?_)
  replace z := z.symm
  subst z
  refine gw_ne (fun _ => ?_) (fun _ => ?_)
  · refine gw_if (p1.g.t (r := 65) rfl) ?_
    refine gw_bV (s_must p1.1 (by decide)) (fun m5 ⟨a2, _⟩ => ?_)
    obtain ⟨p2, -, -, o2, k2⟩ := p1.q a2
    refine gw_if (p2.g.t (r := 65) rfl) ?_
    refine gw_bI (s_here p2.1) (fun x m ⟨z, _⟩ => ?_)
    replace z := z.symm
    subst z
    refine gw_ne (fun _ => ?_) (fun _ => ?_)
    · refine gw_if (p2.g.t (r := 65) rfl) ?_
      refine gw_bV (s_much p2 (by omega) (Or.inr (by decide)) (by decide)) (fun m9 ⟨b1, b2, b3⟩ => ?_)
      exact gw_some (gq_V ⟨(k1.trans k2).trans b1, by omega, b3⟩)
    · refine gw_if (p2.g.t (r := 65) rfl) ?_
      refine gw_bV (s_much p2 (by omega) (Or.inl (by decide)) (by decide)) (fun m9 ⟨b1, b2, b3⟩ => ?_)
      exact gw_some (gq_V ⟨(k1.trans k2).trans b1, by omega, b3⟩)
  · refine gw_if (p1.g.t (r := 65) rfl) ?_
    refine gw_bV (s_tells p1 (Or.inr (by decide)) (by decide)) (fun m9 ⟨b1, b2, b3⟩ => ?_)
    exact gw_some (gq_V ⟨k1.trans b1, by omega, 0, b3, fun _ => rfl⟩)
theorem s_clause {A : Nat} {μ : gm_M} (p : PM A μ 0) (ho : op μ = 0) : gwV (f_X12_clauseHere 65 μ) (fun m => CP A μ m) := by
  refine gwV_of ?_
  unfold f_X12_clauseHere
  have l1 : (1 : Int32).toInt = 1 := rfl
  refine gw_if (p.g.t (r := 65) rfl) ?_
  refine gw_bI (s_here p.1) (fun x m ⟨z, _⟩ => ?_)
  replace z := z.symm
  subst z
  refine gw_eq (fun _ => ?_) (fun _ => ?_)
  · refine gw_if (p.g.t (r := 65) rfl) ?_
    refine gw_bV (s_wordOfS p ho) (fun m3 h => gw_some (gq_V h))
  · refine gw_eq (fun _ => ?_) (fun _ => ?_)
    · refine gw_if (p.g.t (r := 65) rfl) ?_
      refine gw_bV (s_tells p (Or.inl (by decide)) (by decide)) (fun m9 ⟨b1, b2, b3⟩ => ?_)
      exact gw_some (gq_V ⟨b1, b2, 0, b3, fun _ => rfl⟩)
    · refine gw_pZw (p.g.c (r := 65) rfl) (by omega) ?_
      obtain ⟨a1, a2, a3⟩ := (fq.refl p.1).ww (x := 1) (Or.inr l1) (fun q => by omega)
      obtain ⟨p1, -, -, o1, k1⟩ := p.q a1
      exact gw_some (gq_V ⟨k1, o1, 0, p1, fun _ => rfl⟩)
theorem mI.af {σ τ : Nat → Int32} (h : mI σ) {A : Nat} (e : ∀ k : Nat, mp k → k ≠ 27 → k ≠ 31 → k ≠ 32 → k ≠ 220 + A → ¬ (225 + 140 * A ≤ k ∧ k < 365 + 140 * A) → τ k = σ k) (h27 : 0 ≤ (τ 27).toInt ∧ (τ 27).toInt ≤ 5) (h31 : 0 ≤ (τ 31).toInt ∧ (τ 31).toInt ≤ 100) (h32 : -1 ≤ (τ 32).toInt ∧ (τ 32).toInt ≤ 4) (hA : A < 5) (hw : wfp τ A) : mI τ := by
  obtain ⟨h26, -, h28, h29, h30, -, -, hs, hp, hb, hww⟩ := h
  unfold mp at e
  refine ⟨by rw [e 26 (by omega) (by omega) (by omega) (by omega) (by omega) (by omega)]; exact h26, h27, by rw [e 28 (by omega) (by omega) (by omega) (by omega) (by omega) (by omega)]; exact h28, by rw [e 29 (by omega) (by omega) (by omega) (by omega) (by omega) (by omega)]; exact h29, by rw [e 30 (by omega) (by omega) (by omega) (by omega) (by omega) (by omega)]; exact h30, h31, h32, fun k hk => ?_, fun k hk => ?_, fun k hk => ?_, fun a ha => ?_⟩
  · rw [e _ (by omega) (by omega) (by omega) (by omega) (by omega) (by omega)]; exact hs k hk
  · rw [e _ (by omega) (by omega) (by omega) (by omega) (by omega) (by omega), e _ (by omega) (by omega) (by omega) (by omega) (by omega) (by omega)]; exact hp k hk
  · rw [e _ (by omega) (by omega) (by omega) (by omega) (by omega) (by omega)]; exact hb k hk
  · by_cases q : a = A
    · rw [q]; exact hw
    · obtain ⟨w1, w2, tp, w3, w4⟩ := hww a ha
      unfold wfp
      rw [e (220 + a) (by omega) (by omega) (by omega) (by omega) (by omega) (by omega)]
      refine ⟨w1, w2, tp, w3, fun i hi => ?_⟩
      rw [e (225 + 140 * a + i) (by omega) (by omega) (by omega) (by omega) (by omega) (by omega)]
      exact w4 i hi
theorem PM.wf {A t : Nat} {m : gm_M} (p : PM A m t) : wfp (m.2.1 66) A := by
  obtain ⟨f, a5, ea, b1, b2, tp, t0, t1, t2⟩ := p
  have d : (m.2.1 66 (220 + A)).toInt = mn A m := rfl
  have fb := f.2.1
  exact ⟨by omega, by omega, tp, t0, fun i hi => t1 i (by omega)⟩
set_option maxHeartbeats 2000000 in
theorem m_afternoon {μ : gm_M} (h : ALL μ) : gwI (f_X12_afternoon 65 μ) (fun _ m => ALL m) := by
  have hM := h.1
  have hg := hM.1
  have n27 := hM.n27
  have n31 := hM.n31
  have n32 := hM.n32
  have l0 : (0 : Int32).toInt = 0 := rfl
  have l1 : (1 : Int32).toInt = 1 := rfl
  have l5 : (5 : Int32).toInt = 5 := rfl
  have l10 : (10 : Int32).toInt = 10 := rfl
  have l20 : (20 : Int32).toInt = 20 := rfl
  have l27 : (27 : Int32).toInt = 27 := rfl
  have l31 : (31 : Int32).toInt = 31 := rfl
  have l32 : (32 : Int32).toInt = 32 := rfl
  have l210 : (210 : Int32).toInt = 210 := rfl
  have l215 : (215 : Int32).toInt = 215 := rfl
  have l220 : (220 : Int32).toInt = 220 := rfl
  refine gwI_of ?_
  unfold f_X12_afternoon
  refine gw_gRa 66 (hg.c (r := 65) rfl) (hg.r (by decide)) ?_
  refine gw_aIw 27 (hg.t (r := 66) rfl) (hg.l (r := 66) rfl) (by omega) (by omega) ?_
  refine gw_ne (fun g => ?_) (fun _ => gw_some (gq_I h))
  refine gw_gRa 66 (hg.c (r := 65) rfl) (hg.r (by decide)) ?_
  refine gw_aIw 27 (hg.t (r := 66) rfl) (hg.l (r := 66) rfl) (by omega) (by omega) ?_
  obtain ⟨A, hA⟩ : ∃ A : Nat, (μ.2.1 66 27).toInt = A := ⟨(μ.2.1 66 27).toInt.toNat, by omega⟩
  have hA5 : A < 5 := by omega
  refine gw_pIw (hg.c (r := 65) rfl) ?_
  refine gw_gRa 66 (hg.c (r := 65) rfl) (hg.r (r := 65) (j := 1) (a := 66) (by decide)) ?_
  refine gw_aIw 31 (hg.t (r := 66) rfl) (hg.l (r := 66) rfl) (by omega) (by omega) ?_
  rw [wI_o _ _ _ _ (show (66 : Nat) ≠ 65 by decide)]
  refine gw_pIw (hg.c (r := 65) rfl) ?_
  refine gw_gRa 66 (hg.c (r := 65) rfl) (hg.r (r := 65) (j := 1) (a := 66) (by decide)) ?_
  refine gw_sIw 31 (hg.t (r := 66) rfl) (hg.l (r := 66) rfl) (by omega) (by omega) ?_
  generalize h1 : wI (wI (wI μ 65 5 (μ.2.1 66 27)) 65 7 (μ.2.1 66 31)) 66 31 0 = m1
  have g1 : gS m1 := by rw [← h1]; exact hg
  have a5 : m1.2.1 65 5 = μ.2.1 66 27 := by rw [← h1, wI_o _ _ _ _ (by decide), wI_n _ _ _ _ (by decide), wI_e]
  refine gw_gRa 66 (g1.c (r := 65) rfl) (g1.r (by decide)) ?_
  refine gw_gIw (g1.c (r := 65) rfl) ?_
  rw [a5]
  have n210 : ((210 : Int32) + μ.2.1 66 27).toInt = (210 : Int32).toInt + (μ.2.1 66 27).toInt := gx_add (by omega) (by omega)
  have n215 : ((215 : Int32) + μ.2.1 66 27).toInt = (215 : Int32).toInt + (μ.2.1 66 27).toInt := gx_add (by omega) (by omega)
  have n220 : ((220 : Int32) + μ.2.1 66 27).toInt = (220 : Int32).toInt + (μ.2.1 66 27).toInt := gx_add (by omega) (by omega)
  refine gw_sIw (210 + A) (g1.t (r := 66) rfl) (g1.l (r := 66) rfl) (by omega) (by omega) ?_
  refine gw_gRa 66 (g1.c (r := 65) rfl) (g1.r (r := 65) (j := 1) (a := 66) (by decide)) ?_
  refine gw_gIw (g1.c (r := 65) rfl) ?_
  rw [wI_o _ _ _ _ (show (65 : Nat) ≠ 66 by decide), a5]
  refine gw_sIw (215 + A) (g1.t (r := 66) rfl) (g1.l (r := 66) rfl) (by omega) (by omega) ?_
  refine gw_gRa 66 (g1.c (r := 65) rfl) (g1.r (r := 65) (j := 1) (a := 66) (by decide)) ?_
  refine gw_gIw (g1.c (r := 65) rfl) ?_
  rw [wI_o _ _ _ _ (show (65 : Nat) ≠ 66 by decide), wI_o _ _ _ _ (show (65 : Nat) ≠ 66 by decide), a5]
  refine gw_sIw (220 + A) (g1.t (r := 66) rfl) (g1.l (r := 66) rfl) (by omega) (by omega) ?_
  refine gw_pIw (g1.c (r := 65) rfl) ?_
  refine gw_pZw (g1.c (r := 65) rfl) (Or.inl l0) ?_
  refine gw_pIw (g1.c (r := 65) rfl) ?_
  generalize hB : wI (wI (wI (wI (wI (wI m1 66 (210 + A) 0) 66 (215 + A) 20) 66 (220 + A) 0) 65 6 0) 65 8 0) 65 9 0 = B
  have gB : gS B := by rw [← hB]; exact g1
  have B1 : B.1 = μ.1 := by rw [← hB, ← h1]; rfl
  have B2 : B.2.2 = μ.2.2 := by rw [← hB, ← h1]; rfl
  have Bo : ∀ r : Nat, r ≠ 65 → r ≠ 66 → B.2.1 r = μ.2.1 r := fun r r1 r2 => by
    rw [← hB, wI_o _ _ _ _ r1, wI_o _ _ _ _ r1, wI_o _ _ _ _ r1, wI_o _ _ _ _ r2, wI_o _ _ _ _ r2, wI_o _ _ _ _ r2, ← h1, wI_o _ _ _ _ r2, wI_o _ _ _ _ r1, wI_o _ _ _ _ r1]
  have B65 : ∀ j : Nat, j ≠ 9 → j ≠ 8 → j ≠ 6 → B.2.1 65 j = m1.2.1 65 j := fun j j9 j8 j6 => by
    rw [← hB, wI_n _ _ _ _ j9, wI_n _ _ _ _ j8, wI_n _ _ _ _ j6, wI_o _ _ _ _ (by decide), wI_o _ _ _ _ (by decide), wI_o _ _ _ _ (by decide)]
  have m65 : ∀ j : Nat, j ≠ 5 → j ≠ 7 → m1.2.1 65 j = μ.2.1 65 j := fun j j5 j7 => by rw [← h1, wI_o _ _ _ _ (by decide), wI_n _ _ _ _ j7, wI_n _ _ _ _ j5]
  have B9 : B.2.1 65 9 = 0 := by rw [← hB, wI_e]
  have B8 : B.2.1 65 8 = 0 := by rw [← hB, wI_n _ _ _ _ (by decide), wI_e]
  have B6 : B.2.1 65 6 = 0 := by rw [← hB, wI_n _ _ _ _ (by decide), wI_n _ _ _ _ (by decide), wI_e]
  have B7 : B.2.1 65 7 = μ.2.1 66 31 := by rw [B65 7 (by decide) (by decide) (by decide), ← h1, wI_o _ _ _ _ (by decide), wI_e]
  have B5 : B.2.1 65 5 = μ.2.1 66 27 := by rw [B65 5 (by decide) (by decide) (by decide)]; exact a5
  have C : ∀ k : Nat, k ≠ 31 → k ≠ 210 + A → k ≠ 215 + A → k ≠ 220 + A → B.2.1 66 k = μ.2.1 66 k := fun k k1 k2 k3 k4 => by
    rw [← hB, wI_o _ _ _ _ (by decide), wI_o _ _ _ _ (by decide), wI_o _ _ _ _ (by decide), wI_n _ _ _ _ k4, wI_n _ _ _ _ k3, wI_n _ _ _ _ k2, ← h1, wI_n _ _ _ _ k1, wI_o _ _ _ _ (by decide), wI_o _ _ _ _ (by decide)]
  have C31 : B.2.1 66 31 = 0 := by
    rw [← hB, wI_o _ _ _ _ (by decide), wI_o _ _ _ _ (by decide), wI_o _ _ _ _ (by decide), wI_n _ _ _ _ (by omega), wI_n _ _ _ _ (by omega), wI_n _ _ _ _ (by omega), ← h1, wI_e]
  have C220 : B.2.1 66 (220 + A) = 0 := by rw [← hB, wI_o _ _ _ _ (by decide), wI_o _ _ _ _ (by decide), wI_o _ _ _ _ (by decide), wI_e]
  clear hB h1
  have s0 : sp B = 0 := by unfold sp; rw [B6]; exact l0
  have w0 : wr B = 0 := by unfold wr; rw [B8]; exact l0
  have o0 : op B = 0 := by unfold op; rw [B9]; exact l0
  have e0 : en B = (μ.2.1 66 31).toInt := by unfold en; rw [B7]
  have q0 : mn A B = 0 := by unfold mn; rw [C220]; exact l0
  have pB : PM A B 0 := ⟨⟨gB, by omega, by omega⟩, hA5, by rw [B5]; exact hA, by omega, by omega, fun _ => 0, rfl, fun i hi => by exfalso; omega, rfl⟩
  -- what is left in the end
  have fin : ∀ (m M : gm_M) (t : Nat), PM A m t → pf A B m → M.1 = m.1 → M.2.2 = m.2.2 → (∀ r : Nat, r ≠ 66 → M.2.1 r = m.2.1 r) → (∀ k : Nat, k ≠ 27 → k ≠ 32 → M.2.1 66 k = m.2.1 66 k) → (0 ≤ (M.2.1 66 27).toInt ∧ (M.2.1 66 27).toInt ≤ 5) → (-1 ≤ (M.2.1 66 32).toInt ∧ (M.2.1 66 32).toInt ≤ 4) → ALL M := by
    intro m M t p k c1 c2 c3 c4 c5 c6
    obtain ⟨k1, k2, k3, k4, k5⟩ := k
    have row : ∀ r : Nat, r ≠ 65 → r ≠ 66 → M.2.1 r = μ.2.1 r := fun r r1 r2 => by rw [c3 r r2, k3 r r1 r2, Bo r r1 r2]
    have hc := h.2.2.1
    have pl : ∀ i : Nat, i ≠ 27 → i ≠ 31 → i ≠ 32 → i ≠ 210 + A → i ≠ 215 + A → i ≠ 220 + A → ¬ (225 + 140 * A ≤ i ∧ i < 365 + 140 * A) → M.2.1 66 i = μ.2.1 66 i := fun i i1 i2 i3 i4 i5 i6 i7 => by rw [c4 i i1 i3, k4 i i4 i5 i6 i7, C i i2 i4 i5 i6]
    have f65 : ∀ j : Nat, j ≠ 5 → j ≠ 6 → j ≠ 7 → j ≠ 8 → j ≠ 9 → M.2.1 65 j = μ.2.1 65 j := fun j j5 j6 j7 j8 j9 => by rw [c3 65 (by decide), k5 j j6 j8 j9, B65 j j9 j8 j6, m65 j j5 j7]
    have hw := p.wf
    have hw2 : wfp (M.2.1 66) A := by
      obtain ⟨w1, w2, tp, w3, w4⟩ := hw
      unfold wfp
      rw [c4 (220 + A) (by omega) (by omega)]
      refine ⟨w1, w2, tp, w3, fun i hi => ?_⟩
      rw [c4 (225 + 140 * A + i) (by omega) (by omega)]
      exact w4 i hi
    have e31 : M.2.1 66 31 = 0 := by rw [c4 31 (by decide) (by decide), k4 31 (by omega) (by omega) (by omega) (by omega), C31]
    refine h.upd (c1.trans (k1.trans B1)) (c2.trans (k2.trans B2)) (fun r hr => row r (by omega) (by omega)) (f65 4 (by decide) (by decide) (by decide) (by decide) (by decide)) (hM.2.af (A := A) (fun i hi i1 i2 i3 i4 i5 => pl i i1 i2 i3 (by unfold mp at hi; omega) (by unfold mp at hi; omega) i4 i5) c5 (by rw [e31]; exact ⟨by decide, by decide⟩) c6 hA5 hw2) ?_ ?_ ?_ ?_ ?_ ?_ ?_
    · rw [row 15 (by decide) (by decide)]; exact ⟨hc.n1, hc.n4, hc.n5⟩
    · rw [row 23 (by decide) (by decide), row 25 (by decide) (by decide), row 27 (by decide) (by decide)]; exact ⟨hc.n23, hc.n25, hc.n27⟩
    · rw [row 23 (by decide) (by decide), row 25 (by decide) (by decide), row 27 (by decide) (by decide)]; exact ⟨rfl, rfl, rfl⟩
    · rw [row 24 (by decide) (by decide)]; exact hc.sm
    · rw [row 3 (by decide) (by decide)]; exact ⟨hc.n3, rfl⟩
    · exact h.2.2.2.1.fr (by rw [row 15 (by decide) (by decide)]) (by rw [row 15 (by decide) (by decide)]) ⟨by rw [row (15 + 8) (by decide) (by decide)], by rw [row (15 + 10) (by decide) (by decide)], by rw [row (15 + 12) (by decide) (by decide)]⟩ (fun k hk => ⟨by rw [row _ (by omega) (by omega)], by rw [row _ (by omega) (by omega)], by rw [c2, k2, B2], fun j _ => by rw [row _ (by omega) (by omega)]⟩) (fun i hi => pl i (by unfold lp at hi; omega) (by unfold lp at hi; omega) (by unfold lp at hi; omega) (by unfold lp at hi; omega) (by unfold lp at hi; omega) (by unfold lp at hi; omega) (by unfold lp at hi; omega))
    · unfold LT
      rw [row 3 (by decide) (by decide), f65 19 (by decide) (by decide) (by decide) (by decide) (by decide), row 4 (by decide) (by decide), row 74 (by decide) (by decide)]
      exact h.2.2.2.2.2.2
  refine gw_if (gB.t (r := 65) rfl) ?_
  refine gw_bV (s_clause pB o0) (fun m23 ⟨x1, x2, t1, x3, x4⟩ => ?_)
  refine gw_loop (fun s => (1 ≤ s.1.toInt ∧ s.1.toInt ≤ 10) ∧ CP A B s.2) (fun s => 10 - s.1.toInt) (fun s ⟨u1, y1, y2, t, y3, y4⟩ => ?_) 5000 ((1 : Int32), m23) ⟨⟨by show 1 ≤ (1 : Int32).toInt; omega, by show (1 : Int32).toInt ≤ 10; omega⟩, x1, x2, t1, x3, x4⟩ (by show 10 - (1 : Int32).toInt < ((5000 : Nat) : Int); omega) (by show 0 ≤ 10 - (1 : Int32).toInt; omega)
  have hs := y3.g
  have d8 : (s.2.2.1 65 8).toInt = wr s.2 := rfl
  have d6 : (s.2.2.1 65 6).toInt = sp s.2 := rfl
  have hb := y3.1.2.1
  have hmn := y3.2.2.2.1
  have b27 : s.2.2.1 66 27 = μ.2.1 66 27 := by rw [y1.1.2.2.2.1 27 (by omega) (by omega) (by omega) (by omega), C 27 (by omega) (by omega) (by omega) (by omega)]
  have b32 : s.2.2.1 66 32 = μ.2.1 66 32 := by rw [y1.1.2.2.2.1 32 (by omega) (by omega) (by omega) (by omega), C 32 (by omega) (by omega) (by omega) (by omega)]
  have all1 : ALL s.2 := fin s.2 s.2 t y3 y1.1 rfl rfl (fun _ _ => rfl) (fun _ _ _ => rfl) (by rw [b27]; exact n27) (by rw [b32]; exact n32)
  refine gw_gIw (hs.c (r := 65) rfl) ?_
  refine gw_j (fun m => m = s.2) (fun m em => ?_) (fun j hj => ?_)
  · rw [em]
    refine gw_gIw (hs.c (r := 65) rfl) ?_
    refine gw_j (fun _ => True) (fun _ _ => ?_) (fun j2 hj2 => ?_)
    · refine gw_gIw (hs.c (r := 65) rfl) ?_
      exact gw_some (gs_inr (gq_I all1))
    · refine gw_ne (fun _ => hj2 _ trivial) (fun _ => ?_)
      refine gw_gIw (hs.c (r := 65) rfl) ?_
      refine gw_gIw (hs.c (r := 65) rfl) ?_
      refine gw_eq (fun _ => ?_) (fun _ => hj2 _ trivial)
      refine gw_gRa 66 (hs.c (r := 65) rfl) (hs.r (by decide)) ?_
      refine gw_aIw 27 (hs.t (r := 66) rfl) (hs.l (r := 66) rfl) (by omega) (by omega) ?_
      refine gw_sIw 27 (hs.t (r := 66) rfl) (hs.l (r := 66) rfl) (by omega) (by omega) ?_
      refine gw_gRa 66 (hs.c (r := 65) rfl) (hs.r (r := 65) (j := 1) (a := 66) (by decide)) ?_
      refine gw_gIw (hs.c (r := 65) rfl) ?_
      rw [wI_o _ _ _ _ (show (65 : Nat) ≠ 66 by decide)]
      refine gw_sIw 32 (hs.t (r := 66) rfl) (hs.l (r := 66) rfl) (by omega) (by omega) ?_
      refine gw_gIw (hs.c (r := 65) rfl) ?_
      have hb1 := cnt1 (x := s.2.2.1 66 27) (L := 5) (by rw [b27]; omega) (by rw [b27]; omega) (by decide)
      have ea := y3.2.2.1
      refine gw_some (gs_inr (gq_I (fin s.2 _ t y3 y1.1 rfl rfl (fun r hr => by rw [wI_o _ _ _ _ hr, wI_o _ _ _ _ hr]) (fun k k1 k2 => by rw [wI_n _ _ _ _ k2, wI_n _ _ _ _ k1]) (by rw [wI_n _ _ _ _ (by decide), wI_e]; exact hb1) (by rw [wI_e]; omega))))
  · refine gw_ne (fun _ => hj _ rfl) (fun g0 => ?_)
    refine gw_le (fun _ => hj _ rfl) (fun _ => ?_)
    refine gw_if (hs.t (r := 65) rfl) ?_
    refine gw_bI (s_here y3.1) (fun x m ⟨z, fx⟩ => ?_)
    replace z := z.symm
    subst z
    have l59 : (59 : Int32).toInt = 59 := rfl
    refine gw_ne (fun _ => hj _ rfl) (fun _ => ?_)
    have e1 := y4 (by omega)
    subst e1
    refine gw_gIw (hs.c (r := 65) rfl) ?_
    refine gw_pIw (hs.c (r := 65) rfl) ?_
    have n6 : (s.2.2.1 65 6 + (1 : Int32)).toInt = (s.2.2.1 65 6).toInt + (1 : Int32).toInt := gx_add (by omega) (by omega)
    obtain ⟨r1, r2, r3⟩ := (fq.refl y3.1).on y3.1 (x := s.2.2.1 65 6 + (1 : Int32)) (by omega) (by omega)
    obtain ⟨v1, -, -, v4, v5⟩ := y3.q r1
    refine gw_if (v1.g.t (r := 65) rfl) ?_
    refine gw_bV (s_clause v1 (by omega)) (fun m46 ⟨z1, z2, z3⟩ => ?_)
    have n : (s.1 + (1 : Int32)).toInt = s.1.toInt + (1 : Int32).toInt := gx_add (by omega) (by omega)
    exact gw_some (gs_inl ⟨⟨by show 1 ≤ (s.1 + (1 : Int32)).toInt; omega, by show (s.1 + (1 : Int32)).toInt ≤ 10; omega⟩, (y1.trans v5).trans z1, (by show op m46 = op B; omega), z3⟩ (by show 10 - (s.1 + (1 : Int32)).toInt < 10 - s.1.toInt; omega) (by show 0 ≤ 10 - (s.1 + (1 : Int32)).toInt; omega))
