section
variable {a n p o : Nat} {tx : Nat → Int32} {μ m : gm_M} {w : Bool} {L : List Int32}
theorem w_test (b : BR a n tx μ) (c : rst a n μ false p o L m) {Q : Option Value × gm_M → Prop} (hQ : ∀ m', ro a n μ o L (pT tx n p) m' → Q (none, m')) : gw (gm_bI (f_X12_among 65 (5 : UInt32) m) (fun x30 m29 => gm_j (fun (s31 : Int32) => gm_pZ m29 [17] 65 8 s31 (fun m33 => gm_gI m33 [17] 65 8 (fun v34 => gm_j (fun (s35 : Int32 × gm_M) => gm_gI s35.2 [17] 65 8 (fun v37 => gm_j (fun (s38 : Int32) => gm_pZ s35.2 [17] 65 8 s38 (fun m40 => if gm_tag m40 65 = 17 then gm_bI (f_X12_figures 65 m40) (fun x42 m41 => if gm_tag m41 65 = 17 then gm_bV (f_X12_emits 65 ((x30 + ((8 : Int32) * s35.1)) + ((32 : Int32) * x42)) m41) (fun m43 => some (none, m43)) else none) else none)) (fun j39 => gm_j (fun (s45 : Unit) => j39 (1 : Int32)) (fun j46 => if v37 ≠ 0 then j46 () else if s35.1 ≠ (-1 : Int32) then j39 (0 : Int32) else j46 ())))) (fun j36 => if v34 = 0 then if gm_tag m33 65 = 17 then gm_bI (f_X12_among 65 (6 : UInt32) m33) (fun x48 m47 => j36 (x48, m47)) else none else j36 ((0 : Int32), m33))))) (fun j32 => if x30 ≠ (-1 : Int32) then j32 (0 : Int32) else j32 (1 : Int32)))) Q := by
  have hn := b.2.2.2.2.1
  have hp := c.2.1
  have gT := pT_g (tx := tx) hp.1
  refine gw_bI (w_among b c (u := 5) (by decide)) (fun x30 m29 ⟨e30, c29⟩ => ?_)
  refine gw_j (fun s => ∃ v : Bool, s = bw v ∧ v = decide (pO 5 (pd tx n p) = -1)) (fun s ⟨v, es, ev⟩ => ?_) (fun j32 hj32 => ?_)
  · subst es
    refine gw_pZw (c29.tc b) (bw_z v) ?_
    have c33 := c29.fl v
    generalize wI m29 65 8 (bw v) = m33 at *
    refine gw_gIw (c33.tc b) ?_
    rw [c33.e8]
    -- behind the sign
    refine gw_j (fun s => (v = true ∧ pT tx n p = (false, p, []) ∧ ∃ q, rst a n μ true q o L s.2 ∧ q = p) ∨ (v = false ∧ pO 5 (pd tx n p) ≠ -1 ∧ s.1 = pO 6 (pd tx n (p + 1)) ∧ rst a n μ false (if pO 6 (pd tx n (p + 1)) = -1 then p + 1 else p + 2) o L s.2)) (fun s hs => ?_) (fun j36 hj36 => ?_)
    · obtain ⟨s1, s2⟩ := s
      obtain ⟨u, q, hu, hq⟩ : ∃ (u : Bool) (q : Nat), rst a n μ u q o L s2 ∧ ((u = true ∧ pT tx n p = (false, q, [])) ∨ (u = false ∧ pO 5 (pd tx n p) ≠ -1 ∧ s1 = pO 6 (pd tx n (p + 1)) ∧ q = (if pO 6 (pd tx n (p + 1)) = -1 then p + 1 else p + 2))) := by
        rcases hs with ⟨-, h2, q, h3, h4⟩ | ⟨-, h2, h3, h4⟩
        · exact ⟨true, p, by rw [← h4]; exact h3, Or.inl ⟨rfl, h2⟩⟩
        · exact ⟨false, _, h4, Or.inr ⟨rfl, h2, h3, rfl⟩⟩
      refine gw_gIw (hu.tc b) ?_
      show gw (gm_j _ (fun j39 => gm_j _ (fun j46 => if s2.2.1 65 8 ≠ 0 then _ else if s1 ≠ (-1 : Int32) then _ else _))) Q
      rw [hu.e8]
      refine gw_j (fun s38 => ∃ v : Bool, s38 = bw v ∧ ((v = true ∧ pT tx n p = (false, q, [])) ∨ (v = false ∧ pO 5 (pd tx n p) ≠ -1 ∧ pO 6 (pd tx n (p + 1)) ≠ -1 ∧ s1 = pO 6 (pd tx n (p + 1)) ∧ q = p + 2))) (fun s38 hs38 => ?_) (fun j39 hj39 => ?_)
      · obtain ⟨v2, es, h2⟩ := hs38
        subst es
        refine gw_pZw (hu.tc b) (bw_z v2) ?_
        have c40 := hu.fl v2
        show gw (if gm_tag (wI s2 65 8 (bw v2)) 65 = 17 then _ else _) Q
        generalize wI s2 65 8 (bw v2) = m40 at *
        refine gw_if (c40.t b) ?_
        refine gw_bI (w_figs b c40) (fun x42 m41 h41 => ?_)
        rcases h2 with ⟨ev, hT⟩ | ⟨ev, h5, h6, e1, eq⟩
        · subst ev
          rcases h41 with ⟨h, -⟩ | ⟨-, c41⟩
          · cases h
          · refine gw_if (c41.t b) ?_
            refine gw_bV (w_emits b c41 _ (fun h => by cases h)) (fun m43 h43 => ?_)
            rcases h43 with ⟨h, -⟩ | ⟨-, h⟩
            · cases h
            · subst h
              exact gw_some (hQ _ (Or.inr ⟨by rw [hT], L, by rw [hT]; exact c41⟩))
        · subst ev
          subst eq
          rcases h41 with ⟨-, c41, f41⟩ | ⟨h, -⟩
          · refine gw_if (c41.t b) ?_
            cases hN : (pN tx n (p + 2)).1 with
            | true =>
              rw [hN] at c41
              have eT : pT tx n p = (true, (pN tx n (p + 2)).2.1, [(pO 5 (pd tx n p) + 8 * pO 6 (pd tx n (p + 1))) + 32 * (pN tx n (p + 2)).2.2]) := by
                unfold pT; rw [if_neg h5, if_neg h6, if_pos hN]
              have gN := (pN_g (tx := tx) hu.2.1.1).2.2 hN
              refine gw_bV (w_emits b c41 _ (fun _ => by omega)) (fun m43 h43 => ?_)
              rcases h43 with ⟨-, c43⟩ | ⟨h, -⟩
              · refine gw_some (hQ _ (Or.inl ⟨by rw [eT], ?_⟩))
                rw [eT]
                show rst a n μ false (pN tx n (p + 2)).2.1 o (L ++ [(pO 5 (pd tx n p) + 8 * pO 6 (pd tx n (p + 1))) + 32 * (pN tx n (p + 2)).2.2]) m43
                rw [← e30, ← f41 hN, ← show s1 = _ from e1]
                exact c43
              · cases h
            | false =>
              rw [hN] at c41
              have eT : pT tx n p = (false, (pN tx n (p + 2)).2.1, []) := by
                unfold pT; rw [if_neg h5, if_neg h6, if_neg (by rw [hN]; decide)]
              refine gw_bV (w_emits b c41 _ (fun h => by cases h)) (fun m43 h43 => ?_)
              rcases h43 with ⟨h, -⟩ | ⟨-, h⟩
              · cases h
              · subst h
                exact gw_some (hQ _ (Or.inr ⟨by rw [eT], L, by rw [eT]; exact c41⟩))
          · cases h
      · refine gw_j (fun _ => pT tx n p = (false, q, [])) (fun _ h => hj39 _ ⟨true, rfl, Or.inl ⟨rfl, h⟩⟩) (fun j46 hj46 => ?_)
        rcases hq with ⟨eu, hT⟩ | ⟨eu, h5, e1, eq⟩
        · subst eu
          rw [if_pos (by decide)]
          exact hj46 _ hT
        · subst eu
          rw [if_neg (by decide)]
          refine gw_ite (fun g => hj39 _ ⟨false, rfl, Or.inr ⟨rfl, h5, by rw [← e1]; exact g, e1, by rw [eq, if_neg (by rw [← e1]; exact g)]⟩⟩) (fun g => hj46 _ ?_)
          have g2 : pO 6 (pd tx n (p + 1)) = -1 := by rw [← e1]; exact Decidable.not_not.mp g
          unfold pT; rw [if_neg h5, if_pos g2, eq, if_pos g2]
    · cases v with
      | true =>
        have h5 := of_decide_eq_true ev.symm
        rw [if_neg (by decide)]
        rw [if_pos h5] at c33
        exact hj36 _ (Or.inl ⟨rfl, by unfold pT; rw [if_pos h5], p, c33, rfl⟩)
      | false =>
        have h5 := of_decide_eq_false ev.symm
        rw [if_pos (show bw false = 0 from rfl)]
        rw [if_neg h5] at c33
        refine gw_if (c33.t b) ?_
        refine gw_bI (w_among b c33 (u := 6) (by decide)) (fun x48 m47 ⟨e48, c47⟩ => ?_)
        exact hj36 _ (Or.inr ⟨rfl, h5, e48, c47⟩)
  · refine gw_ite (fun g => hj32 _ ⟨false, rfl, (decide_eq_false (by rw [← e30]; exact g)).symm⟩) (fun g => hj32 _ ⟨true, rfl, (decide_eq_true (by rw [← e30]; exact Decidable.not_not.mp g)).symm⟩)
set_option maxHeartbeats 2000000 in
theorem w_factor (b : BR a n tx μ) {R0 R1 R2 : Nat → gm_M → Option (Option Value × gm_M)} {e : Nat} (he : e ≤ 5) (hW1 : WW a n μ R1) (hW2 : WW a n μ R2) (h1 : ∀ e', e = e' + 1 → WF a n μ R1 (5 - e') (pF tx n e')) (h2 : ∀ e', e = e' + 1 → WF a n μ R2 (5 - e') (pE tx n (pF tx n e'))) : WF a n μ (b_X12_factor R0 R1 R2) (5 - e) (pF tx n e) := by
  intro p L m c
  have hn := b.2.2.2.2.1
  have hp := c.2.1
  have b0 : bw false = 0 := rfl
  have b1 : bw true = 1 := rfl
  refine gwV_of ?_
  unfold b_X12_factor
  refine gw_gIw (c.tc b) ?_
  rw [c.e8, if_pos (by decide)]
  refine gw_if (c.t b) ?_
  refine gw_bI (w_here b c) (fun x m' ⟨ex, em⟩ => ?_)
  subst em
  refine gw_j (fun _ => x = 33 ∨ x = 40) (fun _ hx => ?_) (fun j hj => ?_)
  · have q : p < n := pd_lt (tx := tx) (by rw [← ex]; intro h; rw [h] at hx; exact absurd hx (by decide))
    refine gw_gIw (c.tc b) ?_
    rw [c.e9]
    refine gw_j (fun s => ∃ v : Bool, s = bw v ∧ v = decide (e = 0)) (fun s ⟨v, es, ev⟩ => ?_) (fun j8 hj8 => ?_)
    · subst es
      refine gw_pZw (c.tc b) (bw_z v) ?_
      have c1 := c.fl v
      generalize wI m' 65 8 (bw v) = m9 at *
      refine gw_gIw (c1.tc b) ?_
      refine gw_pIw (c1.tc b) ?_
      rw [c1.e9, ofn1 (by omega)]
      have c2 := c1.op (q := 5 - e + 1) (by omega)
      generalize wI m9 65 9 (Int32.ofNat (5 - e + 1)) = m11 at *
      refine gw_gIw (c2.tc b) ?_
      refine gw_gIw (c2.tc b) ?_
      rw [c2.e6, c2.e8]
      refine gw_j (fun s => Int32.ofNat p + s = Int32.ofNat (if v = true then p else p + 1)) (fun s hs => ?_) (fun j15 hj15 => ?_)
      · refine gw_pIw (c2.tc b) ?_
        rw [hs]
        have c3 := c2.at (q := if v = true then p else p + 1) (by split <;> omega) (by split <;> omega)
        generalize wI m11 65 6 (Int32.ofNat (if v = true then p else p + 1)) = m16 at *
        -- at the end: one open less
        refine gw_j (fun M => ro a n μ (5 - e + 1) L (pF tx n e p) M) (fun M hM => ?_) (fun j18 hj18 => ?_)
        · have fin : ∀ (u : Bool) (k : Nat) (T : List Int32), rst a n μ u k (5 - e + 1) T M → gw (gm_gI M [17] 65 9 (fun v19 => gm_pI M [17] 65 9 (v19 - (1 : Int32)) (fun m20 => some (none, m20)))) (gqV (fun m' => rst a n μ u k (5 - e) T m')) := fun u k T h => by
            refine gw_gIw (h.tc b) ?_
            refine gw_pIw (h.tc b) ?_
            rw [h.e9, ← ofn1 (by omega), gx_p1]
            exact gw_some (gq_V (h.op (by omega)))
          rcases hM with ⟨k1, k2⟩ | ⟨k1, L', k2⟩
          · exact gw_mono (fin _ _ _ k2) (fun b hb => ⟨hb.1, Or.inl ⟨k1, hb.2⟩⟩)
          · exact gw_mono (fin _ _ _ k2) (fun b hb => ⟨hb.1, Or.inr ⟨k1, L', hb.2⟩⟩)
        · cases v with
          | true =>
            have e0 := of_decide_eq_true ev.symm
            subst e0
            have eF : pF tx n 0 p = (false, p, []) := by
              rw [pF]
              exact if_pos (by rw [← ex]; exact hx)
            replace c3 : rst a n μ true p (5 - 0 + 1) L m16 := c3
            refine gw_ite (fun g3 => ?_) (fun g3 => ?_)
            · refine gw_if (c3.t b) ?_
              refine gw_bV (hW2 c3) (fun m21 c21 => ?_)
              refine gw_if (c21.t b) ?_
              refine gw_bV (w_must b c21 (x := 41) (by decide)) (fun m23 h23 => ?_)
              rcases h23 with ⟨h, -⟩ | ⟨-, c23⟩
              · cases h
              · exact hj18 _ (Or.inr ⟨by rw [eF], L, by rw [eF]; exact c23⟩)
            · refine gw_if (c3.t b) ?_
              refine gw_bV (hW1 c3) (fun m25 c25 => ?_)
              refine gw_if (c25.t b) ?_
              refine gw_bV (w_emits b c25 (-1) (fun h => by cases h)) (fun m27 h27 => ?_)
              rcases h27 with ⟨h, -⟩ | ⟨-, h⟩
              · cases h
              · subst h
                exact hj18 _ (Or.inr ⟨by rw [eF], L, by rw [eF]; exact c25⟩)
          | false =>
            have e0 := of_decide_eq_false ev.symm
            obtain ⟨d, rfl⟩ : ∃ d, e = d + 1 := ⟨e - 1, by omega⟩
            replace c3 : rst a n μ false (p + 1) (5 - (d + 1) + 1) L m16 := c3
            rw [show 5 - (d + 1) + 1 = 5 - d by omega] at c3 hj18
            refine gw_ite (fun g3 => ?_) (fun g3 => ?_)
            · -- (
              have e40 : pd tx n p = 40 := by rw [← ex]; exact hx.elim (fun h => absurd h g3) id
              have eF : pF tx n (d + 1) p = (if (pE tx n (pF tx n d) (p + 1)).1 = true then (if pd tx n (pE tx n (pF tx n d) (p + 1)).2.1 = 41 then (true, (pE tx n (pF tx n d) (p + 1)).2.1 + 1, (pE tx n (pF tx n d) (p + 1)).2.2) else (false, (pE tx n (pF tx n d) (p + 1)).2.1, [])) else (false, (pE tx n (pF tx n d) (p + 1)).2.1, [])) := by
                rw [pF]
                show (if pd tx n p = 40 then _ else _) = _
                rw [if_pos e40]
              have hB := h2 d rfl c3
              generalize pE tx n (pF tx n d) (p + 1) = r at *
              refine gw_if (c3.t b) ?_
              refine gw_bV hB (fun m21 h21 => ?_)
              rcases h21 with ⟨f1, c21⟩ | ⟨f1, L', c21⟩
              · rw [if_pos f1] at eF
                refine gw_if (c21.t b) ?_
                refine gw_bV (w_must b c21 (x := 41) (by decide)) (fun m23 h23 => ?_)
                rcases h23 with ⟨-, h, c23⟩ | ⟨h, c23⟩
                · rw [if_pos h] at eF
                  exact hj18 _ (Or.inl ⟨by rw [eF], by rw [eF]; exact c23⟩)
                · rw [if_neg (fun g => h ⟨rfl, g⟩)] at eF
                  exact hj18 _ (Or.inr ⟨by rw [eF], _, by rw [eF]; exact c23⟩)
              · rw [if_neg (by rw [f1]; decide)] at eF
                refine gw_if (c21.t b) ?_
                refine gw_bV (w_must b c21 (x := 41) (by decide)) (fun m23 h23 => ?_)
                rcases h23 with ⟨h, -⟩ | ⟨-, c23⟩
                · cases h
                · exact hj18 _ (Or.inr ⟨by rw [eF], L', by rw [eF]; exact c23⟩)
            · -- !
              have e33 : pd tx n p = 33 := by rw [← ex]; exact Decidable.not_not.mp g3
              have eF : pF tx n (d + 1) p = (if (pF tx n d (p + 1)).1 = true then (true, (pF tx n d (p + 1)).2.1, (pF tx n d (p + 1)).2.2 ++ [-1]) else (false, (pF tx n d (p + 1)).2.1, [])) := by
                rw [pF]
                show (if pd tx n p = 40 then _ else if pd tx n p = 33 then _ else _) = _
                rw [if_neg (by rw [e33]; decide), if_pos e33]
              have hB := h1 d rfl c3
              have G := pF_g (tx := tx) d (p + 1) q
              generalize pF tx n d (p + 1) = r at *
              refine gw_if (c3.t b) ?_
              refine gw_bV hB (fun m25 h25 => ?_)
              rcases h25 with ⟨f1, c25⟩ | ⟨f1, L', c25⟩
              · rw [if_pos f1] at eF
                obtain ⟨G1, G2, G3⟩ := G
                obtain ⟨G4, G5⟩ := G3 f1
                refine gw_if (c25.t b) ?_
                refine gw_bV (w_emits b c25 (-1) (fun _ => by rw [List.length_append]; omega)) (fun m27 h27 => ?_)
                rcases h27 with ⟨-, c27⟩ | ⟨h, -⟩
                · refine hj18 _ (Or.inl ⟨by rw [eF], ?_⟩)
                  rw [eF]
                  show rst a n μ false r.2.1 (5 - d) (L ++ (r.2.2 ++ [-1])) m27
                  rw [← List.append_assoc]; exact c27
                · cases h
              · rw [if_neg (by rw [f1]; decide)] at eF
                refine gw_if (c25.t b) ?_
                refine gw_bV (w_emits b c25 (-1) (fun h => by cases h)) (fun m27 h27 => ?_)
                rcases h27 with ⟨h, -⟩ | ⟨-, h⟩
                · cases h
                · subst h
                  exact hj18 _ (Or.inr ⟨by rw [eF], L', by rw [eF]; exact c25⟩)
      · cases v with
        | true => rw [if_neg (by decide)]; exact hj15 _ (Int32.add_zero _)
        | false => rw [if_pos (show bw false = 0 from rfl)]; exact hj15 _ (ofn1 (by omega))
    · have oe := ofn (k := 5 - e) (by omega)
      refine gw_ite (fun g => hj8 _ ⟨false, rfl, (decide_eq_false (fun h => g (by rw [h]; rfl))).symm⟩) (fun g => hj8 _ ⟨true, rfl, (decide_eq_true ?_).symm⟩)
      have := Decidable.not_not.mp g
      rw [this] at oe
      have : (5 : Int32).toInt = 5 := rfl
      omega
  · refine gw_ite (fun g => hj _ (Or.inl g)) (fun g => ?_)
    refine gw_ite (fun g2 => ?_) (fun g2 => hj _ (Or.inr (Decidable.not_not.mp g2)))
    have eF : pF tx n e p = pT tx n p := by
      rw [ex] at g g2
      cases e with
      | zero => rw [pF]; exact if_neg (fun h => h.elim g g2)
      | succ d =>
        rw [pF]
        show (if pd tx n p = 40 then _ else if pd tx n p = 33 then _ else _) = _
        rw [if_neg g2, if_neg g]
    refine gw_if (c.t b) ?_
    exact w_test b c (fun m' h => gq_V (by rw [eF]; exact h))
theorem w_factor_w (b : BR a n tx μ) {R0 R1 R2 : Nat → gm_M → Option (Option Value × gm_M)} : WW a n μ (b_X12_factor R0 R1 R2) := by
  intro p o L m c
  refine gwV_of ?_
  unfold b_X12_factor
  refine gw_gIw (c.tc b) ?_
  rw [c.e8, if_neg (by decide)]
  exact gw_some (gq_V c)
theorem wr_ww (b : BR a n tx μ) : ∀ fu : Nat, (2 ≤ fu → WW a n μ (r_X12_every fu).1) ∧ (1 ≤ fu → WW a n μ (r_X12_every fu).2.1) ∧ (3 ≤ fu → WW a n μ (r_X12_every fu).2.2)
  | 0 => ⟨fun h => by omega, fun h => by omega, fun h => by omega⟩
  | fu + 1 => ⟨fun h => w_every_w b (R0 := (r_X12_every fu).1) (R2 := (r_X12_every fu).2.2) ((wr_ww b fu).2.1 (by omega)), fun _ => w_factor_w b (R0 := (r_X12_every fu).1), fun h => w_some_w b (R1 := (r_X12_every fu).2.1) (R2 := (r_X12_every fu).2.2) ((wr_ww b fu).1 (by omega))⟩
theorem wr_read (b : BR a n tx μ) : ∀ (fu e : Nat), e ≤ 5 → (3 * e + 5 ≤ fu → WE a n tx μ (r_X12_every fu).1 (5 - e) (pF tx n e)) ∧ (3 * e + 4 ≤ fu → WF a n μ (r_X12_every fu).2.1 (5 - e) (pF tx n e)) ∧ (3 * e + 6 ≤ fu → WF a n μ (r_X12_every fu).2.2 (5 - e) (pE tx n (pF tx n e)))
  | 0, e, _ => ⟨fun h => by omega, fun h => by omega, fun h => by omega⟩
  | fu + 1, e, he => ⟨fun h => w_every b (R0 := (r_X12_every fu).1) (R2 := (r_X12_every fu).2.2) ((wr_read b fu e he).2.1 (by omega)) (fun p => pF_g e p), fun h => w_factor b (R0 := (r_X12_every fu).1) he ((wr_ww b fu).2.1 (by omega)) ((wr_ww b fu).2.2 (by omega)) (fun e' q => (wr_read b fu e' (by omega)).2.1 (by omega)) (fun e' q => (wr_read b fu e' (by omega)).2.2 (by omega)), fun h => w_some b (R1 := (r_X12_every fu).2.1) (R2 := (r_X12_every fu).2.2) ((wr_read b fu e he).1 (by omega)) (fun p => pF_g e p)⟩
end
