section
variable {A n p : Nat} {tx : Nat → Int32} {μ m : gm_M} {w sw : Int32} {L : List Int32}
theorem dst.at (d : dst A n μ p w sw L m) {q : Nat} {m' : gm_M} (c : cst A n m q (cds L) m') (hq : p ≤ q) : dst A n μ q w sw L m' := by
  have h := d.on (T := []) tk_nil (by rw [List.map_nil, List.append_nil]; exact c) (by rw [List.append_nil]; have := d.2.1; omega)
  rw [List.append_nil] at h
  exact h
theorem dst.w0 (d : dst A n μ p w sw L m) (x : Int32) : dst A n μ p x sw L (wI m A 0 x) := by
  obtain ⟨⟨d1, d2, d3, d4⟩, d5, ⟨d6, d7, d8⟩, ⟨d9, d10⟩, d11, d12⟩ := d
  exact ⟨⟨d1, d2, fun r r1 r2 r3 r4 => (wI_o _ _ _ _ r1).trans (d3 r r1 r2 r3 r4), (wI_n _ _ _ _ (by decide)).trans d4⟩, d5, ⟨wI_e _ _ _ _, (wI_n _ _ _ _ (by decide)).trans d7, (wI_n _ _ _ _ (by decide)).trans d8⟩, ⟨(wI_n _ _ _ _ (by decide)).trans d9, fun i hi => by rw [wI_o _ _ _ _ (by omega)]; exact d10 i hi⟩, (wI_n _ _ _ _ (by decide)).trans d11, fun i q hi => by rw [wI_o _ _ _ _ (by omega), wI_o _ _ _ _ (by omega)]; exact d12 i q hi⟩
theorem dst.w1 (d : dst A n μ p w sw L m) (x : Int32) : dst A n μ p w x L (wI m A 1 x) := by
  obtain ⟨⟨d1, d2, d3, d4⟩, d5, ⟨d6, d7, d8⟩, ⟨d9, d10⟩, d11, d12⟩ := d
  exact ⟨⟨d1, d2, fun r r1 r2 r3 r4 => (wI_o _ _ _ _ r1).trans (d3 r r1 r2 r3 r4), (wI_n _ _ _ _ (by decide)).trans d4⟩, d5, ⟨(wI_n _ _ _ _ (by decide)).trans d6, wI_e _ _ _ _, (wI_n _ _ _ _ (by decide)).trans d8⟩, ⟨(wI_n _ _ _ _ (by decide)).trans d9, fun i hi => by rw [wI_o _ _ _ _ (by omega)]; exact d10 i hi⟩, (wI_n _ _ _ _ (by decide)).trans d11, fun i q hi => by rw [wI_o _ _ _ _ (by omega), wI_o _ _ _ _ (by omega)]; exact d12 i q hi⟩
/-- how a clause ends; c changes at most -/
def vk (A n : Nat) (μ : gm_M) (c : Nat) (r : pB) (x : Int32) (m : gm_M) : Prop := (x = 1 ∧ r.1 = true ∧ dst A n μ r.2.1 r.2.2.1 r.2.2.2.1 r.2.2.2.2 m ∧ (chs r.2.2.2.2 0).length ≤ c) ∨ (x = 0 ∧ r.1 = false ∧ m.2.1 A 9 = Int32.ofNat r.2.1 ∧ r.2.1 ≤ n ∧ m.1 = μ.1)
set_option maxHeartbeats 2000000 in
theorem v_clause (b : BS A n tx μ) (d : dst A n μ p w sw L m) {c : Nat} (hc : (chs L 0).length ≤ c) (hc9 : c ≤ 9) : gwI (f_X0_readClause A m) (fun x m' => vk A n μ (c + 1) (pK tx n p w sw L) x m') := by
  have bm := d.b b
  have c0 := d.c b
  have hn := b.2.2.2.2.1
  have hLp := d.2.1
  have l0 : (0 : Int32).toInt = 0 := rfl
  refine gwI_of ?_
  unfold f_X0_readClause
  refine gw_if (c0.t bm) ?_
  refine gw_bI (v_next bm c0) (fun x2 m1 ⟨ex, em⟩ => ?_)
  subst em
  refine gw_ite (fun g => ?_) (fun g => ?_)
  · have h119 : pd tx n p ≠ 119 := by rw [← ex]; exact g
    refine gw_if (c0.t bm) ?_
    refine gw_bI (v_take bm c0 (a := 115) (by decide)) (fun x4 m3 h3 => ?_)
    rcases h3 with ⟨e4, ep, c1⟩ | ⟨e4, ep, em⟩
    · subst e4
      have q0 := c1.2.1
      refine gw_if (by decide) ?_
      refine gw_if (c1.t bm) ?_
      refine gw_bI (v_next bm c1) (fun x6 m5 ⟨ex6, em⟩ => ?_)
      subst em
      refine gw_ite (fun g6 => ?_) (fun g6 => ?_)
      · have h119' : pd tx n (p + 1) ≠ 119 := by rw [← ex6]; exact g6
        refine gw_if (c1.t bm) ?_
        refine gw_bI (v_take bm c1 (a := 116) (by decide)) (fun x8 m7 h7 => ?_)
        rcases h7 with ⟨e8, ep8, c2⟩ | ⟨e8, ep8, em⟩
        · subst e8
          replace c2 : cst A n m1 (p + 2) (cds L) m7 := c2
          refine gw_if (by decide) ?_
          refine gw_if (c2.t bm) ?_
          refine gw_bI (v_next bm c2) (fun x10 m9 ⟨ex10, em⟩ => ?_)
          subst em
          refine gw_j (fun s11 => (s11 = 0 ∧ pd tx n (p + 2) ≠ 114) ∨ (s11 = 1 ∧ pd tx n (p + 2) = 114)) (fun s11 h11 => ?_) (fun j12 hj12 => ?_)
          · refine gw_j (fun s13 => (s11 = 0 ∧ s13 = 4) ∨ (s11 = 1 ∧ s13 = 3)) (fun u h13 => ?_) (fun j14 hj14 => ?_)
            · have hu : gm_isS u := by
                rcases h13 with h | h <;> (rw [h.2]; decide)
              obtain ⟨kd, eK, ka⟩ : ∃ kd : Int32, pK tx n p w sw L = pM tx n u kd (p + 2) w sw L ∧ ∀ x : Int32, 0 ≤ x.toInt ∧ x.toInt ≤ 99 → (kd - x).toInt ≤ -10 ∧ amt (kd - x) = (if s11 = 0 then -x else x) := by
                rcases h11 with ⟨h, h'⟩ | ⟨h, h'⟩
                · refine ⟨-200, ?_, fun x hx => ⟨(amt_k hx).2.2, ?_⟩⟩
                  · rcases h13 with ⟨g, g'⟩ | ⟨g, g'⟩
                    · rw [g', pK, if_neg h119, if_pos ep, if_neg h119', if_pos ep8, if_neg h']
                    · rw [h] at g; exact absurd g (by decide)
                  · rw [if_pos h]; exact (amt_k hx).2.1
                · refine ⟨-10, ?_, fun x hx => ⟨(amt_k hx).1.2, ?_⟩⟩
                  · rcases h13 with ⟨g, g'⟩ | ⟨g, g'⟩
                    · rw [h] at g; exact absurd g (by decide)
                    · rw [g', pK, if_neg h119, if_pos ep, if_neg h119', if_pos ep8, if_pos h']
                  · rw [if_neg (by rw [h]; decide)]; exact (amt_k hx).1.1
              rw [eK]
              have gW := pWN_g (tx := tx) hu c2.2.1
              refine gw_if (c2.t bm) ?_
              refine gw_bI (v_word bm c2 hu) (fun x16 m15 ⟨e16, c15⟩ => ?_)
              by_cases hW : (pWN tx n u (p + 2)).1 = true
              · rw [if_pos hW] at e16
                have gW3 := gW.2.2 hW
                rw [← e16] at gW3
                refine gw_lt (fun g => by omega) (fun _ => ?_)
                refine gw_if (c15.t bm) ?_
                refine gw_bI (v_take bm c15 (a := 32) (by decide)) (fun x18 m17 h17 => ?_)
                rcases h17 with ⟨e18, ep18, c17⟩ | ⟨e18, ep18, em⟩
                · subst e18
                  have eM : pM tx n u kd (p + 2) w sw L = ((pE tx n (pF tx n 5) ((pWN tx n u (p + 2)).2.1 + 1)).1, (pE tx n (pF tx n 5) ((pWN tx n u (p + 2)).2.1 + 1)).2.1, w, sw, (L ++ (pE tx n (pF tx n 5) ((pWN tx n u (p + 2)).2.1 + 1)).2.2) ++ [kd - x16]) := by
                    unfold pM; rw [if_pos hW, if_pos ep18, e16]
                  have hE := pE_g (tx := tx) (fun p => pF_g (tx := tx) (n := n) 5 p) c17.2.1
                  have hT : tkn (pE tx n (pF tx n 5) ((pWN tx n u (p + 2)).2.1 + 1)).2.2 := pE_tk (fun p => pF_tk 5 p) _
                  have V := ((vr_read bm 64 5 (by omega)).1 (by omega)) c17 (by have := cds_len L; omega)
                  have eR : f_X0_readEither A 0 m17 = (r_X0_readEither 64).1 A (Int32.ofNat (5 - 5)) m17 := rfl
                  rw [← eR] at V
                  rw [eM]
                  generalize pE tx n (pF tx n 5) ((pWN tx n u (p + 2)).2.1 + 1) = r at *
                  rw [if_neg (by decide)]
                  refine gw_if (c17.t bm) ?_
                  refine gw_bI V (fun x20 m19 h19 => ?_)
                  rcases h19 with ⟨e20, f1, c19⟩ | ⟨e20, f1, C', c19⟩
                  · subst e20
                    obtain ⟨hE1, hE2, hE3⟩ := hE
                    obtain ⟨hE4, hE5⟩ := hE3 f1
                    have hlen : (L ++ r.2.2).length + 1 ≤ r.2.1 := by rw [List.length_append]; omega
                    have d19 := d.on hT c19 (by omega)
                    have ech : chs (L ++ r.2.2) 0 = chs L 0 := by rw [chs_app, chs_all hT, List.append_nil]
                    have ks := ka x16 gW3.2
                    refine gw_if (by decide) ?_
                    refine gw_j (fun s21 => s21 = amt (kd - x16)) (fun s21 e21 => ?_) (fun j22 hj22 => ?_)
                    · subst e21
                      refine gw_if ((d19.c b).t (d19.b b)) ?_
                      refine gw_bV (v_change b d19 (by rw [ech]; omega) ks.1 hlen) (fun m23 ⟨d23, l23⟩ => ?_)
                      refine gw_z Iff.rfl (Or.inr rfl) (gq_I (Or.inl ⟨rfl, f1, d23, ?_⟩))
                      show (chs ((L ++ r.2.2) ++ [kd - x16]) 0).length ≤ c + 1
                      rw [l23, ech]; omega
                    · refine gw_ite (fun g => hj22 _ ?_) (fun g => hj22 _ ?_)
                      · rw [ks.2, if_pos g]
                      · rw [ks.2, if_neg g]
                  · subst e20
                    rw [if_neg (by decide)]
                    exact gw_z Iff.rfl (Or.inl rfl) (gq_I (Or.inr ⟨rfl, f1, c19.e9, c19.2.1, c19.1.1.trans d.1.1⟩))
                · subst e18
                  subst em
                  have eM : pM tx n u kd (p + 2) w sw L = (false, (pWN tx n u (p + 2)).2.1, w, sw, L) := by
                    unfold pM; rw [if_pos hW, if_neg ep18]
                  rw [if_pos rfl, eM]
                  exact gw_z Iff.rfl (Or.inl rfl) (gq_I (Or.inr ⟨rfl, rfl, c15.e9, c15.2.1, c15.1.1.trans d.1.1⟩))
              · rw [if_neg hW] at e16
                subst e16
                have eM : pM tx n u kd (p + 2) w sw L = (false, (pWN tx n u (p + 2)).2.1, w, sw, L) := by
                  unfold pM; rw [if_neg hW]
                refine gw_lt (fun _ => ?_) (fun g => absurd g (by decide))
                rw [eM]
                exact gw_z Iff.rfl (Or.inl rfl) (gq_I (Or.inr ⟨rfl, rfl, c15.e9, c15.2.1, c15.1.1.trans d.1.1⟩))
            · refine gw_ite (fun g => hj14 _ (Or.inl ⟨g, rfl⟩)) (fun g => hj14 _ (Or.inr ⟨?_, rfl⟩))
              rcases h11 with ⟨h, -⟩ | ⟨h, -⟩
              · exact absurd h g
              · exact h
          · refine gw_ite (fun g => hj12 _ (Or.inl ⟨rfl, by rw [← ex10]; exact g⟩)) (fun g => hj12 _ (Or.inr ⟨rfl, by rw [← ex10]; exact Decidable.not_not.mp g⟩))
        · subst e8
          subst em
          rw [if_neg (by decide)]
          have eK : pK tx n p w sw L = (false, p + 1, w, sw, L) := by rw [pK, if_neg h119, if_pos ep, if_neg h119', if_neg ep8]
          rw [eK]
          exact gw_z Iff.rfl (Or.inl rfl) (gq_I (Or.inr ⟨rfl, rfl, c1.e9, c1.2.1, c1.1.1.trans d.1.1⟩))
      · have h119' : pd tx n (p + 1) = 119 := by rw [← ex6]; exact Decidable.not_not.mp g6
        have eK : pK tx n p w sw L = ((pWN tx n 2 (p + 1)).1, (pWN tx n 2 (p + 1)).2.1, w, (pWN tx n 2 (p + 1)).2.2, L) := by rw [pK, if_neg h119, if_pos ep, if_pos h119']
        have gW := pWN_g (tx := tx) (u := 2) (by decide) c1.2.1
        rw [eK]
        refine gw_if (c1.t bm) ?_
        refine gw_bI (v_word bm c1 (u := 2) (by decide)) (fun x m' ⟨e1, c2⟩ => ?_)
        refine gw_pIw (c2.tc bm) ?_
        have c3 : (wI m' A 1 x).2.1 A 9 = Int32.ofNat (pWN tx n 2 (p + 1)).2.1 := (wI_n _ _ _ _ (by decide)).trans c2.e9
        by_cases hW : (pWN tx n 2 (p + 1)).1 = true
        · rw [if_pos hW] at e1
          have gW3 := gW.2.2 hW
          rw [← e1] at gW3
          refine gw_lt (fun g => by omega) (fun _ => ?_)
          refine gw_z Iff.rfl (Or.inr rfl) (gq_I (Or.inl ⟨rfl, hW, ?_, by show (chs L 0).length ≤ c + 1; omega⟩))
          have dd := (d.at c2 (by omega)).w1 x
          show dst A n μ _ w (pWN tx n 2 (p + 1)).2.2 L _
          rw [← e1]; exact dd
        · rw [if_neg hW] at e1
          subst e1
          refine gw_lt (fun _ => ?_) (fun g => absurd g (by decide))
          refine gw_z Iff.rfl (Or.inl rfl) (gq_I (Or.inr ⟨rfl, ?_, c3, c2.2.1, c2.1.1.trans d.1.1⟩))
          cases h : (pWN tx n 2 (p + 1)).1 with
          | false => rfl
          | true => exact absurd h hW
    · subst e4
      subst em
      rw [if_neg (by decide)]
      have eK : pK tx n p w sw L = (false, p, w, sw, L) := by rw [pK, if_neg h119, if_neg ep]
      rw [eK]
      exact gw_z Iff.rfl (Or.inl rfl) (gq_I (Or.inr ⟨rfl, rfl, c0.e9, c0.2.1, d.1.1⟩))
  · have h119 : pd tx n p = 119 := by rw [← ex]; exact Decidable.not_not.mp g
    have eK : pK tx n p w sw L = ((pWN tx n 1 p).1, (pWN tx n 1 p).2.1, (pWN tx n 1 p).2.2, sw, L) := by rw [pK, if_pos h119]
    have gW := pWN_g (tx := tx) (u := 1) (by decide) c0.2.1
    rw [eK]
    refine gw_if (c0.t bm) ?_
    refine gw_bI (v_word bm c0 (u := 1) (by decide)) (fun x m' ⟨e1, c2⟩ => ?_)
    refine gw_pIw (c2.tc bm) ?_
    have c3 : (wI m' A 0 x).2.1 A 9 = Int32.ofNat (pWN tx n 1 p).2.1 := (wI_n _ _ _ _ (by decide)).trans c2.e9
    by_cases hW : (pWN tx n 1 p).1 = true
    · rw [if_pos hW] at e1
      have gW3 := gW.2.2 hW
      rw [← e1] at gW3
      refine gw_lt (fun g => by omega) (fun _ => ?_)
      refine gw_z Iff.rfl (Or.inr rfl) (gq_I (Or.inl ⟨rfl, hW, ?_, by show (chs L 0).length ≤ c + 1; omega⟩))
      have dd := (d.at c2 (by omega)).w0 x
      show dst A n μ _ (pWN tx n 1 p).2.2 sw L _
      rw [← e1]; exact dd
    · rw [if_neg hW] at e1
      subst e1
      refine gw_lt (fun _ => ?_) (fun g => absurd g (by decide))
      refine gw_z Iff.rfl (Or.inl rfl) (gq_I (Or.inr ⟨rfl, ?_, c3, c2.2.1, c2.1.1.trans d.1.1⟩))
      cases h : (pWN tx n 1 p).1 with
      | false => rfl
      | true => exact absurd h hW
end
/-- how the reading ends -/
def vr (A n : Nat) (μ : gm_M) (r : pB) (x : Int32) (m : gm_M) : Prop := (r.1 = true ∧ x = -1 ∧ dst A n μ r.2.1 r.2.2.1 r.2.2.2.1 r.2.2.2.2 m) ∨ (r.1 = false ∧ x = Int32.ofNat r.2.1 ∧ r.2.1 ≤ n)
theorem v_loop {A n : Nat} {tx : Nat → Int32} {μ : gm_M} (b : BS A n tx μ) (d : dst A n μ 0 0 20 [] μ) : gw (gm_loop (fun (s5 : Int32 × gm_M) => if (10 : Int32) ≤ s5.1 then gm_gI s5.2 [5] A 9 (fun v6 => some (Sum.inr (some (.int v6), s5.2))) else gm_j (fun (s7 : gm_M) => if gm_tag s7 A = 5 then gm_bI (f_X0_readClause A s7) (fun x10 m9 => if x10 ≠ 0 then gm_gI m9 [5] A 9 (fun v11 => gm_gI m9 [5] A 8 (fun v12 => if v11 < v12 then some (Sum.inl ((s5.1 + (1 : Int32)), m9)) else some (Sum.inr (some (.int (-1 : Int32)), m9)))) else gm_gI m9 [5] A 9 (fun v13 => some (Sum.inr (some (.int v13), m9)))) else none) (fun j8 => if s5.1 ≤ 0 then j8 s5.2 else if gm_tag s5.2 A = 5 then gm_bI (f_X0_take A (59 : Int32) s5.2) (fun x15 m14 => if x15 ≠ 0 then j8 m14 else gm_gI m14 [5] A 9 (fun v16 => some (Sum.inr (some (.int v16), m14)))) else none)) 5000 ((0 : Int32), μ)) (gqI (fun x m => vr A n μ (pAft tx n) x m)) := by
  have hn := b.2.2.2.2.1
  have on : (Int32.ofNat n).toInt = n := ofn (by omega)
  have l10 : (10 : Int32).toInt = 10 := rfl
  have l0 : (0 : Int32).toInt = 0 := rfl
  generalize hI : (fun s : Int32 × gm_M => ∃ i : Nat, s.1 = Int32.ofNat i ∧ ((i = 0 ∧ s.2 = μ) ∨ (1 ≤ i ∧ i ≤ 10 ∧ ∃ r : pB, r.1 = true ∧ dst A n μ r.2.1 r.2.2.1 r.2.2.2.1 r.2.2.2.2 s.2 ∧ (chs r.2.2.2.2 0).length ≤ i ∧ r.2.1 < n ∧ pAft tx n = pR tx n (10 - i) r))) = I
  have hms : ∀ i : Nat, i ≤ 9 → (10 - (Int32.ofNat i + 1).toInt < 10 - (Int32.ofNat i).toInt) ∧ 0 ≤ 10 - (Int32.ofNat i + 1).toInt := fun i hi => by
    rw [ofn1 (by omega), ofn (k := i + 1) (by omega), ofn (k := i) (by omega)]
    omega
  refine gw_loop I (fun s => 10 - s.1.toInt) (fun s hs => ?_) 5000 ((0 : Int32), μ) (by rw [← hI]; exact ⟨0, rfl, Or.inl ⟨rfl, rfl⟩⟩) (by show 10 - (0 : Int32).toInt < ((5000 : Nat) : Int); omega) (by show 0 ≤ 10 - (0 : Int32).toInt; omega)
  obtain ⟨s1, s2⟩ := s
  rw [← hI] at hs
  obtain ⟨i, es, hi⟩ := hs
  replace es : s1 = Int32.ofNat i := es
  subst es
  have oi : (Int32.ofNat i).toInt = i := ofn (by rcases hi with h | h <;> omega)
  refine gw_le (fun g => ?_) (fun g => ?_)
  · replace g : (10 : Int32).toInt ≤ (Int32.ofNat i).toInt := g
    rcases hi with ⟨h, -⟩ | ⟨-, h10, r, r1, r2, r3, r4, r5⟩
    · omega
    · replace r2 : dst A n μ r.2.1 r.2.2.1 r.2.2.2.1 r.2.2.2.2 s2 := r2
      have c := r2.c b
      rw [show 10 - i = 0 by omega] at r5
      have e : pAft tx n = (false, r.2) := by rw [r5, pR, if_neg (by omega)]
      refine gw_gIw (c.tc (r2.b b)) ?_
      rw [r2.e9]
      exact gw_some (gs_inr (gq_I (Or.inr ⟨by rw [e], by rw [e], by rw [e]; exact r2.2.1.1⟩)))
  · replace g : (Int32.ofNat i).toInt < (10 : Int32).toInt := g
    refine gw_j (fun M => ∃ (p : Nat) (w sw : Int32) (L : List Int32), dst A n μ p w sw L M ∧ (chs L 0).length ≤ i ∧ pAft tx n = (if (pK tx n p w sw L).1 = true then pR tx n (9 - i) (pK tx n p w sw L) else pK tx n p w sw L)) (fun M hM => ?_) (fun j8 hj8 => ?_)
    · obtain ⟨p, w, sw, L, dM, hc, eA⟩ := hM
      have cM := dM.c b
      refine gw_if (cM.t (dM.b b)) ?_
      refine gw_bI (v_clause b dM hc (by omega)) (fun x10 m9 h9 => ?_)
      generalize pK tx n p w sw L = r at *
      rcases h9 with ⟨e10, r1, d9, l9⟩ | ⟨e10, r1, d9, l9, t9⟩
      · subst e10
        rw [if_pos r1] at eA
        have c9 := d9.c b
        have b9 := d9.b b
        refine gw_if (by decide) ?_
        refine gw_gIw (c9.tc b9) ?_
        refine gw_gIw (c9.tc b9) ?_
        rw [d9.e9, c9.e8 b9]
        have orp : (Int32.ofNat r.2.1).toInt = r.2.1 := ofn (by have := d9.2.1; omega)
        refine gw_lt (fun g2 => ?_) (fun g2 => ?_)
        · refine gw_some (gs_inl ?_ (hms i (by omega)).1 (hms i (by omega)).2)
          rw [← hI]
          exact ⟨i + 1, ofn1 (by omega), Or.inr ⟨by omega, by omega, r, r1, d9, l9, by omega, by rw [eA, show 10 - (i + 1) = 9 - i by omega]⟩⟩
        · have e : pAft tx n = r := by
            rw [eA]
            cases 9 - i with
            | zero => rw [pR, if_pos (by omega)]
            | succ k => rw [pR, if_pos (by omega)]
          refine gw_some (gs_inr (gq_I (Or.inl ⟨by rw [e]; exact r1, rfl, by rw [e]; exact d9⟩)))
      · subst e10
        rw [if_neg (by rw [r1]; decide)] at eA
        rw [if_neg (by decide)]
        replace t9 : [5].contains (gm_tag m9 A) = true := by unfold gm_tag; rw [t9, b.2.2.1.1]; rfl
        refine gw_gIw t9 ?_
        rw [d9]
        exact gw_some (gs_inr (gq_I (Or.inr ⟨by rw [eA]; exact r1, by rw [eA], by rw [eA]; exact l9⟩)))
    · refine gw_le (fun g2 => ?_) (fun g2 => ?_)
      · replace g2 : (Int32.ofNat i).toInt ≤ (0 : Int32).toInt := g2
        rcases hi with ⟨h, e⟩ | ⟨h, -⟩
        · subst h
          replace e : s2 = μ := e
          subst e
          exact hj8 _ ⟨0, 0, 20, [], d, Nat.le_refl _, rfl⟩
        · omega
      · replace g2 : (0 : Int32).toInt < (Int32.ofNat i).toInt := g2
        rcases hi with ⟨h, -⟩ | ⟨-, h10, r, r1, r2, r3, r4, r5⟩
        · omega
        · replace r2 : dst A n μ r.2.1 r.2.2.1 r.2.2.2.1 r.2.2.2.2 s2 := r2
          have c := r2.c b
          have bb := r2.b b
          rw [show 10 - i = (9 - i) + 1 by omega, pR, if_neg (by omega)] at r5
          refine gw_if (c.t bb) ?_
          refine gw_bI (v_take bb c (a := 59) (by decide)) (fun x15 m14 h14 => ?_)
          rcases h14 with ⟨ex, ep, c14⟩ | ⟨ex, ep, em⟩
          · subst ex
            rw [if_pos ep] at r5
            refine gw_if (by decide) ?_
            exact hj8 _ ⟨r.2.1 + 1, r.2.2.1, r.2.2.2.1, r.2.2.2.2, r2.at c14 (by omega), r3, r5⟩
          · subst ex
            subst em
            rw [if_neg ep] at r5
            rw [if_neg (by decide)]
            refine gw_gIw (c.tc bb) ?_
            rw [r2.e9]
            exact gw_some (gs_inr (gq_I (Or.inr ⟨by rw [r5], by rw [r5], by rw [r5]; exact r2.2.1.1⟩)))
