def mst (a n : Nat) (μ : gm_M) (v : Bool) (p : Nat) (w sw : Int32) (L : List Int32) (m : gm_M) : Prop := (m.1 = μ.1 ∧ m.2.2 = μ.2.2 ∧ (∀ r : Nat, r ≠ 65 → r ≠ 66 → m.2.1 r = μ.2.1 r) ∧ (∀ j : Nat, j ≠ 6 → j ≠ 8 → j ≠ 9 → m.2.1 65 j = μ.2.1 65 j) ∧ ∀ k : Nat, k ≠ 210 + a → k ≠ 215 + a → k ≠ 220 + a → ¬ (225 + 140 * a ≤ k ∧ k < 365 + 140 * a) → m.2.1 66 k = μ.2.1 66 k) ∧ (m.2.1 66 (210 + a) = w ∧ m.2.1 66 (215 + a) = sw) ∧ rst a n m v p 0 L m
section
variable {a n p o : Nat} {tx : Nat → Int32} {μ m : gm_M} {w sw : Int32} {v : Bool} {L : List Int32}
theorem mst.b (b : BR a n tx μ) (d : mst a n μ v p w sw L m) : BR a n tx m := by
  obtain ⟨b1, b2, b3, b4, b5, b6, b7⟩ := b
  obtain ⟨⟨d1, d2, d3, d4, d5⟩, -⟩ := d
  exact ⟨b1.same d1 d2, b2, by rw [d4 5 (by decide) (by decide) (by decide)]; exact b3, by rw [d4 7 (by decide) (by decide) (by decide)]; exact b4, b5, fun i hi => by rw [d5 (110 + i) (by omega) (by omega) (by omega) (by omega)]; exact b6 i hi, b7⟩
theorem mst.c (d : mst a n μ v p w sw L m) : rst a n m v p 0 L m := d.2.2
theorem mst.on (d : mst a n μ v p w sw L m) (ha : a < 5) {u : Bool} {q : Nat} {T : List Int32} {m' : gm_M} (c : rst a n m u q 0 T m') : mst a n μ u q w sw T m' := by
  obtain ⟨⟨d1, d2, d3, d4, d5⟩, ⟨d6, d7⟩, -⟩ := d
  have c' := c
  obtain ⟨⟨c1, c2, c3, c4, c5⟩, c6, c7, c8, c9, c10, c11⟩ := c
  exact ⟨⟨c1.trans d1, c2.trans d2, fun r r1 r2 => (c3 r r1 r2).trans (d3 r r1 r2), fun j j1 j2 j3 => (c4 j j1 j2 j3).trans (d4 j j1 j2 j3), fun k k1 k2 k3 k4 => (c5 k k3 k4).trans (d5 k k1 k2 k3 k4)⟩, ⟨(c5 (210 + a) (by omega) (by omega)).trans d6, (c5 (215 + a) (by omega) (by omega)).trans d7⟩, ⟨⟨rfl, rfl, fun _ _ _ => rfl, fun _ _ _ _ => rfl, fun _ _ _ => rfl⟩, c6, c7, c8, c9, c10, c11⟩⟩
theorem mst.wd (d : mst a n μ v p w sw L m) (ha : a < 5) (x : Int32) : mst a n μ v p x sw L (wI m 66 (210 + a) x) := by
  obtain ⟨⟨d1, d2, d3, d4, d5⟩, ⟨d6, d7⟩, ⟨⟨c1, c2, c3, c4, c5⟩, c6, c7, c8, c9, c10, c11⟩⟩ := d
  have e65 : (wI m 66 (210 + a) x).2.1 65 = m.2.1 65 := wI_o _ _ _ _ (by decide)
  refine ⟨⟨d1, d2, fun r r1 r2 => (wI_o _ _ _ _ r2).trans (d3 r r1 r2), fun j j1 j2 j3 => by rw [e65]; exact d4 j j1 j2 j3, fun k k1 k2 k3 k4 => (wI_n _ _ _ _ k1).trans (d5 k k1 k2 k3 k4)⟩, ⟨wI_e _ _ _ _, (wI_n _ _ _ _ (by omega)).trans d7⟩, ⟨⟨rfl, rfl, fun _ _ _ => rfl, fun _ _ _ _ => rfl, fun _ _ _ => rfl⟩, c6, by rw [e65]; exact c7, by rw [e65]; exact c8, by rw [e65]; exact c9, (wI_n _ _ _ _ (by omega)).trans c10, fun i hi => by rw [wI_n _ _ _ _ (by omega)]; exact c11 i hi⟩⟩
theorem mst.sd (d : mst a n μ v p w sw L m) (ha : a < 5) (x : Int32) : mst a n μ v p w x L (wI m 66 (215 + a) x) := by
  obtain ⟨⟨d1, d2, d3, d4, d5⟩, ⟨d6, d7⟩, ⟨⟨c1, c2, c3, c4, c5⟩, c6, c7, c8, c9, c10, c11⟩⟩ := d
  have e65 : (wI m 66 (215 + a) x).2.1 65 = m.2.1 65 := wI_o _ _ _ _ (by decide)
  refine ⟨⟨d1, d2, fun r r1 r2 => (wI_o _ _ _ _ r2).trans (d3 r r1 r2), fun j j1 j2 j3 => by rw [e65]; exact d4 j j1 j2 j3, fun k k1 k2 k3 k4 => (wI_n _ _ _ _ k2).trans (d5 k k1 k2 k3 k4)⟩, ⟨(wI_n _ _ _ _ (by omega)).trans d6, wI_e _ _ _ _⟩, ⟨⟨rfl, rfl, fun _ _ _ => rfl, fun _ _ _ _ => rfl, fun _ _ _ => rfl⟩, c6, by rw [e65]; exact c7, by rw [e65]; exact c8, by rw [e65]; exact c9, (wI_n _ _ _ _ (by omega)).trans c10, fun i hi => by rw [wI_n _ _ _ _ (by omega)]; exact c11 i hi⟩⟩
/-- a word and its number -/
theorem w_wn {β : Type} {Q : β → Prop} (b : BR a n tx μ) (c : rst a n μ v p o L m) {u : UInt32} (hu : gm_isS u) {f : Int32 → gm_M → Option β} (k : ∀ (x : Int32) (m' : gm_M), (v = false ∧ rst a n μ (!(pWN tx n u p).1) (pWN tx n u p).2.1 o L m' ∧ ((pWN tx n u p).1 = true → x = (pWN tx n u p).2.2)) ∨ (v = true ∧ rst a n μ true p o L m') → gw (f x m') Q) : gw (gm_bV (f_X12_spells 65 u m) (fun m1 => if gm_tag m1 65 = 17 then gm_bI (f_X12_figures 65 m1) f else none)) Q := by
  refine gw_bV (w_spells b c hu) (fun m1 h1 => ?_)
  rcases h1 with ⟨ev, c1⟩ | ⟨ev, c1⟩
  · refine gw_if (c1.t b) ?_
    refine gw_bI (w_figs b c1) (fun x m3 h3 => k x m3 (Or.inl ⟨ev, ?_⟩))
    unfold pWN
    cases hW : (pW tx n u (gm_bn (u + 6)) p).1 with
    | true =>
      rw [if_pos rfl]
      rcases h3 with ⟨-, h⟩ | ⟨h, -⟩
      · exact h
      · rw [hW] at h; cases h
    | false =>
      rw [if_neg (by decide)]
      rcases h3 with ⟨h, -⟩ | ⟨-, h⟩
      · rw [hW] at h; cases h
      · exact ⟨h, fun q => by cases q⟩
  · refine gw_if (c1.t b) ?_
    refine gw_bI (w_figs b c1) (fun x m3 h3 => k x m3 (Or.inr ⟨ev, ?_⟩))
    rcases h3 with ⟨h, -⟩ | ⟨-, h⟩
    · cases h
    · exact h
theorem w_much (b : BR a n tx μ) (c : rst a n μ v p 0 L m) {u : UInt32} (hu : gm_isS u) (kd w sw : Int32) : gwV (f_X12_much 65 kd u m) (fun m' => (v = false ∧ (((pM tx n u kd p w sw L).1 = true ∧ rst a n μ false (pM tx n u kd p w sw L).2.1 0 (pM tx n u kd p w sw L).2.2.2.2 m') ∨ ((pM tx n u kd p w sw L).1 = false ∧ ∃ L' : List Int32, rst a n μ true (pM tx n u kd p w sw L).2.1 0 L' m'))) ∨ (v = true ∧ rst a n μ true p 0 L m')) := by
  refine gwV_of ?_
  unfold f_X12_much
  have hn := b.2.2.2.2.1
  have hp := c.2.1
  have gW := pWN_g (tx := tx) hu hp.1
  have WS : WW a n μ (r_X12_every 64).2.2 := (wr_ww b 64).2.2 (by omega)
  have bad : ∀ (q : Nat) (kx : Int32) (M : gm_M) (Q : gm_M → Prop), rst a n μ true q 0 L M → (∀ m', rst a n μ true q 0 L m' → Q m') → gw (if gm_tag M 65 = 17 then gm_bV (f_X12_must 65 (32 : Int32) M) (fun m5 => if gm_tag m5 65 = 17 then gm_bV (f_X12_some 65 m5) (fun m7 => if gm_tag m7 65 = 17 then gm_bV (f_X12_emits 65 (kd - kx) m7) (fun m9 => some (none, m9)) else none) else none) else none) (gqV Q) := fun q kx M Q c1 hQ => by
    refine gw_if (c1.t b) ?_
    refine gw_bV (w_must b c1 (x := 32) (by decide)) (fun m5 h5 => ?_)
    rcases h5 with ⟨h, -⟩ | ⟨-, c5⟩
    · cases h
    · refine gw_if (c5.t b) ?_
      refine gw_bV (show gwV (f_X12_some 65 m5) _ from WS c5) (fun m7 c7 => ?_)
      refine gw_if (c7.t b) ?_
      refine gw_bV (w_emits b c7 (kd - kx) (fun h => by cases h)) (fun m9 h9 => ?_)
      rcases h9 with ⟨h, -⟩ | ⟨-, h⟩
      · cases h
      · subst h; exact gw_some (gq_V (hQ _ c7))
  refine gw_if (c.t b) ?_
  refine w_wn b c hu (fun x m3 h3 => ?_)
  rcases h3 with ⟨ev, c3, ex⟩ | ⟨ev, c3⟩
  · cases hW : (pWN tx n u p).1 with
    | false =>
      rw [hW] at c3
      have eM : pM tx n u kd p w sw L = (false, (pWN tx n u p).2.1, w, sw, L) := by unfold pM; rw [if_neg (by rw [hW]; decide)]
      exact bad _ x m3 _ c3 (fun m' h => Or.inl ⟨ev, Or.inr ⟨by rw [eM], L, by rw [eM]; exact h⟩⟩)
    | true =>
      rw [hW] at c3
      replace c3 : rst a n μ false (pWN tx n u p).2.1 0 L m3 := c3
      have e3 := ex hW
      have gW3 := gW.2.2 hW
      refine gw_if (c3.t b) ?_
      refine gw_bV (w_must b c3 (x := 32) (by decide)) (fun m5 h5 => ?_)
      rcases h5 with ⟨-, ep, c5⟩ | ⟨ep, c5⟩
      · have eM : pM tx n u kd p w sw L = ((pE tx n (pF tx n 5) ((pWN tx n u p).2.1 + 1)).1, (pE tx n (pF tx n 5) ((pWN tx n u p).2.1 + 1)).2.1, w, sw, (L ++ (pE tx n (pF tx n 5) ((pWN tx n u p).2.1 + 1)).2.2) ++ [kd - x]) := by
          unfold pM; rw [if_pos hW, if_pos ep, e3]
        have hE := pE_g (tx := tx) (fun p => pF_g (tx := tx) (n := n) 5 p) c5.2.1.1
        have V := ((wr_read b 64 5 (by omega)).2.2 (by omega)) (show rst a n μ false ((pWN tx n u p).2.1 + 1) (5 - 5) L m5 from c5)
        have eR : f_X12_some 65 m5 = (r_X12_every 64).2.2 65 m5 := rfl
        rw [← eR] at V
        rw [eM]
        generalize pE tx n (pF tx n 5) ((pWN tx n u p).2.1 + 1) = r at *
        refine gw_if (c5.t b) ?_
        refine gw_bV V (fun m7 h7 => ?_)
        rcases h7 with ⟨f1, c7⟩ | ⟨f1, L', c7⟩
        · obtain ⟨hE1, hE2, hE3⟩ := hE
          obtain ⟨hE4, hE5⟩ := hE3 f1
          refine gw_if (c7.t b) ?_
          refine gw_bV (w_emits b c7 (kd - x) (fun _ => by rw [List.length_append]; omega)) (fun m9 h9 => ?_)
          rcases h9 with ⟨-, c9⟩ | ⟨h, -⟩
          · exact gw_some (gq_V (Or.inl ⟨ev, Or.inl ⟨f1, c9⟩⟩))
          · cases h
        · refine gw_if (c7.t b) ?_
          refine gw_bV (w_emits b c7 (kd - x) (fun h => by cases h)) (fun m9 h9 => ?_)
          rcases h9 with ⟨h, -⟩ | ⟨-, h⟩
          · cases h
          · subst h
            exact gw_some (gq_V (Or.inl ⟨ev, Or.inr ⟨f1, L', c7⟩⟩))
      · have eM : pM tx n u kd p w sw L = (false, (pWN tx n u p).2.1, w, sw, L) := by unfold pM; rw [if_pos hW, if_neg (fun h => ep ⟨rfl, h⟩)]
        refine gw_if (c5.t b) ?_
        refine gw_bV (show gwV (f_X12_some 65 m5) _ from WS c5) (fun m7 c7 => ?_)
        refine gw_if (c7.t b) ?_
        refine gw_bV (w_emits b c7 (kd - x) (fun h => by cases h)) (fun m9 h9 => ?_)
        rcases h9 with ⟨h, -⟩ | ⟨-, h⟩
        · cases h
        · subst h
          exact gw_some (gq_V (Or.inl ⟨ev, Or.inr ⟨by rw [eM], L, by rw [eM]; exact c7⟩⟩))
  · exact bad _ x m3 _ c3 (fun m' h => Or.inr ⟨ev, h⟩)
def mk (a n : Nat) (μ : gm_M) (r : pB) (m : gm_M) : Prop := (r.1 = true ∧ mst a n μ false r.2.1 r.2.2.1 r.2.2.2.1 r.2.2.2.2 m) ∨ (r.1 = false ∧ ∃ (w sw : Int32) (L : List Int32), mst a n μ true r.2.1 w sw L m)
theorem m_tell (b : BR a n tx μ) (d : mst a n μ false p w sw L m) {x : Int32} {u : UInt32} (hu : gm_isS u) (hx : x = 210 ∨ x = 215) : gwV (f_X12_tellsHere 65 x u m) (fun m' => mk a n μ ((pWN tx n u p).1, (pWN tx n u p).2.1, (if x = 210 then (pWN tx n u p).2.2 else w), (if x = 210 then sw else (pWN tx n u p).2.2), L) m') := by
  have bm := d.b b
  have c := d.c
  have ha := b.2.1
  refine gwV_of ?_
  unfold f_X12_tellsHere
  refine gw_if (c.t bm) ?_
  refine w_wn bm c hu (fun y m3 h3 => ?_)
  rcases h3 with ⟨-, c3, ey⟩ | ⟨h, -⟩
  · refine gw_gIw (c3.tc bm) ?_
    rw [c3.e8]
    cases hW : (pWN tx n u p).1 with
    | false =>
      rw [hW] at c3
      rw [if_pos (by decide)]
      exact gw_some (gq_V (Or.inr ⟨rfl, w, sw, L, d.on ha c3⟩))
    | true =>
      rw [hW] at c3
      rw [if_neg (by decide)]
      have e := ey hW
      subst e
      have l210 : (210 : Int32).toInt = 210 := rfl
      have l215 : (215 : Int32).toInt = 215 := rfl
      have oa : (Int32.ofNat a).toInt = a := ofn (by omega)
      refine gw_gRa 66 (c3.tc bm) (c3.r1 bm) ?_
      refine gw_gIw (c3.tc bm) ?_
      rw [c3.e5 bm]
      have d3 := d.on ha c3
      rcases hx with rfl | rfl
      · have n1 : ((210 : Int32) + Int32.ofNat a).toInt = (210 : Int32).toInt + (Int32.ofNat a).toInt := gx_add (by omega) (by omega)
        refine gw_sIw (210 + a) ((c3.S bm).t (r := 66) rfl) ((c3.S bm).l (r := 66) rfl) (by omega) (by omega) ?_
        rw [if_pos rfl, if_pos rfl]
        exact gw_some (gq_V (Or.inl ⟨rfl, d3.wd ha _⟩))
      · have n1 : ((215 : Int32) + Int32.ofNat a).toInt = (215 : Int32).toInt + (Int32.ofNat a).toInt := gx_add (by omega) (by omega)
        refine gw_sIw (215 + a) ((c3.S bm).t (r := 66) rfl) ((c3.S bm).l (r := 66) rfl) (by omega) (by omega) ?_
        rw [if_neg (by decide), if_neg (by decide)]
        exact gw_some (gq_V (Or.inl ⟨rfl, d3.sd ha _⟩))
  · cases h
theorem m_clause (b : BR a n tx μ) (d : mst a n μ false p w sw L m) : gwV (f_X12_clauseHere 65 m) (fun m' => mk a n μ (pK tx n p w sw L) m') := by
  have bm := d.b b
  have c := d.c
  have ha := b.2.1
  have hn := b.2.2.2.2.1
  refine gwV_of ?_
  unfold f_X12_clauseHere
  refine gw_if (c.t bm) ?_
  refine gw_bI (w_here bm c) (fun x m' ⟨ex, em⟩ => ?_)
  subst em
  refine gw_ite (fun g => ?_) (fun g => ?_)
  · have e115 : pd tx n p = 115 := by rw [← ex]; exact g
    have n119 : pd tx n p ≠ 119 := by rw [e115]; decide
    have q : p < n := pd_lt (tx := tx) (by rw [e115]; decide)
    refine gw_if (c.t bm) ?_
    have W : gwV (f_X12_wordOfS 65 m') (fun m' => mk a n μ (pK tx n p w sw L) m') := by
      refine gwV_of ?_
      unfold f_X12_wordOfS
      refine gw_if (c.t bm) ?_
      refine gw_bV (w_must bm c (x := 115) (by decide)) (fun m1 h1 => ?_)
      rcases h1 with ⟨-, -, c1⟩ | ⟨h, -⟩
      · refine gw_if (c1.t bm) ?_
        refine gw_bI (w_here bm c1) (fun x4 m3 ⟨e4, em⟩ => ?_)
        subst em
        refine gw_ite (fun g4 => ?_) (fun g4 => ?_)
        · have n119' : pd tx n (p + 1) ≠ 119 := by rw [← e4]; exact g4
          refine gw_if (c1.t bm) ?_
          refine gw_bV (w_must bm c1 (x := 116) (by decide)) (fun m5 h5 => ?_)
          rcases h5 with ⟨-, ep, c5⟩ | ⟨ep, c5⟩
          · replace c5 : rst a n m' false (p + 2) 0 L m5 := c5
            refine gw_if (c5.t bm) ?_
            refine gw_bI (w_here bm c5) (fun x8 m7 ⟨e8, em⟩ => ?_)
            subst em
            refine gw_ite (fun g8 => ?_) (fun g8 => ?_)
            · have eK : pK tx n p w sw L = pM tx n 4 (-200) (p + 2) w sw L := by rw [pK, if_neg n119, if_pos e115, if_neg n119', if_pos ep, if_neg (by rw [← e8]; exact g8)]
              have eW : (pM tx n 4 (-200) (p + 2) w sw L).2.2.1 = w ∧ (pM tx n 4 (-200) (p + 2) w sw L).2.2.2.1 = sw := by
                unfold pM; repeat' split
                all_goals exact ⟨rfl, rfl⟩
              refine gw_if (c5.t bm) ?_
              refine gw_bV (w_much bm c5 (u := 4) (by decide) (-200) w sw) (fun m9 h9 => gw_some (gq_V ?_))
              rw [eK]
              rcases h9 with ⟨-, ⟨f1, c9⟩ | ⟨f1, L', c9⟩⟩ | ⟨h, -⟩
              · exact Or.inl ⟨f1, by rw [eW.1, eW.2]; exact d.on ha c9⟩
              · exact Or.inr ⟨f1, w, sw, L', d.on ha c9⟩
              · cases h
            · have eK : pK tx n p w sw L = pM tx n 3 (-10) (p + 2) w sw L := by rw [pK, if_neg n119, if_pos e115, if_neg n119', if_pos ep, if_pos (by rw [← e8]; exact Decidable.not_not.mp g8)]
              have eW : (pM tx n 3 (-10) (p + 2) w sw L).2.2.1 = w ∧ (pM tx n 3 (-10) (p + 2) w sw L).2.2.2.1 = sw := by
                unfold pM; repeat' split
                all_goals exact ⟨rfl, rfl⟩
              refine gw_if (c5.t bm) ?_
              refine gw_bV (w_much bm c5 (u := 3) (by decide) (-10) w sw) (fun m9 h9 => gw_some (gq_V ?_))
              rw [eK]
              rcases h9 with ⟨-, ⟨f1, c9⟩ | ⟨f1, L', c9⟩⟩ | ⟨h, -⟩
              · exact Or.inl ⟨f1, by rw [eW.1, eW.2]; exact d.on ha c9⟩
              · exact Or.inr ⟨f1, w, sw, L', d.on ha c9⟩
              · cases h
          · have eK : pK tx n p w sw L = (false, p + 1, w, sw, L) := by rw [pK, if_neg n119, if_pos e115, if_neg n119', if_neg (fun h => ep ⟨rfl, h⟩)]
            have bad : ∀ m9, (false = true ∧ True) ∨ True → rst a n m' true (p + 1) 0 L m9 → mk a n μ (pK tx n p w sw L) m9 := fun m9 _ c9 => by rw [eK]; exact Or.inr ⟨rfl, w, sw, L, d.on ha c9⟩
            refine gw_if (c5.t bm) ?_
            refine gw_bI (w_here bm c5) (fun x8 m7 ⟨e8, em⟩ => ?_)
            subst em
            refine gw_ite (fun g8 => ?_) (fun g8 => ?_)
            · refine gw_if (c5.t bm) ?_
              refine gw_bV (w_much bm c5 (u := 4) (by decide) (-200) w sw) (fun m9 h9 => gw_some (gq_V ?_))
              rcases h9 with ⟨h, -⟩ | ⟨-, c9⟩
              · cases h
              · exact bad _ (Or.inr trivial) c9
            · refine gw_if (c5.t bm) ?_
              refine gw_bV (w_much bm c5 (u := 3) (by decide) (-10) w sw) (fun m9 h9 => gw_some (gq_V ?_))
              rcases h9 with ⟨h, -⟩ | ⟨-, c9⟩
              · cases h
              · exact bad _ (Or.inr trivial) c9
        · have e119 : pd tx n (p + 1) = 119 := by rw [← e4]; exact Decidable.not_not.mp g4
          have eK : pK tx n p w sw L = ((pWN tx n 2 (p + 1)).1, (pWN tx n 2 (p + 1)).2.1, w, (pWN tx n 2 (p + 1)).2.2, L) := by rw [pK, if_neg n119, if_pos e115, if_pos e119]
          rw [eK]
          refine gw_if (c1.t bm) ?_
          refine gw_bV (m_tell b (d.on ha c1) (x := 215) (u := 2) (by decide) (Or.inr rfl)) (fun m13 h13 => gw_some (gq_V ?_))
          rw [if_neg (by decide), if_neg (by decide)] at h13
          exact h13
      · exact absurd ⟨rfl, e115⟩ h
    exact gw_bV W (fun m3 h3 => gw_some (gq_V h3))
  · have n115 : pd tx n p ≠ 115 := by rw [← ex]; exact g
    refine gw_ite (fun g2 => ?_) (fun g2 => ?_)
    · have e119 : pd tx n p = 119 := by rw [← ex]; exact g2
      have eK : pK tx n p w sw L = ((pWN tx n 1 p).1, (pWN tx n 1 p).2.1, (pWN tx n 1 p).2.2, sw, L) := by rw [pK, if_pos e119]
      rw [eK]
      refine gw_if (c.t bm) ?_
      refine gw_bV (m_tell b d (x := 210) (u := 1) (by decide) (Or.inl rfl)) (fun m13 h13 => gw_some (gq_V ?_))
      rw [if_pos rfl, if_pos rfl] at h13
      exact h13
    · have n119 : pd tx n p ≠ 119 := by rw [← ex]; exact g2
      have eK : pK tx n p w sw L = (false, p, w, sw, L) := by rw [pK, if_neg n119, if_neg n115]
      rw [eK]
      refine gw_pZw (c.tc bm) (Or.inr rfl) ?_
      exact gw_some (gq_V (Or.inr ⟨rfl, w, sw, L, d.on ha (c.fl true)⟩))
end
