section
variable {a n p o : Nat} {tx : Nat → Int32} {μ m : gm_M} {w : Bool} {L : List Int32}
theorem dg_in {x r : Int32} (h : (r.toInt = 1 ∧ (48 : Int32).toInt ≤ x.toInt ∧ x.toInt ≤ (57 : Int32).toInt) ∨ (r.toInt = 0 ∧ (x.toInt < (48 : Int32).toInt ∨ (57 : Int32).toInt < x.toInt))) : (r ≠ 0 ∧ dg x = true) ∨ (r = 0 ∧ dg x = false) := by
  have l48 : (48 : Int32).toInt = 48 := rfl
  have l57 : (57 : Int32).toInt = 57 := rfl
  have l0 : (0 : Int32).toInt = 0 := rfl
  rcases h with ⟨h1, h2⟩ | ⟨h1, h2⟩
  · exact Or.inl ⟨fun e => by rw [e] at h1; omega, decide_eq_true (by omega)⟩
  · exact Or.inr ⟨Int32.toInt_inj.mp (by omega), decide_eq_false (by omega)⟩
theorem w_figs (b : BR a n tx μ) (c : rst a n μ w p o L m) : gwI (f_X12_figures 65 m) (fun x m' => (w = false ∧ rst a n μ (!(pN tx n p).1) (pN tx n p).2.1 o L m' ∧ ((pN tx n p).1 = true → x = (pN tx n p).2.2)) ∨ (w = true ∧ rst a n μ true p o L m')) := by
  refine gwI_of ?_
  unfold f_X12_figures
  have hp := c.2.1
  have hn := b.2.2.2.2.1
  have l0 : (0 : Int32).toInt = 0 := rfl
  have l1 : (1 : Int32).toInt = 1 := rfl
  have l2 : (2 : Int32).toInt = 2 := rfl
  refine gw_gIw (c.tc b) ?_
  rw [c.e8]
  refine gw_j (fun s => s.2 = m ∧ ∃ v : Bool, s.1 = bw v ∧ v = (w || !(dg (pd tx n p)))) (fun s ⟨es, v, ev, hv⟩ => ?_) (fun j hj => ?_)
  · obtain ⟨s1, s2⟩ := s
    replace es : s2 = m := es
    replace ev : s1 = bw v := ev
    subst es
    subst ev
    have c1 := c.fl v
    refine gw_pZw (c.tc b) (bw_z v) ?_
    have fin : ∀ (q : Nat) (x : Int32) (M : gm_M), w = false → rst a n μ false q o L M → pN tx n p = (true, q, x) → gw (some (Sum.inr (some (.int x), M)) : Option ((Int32 × Int32 × gm_M) ⊕ (Option Value × gm_M))) (fun b => match b with | .inl _ => False | .inr b => gqI (fun x m' => (w = false ∧ rst a n μ (!(pN tx n p).1) (pN tx n p).2.1 o L m' ∧ ((pN tx n p).1 = true → x = (pN tx n p).2.2)) ∨ (w = true ∧ rst a n μ true p o L m')) b) := fun q x M hw hr e => gw_some (gq_I (Or.inl ⟨hw, by rw [e]; exact hr, fun _ => by rw [e]⟩))
    refine gw_loop (fun t : Int32 × Int32 × gm_M => (t.2.1 = 0 ∧ t.1 = 0 ∧ rst a n μ v p o L t.2.2) ∨ (t.2.1 = 1 ∧ v = false ∧ t.1 = pd tx n p - 48 ∧ rst a n μ false (p + 1) o L t.2.2) ∨ (t.2.1 = 2 ∧ v = false ∧ ∃ q : Nat, pN tx n p = (true, q, t.1) ∧ rst a n μ false q o L t.2.2)) (fun t => 2 - t.2.1.toInt) (fun t ht => ?_) 5000 ((0 : Int32), (0 : Int32), wI s2 65 8 (bw v)) (Or.inl ⟨rfl, rfl, c1⟩) (by show 2 - (0 : Int32).toInt < ((5000 : Nat) : Int); omega) (by show 0 ≤ 2 - (0 : Int32).toInt; omega)
    obtain ⟨t1, t2, t3⟩ := t
    have wf : v = false → w = false ∧ dg (pd tx n p) = true := fun e => by
      rw [e] at hv
      cases w with
      | true => cases hv
      | false =>
        refine ⟨rfl, ?_⟩
        cases h : dg (pd tx n p) with
        | true => rfl
        | false => rw [h] at hv; cases hv
    rcases ht with ⟨h1, h2, h3⟩ | ⟨h1, h2, h3, h4⟩ | ⟨h1, h2, q, h3, h4⟩
    · replace h1 : t2 = 0 := h1
      replace h2 : t1 = 0 := h2
      replace h3 : rst a n μ v p o L t3 := h3
      subst h1
      subst h2
      refine gw_le (fun g => absurd (show (2 : Int32).toInt ≤ (0 : Int32).toInt from g) (by decide)) (fun _ => ?_)
      refine gw_gIw (h3.tc b) ?_
      show gw (if t3.2.1 65 8 ≠ 0 then _ else _) _
      rw [h3.e8]
      cases v with
      | true =>
        rw [if_pos (by decide)]
        refine gw_some (gs_inr (gq_I ?_))
        cases w with
        | true => exact Or.inr ⟨rfl, h3⟩
        | false =>
          have e : dg (pd tx n p) = false := by
            cases h : dg (pd tx n p) with
            | false => rfl
            | true => rw [h] at hv; cases hv
          have eN : pN tx n p = (false, p, -1) := by unfold pN; rw [if_neg (by rw [e]; decide)]
          rw [eN]
          exact Or.inl ⟨rfl, h3, fun q => by cases q⟩
      | false =>
        obtain ⟨hw, hd⟩ := wf rfl
        rw [if_neg (by decide)]
        have q : p < n := pd_lt (tx := tx) (fun e => by rw [e] at hd; exact absurd hd (by decide))
        refine gw_if (h3.t b) ?_
        refine gw_bI (w_here b h3) (fun x m' ⟨e1, e2⟩ => ?_)
        subst e2
        refine gw_bI s_X12_in (fun r m' ⟨z, f⟩ => ?_)
        subst z
        rcases dg_in f with ⟨f1, f2⟩ | ⟨f1, f2⟩
        · rw [if_neg f1]
          refine gw_ji ?_
          rw [if_pos rfl]
          refine gw_if (h3.t b) ?_
          refine gw_bI (w_here b h3) (fun y m'' ⟨e3, e4⟩ => ?_)
          subst e4
          refine gw_gIw (h3.tc b) ?_
          refine gw_pIw (h3.tc b) ?_
          rw [h3.e6, ofn1 (by omega)]
          refine gw_some (gs_inl (Or.inr (Or.inl ⟨rfl, rfl, ?_, h3.at (by omega) (by omega)⟩)) (by show 2 - ((0 : Int32) + 1).toInt < 2 - (0 : Int32).toInt; decide) (by show 0 ≤ 2 - ((0 : Int32) + 1).toInt; decide))
          show (10 * 0 + y) - 48 = pd tx n p - 48
          rw [e3, Int32.mul_zero, Int32.zero_add]
        · rw [← e1, f2] at hd; cases hd
    · replace h1 : t2 = 1 := h1
      replace h3 : t1 = pd tx n p - 48 := h3
      replace h4 : rst a n μ false (p + 1) o L t3 := h4
      subst h1
      obtain ⟨hw, hd⟩ := wf h2
      have d1 := of_decide_eq_true hd
      refine gw_le (fun g => absurd (show (2 : Int32).toInt ≤ (1 : Int32).toInt from g) (by decide)) (fun _ => ?_)
      refine gw_gIw (h4.tc b) ?_
      show gw (if t3.2.1 65 8 ≠ 0 then _ else _) _
      rw [h4.e8, if_neg (by decide)]
      refine gw_if (h4.t b) ?_
      refine gw_bI (w_here b h4) (fun x m' ⟨e1, e2⟩ => ?_)
      subst e2
      refine gw_bI s_X12_in (fun r m' ⟨z, f⟩ => ?_)
      subst z
      have l48 : (48 : Int32).toInt = 48 := rfl
      have s1 : (pd tx n p - 48).toInt = (pd tx n p).toInt - (48 : Int32).toInt := gx_sub (by omega) (by omega)
      have one : (pd tx n p = 48 ∨ dg (pd tx n (p + 1)) = false) → pN tx n p = (true, p + 1, t1) := fun h => by
        unfold pN; rw [if_pos hd, if_pos h, h3]
      rcases dg_in f with ⟨f1, f2⟩ | ⟨f1, f2⟩
      · rw [if_neg f1]
        refine gw_ji ?_
        rw [if_neg (show ¬ (t1, (1 : Int32), m').2.1 = 0 from (by decide : ¬ (1 : Int32) = 0))]
        have q2 : p + 1 < n := pd_lt (tx := tx) (fun e => by rw [← e1] at e; rw [e] at f2; exact absurd f2 (by decide))
        refine gw_le (fun g => ?_) (fun g => ?_)
        · replace g : t1.toInt ≤ (0 : Int32).toInt := g
          have e48 : pd tx n p = 48 := Int32.toInt_inj.mp (by rw [h3] at g; omega)
          have e := one (Or.inl e48)
          exact gw_some (gs_inr (gq_I (Or.inl ⟨hw, by rw [e]; exact h4, fun _ => by rw [e]⟩)))
        · replace g : (0 : Int32).toInt < t1.toInt := g
          refine gw_if (h4.t b) ?_
          refine gw_bI (w_here b h4) (fun y m'' ⟨e3, e4⟩ => ?_)
          subst e4
          refine gw_gIw (h4.tc b) ?_
          refine gw_pIw (h4.tc b) ?_
          rw [h4.e6, ofn1 (by omega)]
          refine gw_some (gs_inl (Or.inr (Or.inr ⟨rfl, h2, p + 2, ?_, h4.at (by omega) (by omega)⟩)) (by show 2 - ((1 : Int32) + 1).toInt < 2 - (1 : Int32).toInt; decide) (by show 0 ≤ 2 - ((1 : Int32) + 1).toInt; decide))
          unfold pN
          rw [if_pos hd, if_neg]
          · show _ = (true, p + 2, (10 * t1 + y) - 48)
            rw [e3, h3]
          · intro h
            rcases h with h | h
            · rw [h3, h] at g; exact absurd g (by decide)
            · rw [← e1, f2] at h; cases h
      · rw [if_pos f1]
        have e := one (Or.inr (by rw [← e1]; exact f2))
        exact gw_some (gs_inr (gq_I (Or.inl ⟨hw, by rw [e]; exact h4, fun _ => by rw [e]⟩)))
    · replace h1 : t2 = 2 := h1
      replace h3 : pN tx n p = (true, q, t1) := h3
      replace h4 : rst a n μ false q o L t3 := h4
      subst h1
      refine gw_le (fun _ => ?_) (fun g => absurd (show (2 : Int32).toInt < (2 : Int32).toInt from g) (by decide))
      exact gw_some (gs_inr (gq_I (Or.inl ⟨(wf h2).1, by rw [h3]; exact h4, fun _ => by rw [h3]⟩)))
  · refine gw_j (fun M => M = m ∧ (w || !(dg (pd tx n p))) = true) (fun M ⟨e, h⟩ => hj _ ⟨e, true, rfl, h.symm⟩) (fun j2 hj2 => ?_)
    cases w with
    | true => rw [if_pos (by decide)]; exact hj2 _ ⟨rfl, rfl⟩
    | false =>
      rw [if_neg (by decide)]
      refine gw_if (c.t b) ?_
      refine gw_bI (w_here b c) (fun x m' ⟨e1, e2⟩ => ?_)
      subst e2
      refine gw_bI s_X12_in (fun r m' ⟨z, f⟩ => ?_)
      subst z
      rcases dg_in f with ⟨f1, f2⟩ | ⟨f1, f2⟩
      · rw [if_pos f1]
        exact hj _ ⟨rfl, false, rfl, by rw [← e1, f2]; rfl⟩
      · rw [if_neg (fun h => h f1)]
        exact hj2 _ ⟨rfl, by rw [← e1, f2]; rfl⟩
/-- how a piece of E ends -/
def ro (a n : Nat) (μ : gm_M) (o : Nat) (L : List Int32) (r : pA) (m : gm_M) : Prop := (r.1 = true ∧ rst a n μ false r.2.1 o (L ++ r.2.2) m) ∨ (r.1 = false ∧ ∃ L' : List Int32, rst a n μ true r.2.1 o L' m)
def WF (a n : Nat) (μ : gm_M) (G : Nat → gm_M → Option (Option Value × gm_M)) (o : Nat) (F : Nat → pA) : Prop := ∀ {p : Nat} {L : List Int32} {m : gm_M}, rst a n μ false p o L m → gwV (G 65 m) (fun m' => ro a n μ o L (F p) m')
def WW (a n : Nat) (μ : gm_M) (G : Nat → gm_M → Option (Option Value × gm_M)) : Prop := ∀ {p o : Nat} {L : List Int32} {m : gm_M}, rst a n μ true p o L m → gwV (G 65 m) (fun m' => rst a n μ true p o L m')
/-- a row of factors, so far -/
def rc (tx : Nat → Int32) (n : Nat) (F : Nat → pA) (fu p : Nat) (L : List Int32) (fu' p' : Nat) (L' : List Int32) : Prop := (pS tx n F fu p).1 = (pS tx n F fu' p').1 ∧ (pS tx n F fu p).2.1 = (pS tx n F fu' p').2.1 ∧ ∀ w : Bool, L ++ pC w (pS tx n F fu p).2.2 = L' ++ pC w (pS tx n F fu' p').2.2
def re (a n : Nat) (tx : Nat → Int32) (μ : gm_M) (o : Nat) (F : Nat → pA) (fu p : Nat) (L : List Int32) (m : gm_M) : Prop := ((pS tx n F fu p).1 = false ∧ ∃ L' : List Int32, rst a n μ true (pS tx n F fu p).2.1 o L' m) ∨ ∃ (fu' p' : Nat) (L' : List Int32), rst a n μ false p' o L' m ∧ 101 ≤ fu' + p' ∧ pd tx n p' ≠ 38 ∧ rc tx n F fu p L fu' p' L' ∧ p ≤ p' ∧ L'.length + p ≤ L.length + p'
def WE (a n : Nat) (tx : Nat → Int32) (μ : gm_M) (G : Nat → gm_M → Option (Option Value × gm_M)) (o : Nat) (F : Nat → pA) : Prop := ∀ {p : Nat} {L : List Int32} {m : gm_M} (fu : Nat), rst a n μ false p o L m → 101 ≤ fu + (F p).2.1 → gwV (G 65 m) (fun m' => ((F p).1 = false ∧ ∃ L' : List Int32, rst a n μ true (F p).2.1 o L' m') ∨ ((F p).1 = true ∧ re a n tx μ o F fu (F p).2.1 (L ++ (F p).2.2) m'))
theorem w_every (b : BR a n tx μ) {R0 R1 R2 : Nat → gm_M → Option (Option Value × gm_M)} {F : Nat → pA} (hR : WF a n μ R1 o F) (hF : ∀ p, p ≤ n → pG n p (F p)) : WE a n tx μ (b_X12_every R0 R1 R2) o F := by
  have hn := b.2.2.2.2.1
  · intro p L m fu c hfu
    refine gwV_of ?_
    unfold b_X12_every
    have F0 := hF p c.2.1.1
    have hL := c.2.1.2.2
    refine gw_if (c.t b) ?_
    refine gw_bV (hR c) (fun m1 h1 => ?_)
    rcases h1 with ⟨f1, c1⟩ | ⟨f1, L', c1⟩
    · generalize hI : (fun s : gm_M => ((pS tx n F fu (F p).2.1).1 = false ∧ ∃ L' : List Int32, rst a n μ true (pS tx n F fu (F p).2.1).2.1 o L' s) ∨ ∃ (fu' p' : Nat) (L' : List Int32), rst a n μ false p' o L' s ∧ 101 ≤ fu' + p' ∧ rc tx n F fu (F p).2.1 (L ++ (F p).2.2) fu' p' L' ∧ (F p).2.1 ≤ p' ∧ L'.length + (F p).2.1 ≤ (L ++ (F p).2.2).length + p') = I
      refine gw_loop I (fun s => 200 - (s.2.1 65 6).toInt + 200 - 200 * (s.2.1 65 8).toInt) (fun s hs => ?_) 5000 m1 ?_ ?_ ?_
      · rw [← hI] at hs
        rcases hs with ⟨k1, L', k2⟩ | ⟨fu', p', L', k1, k2, k3, k4, k5⟩
        · replace k2 : rst a n μ true (pS tx n F fu (F p).2.1).2.1 o L' s := k2
          refine gw_gIw (k2.tc b) ?_
          rw [k2.e8, if_pos (by decide)]
          exact gw_some (gs_inr (gq_V (Or.inr ⟨f1, Or.inl ⟨k1, L', k2⟩⟩)))
        · replace k1 : rst a n μ false p' o L' s := k1
          refine gw_gIw (k1.tc b) ?_
          rw [k1.e8, if_neg (by decide)]
          refine gw_if (k1.t b) ?_
          refine gw_bI (w_here b k1) (fun x m' ⟨e1, e2⟩ => ?_)
          subst e2
          refine gw_ite (fun g => ?_) (fun g => ?_)
          · exact gw_some (gs_inr (gq_V (Or.inr ⟨f1, Or.inr ⟨fu', p', L', k1, k2, by rw [← e1]; exact g, k3, k4, k5⟩⟩)))
          · have e38 : pd tx n p' = 38 := by rw [← e1]; exact Decidable.not_not.mp g
            have q : p' < n := pd_lt (tx := tx) (by rw [e38]; decide)
            have hL' := k1.2.1.2.2
            obtain ⟨fv, rfl⟩ : ∃ fv, fu' = fv + 1 := ⟨fu' - 1, by omega⟩
            refine gw_gIw (k1.tc b) ?_
            refine gw_pIw (k1.tc b) ?_
            rw [k1.e6, ofn1 (by omega)]
            have c2 := k1.at (q := p' + 1) (by omega) (by omega)
            have o6 := k1.e6
            have o8 := k1.e8
            have G := hF (p' + 1) q
            refine gw_if (c2.t b) ?_
            refine gw_bV (hR c2) (fun m9 h9 => ?_)
            rcases h9 with ⟨f2, c9⟩ | ⟨f2, L2, c9⟩
            · obtain ⟨G1, G2, G3⟩ := G
              obtain ⟨G4, G5⟩ := G3 f2
              have e1 := pS_ok (tx := tx) (fu := fv) (Or.inl e38) f2
              rw [show decide (pd tx n p' = 124) = false from decide_eq_false (by rw [e38]; decide)] at e1
              refine gw_if (c9.t b) ?_
              refine gw_bV (w_emits b c9 (-2) (fun _ => by rw [List.length_append]; omega)) (fun m11 h11 => ?_)
              rcases h11 with ⟨-, c11⟩ | ⟨h, -⟩
              · have o6' := c11.e6
                have o8' := c11.e8
                have of1 := ofn (k := p') (by omega)
                have of2 := ofn (k := (F (p' + 1)).2.1) (by omega)
                refine gw_some (gs_inl ?_ ?_ ?_)
                · rw [← hI]
                  refine Or.inr ⟨fv, (F (p' + 1)).2.1, _, c11, by omega, ?_, by omega, by rw [List.length_append, List.length_append, List.length_singleton]; omega⟩
                  obtain ⟨r1, r2, r3⟩ := k3
                  refine ⟨by rw [r1, e1], by rw [r2, e1], fun v => ?_⟩
                  rw [r3 v, e1]
                  show L' ++ ((F (p' + 1)).2.2 ++ ((-2 : Int32) :: pC v (pS tx n F fv (F (p' + 1)).2.1).2.2)) = L' ++ (F (p' + 1)).2.2 ++ [-2] ++ pC v (pS tx n F fv (F (p' + 1)).2.1).2.2
                  rw [List.append_assoc, List.append_assoc]; rfl
                · show 200 - (m11.2.1 65 6).toInt + 200 - 200 * (m11.2.1 65 8).toInt < 200 - (m'.2.1 65 6).toInt + 200 - 200 * (m'.2.1 65 8).toInt
                  rw [o6', o8', o6, o8, of1, of2]; omega
                · show 0 ≤ 200 - (m11.2.1 65 6).toInt + 200 - 200 * (m11.2.1 65 8).toInt
                  rw [o6', o8', of2]
                  have : (bw false).toInt = 0 := rfl
                  omega
              · cases h
            · have e1 := pS_no (tx := tx) (fu := fv) (Or.inl e38) f2
              refine gw_if (c9.t b) ?_
              refine gw_bV (w_emits b c9 (-2) (fun h => by cases h)) (fun m11 h11 => ?_)
              rcases h11 with ⟨h, -⟩ | ⟨-, h⟩
              · cases h
              · subst h
                have o6' := c9.e6
                have o8' := c9.e8
                have of1 := ofn (k := p') (by omega)
                have of2 := ofn (k := (F (p' + 1)).2.1) (by have := c9.2.1.1; omega)
                have b0 : (bw false).toInt = 0 := rfl
                have b1 : (bw true).toInt = 1 := rfl
                have := c9.2.1.1
                refine gw_some (gs_inl ?_ ?_ ?_)
                · rw [← hI]
                  obtain ⟨r1, r2, r3⟩ := k3
                  exact Or.inl ⟨by rw [r1, e1], L2, by rw [r2, e1]; exact c9⟩
                · show 200 - (m11.2.1 65 6).toInt + 200 - 200 * (m11.2.1 65 8).toInt < 200 - (m'.2.1 65 6).toInt + 200 - 200 * (m'.2.1 65 8).toInt
                  rw [o6', o8', o6, o8, of1, of2]; omega
                · show 0 ≤ 200 - (m11.2.1 65 6).toInt + 200 - 200 * (m11.2.1 65 8).toInt
                  rw [o6', o8', of2]; omega
      · rw [← hI]
        exact Or.inr ⟨fu, (F p).2.1, _, c1, hfu, ⟨rfl, rfl, fun _ => rfl⟩, Nat.le_refl _, Nat.le_refl _⟩
      · show 200 - (m1.2.1 65 6).toInt + 200 - 200 * (m1.2.1 65 8).toInt < ((5000 : Nat) : Int)
        have := c1.2.1.1
        have b0 : (bw false).toInt = 0 := rfl
        rw [c1.e6, c1.e8, ofn (k := (F p).2.1) (by omega)]; omega
      · show 0 ≤ 200 - (m1.2.1 65 6).toInt + 200 - 200 * (m1.2.1 65 8).toInt
        have := c1.2.1.1
        have b0 : (bw false).toInt = 0 := rfl
        rw [c1.e6, c1.e8, ofn (k := (F p).2.1) (by omega)]; omega
    · -- wrong at once
      refine gw_loop (fun s => s = m1) (fun _ => 0) (fun s hs => ?_) 5000 m1 rfl (by decide) (by decide)
      subst hs
      refine gw_gIw (c1.tc b) ?_
      rw [c1.e8, if_pos (by decide)]
      exact gw_some (gs_inr (gq_V (Or.inl ⟨f1, L', c1⟩)))
theorem w_every_w (b : BR a n tx μ) {R0 R1 R2 : Nat → gm_M → Option (Option Value × gm_M)} (hW : WW a n μ R1) : WW a n μ (b_X12_every R0 R1 R2) := by
  · intro p o L m c
    refine gwV_of ?_
    unfold b_X12_every
    refine gw_if (c.t b) ?_
    refine gw_bV (hW c) (fun m1 c1 => ?_)
    refine gw_loop (fun s => s = m1) (fun _ => 0) (fun s hs => ?_) 5000 m1 rfl (by decide) (by decide)
    subst hs
    refine gw_gIw (c1.tc b) ?_
    rw [c1.e8, if_pos (by decide)]
    exact gw_some (gs_inr (gq_V c1))
theorem pC_flip {F : Nat → pA} {fu : Nat} (h : pd tx n p ≠ 38) : pC true (pS tx n F fu p).2.2 = -3 :: pC false (pS tx n F fu p).2.2 := by
  cases fu with
  | zero => rfl
  | succ fv =>
    by_cases h2 : pd tx n p = 124
    · cases f : (F (p + 1)).1 with
      | true =>
        rw [pS_ok (Or.inr h2) f, show decide (pd tx n p = 124) = true from decide_eq_true h2]
        rfl
      | false => rw [pS_no (Or.inr h2) f]; rfl
    · rw [pS_end h h2]; rfl
theorem w_some (b : BR a n tx μ) {R0 R1 R2 : Nat → gm_M → Option (Option Value × gm_M)} {F : Nat → pA} (hR : WE a n tx μ R0 o F) (hF : ∀ p, p ≤ n → pG n p (F p)) : WF a n μ (b_X12_some R0 R1 R2) o (pE tx n F) := by
  have hn := b.2.2.2.2.1
  have b0 : (bw false).toInt = 0 := rfl
  have b1 : (bw true).toInt = 1 := rfl
  · intro p L m c
    refine gwV_of ?_
    unfold b_X12_some
    have F0 := hF p c.2.1.1
    have hL := c.2.1.2.2
    refine gw_if (c.t b) ?_
    refine gw_bV (hR (101 - (F p).2.1) c (by omega)) (fun m1 h1 => ?_)
    rcases h1 with ⟨f1, L', c1⟩ | ⟨f1, h1⟩
    · have eE : pE tx n F p = (false, (F p).2.1, []) := by unfold pE; rw [if_neg (by rw [f1]; decide)]
      refine gw_loop (fun s => s = m1) (fun _ => 0) (fun s hs => ?_) 5000 m1 rfl (by decide) (by decide)
      subst hs
      refine gw_gIw (c1.tc b) ?_
      rw [c1.e8, if_pos (by decide)]
      exact gw_some (gs_inr (gq_V (Or.inr ⟨by rw [eE], L', by rw [eE]; exact c1⟩)))
    · have eE : pE tx n F p = ((pS tx n F (101 - (F p).2.1) (F p).2.1).1, (pS tx n F (101 - (F p).2.1) (F p).2.1).2.1, (F p).2.2 ++ pC false (pS tx n F (101 - (F p).2.1) (F p).2.1).2.2) := by unfold pE; rw [if_pos f1]
      -- how it stands ahead of a |
      generalize hI : (fun s : gm_M => ((pE tx n F p).1 = false ∧ ∃ L' : List Int32, rst a n μ true (pE tx n F p).2.1 o L' s) ∨ ∃ (fu' p' : Nat) (L' : List Int32), rst a n μ false p' o L' s ∧ 101 ≤ fu' + p' ∧ pd tx n p' ≠ 38 ∧ (pE tx n F p).1 = (pS tx n F fu' p').1 ∧ (pE tx n F p).2.1 = (pS tx n F fu' p').2.1 ∧ L ++ (pE tx n F p).2.2 = L' ++ pC false (pS tx n F fu' p').2.2) = I
      have h0 : I m1 := by
        rw [← hI]
        rcases h1 with ⟨k1, L', k2⟩ | ⟨fu', p', L', k1, k2, k3, ⟨r1, r2, r3⟩, -, -⟩
        · exact Or.inl ⟨by rw [eE]; exact k1, L', by rw [eE]; exact k2⟩
        · exact Or.inr ⟨fu', p', L', k1, k2, k3, by rw [eE]; exact r1, by rw [eE]; exact r2, by rw [eE, ← r3 false, List.append_assoc]⟩
      have hb : ∀ s, I s → 0 ≤ 200 - (s.2.1 65 6).toInt + 200 - 200 * (s.2.1 65 8).toInt ∧ 200 - (s.2.1 65 6).toInt + 200 - 200 * (s.2.1 65 8).toInt < 5000 := fun s hs => by
        rw [← hI] at hs
        rcases hs with ⟨k1, L', k2⟩ | ⟨fu', p', L', k1, -⟩
        · replace k2 : rst a n μ true (pE tx n F p).2.1 o L' s := k2
          have := k2.2.1.1
          rw [k2.e6, k2.e8, ofn (k := (pE tx n F p).2.1) (by omega)]; omega
        · replace k1 : rst a n μ false p' o L' s := k1
          have := k1.2.1.1
          rw [k1.e6, k1.e8, ofn (k := p') (by omega)]; omega
      refine gw_loop I (fun s => 200 - (s.2.1 65 6).toInt + 200 - 200 * (s.2.1 65 8).toInt) (fun s hs => ?_) 5000 m1 h0 (hb m1 h0).2 (hb m1 h0).1
      have hs' := hs
      rw [← hI] at hs
      rcases hs with ⟨k1, L', k2⟩ | ⟨fu', p', L', k1, k2, k3, r1, r2, r3⟩
      · replace k2 : rst a n μ true (pE tx n F p).2.1 o L' s := k2
        refine gw_gIw (k2.tc b) ?_
        rw [k2.e8, if_pos (by decide)]
        exact gw_some (gs_inr (gq_V (Or.inr ⟨k1, L', k2⟩)))
      · replace k1 : rst a n μ false p' o L' s := k1
        refine gw_gIw (k1.tc b) ?_
        rw [k1.e8, if_neg (by decide)]
        refine gw_if (k1.t b) ?_
        refine gw_bI (w_here b k1) (fun x m' ⟨e1, e2⟩ => ?_)
        subst e2
        refine gw_ite (fun g => ?_) (fun g => ?_)
        · have e := pS_end (F := F) k3 (by rw [← e1]; exact g) fu'
          rw [e] at r1 r2 r3
          refine gw_some (gs_inr (gq_V (Or.inl ⟨r1, ?_⟩)))
          rw [r2, r3]
          show rst a n μ false p' o (L' ++ ([] : List Int32)) m'
          rw [List.append_nil]; exact k1
        · have e124 : pd tx n p' = 124 := by rw [← e1]; exact Decidable.not_not.mp g
          have q : p' < n := pd_lt (tx := tx) (by rw [e124]; decide)
          have hL' := k1.2.1.2.2
          obtain ⟨fv, rfl⟩ : ∃ fv, fu' = fv + 1 := ⟨fu' - 1, by omega⟩
          refine gw_gIw (k1.tc b) ?_
          refine gw_pIw (k1.tc b) ?_
          rw [k1.e6, ofn1 (by omega)]
          have c2 := k1.at (q := p' + 1) (by omega) (by omega)
          have o6 := k1.e6
          have o8 := k1.e8
          obtain ⟨G1, G2, G3⟩ := hF (p' + 1) q
          have of1 := ofn (k := p') (by omega)
          have of2 := ofn (k := (F (p' + 1)).2.1) (by omega)
          refine gw_if (c2.t b) ?_
          refine gw_bV (hR fv c2 (by omega)) (fun m9 h9 => ?_)
          -- ends that are wrong
          have bad : ∀ (q : Nat) (L2 : List Int32), p' ≤ q → (pE tx n F p).1 = false → (pE tx n F p).2.1 = q → rst a n μ true q o L2 m9 → gw (if gm_tag m9 65 = 17 then gm_bV (f_X12_emits 65 (-3 : Int32) m9) (fun m11 => some (Sum.inl m11)) else none) (gs_st I (fun s => 200 - (s.2.1 65 6).toInt + 200 - 200 * (s.2.1 65 8).toInt) m' (gqV (fun m' => ro a n μ o L (pE tx n F p) m'))) := fun q L2 hq z1 z2 z3 => by
            have z4 := z3.2.1.1
            refine gw_if (z3.t b) ?_
            refine gw_bV (w_emits b z3 (-3) (fun h => by cases h)) (fun m11 h11 => ?_)
            rcases h11 with ⟨h, -⟩ | ⟨-, h⟩
            · cases h
            · subst h
              have hh : I m11 := by rw [← hI]; exact Or.inl ⟨z1, L2, by rw [z2]; exact z3⟩
              refine gw_some (gs_inl hh ?_ (hb m11 hh).1)
              show 200 - (m11.2.1 65 6).toInt + 200 - 200 * (m11.2.1 65 8).toInt < 200 - (m'.2.1 65 6).toInt + 200 - 200 * (m'.2.1 65 8).toInt
              rw [z3.e6, z3.e8, o6, o8, of1, ofn (k := q) (by omega)]; omega
          rcases h9 with ⟨f2, L2, c9⟩ | ⟨f2, h9⟩
          · have e1 := pS_no (tx := tx) (fu := fv) (Or.inr e124) f2
            exact bad _ L2 (by omega) (by rw [r1, e1]) (by rw [r2, e1]) c9
          · obtain ⟨G4, G5⟩ := G3 f2
            have e1 := pS_ok (tx := tx) (fu := fv) (Or.inr e124) f2
            rw [show decide (pd tx n p' = 124) = true from decide_eq_true e124] at e1
            rcases h9 with ⟨j1, L2, j2⟩ | ⟨fu2, p2, L2, j1, j2, j3, ⟨q1, q2, q3⟩, j5, j6⟩
            · have := (pS_g (tx := tx) hF fv (F (p' + 1)).2.1 G2).1
              exact bad _ L2 (by omega) (by rw [r1, e1]; exact j1) (by rw [r2, e1]) j2
            · have hlen : L2.length + 1 ≤ p2 ∧ (F (p' + 1)).2.1 ≤ p2 := by
                rw [List.length_append] at j6
                omega
              have j4 := j1.2.1.1
              refine gw_if (j1.t b) ?_
              refine gw_bV (w_emits b j1 (-3) (fun _ => hlen.1)) (fun m11 h11 => ?_)
              rcases h11 with ⟨-, c11⟩ | ⟨h, -⟩
              · have hh : I m11 := by
                  rw [← hI]
                  refine Or.inr ⟨fu2, p2, _, c11, j2, j3, by rw [r1, e1]; exact q1, by rw [r2, e1]; exact q2, ?_⟩
                  rw [r3, e1]
                  show L' ++ ((F (p' + 1)).2.2 ++ pC true (pS tx n F fv (F (p' + 1)).2.1).2.2) = L2 ++ [-3] ++ pC false (pS tx n F fu2 p2).2.2
                  rw [← List.append_assoc, q3 true, pC_flip j3, List.append_assoc]; rfl
                refine gw_some (gs_inl hh ?_ (hb m11 hh).1)
                show 200 - (m11.2.1 65 6).toInt + 200 - 200 * (m11.2.1 65 8).toInt < 200 - (m'.2.1 65 6).toInt + 200 - 200 * (m'.2.1 65 8).toInt
                rw [c11.e6, c11.e8, o6, o8, of1, ofn (k := p2) (by omega)]; omega
              · cases h
theorem w_some_w (b : BR a n tx μ) {R0 R1 R2 : Nat → gm_M → Option (Option Value × gm_M)} (hW : WW a n μ R0) : WW a n μ (b_X12_some R0 R1 R2) := by
  · intro p o L m c
    refine gwV_of ?_
    unfold b_X12_some
    refine gw_if (c.t b) ?_
    refine gw_bV (hW c) (fun m1 c1 => ?_)
    refine gw_loop (fun s => s = m1) (fun _ => 0) (fun s hs => ?_) 5000 m1 rfl (by decide) (by decide)
    subst hs
    refine gw_gIw (c1.tc b) ?_
    rw [c1.e8, if_pos (by decide)]
    exact gw_some (gs_inr (gq_V c1))
end
