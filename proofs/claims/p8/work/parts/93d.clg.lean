def pWN (tx : Nat → Int32) (n : Nat) (u : UInt32) (p : Nat) : Bool × Nat × Int32 := if (pW tx n u (gm_bn (u + 6)) p).1 = true then pN tx n (pW tx n u (gm_bn (u + 6)) p).2 else (false, (pW tx n u (gm_bn (u + 6)) p).2, -1)
theorem pW_g {tx : Nat → Int32} {n : Nat} {u : UInt32} (hu : gm_isS u) : ∀ k p : Nat, p ≤ n → k ≤ gm_bn (u + 6) → p ≤ (pW tx n u k p).2 ∧ (pW tx n u k p).2 ≤ n ∧ ((pW tx n u k p).1 = true → p + k ≤ (pW tx n u k p).2)
  | 0, p, h, _ => ⟨Nat.le_refl _, h, fun _ => Nat.le_refl _⟩
  | k + 1, p, h, hk => by
    unfold pW
    have six := (tx_len (μ := gi0) hu).2
    have tc := tx_char (μ := gi0) hu (i := Int32.ofNat (gm_bn (u + 6) - (k + 1))) (by rw [ofn (by omega)]; omega) (by rw [ofn (by omega)]; omega)
    by_cases e : pd tx n p = gm_bb (u + 6) (gm_bn (u + 6) - (k + 1))
    · rw [if_pos e]
      have a : p < n := pd_lt (tx := tx) (fun q => by
        have t2 := tc.2
        rw [ofn (by omega), Int.toNat_natCast, ← e, q] at t2
        exact absurd t2 (by decide))
      obtain ⟨h1, h2, h3⟩ := pW_g hu k (p + 1) a (by omega)
      exact ⟨by omega, h2, fun q => by have := h3 q; omega⟩
    · rw [if_neg e]
      exact ⟨Nat.le_refl _, h, fun q => by cases q⟩
theorem pWN_g {tx : Nat → Int32} {n : Nat} {u : UInt32} (hu : gm_isS u) {p : Nat} (h : p ≤ n) : p ≤ (pWN tx n u p).2.1 ∧ (pWN tx n u p).2.1 ≤ n ∧ ((pWN tx n u p).1 = true → p + gm_bn (u + 6) < (pWN tx n u p).2.1 ∧ 0 ≤ (pWN tx n u p).2.2.toInt ∧ (pWN tx n u p).2.2.toInt ≤ 99) := by
  obtain ⟨h1, h2, h3⟩ := pW_g (tx := tx) hu (gm_bn (u + 6)) p h (Nat.le_refl _)
  unfold pWN
  by_cases e : (pW tx n u (gm_bn (u + 6)) p).1 = true
  · rw [if_pos e]
    obtain ⟨g1, g2, g3⟩ := pN_g (tx := tx) h2
    exact ⟨by omega, g2, fun q => by have := g3 q; have := h3 e; omega⟩
  · rw [if_neg e]
    exact ⟨h1, h2, fun q => by cases q⟩
theorem pS_end {tx : Nat → Int32} {n : Nat} {F : Nat → pA} {p : Nat} (h1 : pd tx n p ≠ 38) (h2 : pd tx n p ≠ 124) : ∀ fu : Nat, pS tx n F fu p = (true, p, [])
  | 0 => rfl
  | fu + 1 => by unfold pS; rw [if_neg (fun h => h.elim h1 h2)]
theorem pS_ok {tx : Nat → Int32} {n : Nat} {F : Nat → pA} {p fu : Nat} (h1 : pd tx n p = 38 ∨ pd tx n p = 124) (h2 : (F (p + 1)).1 = true) : pS tx n F (fu + 1) p = ((pS tx n F fu (F (p + 1)).2.1).1, (pS tx n F fu (F (p + 1)).2.1).2.1, (decide (pd tx n p = 124), (F (p + 1)).2.2) :: (pS tx n F fu (F (p + 1)).2.1).2.2) := by
  rw [pS, if_pos h1, if_pos h2]
theorem pS_no {tx : Nat → Int32} {n : Nat} {F : Nat → pA} {p fu : Nat} (h1 : pd tx n p = 38 ∨ pd tx n p = 124) (h2 : (F (p + 1)).1 = false) : pS tx n F (fu + 1) p = (false, (F (p + 1)).2.1, []) := by
  rw [pS, if_pos h1, if_neg (by rw [h2]; decide)]
section
variable {A n p : Nat} {tx : Nat → Int32} {μ m : gm_M} {C : List Int32}
theorem v_word (b : BS A n tx μ) (c : cst A n μ p C m) {u : UInt32} (hu : gm_isS u) : gwI (f_X0_readWordAndNumber A u m) (fun x m' => x = (if (pWN tx n u p).1 = true then (pWN tx n u p).2.2 else -1) ∧ cst A n μ (pWN tx n u p).2.1 C m') := by
  refine gwI_of ?_
  unfold f_X0_readWordAndNumber
  have l0 : (0 : Int32).toInt = 0 := rfl
  have l1 : (1 : Int32).toInt = 1 := rfl
  have six := (tx_len (μ := μ) hu).2
  have oL := ofn (k := gm_bn (u + 6)) (by omega)
  refine gw_loop (fun s => ∃ k p' : Nat, s.1 = Int32.ofNat k ∧ k ≤ gm_bn (u + 6) ∧ cst A n μ p' C s.2 ∧ pW tx n u (gm_bn (u + 6) - k) p' = pW tx n u (gm_bn (u + 6)) p) (fun s => 6 - s.1.toInt) (fun s hs => ?_) 5000 ((0 : Int32), m) ⟨0, p, rfl, Nat.zero_le _, c, rfl⟩ (by show 6 - (0 : Int32).toInt < ((5000 : Nat) : Int); omega) (by show 0 ≤ 6 - (0 : Int32).toInt; omega)
  obtain ⟨s1, s2⟩ := s
  obtain ⟨k, p', es, hk, c', hw⟩ := hs
  replace es : s1 = Int32.ofNat k := es
  subst es
  replace c' : cst A n μ p' C s2 := c'
  have ok := ofn (k := k) (by omega)
  refine gw_if hu ?_
  refine gw_bI (R := fun x m' => m' = s2 ∧ x = Int32.ofNat (gm_bn (u + 6))) ⟨_, _, (tx_len hu).1, rfl, rfl⟩ (fun x m' ⟨z, ex⟩ => ?_)
  subst z
  subst ex
  refine gw_le (fun g => ?_) (fun g => ?_)
  · replace g : (Int32.ofNat (gm_bn (u + 6))).toInt ≤ (Int32.ofNat k).toInt := g
    rw [show gm_bn (u + 6) - k = 0 by omega] at hw
    have eW : pWN tx n u p = pN tx n p' := by
      unfold pWN; rw [← hw]; exact if_pos rfl
    refine gw_if (c'.t b) ?_
    refine gw_bI (v_number b c') (fun x m2 ⟨e1, c2⟩ => ?_)
    rw [eW]
    exact gw_some (gs_inr (gq_I ⟨e1, c2⟩))
  · replace g : (Int32.ofNat k).toInt < (Int32.ofNat (gm_bn (u + 6))).toInt := g
    refine gw_if hu ?_
    have tc := tx_char (μ := m') hu (i := Int32.ofNat k) (by omega) (by omega)
    rw [ok, Int.toNat_natCast] at tc
    refine gw_bI (R := fun x m2 => m2 = m' ∧ x = gm_bb (u + 6) k) ⟨_, _, tc.1, rfl, rfl⟩ (fun x m2 ⟨z, ex⟩ => ?_)
    subst z
    subst ex
    refine gw_if (c'.t b) ?_
    rw [show gm_bn (u + 6) - k = (gm_bn (u + 6) - (k + 1)) + 1 by omega] at hw
    rw [pW] at hw
    rw [show gm_bn (u + 6) - (gm_bn (u + 6) - (k + 1) + 1) = k by omega] at hw
    refine gw_bI (v_take b c' (a := gm_bb (u + 6) k) (fun q => by have t2 := tc.2; rw [q] at t2; exact absurd t2 (by decide))) (fun x m3 h3 => ?_)
    rcases h3 with ⟨ex, ep, c3⟩ | ⟨ex, ep, em⟩
    · rw [if_pos ep] at hw
      subst ex
      refine gw_if (by decide) ?_
      refine gw_some (gs_inl ⟨k + 1, p' + 1, ofn1 (by omega), by omega, c3, ?_⟩ ?_ ?_)
      · exact hw
      · show 6 - (Int32.ofNat k + 1).toInt < 6 - (Int32.ofNat k).toInt
        rw [ofn1 (by omega), ofn (k := k + 1) (by omega)]; omega
      · show 0 ≤ 6 - (Int32.ofNat k + 1).toInt
        rw [ofn1 (by omega), ofn (k := k + 1) (by omega)]; omega
    · rw [if_neg ep] at hw
      subst ex
      subst em
      rw [if_neg (by decide)]
      have eW : pWN tx n u p = (false, p', -1) := by
        unfold pWN; rw [← hw]; exact if_neg Bool.false_ne_true
      rw [eW]
      exact gw_some (gs_inr (gq_I ⟨rfl, c'⟩))
def VF (A n : Nat) (μ : gm_M) (G : Nat → Int32 → gm_M → Option (Option Value × gm_M)) (a : Int32) (F : Nat → pA) : Prop := ∀ {p : Nat} {C : List Int32} {m : gm_M}, cst A n μ p C m → C.length ≤ p → gwI (G A a m) (fun x m' => vo A n μ C (F p) x m')
theorem v_either (b : BS A n tx μ) {R0 R1 : Nat → Int32 → gm_M → Option (Option Value × gm_M)} {a : Int32} {F : Nat → pA} (hR : VF A n μ R1 a F) (hF : ∀ p, p ≤ n → pG n p (F p)) : VF A n μ (b_X0_readEither R0 R1) a (pE tx n F) := by
  intro p C m c hC
  refine gwI_of ?_
  unfold b_X0_readEither
  have hn := b.2.2.2.2.1
  have on : (Int32.ofNat n).toInt = n := ofn (by omega)
  have F0 := hF p c.2.1
  refine gw_if (c.t b) ?_
  refine gw_bI (hR c hC) (fun x1 m1 h1 => ?_)
  rcases h1 with ⟨ex, f1, c1⟩ | ⟨ex, f1, C', c1⟩
  · subst ex
    obtain ⟨F1, F2, F3⟩ := F0
    obtain ⟨F4, F5⟩ := F3 f1
    have eE : pE tx n F p = ((pS tx n F (101 - (F p).2.1) (F p).2.1).1, (pS tx n F (101 - (F p).2.1) (F p).2.1).2.1, (F p).2.2 ++ pC false (pS tx n F (101 - (F p).2.1) (F p).2.1).2.2) := by unfold pE; rw [if_pos f1]
    refine gw_if (by decide) ?_
    refine gw_gIw (c1.tc b) ?_
    rw [c1.e9]
    generalize hI : (fun s : Int32 × Int32 × gm_M => ∃ (w : Bool) (q : Nat) (D : List Int32) (fu i : Nat), s.1 = (if w = true then 1 else 0) ∧ s.2.1 = Int32.ofNat i ∧ i ≤ q ∧ 101 ≤ fu + q ∧ cst A n μ q D s.2.2 ∧ D.length + (if w = true then 1 else 0) ≤ q ∧ (pE tx n F p).1 = (pS tx n F fu q).1 ∧ (pE tx n F p).2.1 = (pS tx n F fu q).2.1 ∧ C ++ (pE tx n F p).2.2.map cv = D ++ (pC w (pS tx n F fu q).2.2).map cv) = I
    have iI : ∀ (x y : Int32) (M : gm_M) (w : Bool) (q : Nat) (D : List Int32) (fu i : Nat), x = (if w = true then 1 else 0) → y = Int32.ofNat i → i ≤ q → 101 ≤ fu + q → cst A n μ q D M → D.length + (if w = true then 1 else 0) ≤ q → (pE tx n F p).1 = (pS tx n F fu q).1 → (pE tx n F p).2.1 = (pS tx n F fu q).2.1 → C ++ (pE tx n F p).2.2.map cv = D ++ (pC w (pS tx n F fu q).2.2).map cv → I (x, y, M) := fun x y M w q D fu i h1 h2 h3 h4 h5 h6 h7 h8 h9 => by rw [← hI]; exact ⟨w, q, D, fu, i, h1, h2, h3, h4, h5, h6, h7, h8, h9⟩
    refine gw_loop I (fun s => 200 - s.2.1.toInt) (fun s hs => ?_) 5000 ((0 : Int32), Int32.ofNat (F p).2.1, m1) ?_ ?_ ?_
    · obtain ⟨s1, s2, s3⟩ := s
      rw [← hI] at hs
      obtain ⟨w, q, D, fu, i, h1, h2, h3, h4, h5, h6, h7, h8, h9⟩ := hs
      replace h1 : s1 = (if w = true then 1 else 0) := h1
      replace h2 : s2 = Int32.ofNat i := h2
      replace h5 : cst A n μ q D s3 := h5
      subst h2
      have hq := h5.2.1
      have oi := ofn (k := i) (by omega)
      refine gw_gIw (h5.tc b) ?_
      rw [h5.e8 b]
      refine gw_j (fun M => cst A n μ q D M ∧ pS tx n F fu q = (true, q, [])) (fun M ⟨k1, k2⟩ => ?_) (fun j7 hj7 => ?_)
      · rw [k2] at h7 h8 h9
        refine gw_ite (fun g => ?_) (fun g => ?_)
        · have ew : w = false := by
            cases w with
            | false => rfl
            | true => exact absurd (h1.symm.trans g) (by decide)
          subst ew
          refine gw_z Iff.rfl (Or.inr rfl) (gs_inr (gq_I (Or.inl ⟨rfl, h7, ?_⟩)))
          rw [h8, h9]
          show cst A n μ q (D ++ ([] : List Int32)) M
          rw [List.append_nil]; exact k1
        · have ew : w = true := by
            cases w with
            | true => rfl
            | false => exact absurd h1 g
          subst ew
          replace h6 : D.length + 1 ≤ q := h6
          refine gw_if (k1.t b) ?_
          refine gw_bV (v_put b k1 (by omega) (-3)) (fun M2 k3 => ?_)
          refine gw_z Iff.rfl (Or.inr rfl) (gs_inr (gq_I (Or.inl ⟨rfl, h7, ?_⟩)))
          rw [h8, h9]
          exact k3
      · refine gw_le (fun g => ?_) (fun g => ?_)
        · replace g : (Int32.ofNat n).toInt ≤ (Int32.ofNat i).toInt := g
          have e : pd tx n q = -1 := by unfold pd; rw [if_neg (by omega)]
          exact hj7 _ ⟨h5, pS_end (by rw [e]; decide) (by rw [e]; decide) fu⟩
        · refine gw_if (h5.t b) ?_
          refine gw_bI (v_take b h5 (a := 38) (by decide)) (fun x10 m10 h10 => ?_)
          refine gw_j (fun t : Int32 × gm_M => I (t.1, Int32.ofNat i + 1, t.2)) (fun t ht => ?_) (fun j13 hj13 => ?_)
          · replace g : (Int32.ofNat i).toInt < (Int32.ofNat n).toInt := g
            refine gw_some (gs_inl ht ?_ ?_)
            · show 200 - (Int32.ofNat i + 1).toInt < 200 - (Int32.ofNat i).toInt
              rw [ofn1 (by omega), ofn (k := i + 1) (by omega)]; omega
            · show 0 ≤ 200 - (Int32.ofNat i + 1).toInt
              rw [ofn1 (by omega), ofn (k := i + 1) (by omega)]; omega
          · rcases h10 with ⟨ex, ep, c10⟩ | ⟨ex, ep, em⟩
            · -- &
              subst ex
              rw [if_neg (by decide)]
              have hq1 := c10.2.1
              have G := hF (q + 1) hq1
              obtain ⟨fv, rfl⟩ : ∃ fv, fu = fv + 1 := ⟨fu - 1, by omega⟩
              refine gw_if (c10.t b) ?_
              refine gw_bI (hR c10 (by split at h6 <;> omega)) (fun x22 m22 h22 => ?_)
              rcases h22 with ⟨ex, f2, c22⟩ | ⟨ex, f2, C2, c22⟩
              · subst ex
                refine gw_if (by decide) ?_
                have e1 := pS_ok (tx := tx) (fu := fv) (Or.inl ep) f2
                rw [show decide (pd tx n q = 124) = false from decide_eq_false (by rw [ep]; decide)] at e1
                rw [e1] at h7 h8 h9
                obtain ⟨G1, G2, G3⟩ := G
                obtain ⟨G4, G5⟩ := G3 f2
                have len : (D ++ (F (q + 1)).2.2.map cv).length = D.length + (F (q + 1)).2.2.length := by rw [List.length_append, List.length_map]
                refine gw_if (c22.t b) ?_
                refine gw_bV (v_put b c22 (by rw [len]; split at h6 <;> omega) (-2)) (fun m24 c24 => ?_)
                refine hj13 _ (iI _ _ _ w (F (q + 1)).2.1 _ fv (i + 1) h1 (ofn1 (by omega)) (by omega) (by omega) c24 ?_ h7 h8 ?_)
                · rw [List.length_append, len, List.length_singleton]; split <;> split at h6 <;> omega
                · rw [h9]
                  show D ++ ((F (q + 1)).2.2 ++ ((-2 : Int32) :: pC w (pS tx n F fv (F (q + 1)).2.1).2.2)).map cv = D ++ (F (q + 1)).2.2.map cv ++ [-2] ++ (pC w (pS tx n F fv (F (q + 1)).2.1).2.2).map cv
                  rw [List.map_append, List.map_cons, cv_neg (by decide), List.append_assoc, List.append_assoc]; rfl
              · subst ex
                rw [if_neg (by decide)]
                have e1 := pS_no (tx := tx) (fu := fv) (Or.inl ep) f2
                rw [e1] at h7 h8
                exact gw_z Iff.rfl (Or.inl rfl) (gs_inr (gq_I (Or.inr ⟨rfl, h7, C2, by rw [h8]; exact c22⟩)))
            · subst ex
              subst em
              rw [if_pos rfl]
              refine gw_if (h5.t b) ?_
              refine gw_bI (v_take b h5 (a := 124) (by decide)) (fun x15 m14 h14 => ?_)
              rcases h14 with ⟨ex, ep2, c14⟩ | ⟨ex, ep2, em⟩
              · -- |
                subst ex
                rw [if_neg (by decide)]
                have hq1 := c14.2.1
                have G := hF (q + 1) hq1
                obtain ⟨fv, rfl⟩ : ∃ fv, fu = fv + 1 := ⟨fu - 1, by omega⟩
                refine gw_j (fun M => cst A n μ (q + 1) (D ++ (if w = true then [-3] else [])) M) (fun M k1 => ?_) (fun j17 hj17 => ?_)
                · have len0 : (D ++ (if w = true then [-3] else []) : List Int32).length ≤ q := by
                    rw [List.length_append]
                    cases w with
                    | true => exact h6
                    | false => exact h6
                  refine gw_if (k1.t b) ?_
                  refine gw_bI (hR k1 (by omega)) (fun x19 m18 h18 => ?_)
                  rcases h18 with ⟨ex, f2, c18⟩ | ⟨ex, f2, C2, c18⟩
                  · subst ex
                    refine gw_if (by decide) ?_
                    have e1 := pS_ok (tx := tx) (fu := fv) (Or.inr ep2) f2
                    rw [show decide (pd tx n q = 124) = true from decide_eq_true ep2] at e1
                    rw [e1] at h7 h8 h9
                    obtain ⟨G1, G2, G3⟩ := G
                    obtain ⟨G4, G5⟩ := G3 f2
                    refine hj13 _ (iI _ _ _ true (F (q + 1)).2.1 _ fv (i + 1) rfl (ofn1 (by omega)) (by omega) (by omega) c18 ?_ h7 h8 ?_)
                    · rw [List.length_append, List.length_map, if_pos rfl]; omega
                    · rw [h9]
                      show D ++ ((if w = true then [-3] else []) ++ ((F (q + 1)).2.2 ++ pC true (pS tx n F fv (F (q + 1)).2.1).2.2)).map cv = D ++ (if w = true then [-3] else []) ++ (F (q + 1)).2.2.map cv ++ (pC true (pS tx n F fv (F (q + 1)).2.1).2.2).map cv
                      have ew : (if w = true then [-3] else [] : List Int32).map cv = (if w = true then [-3] else []) := by cases w <;> rfl
                      rw [List.map_append, List.map_append, ew, List.append_assoc, List.append_assoc]
                  · subst ex
                    rw [if_neg (by decide)]
                    have e1 := pS_no (tx := tx) (fu := fv) (Or.inr ep2) f2
                    rw [e1] at h7 h8
                    exact gw_z Iff.rfl (Or.inl rfl) (gs_inr (gq_I (Or.inr ⟨rfl, h7, C2, by rw [h8]; exact c18⟩)))
                · refine gw_ite (fun g => ?_) (fun g => ?_)
                  · have ew : w = false := by
                      cases w with
                      | false => rfl
                      | true => exact absurd (h1.symm.trans g) (by decide)
                    subst ew
                    exact hj17 _ (by rw [if_neg (by decide), List.append_nil]; exact c14)
                  · have ew : w = true := by
                      cases w with
                      | true => rfl
                      | false => exact absurd h1 g
                    subst ew
                    replace h6 : D.length + 1 ≤ q := h6
                    refine gw_if (c14.t b) ?_
                    exact gw_bV (v_put b c14 (by omega) (-3)) (fun M2 k3 => hj17 _ k3)
              · subst ex
                subst em
                rw [if_pos rfl]
                exact hj7 _ ⟨h5, pS_end ep ep2 fu⟩
    · refine iI _ _ _ false (F p).2.1 _ (101 - (F p).2.1) (F p).2.1 rfl rfl (Nat.le_refl _) (by omega) c1 ?_ (by rw [eE]) (by rw [eE]) ?_
      · rw [List.length_append, List.length_map, if_neg (by decide)]; omega
      · rw [eE]
        show C ++ ((F p).2.2 ++ pC false _).map cv = C ++ (F p).2.2.map cv ++ (pC false _).map cv
        rw [List.map_append, List.append_assoc]
    · show 200 - (Int32.ofNat (F p).2.1).toInt < ((5000 : Nat) : Int)
      rw [ofn (k := (F p).2.1) (by omega)]; omega
    · show 0 ≤ 200 - (Int32.ofNat (F p).2.1).toInt
      rw [ofn (k := (F p).2.1) (by omega)]; omega
  · subst ex
    rw [if_neg (by decide)]
    have eE : pE tx n F p = (false, (F p).2.1, []) := by unfold pE; rw [if_neg (by rw [f1]; decide)]
    exact gw_z Iff.rfl (Or.inl rfl) (gq_I (Or.inr ⟨rfl, by rw [eE], C', by rw [eE]; exact c1⟩))
theorem v_factor (b : BS A n tx μ) {R0 R1 : Nat → Int32 → gm_M → Option (Option Value × gm_M)} {e : Nat} (he : e ≤ 5) (h0 : ∀ e', e = e' + 1 → VF A n μ R0 (Int32.ofNat (5 - e')) (pE tx n (pF tx n e'))) (h1 : ∀ e', e = e' + 1 → VF A n μ R1 (Int32.ofNat (5 - e')) (pF tx n e')) : VF A n μ (b_X0_readFactor R0 R1) (Int32.ofNat (5 - e)) (pF tx n e) := by
  intro p C m c hC
  refine gwI_of ?_
  unfold b_X0_readFactor
  have hn := b.2.2.2.2.1
  have hp := c.2.1
  have l5 : (5 : Int32).toInt = 5 := rfl
  have oe := ofn (k := 5 - e) (by omega)
  refine gw_if (c.t b) ?_
  refine gw_bI (v_next b c) (fun x m' ⟨ex, em⟩ => ?_)
  subst em
  refine gw_j (fun _ => x = 33 ∨ x = 40) (fun _ hx => ?_) (fun j hj => ?_)
  · have q : p < n := pd_lt (tx := tx) (by rw [← ex]; intro h; rw [h] at hx; exact absurd hx (by decide))
    refine gw_lt (fun g => ?_) (fun g => ?_)
    · obtain ⟨d, rfl⟩ : ∃ d, e = d + 1 := ⟨e - 1, by omega⟩
      have h0' : VF A n μ R0 (Int32.ofNat (5 - d)) (pE tx n (pF tx n d)) := h0 d rfl
      have h1' : VF A n μ R1 (Int32.ofNat (5 - d)) (pF tx n d) := h1 d rfl
      have ea : Int32.ofNat (5 - (d + 1)) + 1 = Int32.ofNat (5 - d) := by rw [ofn1 (by omega), show 5 - (d + 1) + 1 = 5 - d by omega]
      refine gw_gIw (c.tc b) ?_
      refine gw_pIw (c.tc b) ?_
      rw [c.e9, ofn1 (by omega), ea]
      have c1 := c.at (q := p + 1) (by omega)
      generalize wI m' A 9 (Int32.ofNat (p + 1)) = M at *
      refine gw_ite (fun g2 => ?_) (fun g2 => ?_)
      · -- !
        have e33 : pd tx n p = 33 := by rw [← ex]; exact hx.elim id (fun h => absurd h g2)
        have G := pF_g (tx := tx) d (p + 1) q
        have eF : pF tx n (d + 1) p = (if (pF tx n d (p + 1)).1 = true then (true, (pF tx n d (p + 1)).2.1, (pF tx n d (p + 1)).2.2 ++ [-1]) else (false, (pF tx n d (p + 1)).2.1, [])) := by
          rw [pF]
          show (if pd tx n p = 40 then _ else if pd tx n p = 33 then _ else _) = _
          rw [if_neg (by rw [e33]; decide), if_pos e33]
        refine gw_if (c1.t b) ?_
        refine gw_bI (h1' c1 (by omega)) (fun x8 m7 h7 => ?_)
        rcases h7 with ⟨ex8, f1, c7⟩ | ⟨ex8, f1, C', c7⟩
        · subst ex8
          refine gw_if (by decide) ?_
          obtain ⟨G1, G2, G3⟩ := G
          obtain ⟨G4, G5⟩ := G3 f1
          rw [if_pos f1] at eF
          refine gw_if (c7.t b) ?_
          refine gw_bV (v_put b c7 (by rw [List.length_append, List.length_map]; omega) (-1)) (fun m9 c9 => ?_)
          refine gw_z Iff.rfl (Or.inr rfl) (gq_I (Or.inl ⟨rfl, by rw [eF], ?_⟩))
          rw [eF]
          show cst A n μ _ (C ++ ((pF tx n d (p + 1)).2.2 ++ [-1]).map cv) m9
          rw [List.map_append, ← List.append_assoc]
          exact c9
        · subst ex8
          rw [if_neg (by decide)]
          rw [if_neg (by rw [f1]; decide)] at eF
          exact gw_z Iff.rfl (Or.inl rfl) (gq_I (Or.inr ⟨rfl, by rw [eF], C', by rw [eF]; exact c7⟩))
      · -- (
        have e40 : pd tx n p = 40 := by rw [← ex]; exact Decidable.not_not.mp g2
        have eF : pF tx n (d + 1) p = (if (pE tx n (pF tx n d) (p + 1)).1 = true then (if pd tx n (pE tx n (pF tx n d) (p + 1)).2.1 = 41 then (true, (pE tx n (pF tx n d) (p + 1)).2.1 + 1, (pE tx n (pF tx n d) (p + 1)).2.2) else (false, (pE tx n (pF tx n d) (p + 1)).2.1, [])) else (false, (pE tx n (pF tx n d) (p + 1)).2.1, [])) := by
          rw [pF]
          show (if pd tx n p = 40 then _ else _) = _
          rw [if_pos e40]
        have hB := h0' c1 (by omega)
        generalize pE tx n (pF tx n d) (p + 1) = r at *
        refine gw_if (c1.t b) ?_
        refine gw_bI hB (fun x12 m11 h11 => ?_)
        rcases h11 with ⟨ex12, f1, c11⟩ | ⟨ex12, f1, C', c11⟩
        · subst ex12
          rw [if_pos f1] at eF
          rw [if_neg (by decide)]
          refine gw_if (c11.t b) ?_
          refine gw_bI (v_take b c11 (a := 41) (by decide)) (fun x14 m13 h13 => ?_)
          rcases h13 with ⟨e14, ep, c13⟩ | ⟨e14, ep, em⟩
          · subst e14
            rw [if_pos ep] at eF
            rw [if_neg (by decide)]
            exact gw_z Iff.rfl (Or.inr rfl) (gq_I (Or.inl ⟨rfl, by rw [eF], by rw [eF]; exact c13⟩))
          · subst e14
            subst em
            rw [if_neg ep] at eF
            rw [if_pos rfl]
            exact gw_z Iff.rfl (Or.inl rfl) (gq_I (Or.inr ⟨rfl, by rw [eF], _, by rw [eF]; exact c11⟩))
        · subst ex12
          rw [if_neg (by rw [f1]; decide)] at eF
          rw [if_pos rfl]
          exact gw_z Iff.rfl (Or.inl rfl) (gq_I (Or.inr ⟨rfl, by rw [eF], C', by rw [eF]; exact c11⟩))
    · have e0 : e = 0 := by omega
      subst e0
      have eF : pF tx n 0 p = (false, p, []) := by
        rw [pF]
        exact if_pos (by rw [← ex]; exact hx)
      exact gw_z Iff.rfl (Or.inl rfl) (gq_I (Or.inr ⟨rfl, by rw [eF], C, by rw [eF]; exact c⟩))
  · refine gw_ite (fun g => hj _ (Or.inl g)) (fun g => ?_)
    refine gw_ite (fun g2 => hj _ (Or.inr g2)) (fun g2 => ?_)
    have eF : pF tx n e p = pT tx n p := by
      rw [ex] at g g2
      cases e with
      | zero => rw [pF]; exact if_neg (fun h => h.elim g g2)
      | succ d =>
        rw [pF]
        show (if pd tx n p = 40 then _ else if pd tx n p = 33 then _ else _) = _
        rw [if_neg g2, if_neg g]
    refine gw_if (c.t b) ?_
    refine gw_bI (v_test b c hC) (fun x16 m15 h => ?_)
    exact gw_z Iff.rfl (h.p1.imp (fun e => by rw [e]; rfl) (fun e => by rw [e]; rfl)) (gq_I (by rw [eF]; exact h))
theorem vr_read (b : BS A n tx μ) : ∀ (fu e : Nat), e ≤ 5 → (2 * e + 2 ≤ fu → VF A n μ (r_X0_readEither fu).1 (Int32.ofNat (5 - e)) (pE tx n (pF tx n e))) ∧ (2 * e + 1 ≤ fu → VF A n μ (r_X0_readEither fu).2 (Int32.ofNat (5 - e)) (pF tx n e))
  | 0, e, _ => ⟨fun h => by omega, fun h => by omega⟩
  | fu + 1, e, he => ⟨fun h => v_either b (R0 := (r_X0_readEither fu).1) ((vr_read b fu e he).2 (by omega)) (fun p => pF_g e p), fun h => v_factor b he (fun e' q => (vr_read b fu e' (by omega)).1 (by omega)) (fun e' q => (vr_read b fu e' (by omega)).2 (by omega))⟩
end
