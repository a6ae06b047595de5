def tm (μ : gm_M) (l : List Int32) (m : gm_M) : Prop := (m.1 = μ.1 ∧ m.2.2 = μ.2.2 ∧ (∀ r : Nat, r ≠ 65 → r ≠ 74 → m.2.1 r = μ.2.1 r) ∧ ∀ j : Nat, j ≠ 19 → m.2.1 65 j = μ.2.1 65 j) ∧ (m.2.1 65 19).toInt = l.length ∧ ∀ (i : Nat) (x : Int32), l[i]? = some x → m.2.1 74 i = x
theorem tm.s {μ m : gm_M} {l : List Int32} (h : tm μ l m) (hS : gS μ) : gS m := hS.same h.1.1 h.1.2.1
theorem tm.add {μ m : gm_M} {l : List Int32} (h : tm μ l m) (hS : gS μ) (hl : l.length ≤ 15) (b : Int32) : gwV (f_X12_ranBody 65 b m) (fun m1 => tm μ (l ++ [b]) m1) := by
  have hs := h.s hS
  obtain ⟨⟨h1, h2, h3, h4⟩, h5, h6⟩ := h
  have l1 : (1 : Int32).toInt = 1 := rfl
  have l20 : (20 : Int32).toInt = 20 := rfl
  have n1 : (m.2.1 65 19 + 1).toInt = (m.2.1 65 19).toInt + (1 : Int32).toInt := gx_add (by omega) (by omega)
  refine gwV_of ?_
  unfold f_X12_ranBody
  refine gw_gIw (hs.c (r := 65) rfl) ?_
  refine gw_ji ?_
  refine gw_le (fun g => ?_) (fun g => ?_)
  · exfalso; omega
  · refine gw_gRa 74 (hs.c (r := 65) rfl) (hs.r (by decide)) ?_
    refine gw_gIw (hs.c (r := 65) rfl) ?_
    refine gw_sIw l.length (hs.t (r := 74) rfl) (hs.l (r := 74) rfl) h5 (by omega) ?_
    refine gw_gIw (hs.c (r := 65) rfl) ?_
    refine gw_pIw (hs.c (r := 65) rfl) ?_
    rw [wI_o _ _ _ _ (by decide)]
    refine gw_some (gq_V ⟨⟨h1, h2, fun r r1 r2 => by rw [wI_o _ _ _ _ r1, wI_o _ _ _ _ r2]; exact h3 r r1 r2, fun j hj => by rw [wI_n _ _ _ _ hj, wI_o _ _ _ _ (by decide)]; exact h4 j hj⟩, ?_, fun i x hx => ?_⟩)
    · rw [wI_e, List.length_append]
      show (m.2.1 65 19 + 1).toInt = ((l.length + 1 : Nat) : Int)
      omega
    · rw [wI_o _ _ _ _ (by decide)]
      by_cases e : i < l.length
      · rw [List.getElem?_append_left e] at hx
        rw [wI_n _ _ _ _ (by omega)]
        exact h6 i x hx
      · have hi : i = l.length := by
          have hlt := (List.getElem?_eq_some_iff.mp hx).1
          rw [List.length_append] at hlt
          have : [b].length = 1 := rfl
          omega
        subst hi
        rw [List.getElem?_append_right (Nat.le_refl _), Nat.sub_self] at hx
        have hb : b = x := Option.some.inj hx
        rw [wI_e]
        exact hb
theorem s_under {μ : gm_M} {a b : Int32} : gwI (f_X12_isUnder a b μ) (fun x m => m = μ ∧ ((x.toInt = 1 ∧ (b.toInt = 0 ∨ b.toInt = a.toInt ∨ (0 < b.toInt ∧ b.toInt < 4 ∧ a.toInt = b.toInt + 3))) ∨ (x.toInt = 0 ∧ ¬ (b.toInt = 0 ∨ b.toInt = a.toInt ∨ (0 < b.toInt ∧ b.toInt < 4 ∧ a.toInt = b.toInt + 3))))) := by
  refine gwI_of ?_
  unfold f_X12_isUnder
  have l0 : (0 : Int32).toInt = 0 := rfl
  have l1 : (1 : Int32).toInt = 1 := rfl
  have l3 : (3 : Int32).toInt = 3 := rfl
  have l4 : (4 : Int32).toInt = 4 := rfl
  refine gw_ji ?_
  refine gw_eq (fun g1 => ?_) (fun g1 => ?_)
  · exact gw_z Iff.rfl (by omega) (gq_I ⟨rfl, by omega⟩)
  · refine gw_eq (fun g2 => ?_) (fun g2 => ?_)
    · exact gw_z Iff.rfl (by omega) (gq_I ⟨rfl, by omega⟩)
    · refine gw_le (fun g3 => ?_) (fun g3 => ?_)
      · exact gw_z Iff.rfl (by omega) (gq_I ⟨rfl, by omega⟩)
      · refine gw_le (fun g4 => ?_) (fun g4 => ?_)
        · exact gw_z Iff.rfl (by omega) (gq_I ⟨rfl, by omega⟩)
        · have n : (b + (3 : Int32)).toInt = b.toInt + (3 : Int32).toInt := gx_add (by omega) (by omega)
          refine gw_ne (fun g5 => ?_) (fun g5 => ?_)
          · exact gw_z Iff.rfl (by omega) (gq_I ⟨rfl, by omega⟩)
          · exact gw_z Iff.rfl (by omega) (gq_I ⟨rfl, by omega⟩)
section
variable {μ m : gm_M} {l : List Int32} {k : Nat}
theorem u_plainChews (h : tm μ l m) (hS : gS μ) (hl : l.length ≤ 14) {x : Int32} : gwI (f_X12_plainChews 65 x m) (fun y m1 => y = x + μ.2.1 65 21 ∧ tm μ (l ++ [1]) m1) := by
  refine gwI_of ?_
  unfold f_X12_plainChews
  refine gw_if ((h.s hS).t (r := 65) rfl) ?_
  refine gw_bV (h.add hS (by omega) 1) (fun m1 h1 => ?_)
  refine gw_gIw ((h1.s hS).c (r := 65) rfl) ?_
  rw [h1.1.2.2.2 21 (by decide)]
  exact gw_some (gq_I ⟨rfl, h1⟩)
theorem u_chews (h : tm μ l m) (hS : gS μ) (hk : (μ.2.1 65 20).toInt = k) (hk7 : k < 7) (hl : l.length ≤ 13) {x : Int32} : gwI (f_X12_chewsActs 65 x m) (fun y m1 => y = (chS k (μ.2.1 65 21) x).1 ∧ tm μ (l ++ (chS k (μ.2.1 65 21) x).2) m1) := by
  refine gwI_of ?_
  unfold f_X12_chewsActs
  have l0 : (0 : Int32).toInt = 0 := rfl
  have l1 : (1 : Int32).toInt = 1 := rfl
  have l5 : (5 : Int32).toInt = 5 := rfl
  have hs := h.s hS
  refine gw_gIw (hs.c (r := 65) rfl) ?_
  have e20 : (m.2.1 65 20).toInt = k := by rw [h.1.2.2.2 20 (by decide)]; exact hk
  refine gw_bI s_under (fun x3 m3 ⟨z3, f3⟩ => ?_)
  replace z3 := z3.symm
  subst z3
  refine gw_eq (fun g => ?_) (fun g => ?_)
  · refine gw_gIw (hs.c (r := 65) rfl) ?_
    refine gw_ne (fun g5 => ?_) (fun g5 => ?_)
    · refine gw_if (hs.t (r := 65) rfl) ?_
      refine gw_bI (u_plainChews h hS (by omega)) (fun y m1 ⟨e1, h1⟩ => ?_)
      have c : chS k (μ.2.1 65 21) x = (x + μ.2.1 65 21, [1]) := by unfold chS; rw [if_neg (by omega), if_neg (by omega)]
      rw [c]
      exact gw_some (gq_I ⟨e1, h1⟩)
    · refine gw_if (hs.t (r := 65) rfl) ?_
      refine gw_bV (h.add hS (by omega) 51) (fun m1 h1 => ?_)
      refine gw_if ((h1.s hS).t (r := 65) rfl) ?_
      refine gw_bI (u_plainChews h1 hS (by rw [List.length_append]; show l.length + 1 ≤ 14; omega)) (fun y m2 ⟨e2, h2⟩ => ?_)
      rw [List.append_assoc] at h2
      refine gw_gIw ((h2.s hS).c (r := 65) rfl) ?_
      rw [h2.1.2.2.2 21 (by decide)]
      have c : chS k (μ.2.1 65 21) x = ((x + μ.2.1 65 21) ^^^ μ.2.1 65 21, [51, 1]) := by unfold chS; rw [if_neg (by omega), if_pos (by omega)]
      rw [c]
      exact gw_some (gq_I ⟨by rw [e2], h2⟩)
  · refine gw_if (hs.t (r := 65) rfl) ?_
    refine gw_bV (h.add hS (by omega) 11) (fun m1 h1 => ?_)
    refine gw_if ((h1.s hS).t (r := 65) rfl) ?_
    refine gw_bI (u_plainChews h1 hS (by rw [List.length_append]; show l.length + 1 ≤ 14; omega)) (fun y m2 ⟨e2, h2⟩ => ?_)
    rw [List.append_assoc] at h2
    have c : chS k (μ.2.1 65 21) x = (x * 3 + μ.2.1 65 21, [11, 1]) := by unfold chS; rw [if_pos (by omega)]
    rw [c]
    exact gw_some (gq_I ⟨e2, h2⟩)
theorem u_plainBlows (h : tm μ l m) (hS : gS μ) (hk : (μ.2.1 65 20).toInt = k) (hk7 : k < 7) (hl : l.length ≤ 12) {x : Int32} : gwI (f_X12_plainBlows 65 x m) (fun y m1 => y = (chS k (μ.2.1 65 21) x).1 - μ.2.1 65 22 ∧ tm μ (l ++ 2 :: (chS k (μ.2.1 65 21) x).2) m1) := by
  refine gwI_of ?_
  unfold f_X12_plainBlows
  refine gw_if ((h.s hS).t (r := 65) rfl) ?_
  refine gw_bV (h.add hS (by omega) 2) (fun m1 h1 => ?_)
  refine gw_if ((h1.s hS).t (r := 65) rfl) ?_
  refine gw_bI (u_chews h1 hS hk hk7 (by rw [List.length_append]; show l.length + 1 ≤ 13; omega)) (fun y m2 ⟨e2, h2⟩ => ?_)
  rw [List.append_assoc] at h2
  refine gw_gIw ((h2.s hS).c (r := 65) rfl) ?_
  rw [h2.1.2.2.2 22 (by decide)]
  exact gw_some (gq_I ⟨by rw [e2], h2⟩)
theorem u_blows (h : tm μ l m) (hS : gS μ) (hk : (μ.2.1 65 20).toInt = k) (hk7 : k < 7) (hl : l.length ≤ 11) {x : Int32} : gwI (f_X12_blowsActs 65 x m) (fun y m1 => y = (blS k (μ.2.1 65 21) (μ.2.1 65 22) x).1 ∧ tm μ (l ++ (blS k (μ.2.1 65 21) (μ.2.1 65 22) x).2) m1) := by
  refine gwI_of ?_
  unfold f_X12_blowsActs
  have l0 : (0 : Int32).toInt = 0 := rfl
  have l2 : (2 : Int32).toInt = 2 := rfl
  have l6 : (6 : Int32).toInt = 6 := rfl
  have hs := h.s hS
  refine gw_gIw (hs.c (r := 65) rfl) ?_
  have e20 : (m.2.1 65 20).toInt = k := by rw [h.1.2.2.2 20 (by decide)]; exact hk
  refine gw_bI s_under (fun x3 m3 ⟨z3, f3⟩ => ?_)
  replace z3 := z3.symm
  subst z3
  refine gw_eq (fun g => ?_) (fun g => ?_)
  · refine gw_gIw (hs.c (r := 65) rfl) ?_
    refine gw_ne (fun g5 => ?_) (fun g5 => ?_)
    · refine gw_if (hs.t (r := 65) rfl) ?_
      refine gw_bI (u_plainBlows h hS hk hk7 (by omega)) (fun y m1 ⟨e1, h1⟩ => ?_)
      have c : blS k (μ.2.1 65 21) (μ.2.1 65 22) x = ((chS k (μ.2.1 65 21) x).1 - μ.2.1 65 22, 2 :: (chS k (μ.2.1 65 21) x).2) := by unfold blS; rw [if_neg (by omega), if_neg (by omega)]
      rw [c]
      exact gw_some (gq_I ⟨e1, h1⟩)
    · refine gw_if (hs.t (r := 65) rfl) ?_
      refine gw_bV (h.add hS (by omega) 61) (fun m1 h1 => ?_)
      refine gw_if ((h1.s hS).t (r := 65) rfl) ?_
      refine gw_bI (u_plainBlows h1 hS hk hk7 (by rw [List.length_append]; show l.length + 1 ≤ 12; omega)) (fun y m2 ⟨e2, h2⟩ => ?_)
      rw [List.append_assoc] at h2
      refine gw_gIw ((h2.s hS).c (r := 65) rfl) ?_
      rw [h2.1.2.2.2 22 (by decide)]
      have c : blS k (μ.2.1 65 21) (μ.2.1 65 22) x = ((chS k (μ.2.1 65 21) x).1 - μ.2.1 65 22 + μ.2.1 65 22, 61 :: 2 :: (chS k (μ.2.1 65 21) x).2) := by unfold blS; rw [if_neg (by omega), if_pos (by omega)]
      rw [c]
      exact gw_some (gq_I ⟨by rw [e2], h2⟩)
  · refine gw_if (hs.t (r := 65) rfl) ?_
    refine gw_bV (h.add hS (by omega) 21) (fun m1 h1 => ?_)
    refine gw_if ((h1.s hS).t (r := 65) rfl) ?_
    refine gw_bI (u_plainBlows h1 hS hk hk7 (by rw [List.length_append]; show l.length + 1 ≤ 12; omega)) (fun y m2 ⟨e2, h2⟩ => ?_)
    rw [List.append_assoc] at h2
    have c : blS k (μ.2.1 65 21) (μ.2.1 65 22) x = (-((chS k (μ.2.1 65 21) x).1 - μ.2.1 65 22), 21 :: 2 :: (chS k (μ.2.1 65 21) x).2) := by unfold blS; rw [if_pos (by omega)]
    rw [c]
    exact gw_some (gq_I ⟨by rw [e2], h2⟩)
theorem u_plainTelling (h : tm μ l m) (hS : gS μ) (hk : (μ.2.1 65 20).toInt = k) (hk7 : k < 7) (hl : l.length ≤ 10) {x : Int32} : gwI (f_X12_plainTelling 65 x m) (fun y m1 => y = (blS k (μ.2.1 65 21) (μ.2.1 65 22) x).1 * 2 ∧ tm μ (l ++ 3 :: (blS k (μ.2.1 65 21) (μ.2.1 65 22) x).2) m1) := by
  refine gwI_of ?_
  unfold f_X12_plainTelling
  refine gw_if ((h.s hS).t (r := 65) rfl) ?_
  refine gw_bV (h.add hS (by omega) 3) (fun m1 h1 => ?_)
  refine gw_if ((h1.s hS).t (r := 65) rfl) ?_
  refine gw_bI (u_blows h1 hS hk hk7 (by rw [List.length_append]; show l.length + 1 ≤ 11; omega)) (fun y m2 ⟨e2, h2⟩ => ?_)
  rw [List.append_assoc] at h2
  exact gw_some (gq_I ⟨by rw [e2], h2⟩)
theorem u_tells (h : tm μ l m) (hS : gS μ) (hk : (μ.2.1 65 20).toInt = k) (hk7 : k < 7) (hl : l.length ≤ 6) {x : Int32} : gwI (f_X12_tellsActs 65 x m) (fun y m1 => y = (teS k (μ.2.1 65 21) (μ.2.1 65 22) x).1 ∧ tm μ (l ++ (teS k (μ.2.1 65 21) (μ.2.1 65 22) x).2) m1) := by
  refine gwI_of ?_
  unfold f_X12_tellsActs
  have l0 : (0 : Int32).toInt = 0 := rfl
  have l3 : (3 : Int32).toInt = 3 := rfl
  have l4 : (4 : Int32).toInt = 4 := rfl
  have hs := h.s hS
  refine gw_gIw (hs.c (r := 65) rfl) ?_
  have e20 : (m.2.1 65 20).toInt = k := by rw [h.1.2.2.2 20 (by decide)]; exact hk
  refine gw_bI s_under (fun x3 m3 ⟨z3, f3⟩ => ?_)
  replace z3 := z3.symm
  subst z3
  refine gw_eq (fun g => ?_) (fun g => ?_)
  · refine gw_gIw (hs.c (r := 65) rfl) ?_
    refine gw_ne (fun g5 => ?_) (fun g5 => ?_)
    · refine gw_if (hs.t (r := 65) rfl) ?_
      refine gw_bI (u_plainTelling h hS hk hk7 (by omega)) (fun y m1 ⟨e1, h1⟩ => ?_)
      have c : teS k (μ.2.1 65 21) (μ.2.1 65 22) x = ((blS k (μ.2.1 65 21) (μ.2.1 65 22) x).1 * 2, 3 :: (blS k (μ.2.1 65 21) (μ.2.1 65 22) x).2) := by unfold teS; rw [if_neg (by omega), if_neg (by omega)]
      rw [c]
      exact gw_some (gq_I ⟨e1, h1⟩)
    · refine gw_if (hs.t (r := 65) rfl) ?_
      refine gw_bV (h.add hS (by omega) 41) (fun m1 h1 => ?_)
      refine gw_if ((h1.s hS).t (r := 65) rfl) ?_
      have b := blS_len k (μ.2.1 65 21) (μ.2.1 65 22) (x - 1)
      refine gw_bI (u_plainTelling h1 hS hk hk7 (by rw [List.length_append]; show l.length + 1 ≤ 10; omega)) (fun y m2 ⟨e2, h2⟩ => ?_)
      rw [List.append_assoc] at h2
      refine gw_if ((h2.s hS).t (r := 65) rfl) ?_
      refine gw_bI (u_chews h2 hS hk hk7 (by simp only [List.length_append, List.length_cons, List.length_nil]; omega)) (fun y3 m3 ⟨e3, h3⟩ => ?_)
      rw [List.append_assoc] at h3
      have c : teS k (μ.2.1 65 21) (μ.2.1 65 22) x = ((blS k (μ.2.1 65 21) (μ.2.1 65 22) (x - 1)).1 * 2 + (chS k (μ.2.1 65 21) 2).1, 41 :: 3 :: (blS k (μ.2.1 65 21) (μ.2.1 65 22) (x - 1)).2 ++ (chS k (μ.2.1 65 21) 2).2) := by unfold teS; rw [if_neg (by omega), if_pos (by omega)]
      rw [c]
      exact gw_some (gq_I ⟨by rw [e2, e3], h3⟩)
  · refine gw_if (hs.t (r := 65) rfl) ?_
    refine gw_bV (h.add hS (by omega) 31) (fun m1 h1 => ?_)
    refine gw_if ((h1.s hS).t (r := 65) rfl) ?_
    refine gw_bI (u_plainTelling h1 hS hk hk7 (by rw [List.length_append]; show l.length + 1 ≤ 10; omega)) (fun y m2 ⟨e2, h2⟩ => ?_)
    rw [List.append_assoc] at h2
    have c : teS k (μ.2.1 65 21) (μ.2.1 65 22) x = (((blS k (μ.2.1 65 21) (μ.2.1 65 22) x).1 * 2) ^^^ 7, 31 :: 3 :: (blS k (μ.2.1 65 21) (μ.2.1 65 22) x).2) := by unfold teS; rw [if_pos (by omega)]
    rw [c]
    exact gw_some (gq_I ⟨by rw [e2], h2⟩)
end
