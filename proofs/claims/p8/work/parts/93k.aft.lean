theorem gwV_and {z : Option (Option Value × gm_M)} {R S : gm_M → Prop} (h : gwV z R) (k : gwV z S) : gwV z (fun m => R m ∧ S m) := by
  obtain ⟨m, e, a⟩ := h
  obtain ⟨m2, e2, b⟩ := k
  rw [e] at e2
  injection e2 with e3
  injection e3 with e4 e5
  subst e5
  exact ⟨m, e, a, b⟩
set_option maxHeartbeats 8000000 in
theorem s_ainit2 {μ : gm_M} : gwV (f_X0_init μ.1.length (gm_nw μ 5 10)) (fun m => m.2.1 μ.1.length 0 = 0 ∧ m.2.1 μ.1.length 1 = 20) := by
  refine gwV_of ?_
  unfold f_X0_init
  generalize hA : μ.1.length = A
  have l10 : (10 : Int32).toInt = (10 : Nat) := rfl
  have l100 : (100 : Int32).toInt = (100 : Nat) := rfl
  have l0 : (0 : Int32).toInt = (0 : Nat) := rfl
  have tg : ∀ (m : gm_M) (l : List (Nat × Nat)), m.1 = μ.1 ++ (5, 10) :: l → gm_tag m A = 5 := fun m l e => by
    unfold gm_tag; rw [e, ← hA, List.getElem?_append_right (Nat.le_refl _), Nat.sub_self]; rfl
  have t5 : ∀ (m : gm_M) (l : List (Nat × Nat)), m.1 = μ.1 ++ (5, 10) :: l → [5].contains (gm_tag m A) = true := fun m l e => by rw [tg m l e]; rfl
  have len : ∀ (m : gm_M) (l : List (Nat × Nat)), m.1 = μ.1 ++ l → m.1.length = A + l.length := fun m l e => by rw [e, List.length_append, hA]
  refine gw_if (by rw [tg _ [] rfl]; decide) ?_
  refine gw_pIw (t5 _ [] rfl) ?_
  refine gw_pIw (t5 _ [] rfl) ?_
  generalize h1 : wI (wI (gm_nw μ 5 10) A 0 0) A 1 20 = m1
  have a1 : m1.1 = μ.1 ++ [(5, 10)] := by rw [← h1]; rfl
  have i1 : ∀ r : Nat, r ≠ A → m1.2.1 r = μ.2.1 r := fun r hr => by rw [← h1, wI_o _ _ _ _ hr, wI_o _ _ _ _ hr, nw_i (by omega)]
  have r1 : ∀ r : Nat, r ≠ A → m1.2.2 r = μ.2.2 r := fun r hr => by rw [← h1]; show (gm_nw μ 5 10).2.2 r = _; exact nw_r (by omega)
  have z1 : ∀ j : Nat, j ≠ 0 → j ≠ 1 → m1.2.1 A j = 0 := fun j j0 j1 => by rw [← h1, wI_n _ _ _ _ j1, wI_n _ _ _ _ j0, ← hA]; exact nw_z
  have y1 : m1.2.1 A 0 = 0 ∧ m1.2.1 A 1 = 20 := by
    rw [← h1]
    exact ⟨by rw [wI_n _ _ _ _ (by decide), wI_e], wI_e _ _ _ _⟩
  clear h1
  refine gw_nA l10 (Nat.le_refl _) ?_
  have e1 : m1.1.length = A + 1 := len _ _ a1
  rw [e1]
  refine gw_pRw (t5 _ [(1, 10)] (by rw [nw_1, a1, List.append_assoc]; rfl)) ?_
  generalize h2 : wR (gm_nw m1 1 10) A 3 (A + 1) = m2
  have a2 : m2.1 = μ.1 ++ [(5, 10), (1, 10)] := by rw [← h2]; show (gm_nw m1 1 10).1 = _; rw [nw_1, a1, List.append_assoc]; rfl
  have i2 : ∀ r : Nat, r ≠ A + 1 → m2.2.1 r = m1.2.1 r := fun r hr => by rw [← h2]; show (gm_nw m1 1 10).2.1 r = _; exact nw_i (by omega)
  have r2 : ∀ r : Nat, r ≠ A → r ≠ A + 1 → m2.2.2 r = m1.2.2 r := fun r hr hr2 => by rw [← h2]; show gm_u (gm_nw m1 1 10).2.2 A 3 (A + 1) r = _; rw [gu_row hr]; exact nw_r (by omega)
  have q2 : m2.2.2 A 3 = A + 1 := by rw [← h2]; show gm_u (gm_nw m1 1 10).2.2 A 3 (A + 1) A 3 = _; exact gu_eq
  clear h2
  refine gw_nA l10 (Nat.le_refl _) ?_
  have e2 : m2.1.length = A + 2 := len _ _ a2
  rw [e2]
  refine gw_pRw (t5 _ [(1, 10), (1, 10)] (by rw [nw_1, a2, List.append_assoc]; rfl)) ?_
  generalize h3 : wR (gm_nw m2 1 10) A 4 (A + 2) = m3
  have a3 : m3.1 = μ.1 ++ [(5, 10), (1, 10), (1, 10)] := by rw [← h3]; show (gm_nw m2 1 10).1 = _; rw [nw_1, a2, List.append_assoc]; rfl
  have i3 : ∀ r : Nat, r ≠ A + 2 → m3.2.1 r = m2.2.1 r := fun r hr => by rw [← h3]; show (gm_nw m2 1 10).2.1 r = _; exact nw_i (by omega)
  have z3 : ∀ k : Nat, m3.2.1 (A + 2) k = 0 := fun k => by rw [← h3]; show (gm_nw m2 1 10).2.1 (A + 2) k = 0; rw [← e2]; exact nw_z
  have r3 : ∀ r : Nat, r ≠ A → r ≠ A + 2 → m3.2.2 r = m2.2.2 r := fun r hr hr2 => by rw [← h3]; show gm_u (gm_nw m2 1 10).2.2 A 4 (A + 2) r = _; rw [gu_row hr]; exact nw_r (by omega)
  have q3 : m3.2.2 A 4 = A + 2 ∧ m3.2.2 A 3 = A + 1 := by
    rw [← h3]
    exact ⟨(show gm_u (gm_nw m2 1 10).2.2 A 4 (A + 2) A 4 = _ from gu_eq), by show gm_u (gm_nw m2 1 10).2.2 A 4 (A + 2) A 3 = _; rw [gu_ne (by decide), nw_r (by omega)]; exact q2⟩
  clear h3
  refine gw_nA l100 (Nat.le_refl _) ?_
  have e3 : m3.1.length = A + 3 := len _ _ a3
  rw [e3]
  refine gw_pRw (t5 _ [(1, 10), (1, 10), (1, 100)] (by rw [nw_1, a3, List.append_assoc]; rfl)) ?_
  generalize h4 : wR (gm_nw m3 1 100) A 5 (A + 3) = m4
  have a4 : m4.1 = μ.1 ++ [(5, 10), (1, 10), (1, 10), (1, 100)] := by rw [← h4]; show (gm_nw m3 1 100).1 = _; rw [nw_1, a3, List.append_assoc]; rfl
  have i4 : ∀ r : Nat, r ≠ A + 3 → m4.2.1 r = m3.2.1 r := fun r hr => by rw [← h4]; show (gm_nw m3 1 100).2.1 r = _; exact nw_i (by omega)
  have r4 : ∀ r : Nat, r ≠ A → r ≠ A + 3 → m4.2.2 r = m3.2.2 r := fun r hr hr2 => by rw [← h4]; show gm_u (gm_nw m3 1 100).2.2 A 5 (A + 3) r = _; rw [gu_row hr]; exact nw_r (by omega)
  have q4 : m4.2.2 A 5 = A + 3 ∧ m4.2.2 A 4 = A + 2 ∧ m4.2.2 A 3 = A + 1 := by
    rw [← h4]
    exact ⟨(show gm_u (gm_nw m3 1 100).2.2 A 5 (A + 3) A 5 = _ from gu_eq), by show gm_u (gm_nw m3 1 100).2.2 A 5 (A + 3) A 4 = _; rw [gu_ne (by decide), nw_r (by omega)]; exact q3.1, by show gm_u (gm_nw m3 1 100).2.2 A 5 (A + 3) A 3 = _; rw [gu_ne (by decide), nw_r (by omega)]; exact q3.2⟩
  clear h4
  refine gw_nA l0 (Nat.le_refl _) ?_
  have e4 : m4.1.length = A + 4 := len _ _ a4
  rw [e4]
  refine gw_pRw (t5 _ [(1, 10), (1, 10), (1, 100), (1, 0)] (by rw [nw_1, a4, List.append_assoc]; rfl)) ?_
  generalize h5 : wR (gm_nw m4 1 0) A 7 (A + 4) = m5
  have a5 : m5.1 = μ.1 ++ [(5, 10), (1, 10), (1, 10), (1, 100), (1, 0)] := by rw [← h5]; show (gm_nw m4 1 0).1 = _; rw [nw_1, a4, List.append_assoc]; rfl
  have i5 : ∀ r : Nat, r ≠ A + 4 → m5.2.1 r = m4.2.1 r := fun r hr => by rw [← h5]; show (gm_nw m4 1 0).2.1 r = _; exact nw_i (by omega)
  have r5 : ∀ r : Nat, r ≠ A → r ≠ A + 4 → m5.2.2 r = m4.2.2 r := fun r hr hr2 => by rw [← h5]; show gm_u (gm_nw m4 1 0).2.2 A 7 (A + 4) r = _; rw [gu_row hr]; exact nw_r (by omega)
  have q5 : m5.2.2 A 5 = A + 3 ∧ m5.2.2 A 4 = A + 2 ∧ m5.2.2 A 3 = A + 1 := by
    rw [← h5]
    refine ⟨?_, ?_, ?_⟩
    · show gm_u (gm_nw m4 1 0).2.2 A 7 (A + 4) A 5 = _; rw [gu_ne (by decide), nw_r (by omega)]; exact q4.1
    · show gm_u (gm_nw m4 1 0).2.2 A 7 (A + 4) A 4 = _; rw [gu_ne (by decide), nw_r (by omega)]; exact q4.2.1
    · show gm_u (gm_nw m4 1 0).2.2 A 7 (A + 4) A 3 = _; rw [gu_ne (by decide), nw_r (by omega)]; exact q4.2.2
  clear h5
  refine gw_some (gq_V ?_)
  have zA : m5.2.1 A = m1.2.1 A := by rw [i5 A (by omega), i4 A (by omega), i3 A (by omega), i2 A (by omega)]
  rw [zA]
  exact y1
/-! what an afternoon says, on both sides: w its wind, sw how sweet, L its steps -/
def AFC (m : gm_M) (A : Nat) (w sw : Int32) (L : List Int32) : Prop := (m.2.1 A 0 = w ∧ m.2.1 A 1 = sw) ∧ (m.2.1 A 6 = Int32.ofNat (cds L).length ∧ ∀ i : Nat, i < (cds L).length → (cds L)[i]? = some (m.2.1 (A + 3) i)) ∧ m.2.1 A 2 = Int32.ofNat (chs L 0).length ∧ ∀ (i : Nat) (q : Int32 × Nat), (chs L 0)[i]? = some q → m.2.1 (A + 1) i = q.1 ∧ m.2.1 (A + 2) i = Int32.ofNat q.2
def AFR (σ : Nat → Int32) (a : Nat) (w sw : Int32) (L : List Int32) : Prop := (σ (210 + a) = w ∧ σ (215 + a) = sw) ∧ σ (220 + a) = Int32.ofNat L.length ∧ ∀ i : Nat, i < L.length → L[i]? = some (σ (225 + 140 * a + i))
def CA (μ : gm_M) (r : pB) (x : Int32) (m : gm_M) : Prop := (∀ q : Nat, q < μ.1.length → q ≠ 15 → m.2.1 q = μ.2.1 q) ∧ (∀ j : Nat, j ≠ 4 → j ≠ 5 → m.2.1 15 j = μ.2.1 15 j) ∧ m.2.1 15 4 = 0 ∧ (∀ q j : Nat, q < μ.1.length → ¬ (q = 15 ∧ j = 6) → m.2.2 q j = μ.2.2 q j) ∧ ((r.1 = true ∧ x = μ.2.1 15 5 ∧ m.2.1 15 5 = μ.2.1 15 5 + 1 ∧ m.2.2 15 6 = μ.1.length ∧ AFC m μ.1.length r.2.2.1 r.2.2.2.1 r.2.2.2.2 ∧ r.2.2.2.2.length ≤ 100) ∨ (r.1 = false ∧ x = -10 - Int32.ofNat r.2.1 ∧ m.2.1 15 5 = μ.2.1 15 5 ∧ m.2.2 15 6 = μ.2.2 15 6))
def RA (μ : gm_M) (a : Nat) (r : pB) (x : Int32) (m : gm_M) : Prop := (∀ q : Nat, q ≠ 65 → q ≠ 66 → m.2.1 q = μ.2.1 q) ∧ m.2.2 = μ.2.2 ∧ (∀ k : Nat, k ≠ 27 → k ≠ 31 → k ≠ 32 → k ≠ 210 + a → k ≠ 215 + a → k ≠ 220 + a → ¬ (225 + 140 * a ≤ k ∧ k < 365 + 140 * a) → m.2.1 66 k = μ.2.1 66 k) ∧ m.2.1 66 31 = 0 ∧ ((r.1 = true ∧ x = μ.2.1 66 27 ∧ m.2.1 66 27 = μ.2.1 66 27 + 1 ∧ m.2.1 66 32 = μ.2.1 66 27 ∧ AFR (m.2.1 66) a r.2.2.1 r.2.2.2.1 r.2.2.2.2) ∨ (r.1 = false ∧ x = -10 - Int32.ofNat r.2.1 ∧ m.2.1 66 27 = μ.2.1 66 27 ∧ m.2.1 66 32 = μ.2.1 66 32))
set_option maxHeartbeats 2000000 in
theorem v_afternoon {μ : gm_M} (h : ALL μ) {n : Nat} {tx : Nat → Int32} (hn : n ≤ 100) (en : μ.2.1 15 4 = Int32.ofNat n) (ht : ∀ i : Nat, i < n → μ.2.1 17 i = tx i) (hr : ∀ i : Nat, 0 ≤ (tx i).toInt ∧ (tx i).toInt ≤ 127) : gwI (f_X11_afternoon 1 μ) (fun x m => (5 ≤ (μ.2.1 15 5).toInt ∧ x = -4 ∧ m = μ) ∨ ((μ.2.1 15 5).toInt < 5 ∧ CA μ (pAft tx n) x m)) := by
  have hc := h.2.2.1
  have hg := hc.1
  have hL := hg.len
  have l5 : (5 : Int32).toInt = 5 := rfl
  have l0 : (0 : Int32).toInt = 0 := rfl
  refine gwI_of ?_
  unfold f_X11_afternoon
  refine gw_gRa 15 (hg.c (r := 1) rfl) (hg.r (by decide)) ?_
  refine gw_gIw (hg.c (r := 15) rfl) ?_
  refine gw_lt (fun g5 => ?_) (fun g5 => gw_some (gq_I (Or.inl ⟨by omega, rfl, rfl⟩)))
  show gw (gm_mk μ 5 10 _) _
  unfold gm_mk
  have tq : gm_tag (gm_nw μ 5 10) μ.1.length = 5 := by
    unfold gm_tag; rw [nw_1, List.getElem?_append_right (Nat.le_refl _), Nat.sub_self]; rfl
  refine gw_if (by rw [tq]; decide) ?_
  refine gw_bV (gwV_and s_ainit s_ainit2) (fun m5 ⟨⟨a1, a2, a3, a4, a5, a6⟩, z0, z1⟩ => ?_)
  generalize hA : μ.1.length = A at *
  have up : ∀ (r : Nat) (q : Nat × Nat), μ.1[r]? = some q → m5.1[r]? = some q := fun r q e => by
    rw [a1, List.getElem?_append_left (List.getElem?_eq_some_iff.mp e).1]; exact e
  have lt75 : ∀ q ∈ gRl, q.1 < 75 := by decide
  have hS5 : gS m5 := ⟨fun r q e => up r q (hg.1 r q e), fun q hq => by rw [a3 q.1 (by have := lt75 q hq; omega)]; exact hg.2 q hq⟩
  have hT : m5.1[A]? = some (5, 10) ∧ m5.1[A + 1]? = some (1, 10) ∧ m5.1[A + 2]? = some (1, 10) ∧ m5.1[A + 3]? = some (1, 100) := by
    rw [a1, ← hA]
    refine ⟨?_, ?_, ?_, ?_⟩
    · rw [List.getElem?_append_right (Nat.le_refl _), Nat.sub_self]; rfl
    · rw [List.getElem?_append_right (Nat.le_add_right _ _), Nat.add_sub_cancel_left]; rfl
    · rw [List.getElem?_append_right (Nat.le_add_right _ _), Nat.add_sub_cancel_left]; rfl
    · rw [List.getElem?_append_right (Nat.le_add_right _ _), Nat.add_sub_cancel_left]; rfl
  refine gw_gRa 15 (hS5.c (r := 1) rfl) (hS5.r (by decide)) ?_
  refine gw_gRa 17 (hS5.c (r := 15) rfl) (hS5.r (by decide)) ?_
  refine gw_gRa 15 (hS5.c (r := 1) rfl) (hS5.r (by decide)) ?_
  refine gw_gIw (hS5.c (r := 15) rfl) ?_
  rw [a2 15 (by omega), en]
  have t5 : gm_tag m5 A = 5 := by unfold gm_tag; rw [hT.1]
  have t5c : [5].contains (gm_tag m5 A) = true := by rw [t5]; rfl
  refine gw_if t5 ?_
  have on : (Int32.ofNat n).toInt = n := ofn (by omega)
  have RD : gwI (f_X0_read A 17 (Int32.ofNat n) m5) (fun x m => (m.1 = m5.1 ∧ (∀ r : Nat, r ≠ A → m.2.2 r = m5.2.2 r) ∧ (∀ r : Nat, r ≠ A → r ≠ A + 1 → r ≠ A + 2 → r ≠ A + 3 → m.2.1 r = m5.2.1 r) ∧ RI A m) ∧ (((pAft tx n).1 = true ∧ x = -1 ∧ AFC m A (pAft tx n).2.2.1 (pAft tx n).2.2.2.1 (pAft tx n).2.2.2.2 ∧ (pAft tx n).2.2.2.2.length ≤ 100) ∨ ((pAft tx n).1 = false ∧ x = Int32.ofNat (pAft tx n).2.1 ∧ (pAft tx n).2.1 ≤ n))) := by
    refine gwI_and (s_read hS5 hL hT a4 a5 a6 ⟨by omega, by omega⟩) ?_
    refine gwI_of ?_
    unfold f_X0_read
    refine gw_pRw t5c ?_
    refine gw_al (hS5.t (r := 17) rfl) (hS5.l (r := 17) rfl) ?_
    refine gw_pIw t5c ?_
    have ex : (if Int32.ofNat 100 < Int32.ofNat n then Int32.ofNat 100 else Int32.ofNat n) = Int32.ofNat n := by
      rw [if_neg]
      rw [Int32.lt_iff_toInt_lt, on]
      have : (Int32.ofNat 100).toInt = 100 := rfl
      omega
    rw [ex]
    generalize hB : wI (wR m5 A 7 17) A 8 (Int32.ofNat n) = B
    have B1 : B.1 = m5.1 := by rw [← hB]; rfl
    have B2 : ∀ r : Nat, r ≠ A → B.2.2 r = m5.2.2 r := fun r hr => by rw [← hB]; show gm_u m5.2.2 A 7 17 r = _; exact gu_row hr
    have B2n : ∀ j : Nat, j ≠ 7 → B.2.2 A j = m5.2.2 A j := fun j hj => by rw [← hB]; show gm_u m5.2.2 A 7 17 A j = _; exact gu_ne hj
    have B27 : B.2.2 A 7 = 17 := by rw [← hB]; show gm_u m5.2.2 A 7 17 A 7 = _; exact gu_eq
    have Bo : ∀ r : Nat, r ≠ A → B.2.1 r = m5.2.1 r := fun r hr => by rw [← hB, wI_o _ _ _ _ hr]; rfl
    have Bn : ∀ j : Nat, j ≠ 8 → B.2.1 A j = m5.2.1 A j := fun j hj => by rw [← hB, wI_n _ _ _ _ hj]; rfl
    have B8 : B.2.1 A 8 = Int32.ofNat n := by rw [← hB, wI_e]
    clear hB
    have hSB : gS B := ⟨fun r q e => by rw [B1]; exact hS5.1 r q e, fun q hq => by rw [B2 q.1 (by have := lt75 q hq; omega)]; exact hS5.2 q hq⟩
    have bs : BS A n tx B := ⟨hSB, hL, by rw [B1]; exact hT, ⟨by rw [B2n 3 (by decide)]; exact a4.1, by rw [B2n 4 (by decide)]; exact a4.2.1, by rw [B2n 5 (by decide)]; exact a4.2.2, B27⟩, hn, B8, fun i hi => by rw [Bo 17 (by omega), a2 17 (by omega)]; exact ht i hi, hr⟩
    have ds : dst A n B 0 0 20 [] B := ⟨⟨rfl, rfl, fun _ _ _ _ _ => rfl, rfl⟩, ⟨Nat.zero_le _, Nat.le_refl _⟩, ⟨by rw [Bn 0 (by decide)]; exact z0, by rw [Bn 1 (by decide)]; exact z1, by rw [Bn 9 (by decide)]; exact a5.1⟩, ⟨by rw [Bn 6 (by decide)]; exact a5.2.1, fun i hi => absurd hi (Nat.not_lt_zero i)⟩, by rw [Bn 2 (by decide)]; exact a5.2.2, fun i q hi => by cases hi⟩
    refine gw_mono (v_loop bs ds) (fun b hb => ?_)
    obtain ⟨x, e1, hx⟩ := hb
    refine ⟨x, e1, ?_⟩
    rcases hx with ⟨r1, r2, r3⟩ | ⟨r1, r2, r3⟩
    · obtain ⟨-, d2, d3, d4, d5, d6⟩ := r3
      exact Or.inl ⟨r1, r2, ⟨⟨d3.1, d3.2.1⟩, d4, d5, d6⟩, by omega⟩
    · exact Or.inr ⟨r1, r2, r3⟩
  refine gw_bI RD (fun x m ⟨⟨b1, b2, b3, b4⟩, hx⟩ => ?_)
  have hS := b4.1
  have ir : ∀ r : Nat, r < A → m.2.1 r = μ.2.1 r := fun r hr => by rw [b3 r (by omega) (by omega) (by omega) (by omega), a2 r hr]
  have rr : ∀ r : Nat, r < A → m.2.2 r = μ.2.2 r := fun r hr => by rw [b2 r (by omega), a3 r hr]
  refine gw_gRa 15 (hS.c (r := 1) rfl) (hS.r (by decide)) ?_
  refine gw_pIw (hS.c (r := 15) rfl) ?_
  rcases hx with ⟨r1, r2, r3, r4⟩ | ⟨r1, r2, r3⟩
  · subst r2
    refine gw_lt (fun _ => ?_) (fun g => absurd g (by decide))
    refine gw_gRa 15 (hS.c (r := 1) rfl) (hS.r (by decide)) ?_
    refine gw_pRw (hS.c (r := 15) rfl) ?_
    have hS6 : gS (wR (wI m 15 4 0) 15 6 A) := gS.w6 (μ := wI m 15 4 0) (s := 15) (v := A) hS (Or.inl rfl) rfl rfl
    refine gw_gRa 15 (hS6.c (r := 1) rfl) (hS6.r (by decide)) ?_
    refine gw_gIw (hS6.c (r := 15) rfl) ?_
    refine gw_pIw (hS6.c (r := 15) rfl) ?_
    refine gw_gRa 15 (hS6.c (r := 1) rfl) (hS6.r (r := 1) (j := 1) (a := 15) (by decide)) ?_
    refine gw_gIw (hS6.c (r := 15) rfl) ?_
    have e5 : (wR (wI m 15 4 0) 15 6 A).2.1 15 5 = μ.2.1 15 5 := by
      show (wI m 15 4 0).2.1 15 5 = _
      rw [wI_n _ _ _ _ (by decide), ir 15 (by omega)]
    rw [e5, wI_e]
    have rd : ∀ q : Nat, q ≠ 15 → (wI (wR (wI m 15 4 0) 15 6 A) 15 5 (μ.2.1 15 5 + 1)).2.1 q = m.2.1 q := fun q hq => by rw [wI_o _ _ _ _ hq]; show (wI m 15 4 0).2.1 q = _; exact wI_o _ _ _ _ hq
    refine gw_some (gq_I (Or.inr ⟨by omega, fun q q1 q2 => by rw [rd q q2]; exact ir q (by omega), fun j j4 j5 => by rw [wI_n _ _ _ _ j5]; show (wI m 15 4 0).2.1 15 j = _; rw [wI_n _ _ _ _ j4, ir 15 (by omega)], ?_, fun q j q1 q2 => ?_, Or.inl ⟨r1, gx_p1 _, wI_e _ _ _ _, ?_, ?_, r4⟩⟩))
    · rw [wI_n _ _ _ _ (by decide)]
      show (wI m 15 4 0).2.1 15 4 = 0
      rw [wI_e]
    · show gm_u m.2.2 15 6 A q j = _
      by_cases e : q = 15
      · subst e
        rw [gu_ne (fun z => q2 ⟨rfl, z⟩), rr 15 (by omega)]
      · rw [gu_row e, rr q (by omega)]
    · rw [hA]
      show gm_u m.2.2 15 6 A 15 6 = A
      exact gu_eq
    · rw [hA]
      unfold AFC
      rw [rd A (by omega), rd (A + 1) (by omega), rd (A + 2) (by omega), rd (A + 3) (by omega)]
      exact r3
  · subst r2
    have op := ofn (k := (pAft tx n).2.1) (by omega)
    refine gw_lt (fun g => by omega) (fun _ => ?_)
    refine gw_some (gq_I (Or.inr ⟨by omega, fun q q1 q2 => (wI_o _ _ _ _ q2).trans (ir q (by omega)), fun j j4 _ => (wI_n _ _ _ _ j4).trans (by rw [ir 15 (by omega)]), wI_e _ _ _ _, fun q j q1 q2 => ?_, Or.inr ⟨r1, rfl, (wI_n _ _ _ _ (by decide)).trans (by rw [ir 15 (by omega)]), ?_⟩⟩))
    · show m.2.2 q j = _
      rw [rr q (by omega)]
    · show m.2.2 15 6 = _
      rw [rr 15 (by omega)]
set_option maxHeartbeats 2000000 in
theorem m_aft {μ : gm_M} (h : ALL μ) {n a : Nat} {tx : Nat → Int32} (hn : n ≤ 100) (ha : a ≤ 5) (en : μ.2.1 66 31 = Int32.ofNat n) (ea : μ.2.1 66 27 = Int32.ofNat a) (ht : ∀ i : Nat, i < n → μ.2.1 66 (110 + i) = tx i) (hr : ∀ i : Nat, 0 ≤ (tx i).toInt ∧ (tx i).toInt ≤ 127) : gwI (f_X12_afternoon 65 μ) (fun x m => (5 ≤ (μ.2.1 66 27).toInt ∧ x = -4 ∧ m = μ) ∨ ((μ.2.1 66 27).toInt < 5 ∧ RA μ a (pAft tx n) x m)) := by
  have hM := h.1
  have hg := hM.1
  have n27 := hM.n27
  have l0 : (0 : Int32).toInt = 0 := rfl
  have l1 : (1 : Int32).toInt = 1 := rfl
  have l5 : (5 : Int32).toInt = 5 := rfl
  have l10 : (10 : Int32).toInt = 10 := rfl
  have l27 : (27 : Int32).toInt = 27 := rfl
  have l31 : (31 : Int32).toInt = 31 := rfl
  have l32 : (32 : Int32).toInt = 32 := rfl
  have l210 : (210 : Int32).toInt = 210 := rfl
  have l215 : (215 : Int32).toInt = 215 := rfl
  have l220 : (220 : Int32).toInt = 220 := rfl
  refine gwI_of ?_
  unfold f_X12_afternoon
  refine gw_gRa 66 (hg.c (r := 65) rfl) (hg.r (by decide)) ?_
  refine gw_aIw 27 (hg.t (r := 66) rfl) (hg.l (r := 66) rfl) (by omega) (by omega) ?_
  refine gw_ne (fun g => ?_) (fun g => gw_some (gq_I (Or.inl ⟨by omega, rfl, rfl⟩)))
  have oa : (Int32.ofNat a).toInt = a := ofn (by omega)
  have ha5 : a < 5 := by rw [ea] at n27 g; omega
  refine gw_gRa 66 (hg.c (r := 65) rfl) (hg.r (by decide)) ?_
  refine gw_aIw 27 (hg.t (r := 66) rfl) (hg.l (r := 66) rfl) (by omega) (by omega) ?_
  refine gw_pIw (hg.c (r := 65) rfl) ?_
  refine gw_gRa 66 (hg.c (r := 65) rfl) (hg.r (r := 65) (j := 1) (a := 66) (by decide)) ?_
  refine gw_aIw 31 (hg.t (r := 66) rfl) (hg.l (r := 66) rfl) (by omega) (by omega) ?_
  rw [wI_o _ _ _ _ (show (66 : Nat) ≠ 65 by decide)]
  refine gw_pIw (hg.c (r := 65) rfl) ?_
  refine gw_gRa 66 (hg.c (r := 65) rfl) (hg.r (r := 65) (j := 1) (a := 66) (by decide)) ?_
  refine gw_sIw 31 (hg.t (r := 66) rfl) (hg.l (r := 66) rfl) (by omega) (by omega) ?_
  generalize h1 : wI (wI (wI μ 65 5 (μ.2.1 66 27)) 65 7 (μ.2.1 66 31)) 66 31 0 = m1
  have g1 : gS m1 := by rw [← h1]; exact hg
  have a5 : m1.2.1 65 5 = Int32.ofNat a := by rw [← h1, wI_o _ _ _ _ (by decide), wI_n _ _ _ _ (by decide), wI_e, ea]
  refine gw_gRa 66 (g1.c (r := 65) rfl) (g1.r (by decide)) ?_
  refine gw_gIw (g1.c (r := 65) rfl) ?_
  rw [a5]
  have n210 : ((210 : Int32) + Int32.ofNat a).toInt = (210 : Int32).toInt + (Int32.ofNat a).toInt := gx_add (by omega) (by omega)
  have n215 : ((215 : Int32) + Int32.ofNat a).toInt = (215 : Int32).toInt + (Int32.ofNat a).toInt := gx_add (by omega) (by omega)
  have n220 : ((220 : Int32) + Int32.ofNat a).toInt = (220 : Int32).toInt + (Int32.ofNat a).toInt := gx_add (by omega) (by omega)
  refine gw_sIw (210 + a) (g1.t (r := 66) rfl) (g1.l (r := 66) rfl) (by omega) (by omega) ?_
  refine gw_gRa 66 (g1.c (r := 65) rfl) (g1.r (r := 65) (j := 1) (a := 66) (by decide)) ?_
  refine gw_gIw (g1.c (r := 65) rfl) ?_
  rw [wI_o _ _ _ _ (show (65 : Nat) ≠ 66 by decide), a5]
  refine gw_sIw (215 + a) (g1.t (r := 66) rfl) (g1.l (r := 66) rfl) (by omega) (by omega) ?_
  refine gw_gRa 66 (g1.c (r := 65) rfl) (g1.r (r := 65) (j := 1) (a := 66) (by decide)) ?_
  refine gw_gIw (g1.c (r := 65) rfl) ?_
  rw [wI_o _ _ _ _ (show (65 : Nat) ≠ 66 by decide), wI_o _ _ _ _ (show (65 : Nat) ≠ 66 by decide), a5]
  refine gw_sIw (220 + a) (g1.t (r := 66) rfl) (g1.l (r := 66) rfl) (by omega) (by omega) ?_
  refine gw_pIw (g1.c (r := 65) rfl) ?_
  refine gw_pZw (g1.c (r := 65) rfl) (Or.inl l0) ?_
  refine gw_pIw (g1.c (r := 65) rfl) ?_
  generalize hB : wI (wI (wI (wI (wI (wI m1 66 (210 + a) 0) 66 (215 + a) 20) 66 (220 + a) 0) 65 6 0) 65 8 0) 65 9 0 = B
  have gB : gS B := by rw [← hB]; exact g1
  have B2 : B.2.2 = μ.2.2 := by rw [← hB, ← h1]; rfl
  have Bo : ∀ r : Nat, r ≠ 65 → r ≠ 66 → B.2.1 r = μ.2.1 r := fun r r1 r2 => by
    rw [← hB, wI_o _ _ _ _ r1, wI_o _ _ _ _ r1, wI_o _ _ _ _ r1, wI_o _ _ _ _ r2, wI_o _ _ _ _ r2, wI_o _ _ _ _ r2, ← h1, wI_o _ _ _ _ r2, wI_o _ _ _ _ r1, wI_o _ _ _ _ r1]
  have B65 : ∀ j : Nat, j ≠ 9 → j ≠ 8 → j ≠ 6 → B.2.1 65 j = m1.2.1 65 j := fun j j9 j8 j6 => by
    rw [← hB, wI_n _ _ _ _ j9, wI_n _ _ _ _ j8, wI_n _ _ _ _ j6, wI_o _ _ _ _ (by decide), wI_o _ _ _ _ (by decide), wI_o _ _ _ _ (by decide)]
  have B9 : B.2.1 65 9 = 0 := by rw [← hB, wI_e]
  have B8 : B.2.1 65 8 = 0 := by rw [← hB, wI_n _ _ _ _ (by decide), wI_e]
  have B6 : B.2.1 65 6 = 0 := by rw [← hB, wI_n _ _ _ _ (by decide), wI_n _ _ _ _ (by decide), wI_e]
  have B7 : B.2.1 65 7 = Int32.ofNat n := by rw [B65 7 (by decide) (by decide) (by decide), ← h1, wI_o _ _ _ _ (by decide), wI_e, en]
  have B5 : B.2.1 65 5 = Int32.ofNat a := by rw [B65 5 (by decide) (by decide) (by decide)]; exact a5
  have C : ∀ k : Nat, k ≠ 31 → k ≠ 210 + a → k ≠ 215 + a → k ≠ 220 + a → B.2.1 66 k = μ.2.1 66 k := fun k k1 k2 k3 k4 => by
    rw [← hB, wI_o _ _ _ _ (by decide), wI_o _ _ _ _ (by decide), wI_o _ _ _ _ (by decide), wI_n _ _ _ _ k4, wI_n _ _ _ _ k3, wI_n _ _ _ _ k2, ← h1, wI_n _ _ _ _ k1, wI_o _ _ _ _ (by decide), wI_o _ _ _ _ (by decide)]
  have C31 : B.2.1 66 31 = 0 := by
    rw [← hB, wI_o _ _ _ _ (by decide), wI_o _ _ _ _ (by decide), wI_o _ _ _ _ (by decide), wI_n _ _ _ _ (by omega), wI_n _ _ _ _ (by omega), wI_n _ _ _ _ (by omega), ← h1, wI_e]
  have C220 : B.2.1 66 (220 + a) = 0 := by rw [← hB, wI_o _ _ _ _ (by decide), wI_o _ _ _ _ (by decide), wI_o _ _ _ _ (by decide), wI_e]
  have C215 : B.2.1 66 (215 + a) = 20 := by rw [← hB, wI_o _ _ _ _ (by decide), wI_o _ _ _ _ (by decide), wI_o _ _ _ _ (by decide), wI_n _ _ _ _ (by omega), wI_e]
  have C210 : B.2.1 66 (210 + a) = 0 := by rw [← hB, wI_o _ _ _ _ (by decide), wI_o _ _ _ _ (by decide), wI_o _ _ _ _ (by decide), wI_n _ _ _ _ (by omega), wI_n _ _ _ _ (by omega), wI_e]
  clear hB h1
  have br : BR a n tx B := ⟨gB, ha5, B5, B7, hn, fun i hi => by rw [C (110 + i) (by omega) (by omega) (by omega) (by omega)]; exact ht i hi, hr⟩
  have dB : mst a n B false 0 0 20 [] B := ⟨⟨rfl, rfl, fun _ _ _ => rfl, fun _ _ _ _ => rfl, fun _ _ _ _ _ => rfl⟩, ⟨C210, C215⟩, ⟨rfl, rfl, fun _ _ _ => rfl, fun _ _ _ _ => rfl, fun _ _ _ => rfl⟩, ⟨Nat.zero_le _, Nat.zero_le _, Nat.le_refl _⟩, B6, B8, B9, C220, fun i hi => absurd hi (Nat.not_lt_zero i)⟩
  refine gw_if (gB.t (r := 65) rfl) ?_
  refine gw_bV (m_clause br dB) (fun m23 h23 => ?_)
  -- what is left: k clauses more
  generalize hI : (fun s : Int32 × gm_M => ∃ i : Nat, s.1 = Int32.ofNat i ∧ 1 ≤ i ∧ i ≤ 10 ∧ ∃ r : pB, mk a n B r s.2 ∧ pAft tx n = (if r.1 = true then pR tx n (10 - i) r else r)) = I
  have on := ofn (k := n) (by omega)
  refine gw_loop I (fun s => 10 - s.1.toInt) (fun s hs => ?_) 5000 ((1 : Int32), m23) (by rw [← hI]; exact ⟨1, rfl, Nat.le_refl _, by decide, pK tx n 0 0 20 [], h23, rfl⟩) (by show 10 - (1 : Int32).toInt < ((5000 : Nat) : Int); omega) (by show 0 ≤ 10 - (1 : Int32).toInt; omega)
  obtain ⟨s1, s2⟩ := s
  rw [← hI] at hs
  obtain ⟨i, es, hi1, hi2, r, hr2, eA⟩ := hs
  replace es : s1 = Int32.ofNat i := es
  replace hr2 : mk a n B r s2 := hr2
  subst es
  have oi := ofn (k := i) (by omega)
  have bad : ∀ (q : Nat) (w sw : Int32) (T : List Int32) (v : Bool) (M : gm_M), (v = true ∨ q < n) → pAft tx n = (false, q, (pAft tx n).2.2) → mst a n B v q w sw T M → gw (gm_gI M [17] 65 8 (fun v29 => gm_j (fun (s30 : Unit) => gm_gI M [17] 65 6 (fun v32 => (some (Sum.inr (some (.int ((-10 : Int32) - v32)), M)) : Option ((Int32 × gm_M) ⊕ (Option Value × gm_M))))) (fun j31 => if v29 ≠ 0 then j31 () else gm_gI M [17] 65 6 (fun v33 => gm_gI M [17] 65 7 (fun v34 => if v33 = v34 then gm_gR M [17] 65 1 (fun v35 => gm_aI M v35 (27 : Int32) (fun v36 => gm_sI M v35 (27 : Int32) (v36 + (1 : Int32)) (fun m37 => gm_gR m37 [17] 65 1 (fun v38 => gm_gI m37 [17] 65 5 (fun v39 => gm_sI m37 v38 (32 : Int32) v39 (fun m40 => gm_gI m40 [17] 65 5 (fun v41 => some (Sum.inr (some (.int v41), m40))))))))) else j31 ()))))) (gs_st I (fun s => 10 - s.1.toInt) (Int32.ofNat i, s2) (gqI (fun x m => (5 ≤ (μ.2.1 66 27).toInt ∧ x = -4 ∧ m = μ) ∨ ((μ.2.1 66 27).toInt < 5 ∧ RA μ a (pAft tx n) x m)))) := fun q w sw T v M hv eq d => by
    have bm := d.b br
    have c := d.c
    have hq := c.2.1.1
    obtain ⟨⟨d1, d2, d3, d4, d5⟩, d6, -⟩ := d
    have ok : RA μ a (pAft tx n) (-10 - Int32.ofNat q) M := by
      rw [eq]
      refine ⟨fun k k1 k2 => (d3 k k1 k2).trans (Bo k k1 k2), d2.trans B2, fun k k1 k2 k3 k4 k5 k6 k7 => (d5 k k4 k5 k6 k7).trans (C k k2 k4 k5 k6), (d5 31 (by omega) (by omega) (by omega) (by omega)).trans C31, Or.inr ⟨rfl, rfl, (d5 27 (by omega) (by omega) (by omega) (by omega)).trans (C 27 (by omega) (by omega) (by omega) (by omega)), (d5 32 (by omega) (by omega) (by omega) (by omega)).trans (C 32 (by omega) (by omega) (by omega) (by omega))⟩⟩
    refine gw_gIw (c.tc bm) ?_
    rw [c.e8]
    refine gw_j (fun _ => True) (fun _ _ => ?_) (fun j31 hj31 => ?_)
    · refine gw_gIw (c.tc bm) ?_
      rw [c.e6]
      exact gw_some (gs_inr (gq_I (Or.inr ⟨by rw [ea, oa]; omega, ok⟩)))
    · cases v with
      | true => rw [if_pos (by decide)]; exact hj31 _ trivial
      | false =>
        rw [if_neg (by decide)]
        refine gw_gIw (c.tc bm) ?_
        refine gw_gIw (c.tc bm) ?_
        rw [c.e6, c.e7 bm]
        have oq := ofn (k := q) (by omega)
        refine gw_eq (fun g => ?_) (fun _ => hj31 _ trivial)
        rcases hv with h | h
        · cases h
        · omega
  cases r1 : r.1 with
  | false =>
    rw [if_neg (by rw [r1]; decide)] at eA
    rcases hr2 with ⟨h, -⟩ | ⟨-, w, sw, T, d⟩
    · rw [r1] at h; cases h
    · have bm := d.b br
      have c := d.c
      refine gw_gIw (c.tc bm) ?_
      show gw (gm_j _ (fun j28 => if s2.2.1 65 8 ≠ 0 then _ else _)) _
      rw [c.e8]
      refine gw_ji ?_
      rw [if_pos (by decide)]
      exact bad r.2.1 w sw T true s2 (Or.inl rfl) (by rw [eA, ← r1]) d
  | true =>
    rw [if_pos r1] at eA
    rcases hr2 with ⟨-, d⟩ | ⟨h, -⟩
    · have bm := d.b br
      have c := d.c
      have hq := c.2.1.1
      have orp := ofn (k := r.2.1) (by omega)
      refine gw_gIw (c.tc bm) ?_
      show gw (gm_j _ (fun j28 => if s2.2.1 65 8 ≠ 0 then _ else _)) _
      rw [c.e8]
      refine gw_j (fun M => M = s2 ∧ (n ≤ r.2.1 ∨ (r.2.1 < n ∧ pAft tx n = (false, r.2)))) (fun M ⟨eM, hM⟩ => ?_) (fun j28 hj28 => ?_)
      · subst eM
        by_cases hend : n ≤ r.2.1
        · have e : pAft tx n = r := by
            rw [eA]
            cases 10 - i with
            | zero => rw [pR, if_pos hend]
            | succ k => rw [pR, if_pos hend]
          refine gw_gIw (c.tc bm) ?_
          rw [c.e8]
          refine gw_ji ?_
          rw [if_neg (by decide)]
          refine gw_gIw (c.tc bm) ?_
          refine gw_gIw (c.tc bm) ?_
          rw [c.e6, c.e7 bm, if_pos (by rw [show r.2.1 = n by omega])]
          obtain ⟨⟨d1, d2, d3, d4, d5⟩, ⟨d6, d7⟩, -⟩ := d
          have c11 := c.2.2.2.2.2
          have e27 : M.2.1 66 27 = Int32.ofNat a := by rw [d5 27 (by omega) (by omega) (by omega) (by omega), C 27 (by omega) (by omega) (by omega) (by omega), ea]
          refine gw_gRa 66 (c.tc bm) (c.r1 bm) ?_
          refine gw_aIw 27 ((c.S bm).t (r := 66) rfl) ((c.S bm).l (r := 66) rfl) (by omega) (by omega) ?_
          refine gw_sIw 27 ((c.S bm).t (r := 66) rfl) ((c.S bm).l (r := 66) rfl) (by omega) (by omega) ?_
          refine gw_gRa 66 (show [17].contains (gm_tag M 65) = true from c.tc bm) (show M.2.2 65 1 = 66 from c.r1 bm) ?_
          refine gw_gIw (show [17].contains (gm_tag M 65) = true from c.tc bm) ?_
          rw [wI_o _ _ _ _ (show (65 : Nat) ≠ 66 by decide), c.e5 bm]
          refine gw_sIw 32 ((c.S bm).t (r := 66) rfl) ((c.S bm).l (r := 66) rfl) (by omega) (by omega) ?_
          refine gw_gIw (show [17].contains (gm_tag M 65) = true from c.tc bm) ?_
          rw [wI_o _ _ _ _ (show (65 : Nat) ≠ 66 by decide), wI_o _ _ _ _ (show (65 : Nat) ≠ 66 by decide), c.e5 bm, e27]
          have rd : ∀ k : Nat, k ≠ 27 → k ≠ 32 → (wI (wI M 66 27 (Int32.ofNat a + 1)) 66 32 (Int32.ofNat a)).2.1 66 k = M.2.1 66 k := fun k k1 k2 => by rw [wI_n _ _ _ _ k2, wI_n _ _ _ _ k1]
          refine gw_some (gs_inr (gq_I (Or.inr ⟨by rw [ea, oa]; omega, fun k k1 k2 => ?_, d2.trans B2, fun k k1 k2 k3 k4 k5 k6 k7 => ?_, ?_, Or.inl ⟨by rw [e]; exact r1, by rw [ea], ?_, ?_, ?_⟩⟩)))
          · rw [wI_o _ _ _ _ k2, wI_o _ _ _ _ k2]; exact (d3 k k1 k2).trans (Bo k k1 k2)
          · rw [rd k k1 k3]; exact (d5 k k4 k5 k6 k7).trans (C k k2 k4 k5 k6)
          · rw [rd 31 (by decide) (by decide)]; exact (d5 31 (by omega) (by omega) (by omega) (by omega)).trans C31
          · rw [wI_n _ _ _ _ (by decide), wI_e, ea]
          · rw [wI_e, ea]
          · rw [e]
            unfold AFR
            rw [rd (210 + a) (by omega) (by omega), rd (215 + a) (by omega) (by omega), rd (220 + a) (by omega) (by omega)]
            refine ⟨⟨d6, d7⟩, c11.1, fun i hi => ?_⟩
            rw [rd _ (by omega) (by omega)]; exact c11.2 i hi
        · rcases hM with h | ⟨h, e⟩
          · exact absurd h hend
          · exact bad r.2.1 _ _ _ false M (Or.inr h) (by rw [e]) d
      · rw [if_neg (by decide)]
        refine gw_le (fun g => ?_) (fun g => ?_)
        · replace g : (10 : Int32).toInt ≤ (Int32.ofNat i).toInt := g
          refine hj28 _ ⟨rfl, ?_⟩
          by_cases hend : n ≤ r.2.1
          · exact Or.inl hend
          · exact Or.inr ⟨by omega, by rw [eA, show 10 - i = 0 by omega, pR, if_neg hend]⟩
        · replace g : (Int32.ofNat i).toInt < (10 : Int32).toInt := g
          refine gw_if (c.t bm) ?_
          refine gw_bI (w_here bm c) (fun x m' ⟨ex, em⟩ => ?_)
          subst em
          refine gw_ite (fun g2 => hj28 _ ⟨rfl, ?_⟩) (fun g2 => ?_)
          · by_cases hend : n ≤ r.2.1
            · exact Or.inl hend
            · exact Or.inr ⟨by omega, by rw [eA, show 10 - i = (9 - i) + 1 by omega, pR, if_neg hend, if_neg (by rw [← ex]; exact g2)]⟩
          · have e59 : pd tx n r.2.1 = 59 := by rw [← ex]; exact Decidable.not_not.mp g2
            have q : r.2.1 < n := pd_lt (tx := tx) (by rw [e59]; decide)
            rw [show 10 - i = (9 - i) + 1 by omega, pR, if_neg (by omega), if_pos e59] at eA
            refine gw_gIw (c.tc bm) ?_
            refine gw_pIw (c.tc bm) ?_
            rw [c.e6, ofn1 (by omega)]
            have d2 := d.on ha5 (c.at (q := r.2.1 + 1) (by omega) (by have := c.2.1.2.2; omega))
            refine gw_if (d2.c.t (d2.b br)) ?_
            refine gw_bV (m_clause br d2) (fun m46 h46 => ?_)
            refine gw_some (gs_inl ?_ ?_ ?_)
            · rw [← hI]
              exact ⟨i + 1, ofn1 (by omega), by omega, by omega, _, h46, by rw [eA, show 10 - (i + 1) = 9 - i by omega]⟩
            · show 10 - (Int32.ofNat i + 1).toInt < 10 - (Int32.ofNat i).toInt
              rw [ofn1 (by omega), ofn (k := i + 1) (by omega)]; omega
            · show 0 ≤ 10 - (Int32.ofNat i + 1).toInt
              rw [ofn1 (by omega), ofn (k := i + 1) (by omega)]; omega
    · rw [r1] at h; cases h
