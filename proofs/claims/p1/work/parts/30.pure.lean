def gi0 : gm_M := ([(0, 0)], fun _ _ => 0, fun _ _ => 0)
def gi1 : gm_M := gm_nw gi0 16 10
def gi2 : gm_M := (gm_bV (f_X11_init 1 gi1) (fun m => some m)).getD gi0
def gi3 : gm_M := gm_nw gi2 17 23
def gi5 : gm_M := (gm_bV (f_X12_init 65 gi3) (fun m => some m)).getD gi0
def gm_isV (z : Option (Option Value × gm_M)) : Bool := match z with
  | some (none, _) => true
  | _ => false
theorem gm_isV_spec {z : Option (Option Value × gm_M)} (h : gm_isV z = true) (d : gm_M) : z = some (none, (gm_bV z (fun m => some m)).getD d) := by
  unfold gm_isV at h
  match z, h with
  | some (none, m), _ => rfl
theorem gi_init : f_X11_init 1 gi1 = some (none, gi2) := gm_isV_spec (by decide +kernel) gi0
theorem gi_len : gi2.1.length = 65 := by decide +kernel
theorem gi_init2 : f_X12_init 65 gi3 = some (none, gi5) := gm_isV_spec (by decide +kernel) gi0
theorem gt_1 : gm_tag gi5 1 = 16 := by decide +kernel
theorem gt_15 : gm_tag gi5 15 = 13 := by decide +kernel
theorem gt_3 : gm_tag gi5 3 = 12 := by decide +kernel
theorem gt_23 : gm_tag gi5 23 = 12 := by decide +kernel
theorem gt_25 : gm_tag gi5 25 = 12 := by decide +kernel
theorem gt_26 : gm_tag gi5 26 = 1 := by decide +kernel
theorem gl_26 : gm_len gi5 26 = 24 := by decide +kernel
theorem gt_27 : gm_tag gi5 27 = 12 := by decide +kernel
theorem gt_17 : gm_tag gi5 17 = 1 := by decide +kernel
theorem gl_17 : gm_len gi5 17 = 100 := by decide +kernel
theorem gr_1_1 : gi5.2.2 1 1 = 15 := by decide +kernel
theorem gr_1_4 : gi5.2.2 1 4 = 3 := by decide +kernel
theorem gr_15_3 : gi5.2.2 15 3 = 17 := by decide +kernel
theorem gr_15_7 : gi5.2.2 15 7 = 23 := by decide +kernel
theorem gr_15_8 : gi5.2.2 15 8 = 25 := by decide +kernel
theorem gr_15_9 : gi5.2.2 15 9 = 27 := by decide +kernel
theorem gr_25_1 : gi5.2.2 25 1 = 26 := by decide +kernel
theorem gn_15_1 : gi5.2.1 15 1 = 0 := by decide +kernel
theorem gn_15_4 : gi5.2.1 15 4 = 0 := by decide +kernel
theorem gn_3_0 : gi5.2.1 3 0 = 20 := by decide +kernel
theorem gn_3_2 : gi5.2.1 3 2 = 0 := by decide +kernel
theorem gn_25_0 : gi5.2.1 25 0 = 8 := by decide +kernel
theorem gn_25_2 : gi5.2.1 25 2 = 0 := by decide +kernel
theorem ht_65 : gm_tag gi5 65 = 17 := by decide +kernel
theorem ht_66 : gm_tag gi5 66 = 1 := by decide +kernel
theorem hl_66 : gm_len gi5 66 = 925 := by decide +kernel
theorem hr_65 : gi5.2.2 65 1 = 66 := by decide +kernel
theorem hn_26 : gi5.2.1 66 26 = 0 := by decide +kernel
theorem hn_29 : gi5.2.1 66 29 = 0 := by decide +kernel
theorem hn_31 : gi5.2.1 66 31 = 0 := by decide +kernel
theorem hn_ran : gi5.2.1 65 19 = 0 := by decide +kernel
theorem gm_tagm (M : gm_M) (I : Nat → Nat → Int32) (R : Nat → Nat → Nat) (r : Nat) : gm_tag (M.1, I, R) r = gm_tag M r := rfl
theorem gm_lenm (M : gm_M) (I : Nat → Nat → Int32) (R : Nat → Nat → Nat) (r : Nat) : gm_len (M.1, I, R) r = gm_len M r := rfl
def gm_eqI (z : Option (Option Value × gm_M)) (g : gm_M → Option (Option Value × gm_M)) : Bool := match z with
  | some (some (.int a), m) => Nat.beq (gm_tag m 65) 17 && (match g m with
    | some (some (.int b), _) => decide (a = b)
    | _ => false)
  | _ => false
def gm_eqL (z : Option (Option Value × gm_M)) (g : gm_M → Option (Option Value × gm_M)) : Bool := match z with
  | some (some (.long a), m) => Nat.beq (gm_tag m 65) 17 && (match g m with
    | some (some (.long b), _) => decide (a = b)
    | _ => false)
  | _ => false
theorem gm_eqI_spec {z : Option (Option Value × gm_M)} {g : gm_M → Option (Option Value × gm_M)} (h : gm_eqI z g = true) : ∃ a m m', z = some (some (.int a), m) ∧ gm_tag m 65 = 17 ∧ g m = some (some (.int a), m') := by
  unfold gm_eqI at h
  split at h
  · rename_i a m
    rw [Bool.and_eq_true] at h
    obtain ⟨h1, h2⟩ := h
    split at h2
    · rename_i b m' e
      have e2 := of_decide_eq_true h2
      subst e2
      exact ⟨_, m, m', rfl, Nat.eq_of_beq_eq_true h1, e⟩
    · cases h2
  · cases h
theorem gm_eqL_spec {z : Option (Option Value × gm_M)} {g : gm_M → Option (Option Value × gm_M)} (h : gm_eqL z g = true) : ∃ a m m', z = some (some (.long a), m) ∧ gm_tag m 65 = 17 ∧ g m = some (some (.long a), m') := by
  unfold gm_eqL at h
  split at h
  · rename_i a m
    rw [Bool.and_eq_true] at h
    obtain ⟨h1, h2⟩ := h
    split at h2
    · rename_i b m' e
      have e2 := of_decide_eq_true h2
      subst e2
      exact ⟨_, m, m', rfl, Nat.eq_of_beq_eq_true h1, e⟩
    · cases h2
  · cases h
/-- the outer tests -/
theorem gp_out (c a b : Int32) (μ : gm_M) : f_X11_isOutside c a b μ = some (some (.int (if c < a then 1 else if c ≤ b then 0 else 1)), μ) := by
  unfold f_X11_isOutside gm_j
  by_cases h1 : c < a
  · simp [h1]
  · by_cases h2 : c ≤ b
    · simp [h1, h2]
    · simp [h1, h2]
theorem gp_in (c a b : Int32) (μ : gm_M) : f_X12_in c a b μ = some (some (.int (if c < a then 0 else if b < c then 0 else 1)), μ) := by
  unfold f_X12_in
  by_cases h1 : c < a
  · simp [h1]
  · by_cases h2 : b < c
    · simp [h1, h2]
    · simp [h1, h2]
theorem gp_m1 {c : Int32} (h : ¬ c < 0) : ¬ c ≤ (0 - 1 : Int32) := by
  rw [Int32.lt_iff_toInt_lt] at h
  rw [Int32.le_iff_toInt_le]
  have e1 : (0 : Int32).toInt = 0 := by decide
  have e2 : (0 - 1 : Int32).toInt = -1 := by decide
  omega
theorem gp_m2 {c : Int32} (h : ¬ c < 0) : (0 - 1 : Int32) < c := by
  have := gp_m1 h
  rw [Int32.le_iff_toInt_le] at this
  rw [Int32.lt_iff_toInt_lt]
  omega
theorem gp_nob (c : Int32) : f_X11_isNobody 1 c gi5 = some (some (.int 1), gi5) := by
  unfold f_X11_isNobody
  simp only [gm_gR, gm_gI, gt_1, gt_15, gr_1_1, gn_15_1, gp_out, gm_bI]
  by_cases h : c < 0
  · simp [h]
  · have g := gp_m1 h
    have e : (0 - 1 : Int32) = -1 := by decide
    rw [e] at g ⊢
    simp [h, g]
theorem gp_ch (c : Int32) : f_X12_isChild 65 c gi5 = some (some (.int 0), gi5) := by
  unfold f_X12_isChild
  have e : (26 : Int32).toNatClampNeg = 26 := by decide
  simp only [gm_gR, gm_aI, ht_65, ht_66, hl_66, hr_65, e, hn_26, gp_in, gm_bI]
  by_cases h : c < 0
  · simp [h]
  · have g := gp_m2 h
    have e : (0 - 1 : Int32) = -1 := by decide
    rw [e] at g ⊢
    simp [h, g]
theorem gp_nobM {M : gm_M} (h1 : gm_tag M 1 = 16) (h2 : gm_tag M 15 = 13) (h3 : M.2.2 1 1 = 15) (h4 : M.2.1 15 1 = 0) (c : Int32) : f_X11_isNobody 1 c M = some (some (.int 1), M) := by
  unfold f_X11_isNobody
  simp only [gm_gR, gm_gI, h1, h2, h3, h4, gp_out, gm_bI]
  by_cases h : c < 0
  · simp [h]
  · have g := gp_m1 h
    have e : (0 - 1 : Int32) = -1 := by decide
    rw [e] at g ⊢
    simp [h, g]
theorem gp_chM {M : gm_M} (h1 : gm_tag M 65 = 17) (h2 : gm_tag M 66 = 1) (h3 : gm_len M 66 = 925) (h4 : M.2.2 65 1 = 66) (h5 : M.2.1 66 26 = 0) (c : Int32) : f_X12_isChild 65 c M = some (some (.int 0), M) := by
  unfold f_X12_isChild
  have e : (26 : Int32).toNatClampNeg = 26 := by decide
  simp only [gm_gR, gm_aI, h1, h2, h3, h4, e, h5, gp_in, gm_bI]
  by_cases h : c < 0
  · simp [h]
  · have g := gp_m2 h
    have e : (0 - 1 : Int32) = -1 := by decide
    rw [e] at g ⊢
    simp [h, g]
theorem gm_loop1 {S β : Type} {step : S → Option (S ⊕ β)} {s : S} {b : β} (h : step s = some (.inr b)) (i : Nat) : gm_loop step (i + 1) s = some b := by
  unfold gm_loop
  rw [h]
def gk5 : gm_M := (gm_bV (f_X12_keeps 65 gi5) (fun m => some m)).getD gi0
theorem gk_ok : f_X12_keeps 65 gi5 = some (none, gk5) := gm_isV_spec (by decide +kernel) gi0
theorem gk_t : gm_tag gk5 65 = 17 := by decide +kernel
def gk_chk (j : Nat) : Bool := match f_X12_goesOn 65 (nI j) gk5 with
  | some (none, m) => Nat.beq (gm_tag m 65) 17 && Nat.beq (gm_tag m 66) 1 && Nat.beq (gm_len m 66) 925 && Nat.beq (m.2.2 65 1) 66 && decide (m.2.1 66 26 = 0) && gm_isV (f_X12_goesBack 65 m)
  | _ => false
theorem gk_all : ∀ j, j < 41 → gk_chk j = true := by decide +kernel
theorem gk_spec {j : Nat} (h : gk_chk j = true) : ∃ m mb, f_X12_goesOn 65 (nI j) gk5 = some (none, m) ∧ gm_tag m 65 = 17 ∧ gm_tag m 66 = 1 ∧ gm_len m 66 = 925 ∧ m.2.2 65 1 = 66 ∧ m.2.1 66 26 = 0 ∧ f_X12_goesBack 65 m = some (none, mb) := by
  unfold gk_chk at h
  split at h
  · rename_i m e
    simp only [Bool.and_eq_true, decide_eq_true_eq] at h
    obtain ⟨⟨⟨⟨⟨h1, h2⟩, h3⟩, h4⟩, h5⟩, h6⟩ := h
    exact ⟨m, _, e, Nat.eq_of_beq_eq_true h1, Nat.eq_of_beq_eq_true h2, Nat.eq_of_beq_eq_true h3, Nat.eq_of_beq_eq_true h4, h5, gm_isV_spec h6 gi0⟩
  · cases h

theorem gp_rng {x lo hi : Int32} (h1 : ¬ x < lo) (h2 : x ≤ hi) (a : Nat) (hl : lo = 0) (ha : hi.toInt = a) : ∃ j : Nat, j < a + 1 ∧ x = nI j := by
  subst hl
  obtain ⟨j, hj, rfl⟩ := nI_of h1
  rw [Int32.le_iff_toInt_le, nI_toInt hj, ha] at h2
  exact ⟨j, by omega, rfl⟩
theorem K0_feed : ∀ j : Nat, j < 128 → gm_eqI (f_X11_feed 1 (nI j) gi5) (fun m => f_X12_feed 65 (nI j) m) = true := by decide +kernel
theorem K_feed : ∀ (x0 : Int32), gm_eqI (f_X11_feed 1 x0 gi5) (fun m => f_X12_feed 65 x0 m) = true := by
  intro x0
  by_cases h1 : x0 < 0
  · simp [f_X11_feed, f_X12_feed, h1, gm_eqI, gm_eqL, gm_bI, gm_bL, gm_bV, gm_j, gm_gR, gm_gI, gm_aI, gm_sI, gm_pI, gm_al, gt_1, gt_15, gt_3, gt_23, gt_25, gt_26, gl_26, gt_27, gt_17, gl_17, gr_1_1, gr_1_4, gr_15_3, gr_15_7, gr_15_8, gr_15_9, gr_25_1, gn_15_1, gn_15_4, gn_3_0, gn_3_2, gn_25_0, gn_25_2, ht_65, ht_66, hl_66, hr_65, hn_26, hn_29, hn_31, hn_ran, gm_tagm, gm_lenm, gp_out, gp_in, gp_nob, gp_ch]
  · by_cases h2 : x0 ≤ 127
    · obtain ⟨j, hj, rfl⟩ := gp_rng h1 h2 127 rfl (by decide)
      exact K0_feed j hj
    · have h3 := Int32.not_le.mp h2
      simp [f_X11_feed, f_X12_feed, h1, h2, h3, gm_eqI, gm_eqL, gm_bI, gm_bL, gm_bV, gm_j, gm_gR, gm_gI, gm_aI, gm_sI, gm_pI, gm_al, gt_1, gt_15, gt_3, gt_23, gt_25, gt_26, gl_26, gt_27, gt_17, gl_17, gr_1_1, gr_1_4, gr_15_3, gr_15_7, gr_15_8, gr_15_9, gr_25_1, gn_15_1, gn_15_4, gn_3_0, gn_3_2, gn_25_0, gn_25_2, ht_65, ht_66, hl_66, hr_65, hn_26, hn_29, hn_31, hn_ran, gm_tagm, gm_lenm, gp_out, gp_in, gp_nob, gp_ch]
theorem K_afternoon : ∀ (_ : Unit), gm_eqI (f_X11_afternoon 1  gi5) (fun m => f_X12_afternoon 65  m) = true := by
  intro _
  decide +kernel
theorem K0_child : ∀ i : Nat, i < 7 → ∀ j : Nat, j < 10 → gm_eqI (f_X11_child 1 (nI i) (nI j) gi5) (fun m => f_X12_child 65 (nI i) (nI j) m) = true := by decide +kernel
theorem K_child : ∀ (x0 x1 : Int32), gm_eqI (f_X11_child 1 x0 x1 gi5) (fun m => f_X12_child 65 x0 x1 m) = true := by
  intro x0 x1
  by_cases h1 : x0 < 0
  · simp [f_X11_child, f_X12_child, h1, gm_eqI, gm_eqL, gm_bI, gm_bL, gm_bV, gm_j, gm_gR, gm_gI, gm_aI, gm_sI, gm_pI, gm_al, gt_1, gt_15, gt_3, gt_23, gt_25, gt_26, gl_26, gt_27, gt_17, gl_17, gr_1_1, gr_1_4, gr_15_3, gr_15_7, gr_15_8, gr_15_9, gr_25_1, gn_15_1, gn_15_4, gn_3_0, gn_3_2, gn_25_0, gn_25_2, ht_65, ht_66, hl_66, hr_65, hn_26, hn_29, hn_31, hn_ran, gm_tagm, gm_lenm, gp_out, gp_in, gp_nob, gp_ch]
  · by_cases h2 : x0 ≤ 6
    · by_cases g1 : x1 < 0
      · have h3 := Int32.not_lt.mpr h2
        simp [f_X11_child, f_X12_child, h1, h2, h3, g1, gm_eqI, gm_eqL, gm_bI, gm_bL, gm_bV, gm_j, gm_gR, gm_gI, gm_aI, gm_sI, gm_pI, gm_al, gt_1, gt_15, gt_3, gt_23, gt_25, gt_26, gl_26, gt_27, gt_17, gl_17, gr_1_1, gr_1_4, gr_15_3, gr_15_7, gr_15_8, gr_15_9, gr_25_1, gn_15_1, gn_15_4, gn_3_0, gn_3_2, gn_25_0, gn_25_2, ht_65, ht_66, hl_66, hr_65, hn_26, hn_29, hn_31, hn_ran, gm_tagm, gm_lenm, gp_out, gp_in, gp_nob, gp_ch]
      · by_cases g2 : x1 ≤ 9
        · obtain ⟨i, hi, rfl⟩ := gp_rng h1 h2 6 rfl (by decide)
          obtain ⟨j, hj, rfl⟩ := gp_rng g1 g2 9 rfl (by decide)
          exact K0_child i hi j hj
        · have h3 := Int32.not_lt.mpr h2
          have g3 := Int32.not_le.mp g2
          simp [f_X11_child, f_X12_child, h1, h2, h3, g1, g2, g3, gm_eqI, gm_eqL, gm_bI, gm_bL, gm_bV, gm_j, gm_gR, gm_gI, gm_aI, gm_sI, gm_pI, gm_al, gt_1, gt_15, gt_3, gt_23, gt_25, gt_26, gl_26, gt_27, gt_17, gl_17, gr_1_1, gr_1_4, gr_15_3, gr_15_7, gr_15_8, gr_15_9, gr_25_1, gn_15_1, gn_15_4, gn_3_0, gn_3_2, gn_25_0, gn_25_2, ht_65, ht_66, hl_66, hr_65, hn_26, hn_29, hn_31, hn_ran, gm_tagm, gm_lenm, gp_out, gp_in, gp_nob, gp_ch]
    · have h3 := Int32.not_le.mp h2
      simp [f_X11_child, f_X12_child, h1, h2, h3, gm_eqI, gm_eqL, gm_bI, gm_bL, gm_bV, gm_j, gm_gR, gm_gI, gm_aI, gm_sI, gm_pI, gm_al, gt_1, gt_15, gt_3, gt_23, gt_25, gt_26, gl_26, gt_27, gt_17, gl_17, gr_1_1, gr_1_4, gr_15_3, gr_15_7, gr_15_8, gr_15_9, gr_25_1, gn_15_1, gn_15_4, gn_3_0, gn_3_2, gn_25_0, gn_25_2, ht_65, ht_66, hl_66, hr_65, hn_26, hn_29, hn_31, hn_ran, gm_tagm, gm_lenm, gp_out, gp_in, gp_nob, gp_ch]
theorem K_of : ∀ (x0 x1 : Int32), gm_eqI (f_X11_of 1 x0 x1 gi5) (fun m => f_X12_of 65 x0 x1 m) = true := by
  intro x0 x1
  simp [f_X11_of, f_X12_of, gm_eqI, gm_eqL, gm_bI, gm_bL, gm_bV, gm_j, gm_gR, gm_gI, gm_aI, gm_sI, gm_pI, gm_al, gt_1, gt_15, gt_3, gt_23, gt_25, gt_26, gl_26, gt_27, gt_17, gl_17, gr_1_1, gr_1_4, gr_15_3, gr_15_7, gr_15_8, gr_15_9, gr_25_1, gn_15_1, gn_15_4, gn_3_0, gn_3_2, gn_25_0, gn_25_2, ht_65, ht_66, hl_66, hr_65, hn_26, hn_29, hn_31, hn_ran, gm_tagm, gm_lenm, gp_out, gp_in, gp_nob, gp_ch]
theorem K_row : ∀ (x0 x1 x2 : Int32), gm_eqI (f_X11_row 1 x0 x1 x2 gi5) (fun m => f_X12_row 65 x0 x1 x2 m) = true := by
  intro x0 x1 x2
  simp [f_X11_row, f_X12_row, gm_eqI, gm_eqL, gm_bI, gm_bL, gm_bV, gm_j, gm_gR, gm_gI, gm_aI, gm_sI, gm_pI, gm_al, gt_1, gt_15, gt_3, gt_23, gt_25, gt_26, gl_26, gt_27, gt_17, gl_17, gr_1_1, gr_1_4, gr_15_3, gr_15_7, gr_15_8, gr_15_9, gr_25_1, gn_15_1, gn_15_4, gn_3_0, gn_3_2, gn_25_0, gn_25_2, ht_65, ht_66, hl_66, hr_65, hn_26, hn_29, hn_31, hn_ran, gm_tagm, gm_lenm, gp_out, gp_in, gp_nob, gp_ch]
theorem K_set : ∀ (x0 x1 x2 : Int32), gm_eqI (f_X11_set 1 x0 x1 x2 gi5) (fun m => f_X12_set 65 x0 x1 x2 m) = true := by
  intro x0 x1 x2
  simp [f_X11_set, f_X12_set, gm_eqI, gm_eqL, gm_bI, gm_bL, gm_bV, gm_j, gm_gR, gm_gI, gm_aI, gm_sI, gm_pI, gm_al, gt_1, gt_15, gt_3, gt_23, gt_25, gt_26, gl_26, gt_27, gt_17, gl_17, gr_1_1, gr_1_4, gr_15_3, gr_15_7, gr_15_8, gr_15_9, gr_25_1, gn_15_1, gn_15_4, gn_3_0, gn_3_2, gn_25_0, gn_25_2, ht_65, ht_66, hl_66, hr_65, hn_26, hn_29, hn_31, hn_ran, gm_tagm, gm_lenm, gp_out, gp_in, gp_nob, gp_ch]
theorem K_told : ∀ (x0 : Int32), gm_eqI (f_X11_told 1 x0 gi5) (fun m => f_X12_told 65 x0 m) = true := by
  intro x0
  by_cases h0 : x0 = 0
  · subst h0
    decide +kernel
  by_cases h1 : x0 = 1
  · subst h1
    decide +kernel
  by_cases h2 : x0 = 2
  · subst h2
    decide +kernel
  by_cases h3 : x0 = 3
  · subst h3
    decide +kernel
  by_cases h4 : x0 = 4
  · subst h4
    decide +kernel
  simp [f_X11_told, f_X12_told, h0, h1, h2, h3, h4, gm_eqI, gm_eqL, gm_bI, gm_bL, gm_bV, gm_j, gm_gR, gm_gI, gm_aI, gm_sI, gm_pI, gm_al, gt_1, gt_15, gt_3, gt_23, gt_25, gt_26, gl_26, gt_27, gt_17, gl_17, gr_1_1, gr_1_4, gr_15_3, gr_15_7, gr_15_8, gr_15_9, gr_25_1, gn_15_1, gn_15_4, gn_3_0, gn_3_2, gn_25_0, gn_25_2, ht_65, ht_66, hl_66, hr_65, hn_26, hn_29, hn_31, hn_ran, gm_tagm, gm_lenm, gp_out, gp_in, gp_nob, gp_ch]
theorem K_blow : ∀ (x0 x1 : Int32), gm_eqI (f_X11_blow 1 x0 x1 gi5) (fun m => f_X12_blow 65 x0 x1 m) = true := by
  intro x0 x1
  simp [f_X11_blow, f_X12_blow, gm_eqI, gm_eqL, gm_bI, gm_bL, gm_bV, gm_j, gm_gR, gm_gI, gm_aI, gm_sI, gm_pI, gm_al, gt_1, gt_15, gt_3, gt_23, gt_25, gt_26, gl_26, gt_27, gt_17, gl_17, gr_1_1, gr_1_4, gr_15_3, gr_15_7, gr_15_8, gr_15_9, gr_25_1, gn_15_1, gn_15_4, gn_3_0, gn_3_2, gn_25_0, gn_25_2, ht_65, ht_66, hl_66, hr_65, hn_26, hn_29, hn_31, hn_ran, gm_tagm, gm_lenm, gp_out, gp_in, gp_nob, gp_ch]
theorem K0_pass : ∀ j : Nat, j < 61 → gm_eqI (f_X11_pass 1 (nI j) gi5) (fun m => f_X12_pass 65 (nI j) m) = true := by decide +kernel
theorem K_pass : ∀ (x0 : Int32), gm_eqI (f_X11_pass 1 x0 gi5) (fun m => f_X12_pass 65 x0 m) = true := by
  intro x0
  by_cases h1 : x0 < 0
  · simp [f_X11_pass, f_X12_pass, h1, gm_eqI, gm_eqL, gm_bI, gm_bL, gm_bV, gm_j, gm_gR, gm_gI, gm_aI, gm_sI, gm_pI, gm_al, gt_1, gt_15, gt_3, gt_23, gt_25, gt_26, gl_26, gt_27, gt_17, gl_17, gr_1_1, gr_1_4, gr_15_3, gr_15_7, gr_15_8, gr_15_9, gr_25_1, gn_15_1, gn_15_4, gn_3_0, gn_3_2, gn_25_0, gn_25_2, ht_65, ht_66, hl_66, hr_65, hn_26, hn_29, hn_31, hn_ran, gm_tagm, gm_lenm, gp_out, gp_in, gp_nob, gp_ch]
  · by_cases h2 : x0 ≤ 60
    · obtain ⟨j, hj, rfl⟩ := gp_rng h1 h2 60 rfl (by decide)
      exact K0_pass j hj
    · have h3 := Int32.not_le.mp h2
      simp [f_X11_pass, f_X12_pass, h1, h2, h3, gm_eqI, gm_eqL, gm_bI, gm_bL, gm_bV, gm_j, gm_gR, gm_gI, gm_aI, gm_sI, gm_pI, gm_al, gt_1, gt_15, gt_3, gt_23, gt_25, gt_26, gl_26, gt_27, gt_17, gl_17, gr_1_1, gr_1_4, gr_15_3, gr_15_7, gr_15_8, gr_15_9, gr_25_1, gn_15_1, gn_15_4, gn_3_0, gn_3_2, gn_25_0, gn_25_2, ht_65, ht_66, hl_66, hr_65, hn_26, hn_29, hn_31, hn_ran, gm_tagm, gm_lenm, gp_out, gp_in, gp_nob, gp_ch]
theorem K0_on : ∀ j : Nat, j < 61 → gm_eqI (f_X11_on 1 (nI j) 0 gi5) (fun m => f_X12_on 65 (nI j) 0 m) = true := by decide +kernel
theorem K_on : ∀ (x0 x1 : Int32), gm_eqI (f_X11_on 1 x0 x1 gi5) (fun m => f_X12_on 65 x0 x1 m) = true := by
  intro x0 x1
  by_cases h0 : x1 = 0
  · subst h0
    by_cases h1 : x0 < 0
    · simp [f_X11_on, f_X12_on, h1, gm_eqI, gm_eqL, gm_bI, gm_bL, gm_bV, gm_j, gm_gR, gm_gI, gm_aI, gm_sI, gm_pI, gm_al, gt_1, gt_15, gt_3, gt_23, gt_25, gt_26, gl_26, gt_27, gt_17, gl_17, gr_1_1, gr_1_4, gr_15_3, gr_15_7, gr_15_8, gr_15_9, gr_25_1, gn_15_1, gn_15_4, gn_3_0, gn_3_2, gn_25_0, gn_25_2, ht_65, ht_66, hl_66, hr_65, hn_26, hn_29, hn_31, hn_ran, gm_tagm, gm_lenm, gp_out, gp_in, gp_nob, gp_ch]
    · by_cases h2 : x0 ≤ 60
      · obtain ⟨j, hj, rfl⟩ := gp_rng h1 h2 60 rfl (by decide)
        exact K0_on j hj
      · have h3 := Int32.not_le.mp h2
        simp [f_X11_on, f_X12_on, h1, h2, h3, gm_eqI, gm_eqL, gm_bI, gm_bL, gm_bV, gm_j, gm_gR, gm_gI, gm_aI, gm_sI, gm_pI, gm_al, gt_1, gt_15, gt_3, gt_23, gt_25, gt_26, gl_26, gt_27, gt_17, gl_17, gr_1_1, gr_1_4, gr_15_3, gr_15_7, gr_15_8, gr_15_9, gr_25_1, gn_15_1, gn_15_4, gn_3_0, gn_3_2, gn_25_0, gn_25_2, ht_65, ht_66, hl_66, hr_65, hn_26, hn_29, hn_31, hn_ran, gm_tagm, gm_lenm, gp_out, gp_in, gp_nob, gp_ch]
  · by_cases h4 : (20 : Int32) ≤ x1 <;> simp [f_X11_on, f_X12_on, h0, h4, gm_eqI, gm_eqL, gm_bI, gm_bL, gm_bV, gm_j, gm_gR, gm_gI, gm_aI, gm_sI, gm_pI, gm_al, gt_1, gt_15, gt_3, gt_23, gt_25, gt_26, gl_26, gt_27, gt_17, gl_17, gr_1_1, gr_1_4, gr_15_3, gr_15_7, gr_15_8, gr_15_9, gr_25_1, gn_15_1, gn_15_4, gn_3_0, gn_3_2, gn_25_0, gn_25_2, ht_65, ht_66, hl_66, hr_65, hn_26, hn_29, hn_31, hn_ran, gm_tagm, gm_lenm, gp_out, gp_in, gp_nob, gp_ch]
theorem K_when : ∀ (x0 x1 : Int32), gm_eqI (f_X11_when 1 x0 x1 gi5) (fun m => f_X12_when 65 x0 x1 m) = true := by
  intro x0 x1
  simp [f_X11_when, f_X12_when, gm_eqI, gm_eqL, gm_bI, gm_bL, gm_bV, gm_j, gm_gR, gm_gI, gm_aI, gm_sI, gm_pI, gm_al, gt_1, gt_15, gt_3, gt_23, gt_25, gt_26, gl_26, gt_27, gt_17, gl_17, gr_1_1, gr_1_4, gr_15_3, gr_15_7, gr_15_8, gr_15_9, gr_25_1, gn_15_1, gn_15_4, gn_3_0, gn_3_2, gn_25_0, gn_25_2, ht_65, ht_66, hl_66, hr_65, hn_26, hn_29, hn_31, hn_ran, gm_tagm, gm_lenm, gp_out, gp_in, gp_nob, gp_ch]
theorem K_soon : ∀ (x0 x1 : Int32), gm_eqI (f_X11_soon 1 x0 x1 gi5) (fun m => f_X12_soon 65 x0 x1 m) = true := by
  intro x0 x1
  simp [f_X11_soon, f_X12_soon, gm_eqI, gm_eqL, gm_bI, gm_bL, gm_bV, gm_j, gm_gR, gm_gI, gm_aI, gm_sI, gm_pI, gm_al, gt_1, gt_15, gt_3, gt_23, gt_25, gt_26, gl_26, gt_27, gt_17, gl_17, gr_1_1, gr_1_4, gr_15_3, gr_15_7, gr_15_8, gr_15_9, gr_25_1, gn_15_1, gn_15_4, gn_3_0, gn_3_2, gn_25_0, gn_25_2, ht_65, ht_66, hl_66, hr_65, hn_26, hn_29, hn_31, hn_ran, gm_tagm, gm_lenm, gp_out, gp_in, gp_nob, gp_ch]
theorem K_pieces : ∀ (x0 x1 : Int32), gm_eqI (f_X11_pieces 1 x0 x1 gi5) (fun m => f_X12_pieces 65 x0 x1 m) = true := by
  intro x0 x1
  simp [f_X11_pieces, f_X12_pieces, gm_eqI, gm_eqL, gm_bI, gm_bL, gm_bV, gm_j, gm_gR, gm_gI, gm_aI, gm_sI, gm_pI, gm_al, gt_1, gt_15, gt_3, gt_23, gt_25, gt_26, gl_26, gt_27, gt_17, gl_17, gr_1_1, gr_1_4, gr_15_3, gr_15_7, gr_15_8, gr_15_9, gr_25_1, gn_15_1, gn_15_4, gn_3_0, gn_3_2, gn_25_0, gn_25_2, ht_65, ht_66, hl_66, hr_65, hn_26, hn_29, hn_31, hn_ran, gm_tagm, gm_lenm, gp_out, gp_in, gp_nob, gp_ch]
theorem K_breaths : ∀ (x0 x1 : Int32), gm_eqI (f_X11_breaths 1 x0 x1 gi5) (fun m => f_X12_breaths 65 x0 x1 m) = true := by
  intro x0 x1
  simp [f_X11_breaths, f_X12_breaths, gm_eqI, gm_eqL, gm_bI, gm_bL, gm_bV, gm_j, gm_gR, gm_gI, gm_aI, gm_sI, gm_pI, gm_al, gt_1, gt_15, gt_3, gt_23, gt_25, gt_26, gl_26, gt_27, gt_17, gl_17, gr_1_1, gr_1_4, gr_15_3, gr_15_7, gr_15_8, gr_15_9, gr_25_1, gn_15_1, gn_15_4, gn_3_0, gn_3_2, gn_25_0, gn_25_2, ht_65, ht_66, hl_66, hr_65, hn_26, hn_29, hn_31, hn_ran, gm_tagm, gm_lenm, gp_out, gp_in, gp_nob, gp_ch]
theorem K_slack : ∀ (x0 : Int32), gm_eqI (f_X11_slack 1 x0 gi5) (fun m => f_X12_slack 65 x0 m) = true := by
  intro x0
  simp [f_X11_slack, f_X12_slack, gm_eqI, gm_eqL, gm_bI, gm_bL, gm_bV, gm_j, gm_gR, gm_gI, gm_aI, gm_sI, gm_pI, gm_al, gt_1, gt_15, gt_3, gt_23, gt_25, gt_26, gl_26, gt_27, gt_17, gl_17, gr_1_1, gr_1_4, gr_15_3, gr_15_7, gr_15_8, gr_15_9, gr_25_1, gn_15_1, gn_15_4, gn_3_0, gn_3_2, gn_25_0, gn_25_2, ht_65, ht_66, hl_66, hr_65, hn_26, hn_29, hn_31, hn_ran, gm_tagm, gm_lenm, gp_out, gp_in, gp_nob, gp_ch]
theorem K_likely : ∀ (x0 x1 x2 : Int32), gm_eqL (f_X11_likely 1 x0 x1 x2 gi5) (fun m => f_X12_likely 65 x0 x1 x2 m) = true := by
  intro x0 x1 x2
  simp [f_X11_likely, f_X12_likely, gm_eqI, gm_eqL, gm_bI, gm_bL, gm_bV, gm_j, gm_gR, gm_gI, gm_aI, gm_sI, gm_pI, gm_al, gt_1, gt_15, gt_3, gt_23, gt_25, gt_26, gl_26, gt_27, gt_17, gl_17, gr_1_1, gr_1_4, gr_15_3, gr_15_7, gr_15_8, gr_15_9, gr_25_1, gn_15_1, gn_15_4, gn_3_0, gn_3_2, gn_25_0, gn_25_2, ht_65, ht_66, hl_66, hr_65, hn_26, hn_29, hn_31, hn_ran, gm_tagm, gm_lenm, gp_out, gp_in, gp_nob, gp_ch]
theorem K_dare : ∀ (x0 : Int32), gm_eqI (f_X11_dare 1 x0 gi5) (fun m => f_X12_dare 65 x0 m) = true := by
  intro x0
  simp [f_X11_dare, f_X12_dare, gm_eqI, gm_eqL, gm_bI, gm_bL, gm_bV, gm_j, gm_gR, gm_gI, gm_aI, gm_sI, gm_pI, gm_al, gt_1, gt_15, gt_3, gt_23, gt_25, gt_26, gl_26, gt_27, gt_17, gl_17, gr_1_1, gr_1_4, gr_15_3, gr_15_7, gr_15_8, gr_15_9, gr_25_1, gn_15_1, gn_15_4, gn_3_0, gn_3_2, gn_25_0, gn_25_2, ht_65, ht_66, hl_66, hr_65, hn_26, hn_29, hn_31, hn_ran, gm_tagm, gm_lenm, gp_out, gp_in, gp_nob, gp_ch]
theorem K_first : ∀ (_ : Unit), gm_eqI (f_X11_first 1  gi5) (fun m => f_X12_first 65  m) = true := by
  intro _
  decide +kernel
theorem K_beats : ∀ (x0 x1 x2 : Int32), gm_eqL (f_X11_beats 1 x0 x1 x2 gi5) (fun m => f_X12_beats 65 x0 x1 x2 m) = true := by
  intro x0 x1 x2
  simp [f_X11_beats, f_X12_beats, gm_eqI, gm_eqL, gm_bI, gm_bL, gm_bV, gm_j, gm_gR, gm_gI, gm_aI, gm_sI, gm_pI, gm_al, gt_1, gt_15, gt_3, gt_23, gt_25, gt_26, gl_26, gt_27, gt_17, gl_17, gr_1_1, gr_1_4, gr_15_3, gr_15_7, gr_15_8, gr_15_9, gr_25_1, gn_15_1, gn_15_4, gn_3_0, gn_3_2, gn_25_0, gn_25_2, ht_65, ht_66, hl_66, hr_65, hn_26, hn_29, hn_31, hn_ran, gm_tagm, gm_lenm, gp_out, gp_in, gp_nob, gp_ch]
theorem K_swap : ∀ (_ : Unit), gm_eqI (f_X11_swap 1  gi5) (fun m => f_X12_swap 65  m) = true := by
  intro _
  decide +kernel
theorem K_order : ∀ (x0 : Int32), gm_eqI (f_X11_order 1 x0 gi5) (fun m => f_X12_order 65 x0 m) = true := by
  intro x0
  by_cases h0 : x0 = -1
  · subst h0
    decide +kernel
  by_cases h1 : x0 = 0
  · subst h1
    decide +kernel
  by_cases h2 : x0 = 1
  · subst h2
    decide +kernel
  by_cases h3 : x0 = 2
  · subst h3
    decide +kernel
  by_cases h4 : x0 = 3
  · subst h4
    decide +kernel
  by_cases h5 : x0 = 4
  · subst h5
    decide +kernel
  by_cases g1 : x0 < -1
  · simp [f_X11_order, f_X12_order, g1, gm_eqI, gm_eqL, gm_bI, gm_bL, gm_bV, gm_j, gm_gR, gm_gI, gm_aI, gm_sI, gm_pI, gm_al, gt_1, gt_15, gt_3, gt_23, gt_25, gt_26, gl_26, gt_27, gt_17, gl_17, gr_1_1, gr_1_4, gr_15_3, gr_15_7, gr_15_8, gr_15_9, gr_25_1, gn_15_1, gn_15_4, gn_3_0, gn_3_2, gn_25_0, gn_25_2, ht_65, ht_66, hl_66, hr_65, hn_26, hn_29, hn_31, hn_ran, gm_tagm, gm_lenm, gp_out, gp_in, gp_nob, gp_ch]
  · have g2 : (4 : Int32) < x0 := by
      have q0 := lv_neT h0 (show (-1 : Int32).toInt = -1 from by decide)
      have q1 := lv_neT h1 (show (0 : Int32).toInt = 0 from by decide)
      have q2 := lv_neT h2 (show (1 : Int32).toInt = 1 from by decide)
      have q3 := lv_neT h3 (show (2 : Int32).toInt = 2 from by decide)
      have q4 := lv_neT h4 (show (3 : Int32).toInt = 3 from by decide)
      have q5 := lv_neT h5 (show (4 : Int32).toInt = 4 from by decide)
      rw [Int32.lt_iff_toInt_lt, show (-1 : Int32).toInt = -1 from by decide] at g1
      rw [Int32.lt_iff_toInt_lt, show (4 : Int32).toInt = 4 from by decide]
      omega
    simp [f_X11_order, f_X12_order, g1, g2, Int32.not_le.mpr g2, gm_eqI, gm_eqL, gm_bI, gm_bL, gm_bV, gm_j, gm_gR, gm_gI, gm_aI, gm_sI, gm_pI, gm_al, gt_1, gt_15, gt_3, gt_23, gt_25, gt_26, gl_26, gt_27, gt_17, gl_17, gr_1_1, gr_1_4, gr_15_3, gr_15_7, gr_15_8, gr_15_9, gr_25_1, gn_15_1, gn_15_4, gn_3_0, gn_3_2, gn_25_0, gn_25_2, ht_65, ht_66, hl_66, hr_65, hn_26, hn_29, hn_31, hn_ran, gm_tagm, gm_lenm, gp_out, gp_in, gp_nob, gp_ch]
theorem K_clean : ∀ (x0 x1 : Int32), gm_eqI (f_X11_clean 1 x0 x1 gi5) (fun m => f_X12_clean 65 x0 x1 m) = true := by
  intro x0 x1
  simp [f_X11_clean, f_X12_clean, gm_eqI, gm_eqL, gm_bI, gm_bL, gm_bV, gm_j, gm_gR, gm_gI, gm_aI, gm_sI, gm_pI, gm_al, gt_1, gt_15, gt_3, gt_23, gt_25, gt_26, gl_26, gt_27, gt_17, gl_17, gr_1_1, gr_1_4, gr_15_3, gr_15_7, gr_15_8, gr_15_9, gr_25_1, gn_15_1, gn_15_4, gn_3_0, gn_3_2, gn_25_0, gn_25_2, ht_65, ht_66, hl_66, hr_65, hn_26, hn_29, hn_31, hn_ran, gm_tagm, gm_lenm, gp_out, gp_in, gp_nob, gp_ch]
theorem K_see : ∀ (x0 x1 x2 : Int32), gm_eqI (f_X11_see 1 x0 x1 x2 gi5) (fun m => f_X12_see 65 x0 x1 x2 m) = true := by
  intro x0 x1 x2
  by_cases h : x0 = -1
  · subst h
    have e28 : (28 : Int32).toNatClampNeg = 28 := by decide
    have e30 : (30 : Int32).toNatClampNeg = 30 := by decide
    simp [f_X11_see, f_X12_see, f_X7_clear, gm_u, e28, e30, gm_eqI, gm_eqL, gm_bI, gm_bL, gm_bV, gm_j, gm_gR, gm_gI, gm_aI, gm_sI, gm_pI, gm_al, gt_1, gt_15, gt_3, gt_23, gt_25, gt_26, gl_26, gt_27, gt_17, gl_17, gr_1_1, gr_1_4, gr_15_3, gr_15_7, gr_15_8, gr_15_9, gr_25_1, gn_15_1, gn_15_4, gn_3_0, gn_3_2, gn_25_0, gn_25_2, ht_65, ht_66, hl_66, hr_65, hn_26, hn_29, hn_31, hn_ran, gm_tagm, gm_lenm, gp_out, gp_in, gp_nob, gp_ch]
  · simp [f_X11_see, f_X12_see, h, gm_eqI, gm_eqL, gm_bI, gm_bL, gm_bV, gm_j, gm_gR, gm_gI, gm_aI, gm_sI, gm_pI, gm_al, gt_1, gt_15, gt_3, gt_23, gt_25, gt_26, gl_26, gt_27, gt_17, gl_17, gr_1_1, gr_1_4, gr_15_3, gr_15_7, gr_15_8, gr_15_9, gr_25_1, gn_15_1, gn_15_4, gn_3_0, gn_3_2, gn_25_0, gn_25_2, ht_65, ht_66, hl_66, hr_65, hn_26, hn_29, hn_31, hn_ran, gm_tagm, gm_lenm, gp_out, gp_in, gp_nob, gp_ch]
theorem K1_who {x0 x1 : Int32} (h1 : ¬ x0 < 0) (h2 : x0 ≤ 999) (h3 : ¬ x1 < 0) (h4 : x1 ≤ 40) : f_X11_who 1 x0 x1 gi5 = some (some (.int 0), gi5) := by
  unfold f_X11_who
  simp only [gp_out, gm_bI, if_neg h1, if_pos h2, if_neg h3, if_pos h4]
  simp only [ne_eq, not_true_eq_false, if_false, if_true]
  exact gm_loop1 (by simp [gm_gR, gm_gI, gt_1, gt_15, gr_1_1, gn_15_1]) 4999
theorem K2_who {x0 : Int32} {j : Nat} (h1 : ¬ x0 < 0) (h2 : ¬ (999 : Int32) < x0) (hj : j < 41) : ∃ mb, f_X12_who 65 x0 (nI j) gi5 = some (some (.int 0), mb) := by
  obtain ⟨m, mb, e1, t1, t2, t3, t4, t5, e2⟩ := gk_spec (gk_all j hj)
  refine ⟨mb, ?_⟩
  have h3 : ¬ nI j < 0 := nI_pos (by omega)
  have h4 : ¬ (40 : Int32) < nI j := by
    rw [Int32.lt_iff_toInt_lt, nI_toInt (by omega), show (40 : Int32).toInt = 40 from by decide]
    omega
  unfold f_X12_who
  have e26 : (26 : Int32).toNatClampNeg = 26 := by decide
  have o1 : ¬ (1 : Int32) = 0 := by decide
  simp only [gp_in, gm_bI, if_neg h1, if_neg h2, if_neg h3, if_neg h4, ht_65, if_true, ne_eq, o1, not_false_eq_true, gk_ok, gm_bV, gk_t, e1, if_false]
  exact gm_loop1 (by simp [gm_gR, gm_aI, e26, t1, t2, t3, t4, t5, e2, gm_bV]) 4999
theorem K_who : ∀ (x0 x1 : Int32), gm_eqI (f_X11_who 1 x0 x1 gi5) (fun m => f_X12_who 65 x0 x1 m) = true := by
  intro x0 x1
  by_cases h1 : x0 < 0
  · simp [f_X11_who, f_X12_who, h1, gm_eqI, gm_eqL, gm_bI, gm_bL, gm_bV, gm_j, gm_gR, gm_gI, gm_aI, gm_sI, gm_pI, gm_al, gt_1, gt_15, gt_3, gt_23, gt_25, gt_26, gl_26, gt_27, gt_17, gl_17, gr_1_1, gr_1_4, gr_15_3, gr_15_7, gr_15_8, gr_15_9, gr_25_1, gn_15_1, gn_15_4, gn_3_0, gn_3_2, gn_25_0, gn_25_2, ht_65, ht_66, hl_66, hr_65, hn_26, hn_29, hn_31, hn_ran, gm_tagm, gm_lenm, gp_out, gp_in, gp_nob, gp_ch]
  by_cases h2 : x0 ≤ 999
  · have g2 := Int32.not_lt.mpr h2
    by_cases h3 : x1 < 0
    · simp [f_X11_who, f_X12_who, h1, h2, g2, h3, gm_eqI, gm_eqL, gm_bI, gm_bL, gm_bV, gm_j, gm_gR, gm_gI, gm_aI, gm_sI, gm_pI, gm_al, gt_1, gt_15, gt_3, gt_23, gt_25, gt_26, gl_26, gt_27, gt_17, gl_17, gr_1_1, gr_1_4, gr_15_3, gr_15_7, gr_15_8, gr_15_9, gr_25_1, gn_15_1, gn_15_4, gn_3_0, gn_3_2, gn_25_0, gn_25_2, ht_65, ht_66, hl_66, hr_65, hn_26, hn_29, hn_31, hn_ran, gm_tagm, gm_lenm, gp_out, gp_in, gp_nob, gp_ch]
    by_cases h4 : x1 ≤ 40
    · rw [K1_who h1 h2 h3 h4]
      obtain ⟨j, hj, rfl⟩ := gp_rng h3 h4 40 rfl (by decide)
      obtain ⟨mb, e⟩ := K2_who h1 g2 hj
      simp [gm_eqI, e, ht_65]
    · have g4 := Int32.not_le.mp h4
      simp [f_X11_who, f_X12_who, h1, h2, g2, h3, h4, g4, gm_eqI, gm_eqL, gm_bI, gm_bL, gm_bV, gm_j, gm_gR, gm_gI, gm_aI, gm_sI, gm_pI, gm_al, gt_1, gt_15, gt_3, gt_23, gt_25, gt_26, gl_26, gt_27, gt_17, gl_17, gr_1_1, gr_1_4, gr_15_3, gr_15_7, gr_15_8, gr_15_9, gr_25_1, gn_15_1, gn_15_4, gn_3_0, gn_3_2, gn_25_0, gn_25_2, ht_65, ht_66, hl_66, hr_65, hn_26, hn_29, hn_31, hn_ran, gm_tagm, gm_lenm, gp_out, gp_in, gp_nob, gp_ch]
  · have g2 := Int32.not_le.mp h2
    simp [f_X11_who, f_X12_who, h1, h2, g2, gm_eqI, gm_eqL, gm_bI, gm_bL, gm_bV, gm_j, gm_gR, gm_gI, gm_aI, gm_sI, gm_pI, gm_al, gt_1, gt_15, gt_3, gt_23, gt_25, gt_26, gl_26, gt_27, gt_17, gl_17, gr_1_1, gr_1_4, gr_15_3, gr_15_7, gr_15_8, gr_15_9, gr_25_1, gn_15_1, gn_15_4, gn_3_0, gn_3_2, gn_25_0, gn_25_2, ht_65, ht_66, hl_66, hr_65, hn_26, hn_29, hn_31, hn_ran, gm_tagm, gm_lenm, gp_out, gp_in, gp_nob, gp_ch]
theorem K_firm : ∀ (x0 x1 : Int32), gm_eqI (f_X11_firm 1 x0 x1 gi5) (fun m => f_X12_firm 65 x0 x1 m) = true := by
  intro x0 x1
  simp [f_X11_firm, f_X12_firm, gm_eqI, gm_eqL, gm_bI, gm_bL, gm_bV, gm_j, gm_gR, gm_gI, gm_aI, gm_sI, gm_pI, gm_al, gt_1, gt_15, gt_3, gt_23, gt_25, gt_26, gl_26, gt_27, gt_17, gl_17, gr_1_1, gr_1_4, gr_15_3, gr_15_7, gr_15_8, gr_15_9, gr_25_1, gn_15_1, gn_15_4, gn_3_0, gn_3_2, gn_25_0, gn_25_2, ht_65, ht_66, hl_66, hr_65, hn_26, hn_29, hn_31, hn_ran, gm_tagm, gm_lenm, gp_out, gp_in, gp_nob, gp_ch]
theorem K_had : ∀ (x0 : Int32), gm_eqI (f_X11_had 1 x0 gi5) (fun m => f_X12_had 65 x0 m) = true := by
  intro x0
  simp [f_X11_had, f_X12_had, gm_eqI, gm_eqL, gm_bI, gm_bL, gm_bV, gm_j, gm_gR, gm_gI, gm_aI, gm_sI, gm_pI, gm_al, gt_1, gt_15, gt_3, gt_23, gt_25, gt_26, gl_26, gt_27, gt_17, gl_17, gr_1_1, gr_1_4, gr_15_3, gr_15_7, gr_15_8, gr_15_9, gr_25_1, gn_15_1, gn_15_4, gn_3_0, gn_3_2, gn_25_0, gn_25_2, ht_65, ht_66, hl_66, hr_65, hn_26, hn_29, hn_31, hn_ran, gm_tagm, gm_lenm, gp_out, gp_in, gp_nob, gp_ch]
theorem K_mean : ∀ (x0 x1 : Int32), gm_eqL (f_X11_mean 1 x0 x1 gi5) (fun m => f_X12_mean 65 x0 x1 m) = true := by
  intro x0 x1
  have e26 : (26 : Int32).toNatClampNeg = 26 := by decide
  by_cases h1 : x0 < 0
  · simp [f_X11_mean, f_X12_mean, h1, gm_eqI, gm_eqL, gm_bI, gm_bL, gm_bV, gm_j, gm_gR, gm_gI, gm_aI, gm_sI, gm_pI, gm_al, gt_1, gt_15, gt_3, gt_23, gt_25, gt_26, gl_26, gt_27, gt_17, gl_17, gr_1_1, gr_1_4, gr_15_3, gr_15_7, gr_15_8, gr_15_9, gr_25_1, gn_15_1, gn_15_4, gn_3_0, gn_3_2, gn_25_0, gn_25_2, ht_65, ht_66, hl_66, hr_65, hn_26, hn_29, hn_31, hn_ran, gm_tagm, gm_lenm, gp_out, gp_in, gp_nob, gp_ch]
  by_cases h2 : x0 ≤ 60
  · have g2 := Int32.not_lt.mpr h2
    by_cases h3 : x1 < 0
    · simp [f_X11_mean, f_X12_mean, h1, h2, g2, h3, gm_eqI, gm_eqL, gm_bI, gm_bL, gm_bV, gm_j, gm_gR, gm_gI, gm_aI, gm_sI, gm_pI, gm_al, gt_1, gt_15, gt_3, gt_23, gt_25, gt_26, gl_26, gt_27, gt_17, gl_17, gr_1_1, gr_1_4, gr_15_3, gr_15_7, gr_15_8, gr_15_9, gr_25_1, gn_15_1, gn_15_4, gn_3_0, gn_3_2, gn_25_0, gn_25_2, ht_65, ht_66, hl_66, hr_65, hn_26, hn_29, hn_31, hn_ran, gm_tagm, gm_lenm, gp_out, gp_in, gp_nob, gp_ch]
    by_cases h4 : x1 ≤ 1
    · have g4 := Int32.not_lt.mpr h4
      simp [f_X11_mean, f_X12_mean, h1, h2, g2, h3, h4, g4, e26, gm_eqI, gm_eqL, gm_bI, gm_bL, gm_bV, gm_j, gm_gR, gm_gI, gm_aI, gm_sI, gm_pI, gm_al, gt_1, gt_15, gt_3, gt_23, gt_25, gt_26, gl_26, gt_27, gt_17, gl_17, gr_1_1, gr_1_4, gr_15_3, gr_15_7, gr_15_8, gr_15_9, gr_25_1, gn_15_1, gn_15_4, gn_3_0, gn_3_2, gn_25_0, gn_25_2, ht_65, ht_66, hl_66, hr_65, hn_26, hn_29, hn_31, hn_ran, gm_tagm, gm_lenm, gp_out, gp_in, gp_nob, gp_ch]
    · have g4 := Int32.not_le.mp h4
      simp [f_X11_mean, f_X12_mean, h1, h2, g2, h3, h4, g4, gm_eqI, gm_eqL, gm_bI, gm_bL, gm_bV, gm_j, gm_gR, gm_gI, gm_aI, gm_sI, gm_pI, gm_al, gt_1, gt_15, gt_3, gt_23, gt_25, gt_26, gl_26, gt_27, gt_17, gl_17, gr_1_1, gr_1_4, gr_15_3, gr_15_7, gr_15_8, gr_15_9, gr_25_1, gn_15_1, gn_15_4, gn_3_0, gn_3_2, gn_25_0, gn_25_2, ht_65, ht_66, hl_66, hr_65, hn_26, hn_29, hn_31, hn_ran, gm_tagm, gm_lenm, gp_out, gp_in, gp_nob, gp_ch]
  · have g2 := Int32.not_le.mp h2
    simp [f_X11_mean, f_X12_mean, h1, h2, g2, gm_eqI, gm_eqL, gm_bI, gm_bL, gm_bV, gm_j, gm_gR, gm_gI, gm_aI, gm_sI, gm_pI, gm_al, gt_1, gt_15, gt_3, gt_23, gt_25, gt_26, gl_26, gt_27, gt_17, gl_17, gr_1_1, gr_1_4, gr_15_3, gr_15_7, gr_15_8, gr_15_9, gr_25_1, gn_15_1, gn_15_4, gn_3_0, gn_3_2, gn_25_0, gn_25_2, ht_65, ht_66, hl_66, hr_65, hn_26, hn_29, hn_31, hn_ran, gm_tagm, gm_lenm, gp_out, gp_in, gp_nob, gp_ch]
theorem K_plan : ∀ (x0 x1 : Int32), gm_eqI (f_X11_plan 1 x0 x1 gi5) (fun m => f_X12_plan 65 x0 x1 m) = true := by
  intro x0 x1
  have e29 : (29 : Int32).toNatClampNeg = 29 := by decide
  have e78 : (78 : Int32).toNatClampNeg = 78 := by decide
  have e86 : (86 : Int32).toNatClampNeg = 86 := by decide
  have e0 : (0 : Int32).toNatClampNeg = 0 := by decide
  have e1 : (1 : Int32).toNatClampNeg = 1 := by decide
  have e2 : (2 : Int32).toNatClampNeg = 2 := by decide
  by_cases h : x0 = -1
  · subst h
    simp [f_X11_plan, f_X12_plan, f_X7_clear, gm_u, e29, gm_eqI, gm_eqL, gm_bI, gm_bL, gm_bV, gm_j, gm_gR, gm_gI, gm_aI, gm_sI, gm_pI, gm_al, gt_1, gt_15, gt_3, gt_23, gt_25, gt_26, gl_26, gt_27, gt_17, gl_17, gr_1_1, gr_1_4, gr_15_3, gr_15_7, gr_15_8, gr_15_9, gr_25_1, gn_15_1, gn_15_4, gn_3_0, gn_3_2, gn_25_0, gn_25_2, ht_65, ht_66, hl_66, hr_65, hn_26, hn_29, hn_31, hn_ran, gm_tagm, gm_lenm, gp_out, gp_in, gp_nob, gp_ch]
  by_cases h0 : x0 = 0
  · subst h0
    simp [f_X11_plan, f_X12_plan, f_X7_isFull, f_X7_add, gm_u, e29, e78, e86, e0, e1, e2, gm_eqI, gm_eqL, gm_bI, gm_bL, gm_bV, gm_j, gm_gR, gm_gI, gm_aI, gm_sI, gm_pI, gm_al, gt_1, gt_15, gt_3, gt_23, gt_25, gt_26, gl_26, gt_27, gt_17, gl_17, gr_1_1, gr_1_4, gr_15_3, gr_15_7, gr_15_8, gr_15_9, gr_25_1, gn_15_1, gn_15_4, gn_3_0, gn_3_2, gn_25_0, gn_25_2, ht_65, ht_66, hl_66, hr_65, hn_26, hn_29, hn_31, hn_ran, gm_tagm, gm_lenm, gp_out, gp_in, gp_nob, gp_ch]
  by_cases h1 : x0 < 0
  · simp [f_X11_plan, f_X12_plan, h, h0, h1, gm_eqI, gm_eqL, gm_bI, gm_bL, gm_bV, gm_j, gm_gR, gm_gI, gm_aI, gm_sI, gm_pI, gm_al, gt_1, gt_15, gt_3, gt_23, gt_25, gt_26, gl_26, gt_27, gt_17, gl_17, gr_1_1, gr_1_4, gr_15_3, gr_15_7, gr_15_8, gr_15_9, gr_25_1, gn_15_1, gn_15_4, gn_3_0, gn_3_2, gn_25_0, gn_25_2, ht_65, ht_66, hl_66, hr_65, hn_26, hn_29, hn_31, hn_ran, gm_tagm, gm_lenm, gp_out, gp_in, gp_nob, gp_ch]
  have g0 : ¬ x0 ≤ 0 := by
    have q := lv_neT h0 (show (0 : Int32).toInt = 0 from by decide)
    rw [Int32.lt_iff_toInt_lt, show (0 : Int32).toInt = 0 from by decide] at h1
    rw [Int32.le_iff_toInt_le, show (0 : Int32).toInt = 0 from by decide]
    omega
  by_cases h2 : x0 ≤ 3
  · have g2 := Int32.not_lt.mpr h2
    simp [f_X11_plan, f_X12_plan, h, h0, h1, h2, g2, g0, gm_eqI, gm_eqL, gm_bI, gm_bL, gm_bV, gm_j, gm_gR, gm_gI, gm_aI, gm_sI, gm_pI, gm_al, gt_1, gt_15, gt_3, gt_23, gt_25, gt_26, gl_26, gt_27, gt_17, gl_17, gr_1_1, gr_1_4, gr_15_3, gr_15_7, gr_15_8, gr_15_9, gr_25_1, gn_15_1, gn_15_4, gn_3_0, gn_3_2, gn_25_0, gn_25_2, ht_65, ht_66, hl_66, hr_65, hn_26, hn_29, hn_31, hn_ran, gm_tagm, gm_lenm, gp_out, gp_in, gp_nob, gp_ch]
  · have g2 := Int32.not_le.mp h2
    simp [f_X11_plan, f_X12_plan, h, h0, h1, h2, g2, g0, gm_eqI, gm_eqL, gm_bI, gm_bL, gm_bV, gm_j, gm_gR, gm_gI, gm_aI, gm_sI, gm_pI, gm_al, gt_1, gt_15, gt_3, gt_23, gt_25, gt_26, gl_26, gt_27, gt_17, gl_17, gr_1_1, gr_1_4, gr_15_3, gr_15_7, gr_15_8, gr_15_9, gr_25_1, gn_15_1, gn_15_4, gn_3_0, gn_3_2, gn_25_0, gn_25_2, ht_65, ht_66, hl_66, hr_65, hn_26, hn_29, hn_31, hn_ran, gm_tagm, gm_lenm, gp_out, gp_in, gp_nob, gp_ch]
theorem K_done : ∀ (x0 : Int32), gm_eqI (f_X11_done 1 x0 gi5) (fun m => f_X12_done 65 x0 m) = true := by
  intro x0
  by_cases h0 : x0 = 0
  · subst h0
    decide +kernel
  by_cases h1 : x0 = 1
  · subst h1
    decide +kernel
  by_cases g1 : x0 < 0
  · simp [f_X11_done, f_X12_done, g1, gm_eqI, gm_eqL, gm_bI, gm_bL, gm_bV, gm_j, gm_gR, gm_gI, gm_aI, gm_sI, gm_pI, gm_al, gt_1, gt_15, gt_3, gt_23, gt_25, gt_26, gl_26, gt_27, gt_17, gl_17, gr_1_1, gr_1_4, gr_15_3, gr_15_7, gr_15_8, gr_15_9, gr_25_1, gn_15_1, gn_15_4, gn_3_0, gn_3_2, gn_25_0, gn_25_2, ht_65, ht_66, hl_66, hr_65, hn_26, hn_29, hn_31, hn_ran, gm_tagm, gm_lenm, gp_out, gp_in, gp_nob, gp_ch]
  · have g2 : (1 : Int32) < x0 := by
      have q0 := lv_neT h0 (show (0 : Int32).toInt = 0 from by decide)
      have q1 := lv_neT h1 (show (1 : Int32).toInt = 1 from by decide)
      rw [Int32.lt_iff_toInt_lt, show (0 : Int32).toInt = 0 from by decide] at g1
      rw [Int32.lt_iff_toInt_lt, show (1 : Int32).toInt = 1 from by decide]
      omega
    simp [f_X11_done, f_X12_done, g1, g2, Int32.not_le.mpr g2, gm_eqI, gm_eqL, gm_bI, gm_bL, gm_bV, gm_j, gm_gR, gm_gI, gm_aI, gm_sI, gm_pI, gm_al, gt_1, gt_15, gt_3, gt_23, gt_25, gt_26, gl_26, gt_27, gt_17, gl_17, gr_1_1, gr_1_4, gr_15_3, gr_15_7, gr_15_8, gr_15_9, gr_25_1, gn_15_1, gn_15_4, gn_3_0, gn_3_2, gn_25_0, gn_25_2, ht_65, ht_66, hl_66, hr_65, hn_26, hn_29, hn_31, hn_ran, gm_tagm, gm_lenm, gp_out, gp_in, gp_nob, gp_ch]
theorem K_book : ∀ (x0 x1 : Int32), gm_eqI (f_X11_book 1 x0 x1 gi5) (fun m => f_X12_book 65 x0 x1 m) = true := by
  intro x0 x1
  by_cases h : x0 = -1
  · subst h
    have e28 : (28 : Int32).toNatClampNeg = 28 := by decide
    have e30 : (30 : Int32).toNatClampNeg = 30 := by decide
    simp [f_X11_book, f_X12_book, f_X7_clear, gm_u, e28, e30, gm_eqI, gm_eqL, gm_bI, gm_bL, gm_bV, gm_j, gm_gR, gm_gI, gm_aI, gm_sI, gm_pI, gm_al, gt_1, gt_15, gt_3, gt_23, gt_25, gt_26, gl_26, gt_27, gt_17, gl_17, gr_1_1, gr_1_4, gr_15_3, gr_15_7, gr_15_8, gr_15_9, gr_25_1, gn_15_1, gn_15_4, gn_3_0, gn_3_2, gn_25_0, gn_25_2, ht_65, ht_66, hl_66, hr_65, hn_26, hn_29, hn_31, hn_ran, gm_tagm, gm_lenm, gp_out, gp_in, gp_nob, gp_ch]
  · simp [f_X11_book, f_X12_book, h, gm_eqI, gm_eqL, gm_bI, gm_bL, gm_bV, gm_j, gm_gR, gm_gI, gm_aI, gm_sI, gm_pI, gm_al, gt_1, gt_15, gt_3, gt_23, gt_25, gt_26, gl_26, gt_27, gt_17, gl_17, gr_1_1, gr_1_4, gr_15_3, gr_15_7, gr_15_8, gr_15_9, gr_25_1, gn_15_1, gn_15_4, gn_3_0, gn_3_2, gn_25_0, gn_25_2, ht_65, ht_66, hl_66, hr_65, hn_26, hn_29, hn_31, hn_ran, gm_tagm, gm_lenm, gp_out, gp_in, gp_nob, gp_ch]
theorem K_looked : ∀ (_ : Unit), gm_eqI (f_X11_looked 1  gi5) (fun m => f_X12_looked 65  m) = true := by
  intro _
  decide +kernel
theorem K_act : ∀ (x0 x1 x2 : Int32), gm_eqI (f_X11_act 1 x0 x1 x2 gi5) (fun m => f_X12_act 65 x0 x1 x2 m) = true := by
  intro x0 x1 x2
  have n1 : ∀ c, f_X11_isNobody 1 c (gi5.1, gm_u gi5.2.1 3 2 0, gi5.2.2) = some (some (.int 1), (gi5.1, gm_u gi5.2.1 3 2 0, gi5.2.2)) := fun c => gp_nobM ((gm_tagm gi5 _ _ 1).trans gt_1) ((gm_tagm gi5 _ _ 15).trans gt_15) (by dsimp only; exact gr_1_1) (by dsimp only [gm_u]; simp [gn_15_1]) c
  have n2 : ∀ c, f_X12_isChild 65 c (gi5.1, gm_u (gm_u gi5.2.1 3 2 0) 65 19 0, gi5.2.2) = some (some (.int 0), (gi5.1, gm_u (gm_u gi5.2.1 3 2 0) 65 19 0, gi5.2.2)) := fun c => gp_chM ((gm_tagm gi5 _ _ 65).trans ht_65) ((gm_tagm gi5 _ _ 66).trans ht_66) ((gm_lenm gi5 _ _ 66).trans hl_66) (by dsimp only; exact hr_65) (by dsimp only [gm_u]; simp [hn_26]) c
  simp [f_X11_act, f_X12_act, f_X7_clear, n1, n2, gm_eqI, gm_eqL, gm_bI, gm_bL, gm_bV, gm_j, gm_gR, gm_gI, gm_aI, gm_sI, gm_pI, gm_al, gt_1, gt_15, gt_3, gt_23, gt_25, gt_26, gl_26, gt_27, gt_17, gl_17, gr_1_1, gr_1_4, gr_15_3, gr_15_7, gr_15_8, gr_15_9, gr_25_1, gn_15_1, gn_15_4, gn_3_0, gn_3_2, gn_25_0, gn_25_2, ht_65, ht_66, hl_66, hr_65, hn_26, hn_29, hn_31, hn_ran, gm_tagm, gm_lenm, gp_out, gp_in, gp_nob, gp_ch]
theorem K_trace : ∀ (x0 : Int32), gm_eqI (f_X11_trace 1 x0 gi5) (fun m => f_X12_trace 65 x0 m) = true := by
  intro x0
  by_cases h : x0 < 0
  · simp [f_X11_trace, f_X12_trace, f_X7_isKept, h, gm_eqI, gm_eqL, gm_bI, gm_bL, gm_bV, gm_j, gm_gR, gm_gI, gm_aI, gm_sI, gm_pI, gm_al, gt_1, gt_15, gt_3, gt_23, gt_25, gt_26, gl_26, gt_27, gt_17, gl_17, gr_1_1, gr_1_4, gr_15_3, gr_15_7, gr_15_8, gr_15_9, gr_25_1, gn_15_1, gn_15_4, gn_3_0, gn_3_2, gn_25_0, gn_25_2, ht_65, ht_66, hl_66, hr_65, hn_26, hn_29, hn_31, hn_ran, gm_tagm, gm_lenm, gp_out, gp_in, gp_nob, gp_ch]
  · have g := gp_m2 h
    have e : (0 - 1 : Int32) = -1 := by decide
    rw [e] at g
    simp [f_X11_trace, f_X12_trace, f_X7_isKept, h, g, Int32.not_lt.mp h, gm_eqI, gm_eqL, gm_bI, gm_bL, gm_bV, gm_j, gm_gR, gm_gI, gm_aI, gm_sI, gm_pI, gm_al, gt_1, gt_15, gt_3, gt_23, gt_25, gt_26, gl_26, gt_27, gt_17, gl_17, gr_1_1, gr_1_4, gr_15_3, gr_15_7, gr_15_8, gr_15_9, gr_25_1, gn_15_1, gn_15_4, gn_3_0, gn_3_2, gn_25_0, gn_25_2, ht_65, ht_66, hl_66, hr_65, hn_26, hn_29, hn_31, hn_ran, gm_tagm, gm_lenm, gp_out, gp_in, gp_nob, gp_ch]
theorem K_as : ∀ (x0 x1 : Int32), gm_eqI (f_X11_as 1 x0 x1 gi5) (fun m => f_X12_as 65 x0 x1 m) = true := by
  intro x0 x1
  simp [f_X11_as, f_X12_as, gm_eqI, gm_eqL, gm_bI, gm_bL, gm_bV, gm_j, gm_gR, gm_gI, gm_aI, gm_sI, gm_pI, gm_al, gt_1, gt_15, gt_3, gt_23, gt_25, gt_26, gl_26, gt_27, gt_17, gl_17, gr_1_1, gr_1_4, gr_15_3, gr_15_7, gr_15_8, gr_15_9, gr_25_1, gn_15_1, gn_15_4, gn_3_0, gn_3_2, gn_25_0, gn_25_2, ht_65, ht_66, hl_66, hr_65, hn_26, hn_29, hn_31, hn_ran, gm_tagm, gm_lenm, gp_out, gp_in, gp_nob, gp_ch]
theorem K_image : ∀ (_ : Unit), gm_eqI (f_X11_image 1  gi5) (fun m => f_X12_image 65  m) = true := by
  intro _
  decide +kernel
theorem K_undo : ∀ (_ : Unit), gm_eqI (f_X11_undo 1  gi5) (fun m => f_X12_undo 65  m) = true := by
  intro _
  decide +kernel
theorem K_count : ∀ (x0 : Int32), gm_eqI (f_X11_count 1 x0 gi5) (fun m => f_X12_count 65 x0 m) = true := by
  intro x0
  by_cases h0 : x0 = 0
  · subst h0
    decide +kernel
  by_cases h1 : x0 = 1
  · subst h1
    decide +kernel
  by_cases h2 : x0 = 2
  · subst h2
    decide +kernel
  by_cases h3 : x0 = 3
  · subst h3
    decide +kernel
  by_cases h4 : x0 = 4
  · subst h4
    decide +kernel
  by_cases h5 : x0 = 5
  · subst h5
    decide +kernel
  by_cases h6 : x0 = 6
  · subst h6
    decide +kernel
  have hh : ¬ x0 < 0 → (5 : Int32) < x0 := by
    intro h
    obtain ⟨j, hj, rfl⟩ := nI_of h
    have q : ∀ v : Nat, v < 7 → j ≠ v := by
      intro v hv e
      subst e
      rcases (show j = 0 ∨ j = 1 ∨ j = 2 ∨ j = 3 ∨ j = 4 ∨ j = 5 ∨ j = 6 by omega) with e | e | e | e | e | e | e <;> subst e
      · exact h0 rfl
      · exact h1 rfl
      · exact h2 rfl
      · exact h3 rfl
      · exact h4 rfl
      · exact h5 rfl
      · exact h6 rfl
    have q0 := q 0 (by omega); have q1 := q 1 (by omega); have q2 := q 2 (by omega); have q3 := q 3 (by omega); have q4 := q 4 (by omega); have q5 := q 5 (by omega); have q6 := q 6 (by omega)
    rw [Int32.lt_iff_toInt_lt, nI_toInt hj, show (5 : Int32).toInt = 5 from by decide]
    omega
  by_cases hz : x0 < 0
  · simp [f_X11_count, f_X12_count, hz, h0, h1, h2, h3, h4, h5, h6, gm_eqI, gm_eqL, gm_bI, gm_bL, gm_bV, gm_j, gm_gR, gm_gI, gm_aI, gm_sI, gm_pI, gm_al, gt_1, gt_15, gt_3, gt_23, gt_25, gt_26, gl_26, gt_27, gt_17, gl_17, gr_1_1, gr_1_4, gr_15_3, gr_15_7, gr_15_8, gr_15_9, gr_25_1, gn_15_1, gn_15_4, gn_3_0, gn_3_2, gn_25_0, gn_25_2, ht_65, ht_66, hl_66, hr_65, hn_26, hn_29, hn_31, hn_ran, gm_tagm, gm_lenm, gp_out, gp_in, gp_nob, gp_ch]
  · simp [f_X11_count, f_X12_count, hz, hh hz, h0, h1, h2, h3, h4, h5, h6, gm_eqI, gm_eqL, gm_bI, gm_bL, gm_bV, gm_j, gm_gR, gm_gI, gm_aI, gm_sI, gm_pI, gm_al, gt_1, gt_15, gt_3, gt_23, gt_25, gt_26, gl_26, gt_27, gt_17, gl_17, gr_1_1, gr_1_4, gr_15_3, gr_15_7, gr_15_8, gr_15_9, gr_25_1, gn_15_1, gn_15_4, gn_3_0, gn_3_2, gn_25_0, gn_25_2, ht_65, ht_66, hl_66, hr_65, hn_26, hn_29, hn_31, hn_ran, gm_tagm, gm_lenm, gp_out, gp_in, gp_nob, gp_ch]
