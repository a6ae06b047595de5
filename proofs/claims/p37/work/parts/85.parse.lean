section
/-! the reference reads -/
def sp (m : gm_M) : Int := (m.2.1 65 6).toInt
def en (m : gm_M) : Int := (m.2.1 65 7).toInt
def wr (m : gm_M) : Int := (m.2.1 65 8).toInt
def op (m : gm_M) : Int := (m.2.1 65 9).toInt
def mn (A : Nat) (m : gm_M) : Int := (m.2.1 66 (220 + A)).toInt
def FB (m : gm_M) : Prop := gS m ∧ (0 ≤ sp m ∧ sp m ≤ en m ∧ en m ≤ 100) ∧ (wr m = 0 ∨ wr m = 1)
def fq (μ m : gm_M) : Prop := (m.1 = μ.1 ∧ m.2.2 = μ.2.2 ∧ (∀ r : Nat, r ≠ 65 → m.2.1 r = μ.2.1 r) ∧ ∀ j : Nat, j ≠ 6 → j ≠ 8 → m.2.1 65 j = μ.2.1 65 j) ∧ (sp μ ≤ sp m ∧ sp m ≤ en μ) ∧ (wr m = 0 ∨ wr m = 1) ∧ (wr m = 0 → wr μ = 0)
theorem fq_en {μ m : gm_M} (h : fq μ m) : en m = en μ := by unfold en; rw [h.1.2.2.2 7 (by decide) (by decide)]
theorem fq.fb {μ m : gm_M} (h : fq μ m) (f : FB μ) : FB m := by
  have e := fq_en h
  exact ⟨f.1.same h.1.1 h.1.2.1, ⟨by have := f.2.1; have := h.2.1; omega, by rw [e]; exact h.2.1.2, by rw [e]; exact f.2.1.2.2⟩, h.2.2.1⟩
theorem fq.refl {μ : gm_M} (f : FB μ) : fq μ μ := ⟨⟨rfl, rfl, fun _ _ => rfl, fun _ _ _ => rfl⟩, ⟨Int.le_refl _, f.2.1.2.1⟩, f.2.2, fun h => h⟩
theorem fq.trans {a b c : gm_M} (h : fq a b) (g : fq b c) : fq a c := by
  have e := fq_en h
  obtain ⟨⟨h1, h2, h3, h4⟩, h5, h6, h7⟩ := h
  obtain ⟨⟨g1, g2, g3, g4⟩, g5, g6, g7⟩ := g
  exact ⟨⟨g1.trans h1, g2.trans h2, fun r hr => (g3 r hr).trans (h3 r hr), fun j j1 j2 => (g4 j j1 j2).trans (h4 j j1 j2)⟩, by omega, g6, fun q => h7 (g7 q)⟩
/-- one sign on -/
theorem fq.on {μ b : gm_M} (h : fq μ b) (f : FB μ) {x : Int32} (hx : x.toInt = sp b + 1) (hl : sp b < en μ) : fq μ (wI b 65 6 x) ∧ sp (wI b 65 6 x) = sp b + 1 ∧ wr (wI b 65 6 x) = wr b := by
  have e6 : sp (wI b 65 6 x) = sp b + 1 := by unfold sp; rw [wI_e]; exact hx
  have e8 : wr (wI b 65 6 x) = wr b := by unfold wr; rw [wI_n _ _ _ _ (by decide)]
  obtain ⟨⟨h1, h2, h3, h4⟩, h5, h6, h7⟩ := h
  exact ⟨⟨⟨h1, h2, fun r hr => (wI_o _ _ _ _ hr).trans (h3 r hr), fun j j1 j2 => (wI_n _ _ _ _ j1).trans (h4 j j1 j2)⟩, by rw [e6]; omega, by rw [e8]; exact h6, by rw [e8]; exact h7⟩, e6, e8⟩
theorem fq.ww {μ b : gm_M} (h : fq μ b) {x : Int32} (hx : x.toInt = 0 ∨ x.toInt = 1) (h0 : x.toInt = 0 → wr μ = 0) : fq μ (wI b 65 8 x) ∧ sp (wI b 65 8 x) = sp b ∧ wr (wI b 65 8 x) = x.toInt := by
  have e6 : sp (wI b 65 8 x) = sp b := by unfold sp; rw [wI_n _ _ _ _ (by decide)]
  have e8 : wr (wI b 65 8 x) = x.toInt := by unfold wr; rw [wI_e]
  obtain ⟨⟨h1, h2, h3, h4⟩, h5, h6, h7⟩ := h
  exact ⟨⟨⟨h1, h2, fun r hr => (wI_o _ _ _ _ hr).trans (h3 r hr), fun j j1 j2 => (wI_n _ _ _ _ j2).trans (h4 j j1 j2)⟩, by rw [e6]; exact h5, by rw [e8]; exact hx, by rw [e8]; exact h0⟩, e6, e8⟩
theorem s_here {μ : gm_M} (f : FB μ) : gwI (f_X12_here 65 μ) (fun x m => m = μ ∧ (x.toInt = -1 ∨ sp μ < en μ)) := by
  obtain ⟨hg, hb, -⟩ := f
  refine gwI_of ?_
  unfold f_X12_here
  have l110 : (110 : Int32).toInt = 110 := rfl
  have d6 : (μ.2.1 65 6).toInt = sp μ := rfl
  have d7 : (μ.2.1 65 7).toInt = en μ := rfl
  refine gw_gIw (hg.c (r := 65) rfl) ?_
  refine gw_gIw (hg.c (r := 65) rfl) ?_
  refine gw_le (fun _ => gw_some (gq_I ⟨rfl, Or.inl rfl⟩)) (fun g => ?_)
  refine gw_gRa 66 (hg.c (r := 65) rfl) (hg.r (by decide)) ?_
  refine gw_gIw (hg.c (r := 65) rfl) ?_
  have n : ((110 : Int32) + μ.2.1 65 6).toInt = (110 : Int32).toInt + (μ.2.1 65 6).toInt := gx_add (by omega) (by omega)
  refine gw_aI (i := (110 : Int32) + μ.2.1 65 6) (hg.t (r := 66) rfl) (hg.l (r := 66) rfl) (by omega) (by omega) (fun v _ => ?_)
  exact gw_some (gq_I ⟨rfl, Or.inr (by omega)⟩)
theorem s_must {μ : gm_M} (f : FB μ) {c : Int32} (hc : 0 ≤ c.toInt) : gwV (f_X12_must 65 c μ) (fun m => fq μ m ∧ (wr m = 0 → sp m = sp μ + 1)) := by
  have f0 := f
  obtain ⟨hg, hb, hw⟩ := f
  refine gwV_of ?_
  unfold f_X12_must
  have l0 : (0 : Int32).toInt = 0 := rfl
  have l1 : (1 : Int32).toInt = 1 := rfl
  have d8 : (μ.2.1 65 8).toInt = wr μ := rfl
  refine gw_gIw (hg.c (r := 65) rfl) ?_
  refine gw_j (fun s => s.2 = μ ∧ ((s.1.toInt = 1) ∨ (s.1.toInt = 0 ∧ wr μ = 0 ∧ sp μ < en μ))) (fun s ⟨es, hs⟩ => ?_) (fun j hj => ?_)
  · rw [es]
    obtain ⟨q1, q2, q3⟩ := (fq.refl f0).ww (x := s.1) (by omega) (by omega)
    have hg2 : gS (wI μ 65 8 s.1) := hg
    refine gw_pZw (hg.c (r := 65) rfl) (by omega) ?_
    refine gw_gIw (hg2.c (r := 65) rfl) ?_
    refine gw_gIw (hg2.c (r := 65) rfl) ?_
    have d6 : ((wI μ 65 8 s.1).2.1 65 6).toInt = sp μ := q2
    have d8' : ((wI μ 65 8 s.1).2.1 65 8).toInt = s.1.toInt := q3
    refine gw_j (fun z => (z.toInt = 1 ∧ s.1.toInt = 0) ∨ (z.toInt = 0 ∧ s.1.toInt = 1)) (fun z hz => ?_) (fun j2 hj2 => ?_)
    · have n : ((wI μ 65 8 s.1).2.1 65 6 + z).toInt = ((wI μ 65 8 s.1).2.1 65 6).toInt + z.toInt := gx_add (by omega) (by omega)
      refine gw_pIw (hg2.c (r := 65) rfl) ?_
      rcases hz with ⟨z1, z2⟩ | ⟨z1, z2⟩
      · obtain ⟨r1, r2, r3⟩ := q1.on f0 (x := (wI μ 65 8 s.1).2.1 65 6 + z) (by rw [q2]; omega) (by rw [q2]; omega)
        exact gw_some (gq_V ⟨r1, fun _ => by rw [r2, q2]⟩)
      · have e : (wI μ 65 8 s.1).2.1 65 6 + z = (wI μ 65 8 s.1).2.1 65 6 := by
          apply Int32.toInt_inj.mp; omega
        rw [e]
        have r1 : fq μ (wI (wI μ 65 8 s.1) 65 6 ((wI μ 65 8 s.1).2.1 65 6)) := by
          obtain ⟨⟨a1, a2, a3, a4⟩, a5, a6, a7⟩ := q1
          have s6 : sp (wI (wI μ 65 8 s.1) 65 6 ((wI μ 65 8 s.1).2.1 65 6)) = sp (wI μ 65 8 s.1) := by unfold sp; rw [wI_e]
          have s8 : wr (wI (wI μ 65 8 s.1) 65 6 ((wI μ 65 8 s.1).2.1 65 6)) = wr (wI μ 65 8 s.1) := by unfold wr; rw [wI_n _ _ _ _ (by decide)]
          exact ⟨⟨a1, a2, fun r hr => (wI_o _ _ _ _ hr).trans (a3 r hr), fun j j1 j2 => (wI_n _ _ _ _ j1).trans (a4 j j1 j2)⟩, by rw [s6]; exact a5, by rw [s8]; exact a6, by rw [s8]; exact a7⟩
        have s8 : wr (wI (wI μ 65 8 s.1) 65 6 ((wI μ 65 8 s.1).2.1 65 6)) = 1 := by unfold wr; rw [wI_n _ _ _ _ (by decide), wI_e]; exact z2
        exact gw_some (gq_V ⟨r1, fun q => by rw [s8] at q; omega⟩)
    · refine gw_eq (fun g => hj2 _ (Or.inl ⟨l1, by omega⟩)) (fun g => hj2 _ (Or.inr ⟨l0, by omega⟩))
  · refine gw_j (fun m => m = μ) (fun m em => hj _ ⟨em, Or.inl l1⟩) (fun j2 hj2 => ?_)
    refine gw_ne (fun g => hj2 _ rfl) (fun g => ?_)
    refine gw_if (hg.t (r := 65) rfl) ?_
    refine gw_bI (s_here f0) (fun x m ⟨z, fx⟩ => ?_)
    replace z := z.symm
    subst z
    exact gw_eq (fun g2 => hj _ ⟨rfl, Or.inr ⟨l0, by omega, by omega⟩⟩) (fun g2 => hj2 _ rfl)
theorem s_spells {μ : gm_M} (f : FB μ) {u : UInt32} (hu : gm_isS u) : gwV (f_X12_spells 65 u μ) (fun m => fq μ m) := by
  refine gwV_of ?_
  unfold f_X12_spells
  have l0 : (0 : Int32).toInt = 0 := rfl
  have l1 : (1 : Int32).toInt = 1 := rfl
  have six := (tx_len (μ := μ) hu).2
  have dl : (Int32.ofNat (gm_bn (u + 6))).toInt = ((gm_bn (u + 6) : Nat) : Int) := Int32.toInt_ofNat_of_lt (by omega)
  refine gw_loop (fun s => fq μ s.2 ∧ 0 ≤ s.1.toInt ∧ s.1.toInt ≤ 6) (fun s => 6 - s.1.toInt) (fun s ⟨k, u1, u2⟩ => ?_) 5000 ((0 : Int32), μ) ⟨fq.refl f, by show 0 ≤ (0 : Int32).toInt; omega, by show (0 : Int32).toInt ≤ 6; omega⟩ (by show 6 - (0 : Int32).toInt < ((5000 : Nat) : Int); omega) (by show 0 ≤ 6 - (0 : Int32).toInt; omega)
  refine gw_if hu ?_
  refine gw_bI (R := fun x m => m = s.2 ∧ x = Int32.ofNat (gm_bn (u + 6))) ⟨_, _, (tx_len hu).1, rfl, rfl⟩ (fun x m ⟨z, ex⟩ => ?_)
  replace z := z.symm
  subst z
  subst ex
  refine gw_le (fun _ => gw_some (gs_inr (gq_V k))) (fun g => ?_)
  refine gw_if hu ?_
  have tc := tx_char (μ := s.2) hu (i := s.1) (by omega) (by omega)
  refine gw_bI (R := fun x m => m = s.2 ∧ x = gm_bb (u + 6) s.1.toInt.toNat) ⟨_, _, tc.1, rfl, rfl⟩ (fun x m ⟨z, ex⟩ => ?_)
  replace z := z.symm
  subst z
  have fb := k.fb f
  refine gw_if (fb.1.t (r := 65) rfl) ?_
  refine gw_bV (s_must fb (by rw [ex]; exact tc.2)) (fun m ⟨g1, _⟩ => ?_)
  have n : (s.1 + (1 : Int32)).toInt = s.1.toInt + (1 : Int32).toInt := gx_add (by omega) (by omega)
  exact gw_some (gs_inl ⟨k.trans g1, by show 0 ≤ (s.1 + (1 : Int32)).toInt; omega, by show (s.1 + (1 : Int32)).toInt ≤ 6; omega⟩ (by show 6 - (s.1 + (1 : Int32)).toInt < 6 - s.1.toInt; omega) (by show 0 ≤ 6 - (s.1 + (1 : Int32)).toInt; omega))
theorem s_among {μ : gm_M} (f : FB μ) {u : UInt32} (hu : gm_isS u) : gwI (f_X12_among 65 u μ) (fun x m => fq μ m ∧ wr m = wr μ ∧ ((x.toInt = -1 ∧ sp m = sp μ) ∨ (0 ≤ x.toInt ∧ x.toInt < ((gm_bn (u + 6) : Nat) : Int) ∧ sp m = sp μ + 1))) := by
  refine gwI_of ?_
  unfold f_X12_among
  have l0 : (0 : Int32).toInt = 0 := rfl
  have l1 : (1 : Int32).toInt = 1 := rfl
  have six := (tx_len (μ := μ) hu).2
  have hg := f.1
  have dl : (Int32.ofNat (gm_bn (u + 6))).toInt = ((gm_bn (u + 6) : Nat) : Int) := Int32.toInt_ofNat_of_lt (by omega)
  refine gw_loop (fun s => s.2 = μ ∧ 0 ≤ s.1.toInt ∧ s.1.toInt ≤ 6) (fun s => 6 - s.1.toInt) (fun s ⟨k, u1, u2⟩ => ?_) 5000 ((0 : Int32), μ) ⟨rfl, by show 0 ≤ (0 : Int32).toInt; omega, by show (0 : Int32).toInt ≤ 6; omega⟩ (by show 6 - (0 : Int32).toInt < ((5000 : Nat) : Int); omega) (by show 0 ≤ 6 - (0 : Int32).toInt; omega)
  rw [k]
  refine gw_if hu ?_
  refine gw_bI (R := fun x m => m = μ ∧ x = Int32.ofNat (gm_bn (u + 6))) ⟨_, _, (tx_len hu).1, rfl, rfl⟩ (fun x m ⟨z, ex⟩ => ?_)
  replace z := z.symm
  subst z
  subst ex
  refine gw_le (fun _ => gw_some (gs_inr (gq_I ⟨fq.refl f, rfl, Or.inl ⟨rfl, rfl⟩⟩))) (fun g => ?_)
  refine gw_if (hg.t (r := 65) rfl) ?_
  refine gw_bI (s_here f) (fun y m ⟨z, fy⟩ => ?_)
  replace z := z.symm
  subst z
  refine gw_if hu ?_
  have tc := tx_char (μ := μ) hu (i := s.1) (by omega) (by omega)
  refine gw_bI (R := fun x m => m = μ ∧ x = gm_bb (u + 6) s.1.toInt.toNat) ⟨_, _, tc.1, rfl, rfl⟩ (fun x m ⟨z, ex⟩ => ?_)
  replace z := z.symm
  subst z
  have n : (s.1 + (1 : Int32)).toInt = s.1.toInt + (1 : Int32).toInt := gx_add (by omega) (by omega)
  refine gw_ne (fun _ => gw_some (gs_inl ⟨rfl, by show 0 ≤ (s.1 + (1 : Int32)).toInt; omega, by show (s.1 + (1 : Int32)).toInt ≤ 6; omega⟩ (by show 6 - (s.1 + (1 : Int32)).toInt < 6 - s.1.toInt; omega) (by show 0 ≤ 6 - (s.1 + (1 : Int32)).toInt; omega))) (fun g2 => ?_)
  have c0 : 0 ≤ x.toInt := by rw [ex]; exact tc.2
  have hb := f.2.1
  have d6 : (μ.2.1 65 6).toInt = sp μ := rfl
  refine gw_gIw (hg.c (r := 65) rfl) ?_
  refine gw_pIw (hg.c (r := 65) rfl) ?_
  have n6 : (μ.2.1 65 6 + (1 : Int32)).toInt = (μ.2.1 65 6).toInt + (1 : Int32).toInt := gx_add (by omega) (by omega)
  obtain ⟨r1, r2, r3⟩ := (fq.refl f).on f (x := μ.2.1 65 6 + (1 : Int32)) (by omega) (by omega)
  exact gw_some (gs_inr (gq_I ⟨r1, r3, Or.inr ⟨u1, by omega, r2⟩⟩))
theorem s_figures {μ : gm_M} (f : FB μ) : gwI (f_X12_figures 65 μ) (fun x m => fq μ m ∧ (wr m = 0 → (0 ≤ x.toInt ∧ x.toInt ≤ 99) ∧ sp μ + 1 ≤ sp m)) := by
  have f0 := f
  obtain ⟨hg, hb, hw⟩ := f
  refine gwI_of ?_
  unfold f_X12_figures
  have l0 : (0 : Int32).toInt = 0 := rfl
  have l1 : (1 : Int32).toInt = 1 := rfl
  have l2 : (2 : Int32).toInt = 2 := rfl
  have l48 : (48 : Int32).toInt = 48 := rfl
  have l57 : (57 : Int32).toInt = 57 := rfl
  have d8 : (μ.2.1 65 8).toInt = wr μ := rfl
  refine gw_gIw (hg.c (r := 65) rfl) ?_
  refine gw_j (fun s => s.2 = μ ∧ ((s.1.toInt = 1) ∨ (s.1.toInt = 0 ∧ wr μ = 0 ∧ ∃ x : Int32, f_X12_here 65 μ = some (some (.int x), μ) ∧ 48 ≤ x.toInt ∧ x.toInt ≤ 57))) (fun s ⟨es, hs⟩ => ?_) (fun j hj => ?_)
  · rw [es]
    obtain ⟨q1, q2, q3⟩ := (fq.refl f0).ww (x := s.1) (by omega) (by omega)
    refine gw_pZw (hg.c (r := 65) rfl) (by omega) ?_
    have fb1 := q1.fb f0
    -- the value so far, how many signs
    refine gw_loop (fun t => fq μ t.2.2 ∧ wr t.2.2 = s.1.toInt ∧ ((t.2.1.toInt = 0 ∧ t.1.toInt = 0 ∧ t.2.2 = wI μ 65 8 s.1) ∨ (t.2.1.toInt = 1 ∧ (0 ≤ t.1.toInt ∧ t.1.toInt ≤ 9) ∧ sp μ + 1 ≤ sp t.2.2) ∨ (t.2.1.toInt = 2 ∧ (0 ≤ t.1.toInt ∧ t.1.toInt ≤ 99) ∧ sp μ + 1 ≤ sp t.2.2))) (fun t => 2 - t.2.1.toInt) (fun t ⟨k, kw, kt⟩ => ?_) 5000 ((0 : Int32), (0 : Int32), wI μ 65 8 s.1) ⟨q1, q3, Or.inl ⟨l0, l0, rfl⟩⟩ (by show 2 - (0 : Int32).toInt < ((5000 : Nat) : Int); omega) (by show 0 ≤ 2 - (0 : Int32).toInt; omega)
    have fb := k.fb f0
    have ht := fb.1
    refine gw_le (fun g => gw_some (gs_inr (gq_I ⟨k, fun _ => by omega⟩))) (fun g => ?_)
    refine gw_gIw (ht.c (r := 65) rfl) ?_
    have d8' : (t.2.2.2.1 65 8).toInt = wr t.2.2 := rfl
    refine gw_ne (fun g2 => gw_some (gs_inr (gq_I ⟨k, fun q => by omega⟩))) (fun g2 => ?_)
    refine gw_if (ht.t (r := 65) rfl) ?_
    -- what stands here
    obtain ⟨x8, mx, ex, zx, fx⟩ := s_here fb
    subst zx
    refine gw_bI (R := fun x m => m = t.2.2 ∧ x = x8) ⟨x8, _, ex, rfl, rfl⟩ (fun x m ⟨z, e8⟩ => ?_)
    subst e8
    replace z := z.symm
    subst z
    refine gw_bI s_X12_in (fun x10 m9 ⟨z, f10⟩ => ?_)
    replace z := z.symm
    subst z
    refine gw_eq (fun g3 => gw_some (gs_inr (gq_I ⟨k, fun q => ?_⟩))) (fun g3 => ?_)
    · rcases kt with ⟨k1, k2, k3⟩ | ⟨k1, k2, k3⟩ | ⟨k1, k2, k3⟩
      · exfalso
        rcases hs with hs | ⟨hs1, hs2, y, ey, y1, y2⟩
        · omega
        · -- the same sign stood there at first
          have : f_X12_here 65 (wI μ 65 8 s.1) = some (some (.int y), wI μ 65 8 s.1) := by
            have e0 : ∀ j : Nat, j ≠ 8 → (wI μ 65 8 s.1).2.1 65 j = μ.2.1 65 j := fun j hj => wI_n _ _ _ _ hj
            have e1 : (wI μ 65 8 s.1).2.1 66 = μ.2.1 66 := wI_o _ _ _ _ (by decide)
            unfold f_X12_here gm_gI gm_gR gm_aI at ey ⊢
            simp only [wI_t, wI_l, wI_2, e0 6 (by decide), e0 7 (by decide)] at ey ⊢
            have e2 : (wI μ 65 8 s.1).2.1 (μ.2.2 65 1) = μ.2.1 (μ.2.2 65 1) := wI_o _ _ _ _ (by rw [hg.r (r := 65) (j := 1) (a := 66) (by decide)]; decide)
            rw [e2]
            revert ey
            repeat' split
            all_goals (intro ey; first | (cases ey; rfl) | (exact absurd ey (by simp)))
          rw [k3] at ex
          rw [this] at ex
          cases ex
          omega
      · omega
      · omega
    · refine gw_j (fun _ => t.2.1.toInt = 0 ∨ t.2.1.toInt = 1) (fun _ hz => ?_) (fun j2 hj2 => ?_)
      · refine gw_if (ht.t (r := 65) rfl) ?_
        refine gw_bI (R := fun y m => m = t.2.2 ∧ y = x) ⟨x, _, ex, rfl, rfl⟩ (fun y m ⟨z, e8⟩ => ?_)
        subst e8
        replace z := z.symm
        subst z
        refine gw_gIw (ht.c (r := 65) rfl) ?_
        refine gw_pIw (ht.c (r := 65) rfl) ?_
        have d6 : (t.2.2.2.1 65 6).toInt = sp t.2.2 := rfl
        have ee := fq_en k
        have hbt := fb.2.1
        have n6 : (t.2.2.2.1 65 6 + (1 : Int32)).toInt = (t.2.2.2.1 65 6).toInt + (1 : Int32).toInt := gx_add (by omega) (by omega)
        obtain ⟨r1, r2, r3⟩ := k.on f0 (x := t.2.2.2.1 65 6 + (1 : Int32)) (by omega) (by omega)
        have n1 : (t.2.1 + (1 : Int32)).toInt = t.2.1.toInt + (1 : Int32).toInt := gx_add (by omega) (by omega)
        have m1 : ((10 : Int32) * t.1).toInt = 10 * t.1.toInt := gx_mul 10 rfl (by omega) (by omega)
        have m2 : ((10 : Int32) * t.1 + y).toInt = ((10 : Int32) * t.1).toInt + y.toInt := gx_add (by omega) (by omega)
        have m3 : (((10 : Int32) * t.1 + y) - (48 : Int32)).toInt = ((10 : Int32) * t.1 + y).toInt - (48 : Int32).toInt := gx_sub (by omega) (by omega)
        have spk := k.2.1.1
        refine gw_some (gs_inl ⟨r1, by show wr (wI t.2.2 65 6 _) = _; rw [r3]; exact kw, ?_⟩ (by show 2 - (t.2.1 + (1 : Int32)).toInt < 2 - t.2.1.toInt; omega) (by show 0 ≤ 2 - (t.2.1 + (1 : Int32)).toInt; omega))
        show ((t.2.1 + (1 : Int32)).toInt = 0 ∧ _) ∨ ((t.2.1 + (1 : Int32)).toInt = 1 ∧ (0 ≤ (((10 : Int32) * t.1 + y) - (48 : Int32)).toInt ∧ (((10 : Int32) * t.1 + y) - (48 : Int32)).toInt ≤ 9) ∧ sp μ + 1 ≤ sp (wI t.2.2 65 6 (t.2.2.2.1 65 6 + (1 : Int32)))) ∨ ((t.2.1 + (1 : Int32)).toInt = 2 ∧ (0 ≤ (((10 : Int32) * t.1 + y) - (48 : Int32)).toInt ∧ (((10 : Int32) * t.1 + y) - (48 : Int32)).toInt ≤ 99) ∧ sp μ + 1 ≤ sp (wI t.2.2 65 6 (t.2.2.2.1 65 6 + (1 : Int32))))
        rcases kt with ⟨k1, k2, k3⟩ | ⟨k1, k2, k3⟩ | ⟨k1, k2, k3⟩
        · exact Or.inr (Or.inl ⟨by omega, by omega, by omega⟩)
        · exact Or.inr (Or.inr ⟨by omega, by omega, by omega⟩)
        · exfalso; omega
      · refine gw_eq (fun g4 => hj2 _ (by omega)) (fun g4 => ?_)
        refine gw_le (fun g5 => gw_some (gs_inr (gq_I ⟨k, fun _ => by omega⟩))) (fun g5 => hj2 _ (by omega))
  · refine gw_j (fun m => m = μ) (fun m em => hj _ ⟨em, Or.inl l1⟩) (fun j2 hj2 => ?_)
    refine gw_ne (fun g => hj2 _ rfl) (fun g => ?_)
    refine gw_if (hg.t (r := 65) rfl) ?_
    obtain ⟨x8, mx, ex, zx, fx⟩ := s_here f0
    subst zx
    refine gw_bI (R := fun x m => m = mx ∧ x = x8) ⟨x8, _, ex, rfl, rfl⟩ (fun x m ⟨z, e8⟩ => ?_)
    subst e8
    replace z := z.symm
    subst z
    refine gw_bI s_X12_in (fun x10 m9 ⟨z, f10⟩ => ?_)
    replace z := z.symm
    subst z
    exact gw_ne (fun g3 => hj _ ⟨rfl, Or.inr ⟨l0, by omega, x, ex, by omega, by omega⟩⟩) (fun g3 => hj2 _ rfl)
end
section
def PM (A : Nat) (m : gm_M) (t : Nat) : Prop := FB m ∧ A < 5 ∧ (m.2.1 65 5).toInt = A ∧ (0 ≤ mn A m ∧ mn A m ≤ sp m) ∧ 3 * (t : Int) ≤ sp m ∧ ∃ tp : Nat → Nat, tp 0 = 0 ∧ (∀ i : Nat, (i : Int) < mn A m → wst (m.2.1 66 (225 + 140 * A + i)) (tp i) (tp (i + 1))) ∧ tp (mn A m).toNat = t
def pf (A : Nat) (μ m : gm_M) : Prop := m.1 = μ.1 ∧ m.2.2 = μ.2.2 ∧ (∀ r : Nat, r ≠ 65 → r ≠ 66 → m.2.1 r = μ.2.1 r) ∧ (∀ k : Nat, k ≠ 210 + A → k ≠ 215 + A → k ≠ 220 + A → ¬ (225 + 140 * A ≤ k ∧ k < 365 + 140 * A) → m.2.1 66 k = μ.2.1 66 k) ∧ ∀ j : Nat, j ≠ 6 → j ≠ 8 → j ≠ 9 → m.2.1 65 j = μ.2.1 65 j
def po (A : Nat) (μ m : gm_M) : Prop := pf A μ m ∧ sp μ - mn A μ ≤ sp m - mn A m ∧ sp μ ≤ sp m ∧ (wr m = 0 → wr μ = 0)
def FP (A t : Nat) (μ m : gm_M) : Prop := po A μ m ∧ op m = op μ ∧ ∃ t' : Nat, PM A m t' ∧ (wr m = 0 → t' = t + 1 ∧ sp μ + 3 ≤ sp m)
theorem pf.refl (A : Nat) (μ : gm_M) : pf A μ μ := ⟨rfl, rfl, fun _ _ _ => rfl, fun _ _ _ _ _ => rfl, fun _ _ _ _ => rfl⟩
theorem pf.trans {A : Nat} {a b c : gm_M} (h : pf A a b) (g : pf A b c) : pf A a c := by
  obtain ⟨h1, h2, h3, h4, h5⟩ := h
  obtain ⟨g1, g2, g3, g4, g5⟩ := g
  exact ⟨g1.trans h1, g2.trans h2, fun r r1 r2 => (g3 r r1 r2).trans (h3 r r1 r2), fun k k1 k2 k3 k4 => (g4 k k1 k2 k3 k4).trans (h4 k k1 k2 k3 k4), fun j j1 j2 j3 => (g5 j j1 j2 j3).trans (h5 j j1 j2 j3)⟩
theorem po.refl (A : Nat) (μ : gm_M) : po A μ μ := ⟨pf.refl A μ, Int.le_refl _, Int.le_refl _, fun h => h⟩
theorem po.trans {A : Nat} {a b c : gm_M} (h : po A a b) (g : po A b c) : po A a c := by
  obtain ⟨h1, h2, h3, h4⟩ := h
  obtain ⟨g1, g2, g3, g4⟩ := g
  exact ⟨h1.trans g1, by omega, by omega, fun q => h4 (g4 q)⟩
theorem PM.g {A t : Nat} {m : gm_M} (p : PM A m t) : gS m := p.1.1
theorem PM.q {A t : Nat} {μ m : gm_M} (p : PM A μ t) (k : fq μ m) : PM A m t ∧ pf A μ m ∧ mn A m = mn A μ ∧ op m = op μ ∧ po A μ m := by
  have hf := k.fb p.1
  obtain ⟨f, a5, ea, b1, b2, tp, t0, t1, t2⟩ := p
  obtain ⟨⟨k1, k2, k3, k4⟩, k5, k6, k7⟩ := k
  have e66 : m.2.1 66 = μ.2.1 66 := k3 66 (by decide)
  have em : mn A m = mn A μ := by unfold mn; rw [e66]
  have eo : op m = op μ := by unfold op; rw [k4 9 (by decide) (by decide)]
  have hp : pf A μ m := ⟨k1, k2, fun r r1 _ => k3 r r1, fun k _ _ _ _ => by rw [e66], fun j j1 j2 _ => k4 j j1 j2⟩
  refine ⟨⟨hf, a5, by rw [k4 5 (by decide) (by decide)]; exact ea, by rw [em]; omega, by omega, tp, t0, by rw [em, e66]; exact t1, by rw [em]; exact t2⟩, hp, em, eo, hp, by omega, by omega, k7⟩
/-- a word of its own is set -/
theorem PM.w {A t : Nat} {μ : gm_M} (p : PM A μ t) {j : Nat} (hj : j = 9) (x : Int32) : PM A (wI μ 65 j x) t ∧ po A μ (wI μ 65 j x) ∧ sp (wI μ 65 j x) = sp μ ∧ wr (wI μ 65 j x) = wr μ ∧ op (wI μ 65 j x) = x.toInt ∧ mn A (wI μ 65 j x) = mn A μ := by
  subst hj
  obtain ⟨⟨f1, f2, f3⟩, a5, ea, b1, b2, tp, t0, t1, t2⟩ := p
  have e66 : (wI μ 65 9 x).2.1 66 = μ.2.1 66 := wI_o _ _ _ _ (by decide)
  have n : ∀ j : Nat, j ≠ 9 → (wI μ 65 9 x).2.1 65 j = μ.2.1 65 j := fun j hj => wI_n _ _ _ _ hj
  have em : mn A (wI μ 65 9 x) = mn A μ := by unfold mn; rw [e66]
  have es : sp (wI μ 65 9 x) = sp μ := by unfold sp; rw [n 6 (by decide)]
  have ee : en (wI μ 65 9 x) = en μ := by unfold en; rw [n 7 (by decide)]
  have ew : wr (wI μ 65 9 x) = wr μ := by unfold wr; rw [n 8 (by decide)]
  refine ⟨⟨⟨f1, by rw [es, ee]; exact f2, by rw [ew]; exact f3⟩, a5, by rw [n 5 (by decide)]; exact ea, by rw [em, es]; exact b1, by rw [es]; exact b2, tp, t0, by rw [em, e66]; exact t1, by rw [em]; exact t2⟩, ⟨⟨rfl, rfl, fun r r1 _ => wI_o _ _ _ _ r1, fun k _ _ _ _ => by rw [e66], fun j _ _ j9 => n j j9⟩, by omega, by omega, fun q => by rw [← ew]; exact q⟩, es, ew, by unfold op; rw [wI_e], em⟩
theorem PM.e {A t t' : Nat} {μ : gm_M} {x : Int32} (p : PM A μ t) (w : wst x t t') (h1 : mn A μ + 1 ≤ sp μ) (h3 : 3 * (t' : Int) ≤ sp μ) : PM A (wI (wI μ 66 (225 + 140 * A + (mn A μ).toNat) x) 66 (220 + A) (μ.2.1 66 (220 + A) + 1)) t' ∧ mn A (wI (wI μ 66 (225 + 140 * A + (mn A μ).toNat) x) 66 (220 + A) (μ.2.1 66 (220 + A) + 1)) = mn A μ + 1 ∧ pf A μ (wI (wI μ 66 (225 + 140 * A + (mn A μ).toNat) x) 66 (220 + A) (μ.2.1 66 (220 + A) + 1)) ∧ (wI (wI μ 66 (225 + 140 * A + (mn A μ).toNat) x) 66 (220 + A) (μ.2.1 66 (220 + A) + 1)).2.1 65 = μ.2.1 65 := by
  obtain ⟨⟨f1, f2, f3⟩, a5, ea, b1, b2, tp, t0, t1, t2⟩ := p
  have l1 : (1 : Int32).toInt = 1 := rfl
  have dm : (μ.2.1 66 (220 + A)).toInt = mn A μ := rfl
  have n1 : (μ.2.1 66 (220 + A) + 1).toInt = (μ.2.1 66 (220 + A)).toInt + (1 : Int32).toInt := gx_add (by omega) (by omega)
  generalize hM : wI (wI μ 66 (225 + 140 * A + (mn A μ).toNat) x) 66 (220 + A) (μ.2.1 66 (220 + A) + 1) = M
  have e65 : M.2.1 65 = μ.2.1 65 := by rw [← hM, wI_o _ _ _ _ (by decide), wI_o _ _ _ _ (by decide)]
  have e6 : ∀ k : Nat, k ≠ 220 + A → k ≠ 225 + 140 * A + (mn A μ).toNat → M.2.1 66 k = μ.2.1 66 k := fun k k1 k2 => by rw [← hM, wI_n _ _ _ _ k1, wI_n _ _ _ _ k2]
  have ex : M.2.1 66 (225 + 140 * A + (mn A μ).toNat) = x := by rw [← hM, wI_n _ _ _ _ (by omega), wI_e]
  have em : mn A M = mn A μ + 1 := by
    have : M.2.1 66 (220 + A) = μ.2.1 66 (220 + A) + 1 := by rw [← hM, wI_e]
    unfold mn; rw [this, n1]; rfl
  have es : sp M = sp μ := by unfold sp; rw [e65]
  have ee : en M = en μ := by unfold en; rw [e65]
  have ew : wr M = wr μ := by unfold wr; rw [e65]
  have M1 : M.1 = μ.1 := by rw [← hM]; rfl
  have M2 : M.2.2 = μ.2.2 := by rw [← hM]; rfl
  have Mo : ∀ r : Nat, r ≠ 66 → M.2.1 r = μ.2.1 r := fun r hr => by rw [← hM, wI_o _ _ _ _ hr, wI_o _ _ _ _ hr]
  clear hM
  refine ⟨⟨⟨f1.same M1 M2, by rw [es, ee]; exact f2, by rw [ew]; exact f3⟩, a5, by rw [e65]; exact ea, by omega, by omega, fun i => if i = (mn A μ).toNat + 1 then t' else tp i, ?_, fun i hi => ?_, ?_⟩, em, ⟨M1, M2, fun r _ r2 => Mo r r2, fun k k1 k2 k3 k4 => e6 k k3 (by omega), fun j _ _ _ => by rw [e65]⟩, e65⟩
  · show (if 0 = (mn A μ).toNat + 1 then t' else tp 0) = 0
    rw [if_neg (by omega)]; exact t0
  · rw [em] at hi
    show wst (M.2.1 66 (225 + 140 * A + i)) (if i = (mn A μ).toNat + 1 then t' else tp i) (if i + 1 = (mn A μ).toNat + 1 then t' else tp (i + 1))
    rw [if_neg (show ¬ i = (mn A μ).toNat + 1 by omega)]
    by_cases e : i = (mn A μ).toNat
    · subst e
      rw [if_pos rfl, ex, t2]; exact w
    · rw [if_neg (by omega), e6 _ (by omega) (by omega)]
      exact t1 i (by omega)
  · rw [em]
    show (if (mn A μ + 1).toNat = (mn A μ).toNat + 1 then t' else tp _) = t'
    rw [if_pos (by omega)]
theorem s_emits {A t : Nat} {μ : gm_M} (p : PM A μ t) {x : Int32} : gwV (f_X12_emits 65 x μ) (fun m => (wr μ = 1 ∧ m = μ) ∨ (wr μ = 0 ∧ m = wI (wI μ 66 (225 + 140 * A + (mn A μ).toNat) x) 66 (220 + A) (μ.2.1 66 (220 + A) + 1))) := by
  obtain ⟨⟨hg, hb, hw⟩, a5, ea, b1, b2, -⟩ := p
  refine gwV_of ?_
  unfold f_X12_emits
  have l0 : (0 : Int32).toInt = 0 := rfl
  have l140 : (140 : Int32).toInt = 140 := rfl
  have l220 : (220 : Int32).toInt = 220 := rfl
  have l225 : (225 : Int32).toInt = 225 := rfl
  have d8 : (μ.2.1 65 8).toInt = wr μ := rfl
  have dm : (μ.2.1 66 (220 + A)).toInt = mn A μ := rfl
  refine gw_gIw (hg.c (r := 65) rfl) ?_
  refine gw_ne (fun g => gw_some (gq_V (Or.inl ⟨by omega, rfl⟩))) (fun g => ?_)
  have n1 : ((220 : Int32) + μ.2.1 65 5).toInt = (220 : Int32).toInt + (μ.2.1 65 5).toInt := gx_add (by omega) (by omega)
  have n2 : ((140 : Int32) * μ.2.1 65 5).toInt = 140 * (μ.2.1 65 5).toInt := gx_mul 140 rfl (by omega) (by omega)
  have n3 : ((225 : Int32) + (140 : Int32) * μ.2.1 65 5).toInt = (225 : Int32).toInt + ((140 : Int32) * μ.2.1 65 5).toInt := gx_add (by omega) (by omega)
  have n4 : ((225 : Int32) + (140 : Int32) * μ.2.1 65 5 + μ.2.1 66 (220 + A)).toInt = ((225 : Int32) + (140 : Int32) * μ.2.1 65 5).toInt + (μ.2.1 66 (220 + A)).toInt := gx_add (by omega) (by omega)
  refine gw_gRa 66 (hg.c (r := 65) rfl) (hg.r (by decide)) ?_
  refine gw_gIw (hg.c (r := 65) rfl) ?_
  refine gw_gRa 66 (hg.c (r := 65) rfl) (hg.r (by decide)) ?_
  refine gw_gIw (hg.c (r := 65) rfl) ?_
  refine gw_aIw (220 + A) (hg.t (r := 66) rfl) (hg.l (r := 66) rfl) (by omega) (by omega) ?_
  refine gw_sIw (225 + 140 * A + (mn A μ).toNat) (hg.t (r := 66) rfl) (hg.l (r := 66) rfl) (by omega) (by omega) ?_
  refine gw_gRa 66 (hg.c (r := 65) rfl) (hg.r (by decide)) ?_
  refine gw_gIw (hg.c (r := 65) rfl) ?_
  rw [wI_o _ _ _ _ (by decide)]
  refine gw_aIw (220 + A) (hg.t (r := 66) rfl) (hg.l (r := 66) rfl) (by omega) (by omega) ?_
  rw [wI_n _ _ _ _ (by omega)]
  refine gw_sIw (220 + A) (hg.t (r := 66) rfl) (hg.l (r := 66) rfl) (by omega) (by omega) ?_
  exact gw_some (gq_V (Or.inr ⟨by omega, rfl⟩))
/-- a step comes behind what was read -/
theorem s_emit {A t t' : Nat} {ν μ : gm_M} (p : PM A μ t) (k : po A ν μ) {x : Int32} (w : wr μ = 0 → wst x t t' ∧ sp ν - mn A ν + 1 ≤ sp μ - mn A μ ∧ 3 * (t' : Int) ≤ sp μ) (h0 : sp ν - mn A ν ≥ 0) : gwV (f_X12_emits 65 x μ) (fun m => po A ν m ∧ op m = op μ ∧ sp m = sp μ ∧ wr m = wr μ ∧ ∃ u : Nat, PM A m u ∧ (wr m = 0 → u = t')) := by
  refine gwV_mono (s_emits p) (fun m hm => ?_)
  rcases hm with ⟨h1, rfl⟩ | ⟨h1, rfl⟩
  · exact ⟨k, rfl, rfl, rfl, t, p, fun q => by omega⟩
  · obtain ⟨w1, w2, w3⟩ := w h1
    obtain ⟨e1, e2, e3, e4⟩ := p.e w1 (by omega) w3
    have es : ∀ m : gm_M, m.2.1 65 = μ.2.1 65 → sp m = sp μ ∧ op m = op μ ∧ wr m = wr μ := fun m q => ⟨by unfold sp; rw [q], by unfold op; rw [q], by unfold wr; rw [q]⟩
    obtain ⟨s1, s2, s3⟩ := es _ e4
    obtain ⟨k1, k2, k3, k4⟩ := k
    exact ⟨⟨k1.trans e3, by omega, by omega, fun q => k4 (by omega)⟩, s2, s1, s3, t', e1, fun _ => rfl⟩
theorem PM.t20 {A t : Nat} {m : gm_M} (p : PM A m t) : t ≤ 33 := by
  have := p.1.2.1
  have := p.2.2.2.2.1
  omega
theorem fq.st {μ b : gm_M} (h : fq μ b) {x : Int32} (h1 : sp b ≤ x.toInt) (h2 : x.toInt ≤ en μ) : fq μ (wI b 65 6 x) ∧ sp (wI b 65 6 x) = x.toInt ∧ wr (wI b 65 6 x) = wr b := by
  have e6 : sp (wI b 65 6 x) = x.toInt := by unfold sp; rw [wI_e]
  have e8 : wr (wI b 65 6 x) = wr b := by unfold wr; rw [wI_n _ _ _ _ (by decide)]
  obtain ⟨⟨h1, h2, h3, h4⟩, h5, h6, h7⟩ := h
  exact ⟨⟨⟨h1, h2, fun r hr => (wI_o _ _ _ _ hr).trans (h3 r hr), fun j j1 j2 => (wI_n _ _ _ _ j1).trans (h4 j j1 j2)⟩, by rw [e6]; omega, by rw [e8]; exact h6, by rw [e8]; exact h7⟩, e6, e8⟩
end
section
def Ff (d : Nat) (c : Int) (F : Nat → gm_M → Option (Option Value × gm_M)) : Prop := ∀ {μ : gm_M} {A t : Nat}, PM A μ t → 0 ≤ op μ ∧ op μ ≤ 6 → (wr μ = 0 → op μ ≤ 5) → 3 * (5 - op μ) + c ≤ d → gwV (F 65 μ) (fun m => FP A t μ m)
/-- one factor, then signs and factors -/
theorem s_chain {A t : Nat} {μ m1 : gm_M} {F : Nat → gm_M → Option (Option Value × gm_M)} {d : Nat} {c : Int} (hF : Ff d c F) (p : PM A μ t) (ho : 0 ≤ op μ ∧ op μ ≤ 6) (hw : wr μ = 0 → op μ ≤ 5) (hd : 3 * (5 - op μ) + c ≤ d) (h1 : FP A t μ m1) {sg cd : Int32} (hcd : cd.toInt = -2 ∨ cd.toInt = -3) (hsg : 0 ≤ sg.toInt) : gw (gm_loop (fun (s3 : gm_M) => gm_gI s3 [17] 65 8 (fun v4 => if v4 ≠ 0 then some (Sum.inr (none, s3)) else if gm_tag s3 65 = 17 then gm_bI (f_X12_here 65 s3) (fun x6 m5 => if x6 ≠ sg then some (Sum.inr (none, m5)) else gm_gI m5 [17] 65 6 (fun v7 => gm_pI m5 [17] 65 6 (v7 + (1 : Int32)) (fun m8 => if gm_tag m8 65 = 17 then gm_bV (F 65 m8) (fun m9 => if gm_tag m9 65 = 17 then gm_bV (f_X12_emits 65 cd m9) (fun m11 => some (Sum.inl m11)) else none) else none))) else none)) 5000 m1) (gqV (fun m => FP A t μ m)) := by
  have l0 : (0 : Int32).toInt = 0 := rfl
  have l1 : (1 : Int32).toInt = 1 := rfl
  have h0 : sp μ - mn A μ ≥ 0 := by have := p.2.2.2.1; omega
  refine gw_loop (fun s => FP A t μ s) (fun s => 200 - sp s) (fun s hs => ?_) 5000 m1 h1 (by have := h1.1.2.2.1; have := p.1.2.1; show 200 - sp m1 < ((5000 : Nat) : Int); omega) (by obtain ⟨-, -, t', q, -⟩ := h1; have := q.1.2.1; show 0 ≤ 200 - sp m1; omega)
  obtain ⟨k, ko, t', q, kw⟩ := hs
  have hg := q.g
  have hb := q.1.2.1
  have d8 : (s.2.1 65 8).toInt = wr s := rfl
  have d6 : (s.2.1 65 6).toInt = sp s := rfl
  refine gw_gIw (hg.c (r := 65) rfl) ?_
  refine gw_ne (fun _ => gw_some (gs_inr (gq_V ⟨k, ko, t', q, kw⟩))) (fun g => ?_)
  refine gw_if (hg.t (r := 65) rfl) ?_
  refine gw_bI (s_here q.1) (fun x m ⟨z, fx⟩ => ?_)
  replace z := z.symm
  subst z
  refine gw_ne (fun _ => gw_some (gs_inr (gq_V ⟨k, ko, t', q, kw⟩))) (fun g2 => ?_)
  obtain ⟨e1, e2⟩ := kw (by omega)
  subst e1
  refine gw_gIw (hg.c (r := 65) rfl) ?_
  refine gw_pIw (hg.c (r := 65) rfl) ?_
  have n6 : (s.2.1 65 6 + (1 : Int32)).toInt = (s.2.1 65 6).toInt + (1 : Int32).toInt := gx_add (by omega) (by omega)
  obtain ⟨r1, r2, r3⟩ := (fq.refl q.1).on q.1 (x := s.2.1 65 6 + (1 : Int32)) (by omega) (by omega)
  obtain ⟨q1, q2, q3, q4, q5⟩ := q.q r1
  refine gw_if (q1.g.t (r := 65) rfl) ?_
  refine gw_bV (hF q1 (by rw [q4, ko]; exact ho) (fun z => by rw [q4, ko]; exact hw (k.2.2.2 (by omega))) (by rw [q4, ko]; exact hd)) (fun m9 ⟨f1, f2, u, f3, f4⟩ => ?_)
  refine gw_if (f3.g.t (r := 65) rfl) ?_
  have ft := f3.t20
  have fb := f3.1.2.1
  have k9 := k.trans (q5.trans f1)
  have w1 := f1.2.1
  have w2 := k.2.1
  have w3 := f1.2.2.1
  have w4 := k.2.2.1
  have f35 := f3.2.2.2.2.1
  refine gw_bV (s_emit (t' := t + 1) f3 k9 (x := cd) (fun z => ?_) h0) (fun m11 ⟨e1, e3, e4, e5, v, e6, e7⟩ => ?_)
  · obtain ⟨y1, y2⟩ := f4 z
    subst y1
    exact ⟨⟨by omega, Or.inr (Or.inr (Or.inl ⟨by omega, by omega, by omega, by omega⟩))⟩, by omega, by omega⟩
  · have vb := e6.1.2.1
    refine gw_some (gs_inl ⟨e1, by omega, v, e6, fun z => ⟨e7 z, ?_⟩⟩ (by show 200 - sp m11 < 200 - sp s; omega) (by show 0 ≤ 200 - sp m11; omega))
    omega
theorem s_every {R0 R1 R2 : Nat → gm_M → Option (Option Value × gm_M)} {d : Nat} (h1 : Ff d 4 R1) : Ff (d + 1) 5 (b_X12_every R0 R1 R2) := by
  intro μ A t p ho hw hd
  refine gwV_of ?_
  unfold b_X12_every
  refine gw_if (p.g.t (r := 65) rfl) ?_
  refine gw_bV (h1 p ho hw (by omega)) (fun m1 hm => ?_)
  exact s_chain h1 p ho hw (by omega) hm (Or.inl rfl) (by decide)
theorem s_some {R0 R1 R2 : Nat → gm_M → Option (Option Value × gm_M)} {d : Nat} (h0 : Ff d 5 R0) : Ff (d + 1) 6 (b_X12_some R0 R1 R2) := by
  intro μ A t p ho hw hd
  refine gwV_of ?_
  unfold b_X12_some
  refine gw_if (p.g.t (r := 65) rfl) ?_
  refine gw_bV (h0 p ho hw (by omega)) (fun m1 hm => ?_)
  exact s_chain h0 p ho hw (by omega) hm (Or.inr rfl) (by decide)
set_option maxHeartbeats 2000000 in
theorem s_factor {R0 R1 R2 : Nat → gm_M → Option (Option Value × gm_M)} {d : Nat} (h1 : Ff d 4 R1) (h2 : Ff d 6 R2) : Ff (d + 1) 4 (b_X12_factor R0 R1 R2) := by
  intro μ A t p ho hw hd
  have l0 : (0 : Int32).toInt = 0 := rfl
  have l1 : (1 : Int32).toInt = 1 := rfl
  have lm : (-1 : Int32).toInt = -1 := rfl
  have l5 : (5 : Int32).toInt = 5 := rfl
  have l8 : (8 : Int32).toInt = 8 := rfl
  have l32 : (32 : Int32).toInt = 32 := rfl
  have l33 : (33 : Int32).toInt = 33 := rfl
  have l40 : (40 : Int32).toInt = 40 := rfl
  have hg := p.g
  have hb := p.1.2.1
  have h0 : sp μ - mn A μ ≥ 0 := by have := p.2.2.2.1; omega
  have hmn := p.2.2.2.1
  have ht3 := p.2.2.2.2.1
  have d8 : (μ.2.1 65 8).toInt = wr μ := rfl
  refine gwV_of ?_
  unfold b_X12_factor
  refine gw_gIw (hg.c (r := 65) rfl) ?_
  refine gw_eq (fun g => ?_) (fun g => gw_some (gq_V ⟨po.refl A μ, rfl, t, p, fun z => by omega⟩))
  have hw0 : wr μ = 0 := by omega
  have ho5 := hw hw0
  refine gw_if (hg.t (r := 65) rfl) ?_
  refine gw_bI (s_here p.1) (fun x3 m ⟨z, fx⟩ => ?_)
  replace z := z.symm
  subst z
  refine gw_j (fun _ => sp μ < en μ) (fun _ hlt => ?_) (fun j hj => ?_)
  · -- ! or (
    have d9 : (μ.2.1 65 9).toInt = op μ := rfl
    refine gw_gIw (hg.c (r := 65) rfl) ?_
    refine gw_j (fun s => (s.toInt = 0 ∧ op μ ≤ 4) ∨ s.toInt = 1) (fun s hs => ?_) (fun j2 hj2 => ?_)
    · obtain ⟨a1, a2, a3⟩ := (fq.refl p.1).ww (x := s) (by omega) (fun _ => hw0)
      obtain ⟨b1, b2, b3, b4, b5⟩ := p.q a1
      refine gw_pZw (hg.c (r := 65) rfl) (by omega) ?_
      generalize wI μ 65 8 s = M at *
      have e9 : (M.2.1 65 9).toInt = op M := rfl
      refine gw_gIw (b1.g.c (r := 65) rfl) ?_
      have n9 : (M.2.1 65 9 + (1 : Int32)).toInt = (M.2.1 65 9).toInt + (1 : Int32).toInt := gx_add (by omega) (by omega)
      refine gw_pIw (b1.g.c (r := 65) rfl) ?_
      obtain ⟨c1, c2, c3, c4, c5, c6⟩ := b1.w rfl (M.2.1 65 9 + (1 : Int32))
      have en1 : en (wI M 65 9 (M.2.1 65 9 + (1 : Int32))) = en M := by unfold en; rw [wI_n _ _ _ _ (by decide)]
      generalize wI M 65 9 (M.2.1 65 9 + (1 : Int32)) = N at *
      have enM := fq_en a1
      have f6 : (N.2.1 65 6).toInt = sp N := rfl
      have f8 : (N.2.1 65 8).toInt = wr N := rfl
      refine gw_gIw (c1.g.c (r := 65) rfl) ?_
      refine gw_gIw (c1.g.c (r := 65) rfl) ?_
      refine gw_j (fun q => (q.toInt = 1 ∧ wr N = 0) ∨ (q.toInt = 0 ∧ wr N = 1)) (fun q hq => ?_) (fun j3 hj3 => ?_)
      · have n6 : (N.2.1 65 6 + q).toInt = (N.2.1 65 6).toInt + q.toInt := gx_add (by omega) (by omega)
        refine gw_pIw (c1.g.c (r := 65) rfl) ?_
        obtain ⟨r1, r2, r3⟩ := (fq.refl c1.1).st (x := N.2.1 65 6 + q) (by omega) (by omega)
        obtain ⟨z1, y2, y3, y4, y5⟩ := c1.q r1
        have z2 := (b5.trans c2).trans y5
        generalize wI N 65 6 (N.2.1 65 6 + q) = Z at *
        have z3 : op Z = op μ + 1 := by omega
        have z6 : mn A Z = mn A μ := by omega
        clear y2 y5
        refine gw_j (fun m => po A μ m ∧ op m = op μ + 1 ∧ ∃ u : Nat, PM A m u ∧ (wr m = 0 → u = t + 1 ∧ sp μ + 3 ≤ sp m)) (fun m ⟨k1, k2, u, k3, k4⟩ => ?_) (fun j4 hj4 => ?_)
        · have e9 : (m.2.1 65 9).toInt = op m := rfl
          have nn : (m.2.1 65 9 - (1 : Int32)).toInt = (m.2.1 65 9).toInt - (1 : Int32).toInt := gx_sub (by omega) (by omega)
          refine gw_gIw (k3.g.c (r := 65) rfl) ?_
          refine gw_pIw (k3.g.c (r := 65) rfl) ?_
          obtain ⟨v1, v2, v3, v4, v5, v6⟩ := k3.w rfl (m.2.1 65 9 - (1 : Int32))
          exact gw_some (gq_V ⟨k1.trans v2, by omega, u, v1, fun y => by rw [v3]; exact k4 (by omega)⟩)
        · have oZ : wr Z = 0 → op Z ≤ 5 := fun y => by omega
          refine gw_ne (fun g3 => ?_) (fun g3 => ?_)
          · refine gw_if (z1.g.t (r := 65) rfl) ?_
            refine gw_bV (h2 z1 (by omega) oZ (by omega)) (fun m21 ⟨s1, s2, u, s3, s4⟩ => ?_)
            refine gw_if (s3.g.t (r := 65) rfl) ?_
            refine gw_bV (s_must s3.1 (by decide)) (fun m23 ⟨w1, _⟩ => ?_)
            obtain ⟨x1, x2, x3, x4, x5⟩ := s3.q w1
            refine hj4 _ ⟨(z2.trans s1).trans x5, by omega, u, x1, fun y => ?_⟩
            have b := s4 (w1.2.2.2 y)
            have c := w1.2.1.1
            exact ⟨b.1, by omega⟩
          · refine gw_if (z1.g.t (r := 65) rfl) ?_
            refine gw_bV (h1 z1 (by omega) oZ (by omega)) (fun m25 ⟨s1, s2, u, s3, s4⟩ => ?_)
            refine gw_if (s3.g.t (r := 65) rfl) ?_
            have k := z2.trans s1
            have s1a := s1.2.1
            have s1c := s1.2.2.2
            have s35 := s3.2.2.2.2.1
            have st := s3.t20
            refine gw_bV (s_emit (t' := t + 1) s3 k (x := (-1 : Int32)) (fun y => ?_) h0) (fun m27 ⟨w1, w2, w3, w4, v, w5, w6⟩ => ?_)
            · obtain ⟨y1, y2⟩ := s4 y
              subst y1
              have := s1c y
              exact ⟨⟨by omega, Or.inr (Or.inl ⟨lm, by omega, rfl⟩)⟩, by omega, by omega⟩
            · refine hj4 _ ⟨w1, by omega, v, w5, fun y => ⟨w6 y, ?_⟩⟩
              have b := s4 (by omega)
              omega
      · exact gw_eq (fun g => hj3 _ (Or.inl ⟨l1, by omega⟩)) (fun g => hj3 _ (Or.inr ⟨l0, by have := c1.1.2.2; omega⟩))
    · exact gw_ne (fun g => hj2 _ (Or.inl ⟨l0, by omega⟩)) (fun g => hj2 _ (Or.inr l1))
  · refine gw_eq (fun g3 => hj _ (by omega)) (fun g3 => ?_)
    refine gw_ne (fun g4 => ?_) (fun g4 => hj _ (by omega))
    refine gw_if (hg.t (r := 65) rfl) ?_
    refine gw_bI (s_among p.1 (u := 5) (by decide)) (fun x30 m29 ⟨a1, a2, a3⟩ => ?_)
    have b6 : gm_bn ((5 : UInt32) + 6) = 6 := by decide
    have b3' : gm_bn ((6 : UInt32) + 6) = 3 := by decide
    rw [b6] at a3
    obtain ⟨c1, -, -, c4, c5⟩ := p.q a1
    refine gw_j (fun s => (s.toInt = 0 ∧ x30.toInt ≠ -1) ∨ s.toInt = 1) (fun s hs => ?_) (fun j2 hj2 => ?_)
    · obtain ⟨d1, d2, d3⟩ := (fq.refl c1.1).ww (x := s) (by omega) (fun _ => by omega)
      obtain ⟨e1, -, -, e4, e5⟩ := c1.q d1
      have k1 := c5.trans e5
      refine gw_pZw (c1.g.c (r := 65) rfl) (by omega) ?_
      generalize wI m29 65 8 s = M at *
      have f8 : (M.2.1 65 8).toInt = wr M := rfl
      refine gw_gIw (e1.g.c (r := 65) rfl) ?_
      refine gw_j (fun q => fq M q.2 ∧ (wr q.2 = 0 → (q.1.toInt = -1 ∨ ((0 ≤ q.1.toInt ∧ q.1.toInt < 3) ∧ sp M + 1 ≤ sp q.2)))) (fun q ⟨q1, q2⟩ => ?_) (fun j3 hj3 => ?_)
      · obtain ⟨r1, -, -, r4, r5⟩ := e1.q q1
        have k2 := k1.trans r5
        have g8 : (q.2.2.1 65 8).toInt = wr q.2 := rfl
        refine gw_gIw (r1.g.c (r := 65) rfl) ?_
        refine gw_j (fun y => (y.toInt = 0 ∧ wr q.2 = 0 ∧ q.1.toInt ≠ -1) ∨ y.toInt = 1) (fun y hy => ?_) (fun j4 hj4 => ?_)
        · obtain ⟨u1, u2, u3⟩ := (fq.refl r1.1).ww (x := y) (by omega) (fun _ => by omega)
          obtain ⟨v1, -, -, v4, v5⟩ := r1.q u1
          have k3 := k2.trans v5
          refine gw_pZw (r1.g.c (r := 65) rfl) (by omega) ?_
          generalize wI q.2 65 8 y = N at *
          refine gw_if (v1.g.t (r := 65) rfl) ?_
          refine gw_bI (s_figures v1.1) (fun x42 m41 ⟨o1, o2⟩ => ?_)
          obtain ⟨w1, -, w3, w4, w5⟩ := v1.q o1
          have k4 := k3.trans w5
          refine gw_if (w1.g.t (r := 65) rfl) ?_
          have wz := o1.2.2.2
          have mz := k3.2.1
          have wb := w1.1.2.1
          have qm1 := q1.2.1.1
          refine gw_bV (s_emit (t' := t + 1) w1 k4 (x := (x30 + (8 : Int32) * q.1) + (32 : Int32) * x42) (fun z => ?_) h0) (fun m43 ⟨y1, y2, y3, y4, v, y5, y6⟩ => ?_)
          · obtain ⟨t1, t2⟩ := o2 z
            have zz := wz z
            have hq2 := q2 (by omega)
            have hM := q1.2.2.2 (by omega)
            have n1 : ((8 : Int32) * q.1).toInt = 8 * q.1.toInt := gx_mul 8 rfl (by omega) (by omega)
            have n2 : ((32 : Int32) * x42).toInt = 32 * x42.toInt := gx_mul 32 rfl (by omega) (by omega)
            have n3 : (x30 + (8 : Int32) * q.1).toInt = x30.toInt + ((8 : Int32) * q.1).toInt := gx_add (by omega) (by omega)
            have n4 : ((x30 + (8 : Int32) * q.1) + (32 : Int32) * x42).toInt = (x30 + (8 : Int32) * q.1).toInt + ((32 : Int32) * x42).toInt := gx_add (by omega) (by omega)
            have wt := w1.t20
            have k4a := k4.2.1
            have k1a := k1.2.1
            have k2a := k2.2.1
            exact ⟨⟨by omega, Or.inl ⟨by omega, by omega, by omega, rfl⟩⟩, by omega, by omega⟩
          · refine gw_some (gq_V ⟨y1, by omega, v, y5, fun z => ⟨y6 z, ?_⟩⟩)
            have hz := o2 (by omega)
            have zz := wz (by omega)
            have hq2 := q2 (by omega)
            have hM := q1.2.2.2 (by omega)
            omega
        · refine gw_j (fun _ => True) (fun _ _ => hj4 _ (Or.inr l1)) (fun j5 hj5 => ?_)
          refine gw_ne (fun g => hj5 _ trivial) (fun g => ?_)
          exact gw_ne (fun g2 => hj4 _ (Or.inl ⟨l0, by omega, by omega⟩)) (fun g2 => hj5 _ trivial)
      · refine gw_eq (fun g => ?_) (fun g => hj3 _ ⟨fq.refl e1.1, fun (z : wr M = 0) => by exfalso; omega⟩)
        refine gw_if (e1.g.t (r := 65) rfl) ?_
        refine gw_bI (s_among e1.1 (u := 6) (by decide)) (fun x48 m47 ⟨o1, o2, o3⟩ => ?_)
        rw [b3'] at o3
        exact hj3 _ ⟨o1, fun _ => by show x48.toInt = -1 ∨ ((0 ≤ x48.toInt ∧ x48.toInt < 3) ∧ sp M + 1 ≤ sp m47); omega⟩
    · exact gw_ne (fun g => hj2 _ (Or.inl ⟨l0, by omega⟩)) (fun g => hj2 _ (Or.inr l1))
end
section
theorem sr_parse : ∀ d : Nat, Ff d 5 (r_X12_every d).1 ∧ Ff d 4 (r_X12_every d).2.1 ∧ Ff d 6 (r_X12_every d).2.2
  | 0 => ⟨fun _ ho _ hd => by omega, fun _ ho _ hd => by omega, fun _ ho _ hd => by omega⟩
  | d + 1 => ⟨s_every (R0 := (r_X12_every d).1) (R2 := (r_X12_every d).2.2) (sr_parse d).2.1, s_factor (R0 := (r_X12_every d).1) (sr_parse d).2.1 (sr_parse d).2.2, s_some (R1 := (r_X12_every d).2.1) (R2 := (r_X12_every d).2.2) (sr_parse d).1⟩
def CP (A : Nat) (μ m : gm_M) : Prop := po A μ m ∧ op m = op μ ∧ ∃ t' : Nat, PM A m t' ∧ (wr m = 0 → t' = 0)
theorem s_much {A : Nat} {μ : gm_M} (p : PM A μ 0) (ho : op μ = 0) {kd : Int32} (hk : kd.toInt = -10 ∨ kd.toInt = -200) {u : UInt32} (hu : gm_isS u) : gwV (f_X12_much 65 kd u μ) (fun m => CP A μ m) := by
  have h0 : sp μ - mn A μ ≥ 0 := by have := p.2.2.2.1; omega
  refine gwV_of ?_
  unfold f_X12_much
  refine gw_if (p.g.t (r := 65) rfl) ?_
  refine gw_bV (s_spells p.1 hu) (fun m1 a1 => ?_)
  obtain ⟨p1, -, -, o1, k1⟩ := p.q a1
  refine gw_if (p1.g.t (r := 65) rfl) ?_
  refine gw_bI (s_figures p1.1) (fun n m3 ⟨a2, f2⟩ => ?_)
  obtain ⟨p2, -, n2, o2, k2⟩ := p1.q a2
  refine gw_if (p2.g.t (r := 65) rfl) ?_
  refine gw_bV (s_must p2.1 (by decide)) (fun m5 ⟨a3, _⟩ => ?_)
  obtain ⟨p3, -, -, o3, k3⟩ := p2.q a3
  refine gw_if (p3.g.t (r := 65) rfl) ?_
  refine gw_bV ((sr_parse 64).2.2 p3 (by omega) (fun _ => by omega) (by omega)) (fun m7 ⟨a4, o4, t4, p4, f4⟩ => ?_)
  refine gw_if (p4.g.t (r := 65) rfl) ?_
  have w3 := a3.2.2.2
  have w4 := a4.2.2.2
  have k := ((k1.trans k2).trans k3).trans a4
  have e1 := k1.2.1
  have e3 := k3.2.1
  have e4 := a4.2.1
  have pt := p4.2.2.2.2.1
  refine gw_bV (s_emit (t' := 0) p4 k (x := kd - n) (fun z => ?_) h0) (fun m9 ⟨b1, b2, b3, b4, v, b5, b6⟩ => ?_)
  · obtain ⟨q1, q2⟩ := f4 z
    obtain ⟨r1, r2⟩ := f2 (w3 (w4 z))
    have nn : (kd - n).toInt = kd.toInt - n.toInt := gx_sub (by omega) (by omega)
    exact ⟨⟨by have := p4.t20; omega, Or.inr (Or.inr (Or.inr ⟨by omega, rfl⟩))⟩, by omega, by have := p4.1.2.1; omega⟩
  · exact gw_some (gq_V ⟨b1, by omega, v, b5, b6⟩)
theorem s_tells {A t : Nat} {μ : gm_M} (p : PM A μ t) {wh : Int32} (hk : wh.toInt = 210 ∨ wh.toInt = 215) {u : UInt32} (hu : gm_isS u) : gwV (f_X12_tellsHere 65 wh u μ) (fun m => po A μ m ∧ op m = op μ ∧ PM A m t) := by
  refine gwV_of ?_
  unfold f_X12_tellsHere
  have l0 : (0 : Int32).toInt = 0 := rfl
  refine gw_if (p.g.t (r := 65) rfl) ?_
  refine gw_bV (s_spells p.1 hu) (fun m1 a1 => ?_)
  obtain ⟨p1, -, -, o1, k1⟩ := p.q a1
  refine gw_if (p1.g.t (r := 65) rfl) ?_
  refine gw_bI (s_figures p1.1) (fun n m3 ⟨a2, f2⟩ => ?_)
  obtain ⟨p2, -, n2, o2, k2⟩ := p1.q a2
  have k := k1.trans k2
  refine gw_gIw (p2.g.c (r := 65) rfl) ?_
  refine gw_ne (fun _ => gw_some (gq_V ⟨k, by omega, p2⟩)) (fun g => ?_)
  have a5 := p2.2.1
  have ea := p2.2.2.1
  have nn : (wh + m3.2.1 65 5).toInt = wh.toInt + (m3.2.1 65 5).toInt := gx_add (by omega) (by omega)
  obtain ⟨j, hj, hj2⟩ : ∃ j : Nat, (wh + m3.2.1 65 5).toInt = j ∧ (j = 210 + A ∨ j = 215 + A) := by
    rcases hk with q | q
    · exact ⟨210 + A, by omega, Or.inl rfl⟩
    · exact ⟨215 + A, by omega, Or.inr rfl⟩
  refine gw_gRa 66 (p2.g.c (r := 65) rfl) (p2.g.r (by decide)) ?_
  refine gw_gIw (p2.g.c (r := 65) rfl) ?_
  refine gw_sIw j (p2.g.t (r := 66) rfl) (p2.g.l (r := 66) rfl) hj (by omega) ?_
  have e65 : (wI m3 66 j n).2.1 65 = m3.2.1 65 := wI_o _ _ _ _ (by decide)
  have e6 : ∀ i : Nat, i ≠ j → (wI m3 66 j n).2.1 66 i = m3.2.1 66 i := fun i hi => wI_n _ _ _ _ hi
  have es : sp (wI m3 66 j n) = sp m3 ∧ en (wI m3 66 j n) = en m3 ∧ wr (wI m3 66 j n) = wr m3 ∧ op (wI m3 66 j n) = op m3 := by unfold sp en wr op; rw [e65]; exact ⟨rfl, rfl, rfl, rfl⟩
  have em : mn A (wI m3 66 j n) = mn A m3 := by unfold mn; rw [e6 _ (by omega)]
  obtain ⟨s1, s2, s3, s4⟩ := es
  have kk : po A m3 (wI m3 66 j n) := ⟨⟨rfl, rfl, fun r _ r2 => wI_o _ _ _ _ r2, fun i i1 i2 i3 i4 => e6 i (by omega), fun i _ _ _ => by rw [e65]⟩, by omega, by omega, fun z => by omega⟩
  obtain ⟨⟨h1, h2, h3⟩, h4, h5, h6, h7, tp, h8, h9, h10⟩ := p2
  refine gw_some (gq_V ⟨k.trans kk, by omega, ⟨h1, by rw [s1, s2]; exact h2, by rw [s3]; exact h3⟩, h4, by rw [e65]; exact h5, by rw [em, s1]; exact h6, by rw [s1]; exact h7, tp, h8, fun i hi => ?_, by rw [em]; exact h10⟩)
  rw [em] at hi
  rw [e6 _ (by omega)]
  exact h9 i hi
theorem s_wordOfS {A : Nat} {μ : gm_M} (p : PM A μ 0) (ho : op μ = 0) : gwV (f_X12_wordOfS 65 μ) (fun m => CP A μ m) := by
  refine gwV_of ?_
  unfold f_X12_wordOfS
  refine gw_if (p.g.t (r := 65) rfl) ?_
  refine gw_bV (s_must p.1 (by decide)) (fun m1 ⟨a1, _⟩ => ?_)
  obtain ⟨p1, -, -, o1, k1⟩ := p.q a1
  refine gw_if (p1.g.t (r := 65) rfl) ?_
  refine gw_bI (s_here p1.1) (fun x m ⟨z, _⟩ => ?_)
  replace z := z.symm
  subst z
  refine gw_ne (fun _ => ?_) (fun _ => ?_)
  · refine gw_if (p1.g.t (r := 65) rfl) ?_
    refine gw_bV (s_must p1.1 (by decide)) (fun m5 ⟨a2, _⟩ => ?_)
    obtain ⟨p2, -, -, o2, k2⟩ := p1.q a2
    refine gw_if (p2.g.t (r := 65) rfl) ?_
    refine gw_bI (s_here p2.1) (fun x m ⟨z, _⟩ => ?_)
    replace z := z.symm
    subst z
    refine gw_ne (fun _ => ?_) (fun _ => ?_)
    · refine gw_if (p2.g.t (r := 65) rfl) ?_
      refine gw_bV (s_much p2 (by omega) (Or.inr (by decide)) (by decide)) (fun m9 ⟨b1, b2, b3⟩ => ?_)
      exact gw_some (gq_V ⟨(k1.trans k2).trans b1, by omega, b3⟩)
    · refine gw_if (p2.g.t (r := 65) rfl) ?_
      refine gw_bV (s_much p2 (by omega) (Or.inl (by decide)) (by decide)) (fun m9 ⟨b1, b2, b3⟩ => ?_)
      exact gw_some (gq_V ⟨(k1.trans k2).trans b1, by omega, b3⟩)
  · refine gw_if (p1.g.t (r := 65) rfl) ?_
    refine gw_bV (s_tells p1 (Or.inr (by decide)) (by decide)) (fun m9 ⟨b1, b2, b3⟩ => ?_)
    exact gw_some (gq_V ⟨k1.trans b1, by omega, 0, b3, fun _ => rfl⟩)
theorem s_clause {A : Nat} {μ : gm_M} (p : PM A μ 0) (ho : op μ = 0) : gwV (f_X12_clauseHere 65 μ) (fun m => CP A μ m) := by
  refine gwV_of ?_
  unfold f_X12_clauseHere
  have l1 : (1 : Int32).toInt = 1 := rfl
  refine gw_if (p.g.t (r := 65) rfl) ?_
  refine gw_bI (s_here p.1) (fun x m ⟨z, _⟩ => ?_)
  replace z := z.symm
  subst z
  refine gw_eq (fun _ => ?_) (fun _ => ?_)
  · refine gw_if (p.g.t (r := 65) rfl) ?_
    refine gw_bV (s_wordOfS p ho) (fun m3 h => gw_some (gq_V h))
  · refine gw_eq (fun _ => ?_) (fun _ => ?_)
    · refine gw_if (p.g.t (r := 65) rfl) ?_
      refine gw_bV (s_tells p (Or.inl (by decide)) (by decide)) (fun m9 ⟨b1, b2, b3⟩ => ?_)
      exact gw_some (gq_V ⟨b1, b2, 0, b3, fun _ => rfl⟩)
    · refine gw_pZw (p.g.c (r := 65) rfl) (by omega) ?_
      obtain ⟨a1, a2, a3⟩ := (fq.refl p.1).ww (x := 1) (Or.inr l1) (fun q => by omega)
      obtain ⟨p1, -, -, o1, k1⟩ := p.q a1
      exact gw_some (gq_V ⟨k1, o1, 0, p1, fun _ => rfl⟩)
theorem mI.af {σ τ : Nat → Int32} (h : mI σ) {A : Nat} (e : ∀ k : Nat, mp k → k ≠ 27 → k ≠ 31 → k ≠ 32 → k ≠ 220 + A → ¬ (225 + 140 * A ≤ k ∧ k < 365 + 140 * A) → τ k = σ k) (h27 : 0 ≤ (τ 27).toInt ∧ (τ 27).toInt ≤ 5) (h31 : 0 ≤ (τ 31).toInt ∧ (τ 31).toInt ≤ 100) (h32 : -1 ≤ (τ 32).toInt ∧ (τ 32).toInt ≤ 4) (hA : A < 5) (hw : wfp τ A) : mI τ := by
  obtain ⟨h26, -, h28, h29, h30, -, -, hs, hp, hb, hww⟩ := h
  unfold mp at e
  refine ⟨by rw [e 26 (by omega) (by omega) (by omega) (by omega) (by omega) (by omega)]; exact h26, h27, by rw [e 28 (by omega) (by omega) (by omega) (by omega) (by omega) (by omega)]; exact h28, by rw [e 29 (by omega) (by omega) (by omega) (by omega) (by omega) (by omega)]; exact h29, by rw [e 30 (by omega) (by omega) (by omega) (by omega) (by omega) (by omega)]; exact h30, h31, h32, fun k hk => ?_, fun k hk => ?_, fun k hk => ?_, fun a ha => ?_⟩
  · rw [e _ (by omega) (by omega) (by omega) (by omega) (by omega) (by omega)]; exact hs k hk
  · rw [e _ (by omega) (by omega) (by omega) (by omega) (by omega) (by omega), e _ (by omega) (by omega) (by omega) (by omega) (by omega) (by omega)]; exact hp k hk
  · rw [e _ (by omega) (by omega) (by omega) (by omega) (by omega) (by omega)]; exact hb k hk
  · by_cases q : a = A
    · rw [q]; exact hw
    · obtain ⟨w1, w2, tp, w3, w4⟩ := hww a ha
      unfold wfp
      rw [e (220 + a) (by omega) (by omega) (by omega) (by omega) (by omega) (by omega)]
      refine ⟨w1, w2, tp, w3, fun i hi => ?_⟩
      rw [e (225 + 140 * a + i) (by omega) (by omega) (by omega) (by omega) (by omega) (by omega)]
      exact w4 i hi
theorem PM.wf {A t : Nat} {m : gm_M} (p : PM A m t) : wfp (m.2.1 66) A := by
  obtain ⟨f, a5, ea, b1, b2, tp, t0, t1, t2⟩ := p
  have d : (m.2.1 66 (220 + A)).toInt = mn A m := rfl
  have fb := f.2.1
  exact ⟨by omega, by omega, tp, t0, fun i hi => t1 i (by omega)⟩
set_option maxHeartbeats 2000000 in
theorem m_afternoon {μ : gm_M} (h : ALL μ) : gwI (f_X12_afternoon 65 μ) (fun _ m => ALL m) := by
  have hM := h.1
  have hg := hM.1
  have n27 := hM.n27
  have n31 := hM.n31
  have n32 := hM.n32
  have l0 : (0 : Int32).toInt = 0 := rfl
  have l1 : (1 : Int32).toInt = 1 := rfl
  have l5 : (5 : Int32).toInt = 5 := rfl
  have l10 : (10 : Int32).toInt = 10 := rfl
  have l20 : (20 : Int32).toInt = 20 := rfl
  have l27 : (27 : Int32).toInt = 27 := rfl
  have l31 : (31 : Int32).toInt = 31 := rfl
  have l32 : (32 : Int32).toInt = 32 := rfl
  have l210 : (210 : Int32).toInt = 210 := rfl
  have l215 : (215 : Int32).toInt = 215 := rfl
  have l220 : (220 : Int32).toInt = 220 := rfl
  refine gwI_of ?_
  unfold f_X12_afternoon
  refine gw_gRa 66 (hg.c (r := 65) rfl) (hg.r (by decide)) ?_
  refine gw_aIw 27 (hg.t (r := 66) rfl) (hg.l (r := 66) rfl) (by omega) (by omega) ?_
  refine gw_ne (fun g => ?_) (fun _ => gw_some (gq_I h))
  refine gw_gRa 66 (hg.c (r := 65) rfl) (hg.r (by decide)) ?_
  refine gw_aIw 27 (hg.t (r := 66) rfl) (hg.l (r := 66) rfl) (by omega) (by omega) ?_
  obtain ⟨A, hA⟩ : ∃ A : Nat, (μ.2.1 66 27).toInt = A := ⟨(μ.2.1 66 27).toInt.toNat, by omega⟩
  have hA5 : A < 5 := by omega
  refine gw_pIw (hg.c (r := 65) rfl) ?_
  refine gw_gRa 66 (hg.c (r := 65) rfl) (hg.r (r := 65) (j := 1) (a := 66) (by decide)) ?_
  refine gw_aIw 31 (hg.t (r := 66) rfl) (hg.l (r := 66) rfl) (by omega) (by omega) ?_
  rw [wI_o _ _ _ _ (show (66 : Nat) ≠ 65 by decide)]
  refine gw_pIw (hg.c (r := 65) rfl) ?_
  refine gw_gRa 66 (hg.c (r := 65) rfl) (hg.r (r := 65) (j := 1) (a := 66) (by decide)) ?_
  refine gw_sIw 31 (hg.t (r := 66) rfl) (hg.l (r := 66) rfl) (by omega) (by omega) ?_
  generalize h1 : wI (wI (wI μ 65 5 (μ.2.1 66 27)) 65 7 (μ.2.1 66 31)) 66 31 0 = m1
  have g1 : gS m1 := by rw [← h1]; exact hg
  have a5 : m1.2.1 65 5 = μ.2.1 66 27 := by rw [← h1, wI_o _ _ _ _ (by decide), wI_n _ _ _ _ (by decide), wI_e]
  refine gw_gRa 66 (g1.c (r := 65) rfl) (g1.r (by decide)) ?_
  refine gw_gIw (g1.c (r := 65) rfl) ?_
  rw [a5]
  have n210 : ((210 : Int32) + μ.2.1 66 27).toInt = (210 : Int32).toInt + (μ.2.1 66 27).toInt := gx_add (by omega) (by omega)
  have n215 : ((215 : Int32) + μ.2.1 66 27).toInt = (215 : Int32).toInt + (μ.2.1 66 27).toInt := gx_add (by omega) (by omega)
  have n220 : ((220 : Int32) + μ.2.1 66 27).toInt = (220 : Int32).toInt + (μ.2.1 66 27).toInt := gx_add (by omega) (by omega)
  refine gw_sIw (210 + A) (g1.t (r := 66) rfl) (g1.l (r := 66) rfl) (by omega) (by omega) ?_
  refine gw_gRa 66 (g1.c (r := 65) rfl) (g1.r (r := 65) (j := 1) (a := 66) (by decide)) ?_
  refine gw_gIw (g1.c (r := 65) rfl) ?_
  rw [wI_o _ _ _ _ (show (65 : Nat) ≠ 66 by decide), a5]
  refine gw_sIw (215 + A) (g1.t (r := 66) rfl) (g1.l (r := 66) rfl) (by omega) (by omega) ?_
  refine gw_gRa 66 (g1.c (r := 65) rfl) (g1.r (r := 65) (j := 1) (a := 66) (by decide)) ?_
  refine gw_gIw (g1.c (r := 65) rfl) ?_
  rw [wI_o _ _ _ _ (show (65 : Nat) ≠ 66 by decide), wI_o _ _ _ _ (show (65 : Nat) ≠ 66 by decide), a5]
  refine gw_sIw (220 + A) (g1.t (r := 66) rfl) (g1.l (r := 66) rfl) (by omega) (by omega) ?_
  refine gw_pIw (g1.c (r := 65) rfl) ?_
  refine gw_pZw (g1.c (r := 65) rfl) (Or.inl l0) ?_
  refine gw_pIw (g1.c (r := 65) rfl) ?_
  generalize hB : wI (wI (wI (wI (wI (wI m1 66 (210 + A) 0) 66 (215 + A) 20) 66 (220 + A) 0) 65 6 0) 65 8 0) 65 9 0 = B
  have gB : gS B := by rw [← hB]; exact g1
  have B1 : B.1 = μ.1 := by rw [← hB, ← h1]; rfl
  have B2 : B.2.2 = μ.2.2 := by rw [← hB, ← h1]; rfl
  have Bo : ∀ r : Nat, r ≠ 65 → r ≠ 66 → B.2.1 r = μ.2.1 r := fun r r1 r2 => by
    rw [← hB, wI_o _ _ _ _ r1, wI_o _ _ _ _ r1, wI_o _ _ _ _ r1, wI_o _ _ _ _ r2, wI_o _ _ _ _ r2, wI_o _ _ _ _ r2, ← h1, wI_o _ _ _ _ r2, wI_o _ _ _ _ r1, wI_o _ _ _ _ r1]
  have B65 : ∀ j : Nat, j ≠ 9 → j ≠ 8 → j ≠ 6 → B.2.1 65 j = m1.2.1 65 j := fun j j9 j8 j6 => by
    rw [← hB, wI_n _ _ _ _ j9, wI_n _ _ _ _ j8, wI_n _ _ _ _ j6, wI_o _ _ _ _ (by decide), wI_o _ _ _ _ (by decide), wI_o _ _ _ _ (by decide)]
  have m65 : ∀ j : Nat, j ≠ 5 → j ≠ 7 → m1.2.1 65 j = μ.2.1 65 j := fun j j5 j7 => by rw [← h1, wI_o _ _ _ _ (by decide), wI_n _ _ _ _ j7, wI_n _ _ _ _ j5]
  have B9 : B.2.1 65 9 = 0 := by rw [← hB, wI_e]
  have B8 : B.2.1 65 8 = 0 := by rw [← hB, wI_n _ _ _ _ (by decide), wI_e]
  have B6 : B.2.1 65 6 = 0 := by rw [← hB, wI_n _ _ _ _ (by decide), wI_n _ _ _ _ (by decide), wI_e]
  have B7 : B.2.1 65 7 = μ.2.1 66 31 := by rw [B65 7 (by decide) (by decide) (by decide), ← h1, wI_o _ _ _ _ (by decide), wI_e]
  have B5 : B.2.1 65 5 = μ.2.1 66 27 := by rw [B65 5 (by decide) (by decide) (by decide)]; exact a5
  have C : ∀ k : Nat, k ≠ 31 → k ≠ 210 + A → k ≠ 215 + A → k ≠ 220 + A → B.2.1 66 k = μ.2.1 66 k := fun k k1 k2 k3 k4 => by
    rw [← hB, wI_o _ _ _ _ (by decide), wI_o _ _ _ _ (by decide), wI_o _ _ _ _ (by decide), wI_n _ _ _ _ k4, wI_n _ _ _ _ k3, wI_n _ _ _ _ k2, ← h1, wI_n _ _ _ _ k1, wI_o _ _ _ _ (by decide), wI_o _ _ _ _ (by decide)]
  have C31 : B.2.1 66 31 = 0 := by
    rw [← hB, wI_o _ _ _ _ (by decide), wI_o _ _ _ _ (by decide), wI_o _ _ _ _ (by decide), wI_n _ _ _ _ (by omega), wI_n _ _ _ _ (by omega), wI_n _ _ _ _ (by omega), ← h1, wI_e]
  have C220 : B.2.1 66 (220 + A) = 0 := by rw [← hB, wI_o _ _ _ _ (by decide), wI_o _ _ _ _ (by decide), wI_o _ _ _ _ (by decide), wI_e]
  clear hB h1
  have s0 : sp B = 0 := by unfold sp; rw [B6]; exact l0
  have w0 : wr B = 0 := by unfold wr; rw [B8]; exact l0
  have o0 : op B = 0 := by unfold op; rw [B9]; exact l0
  have e0 : en B = (μ.2.1 66 31).toInt := by unfold en; rw [B7]
  have q0 : mn A B = 0 := by unfold mn; rw [C220]; exact l0
  have pB : PM A B 0 := ⟨⟨gB, by omega, by omega⟩, hA5, by rw [B5]; exact hA, by omega, by omega, fun _ => 0, rfl, fun i hi => by exfalso; omega, rfl⟩
  -- what is left in the end
  have fin : ∀ (m M : gm_M) (t : Nat), PM A m t → pf A B m → M.1 = m.1 → M.2.2 = m.2.2 → (∀ r : Nat, r ≠ 66 → M.2.1 r = m.2.1 r) → (∀ k : Nat, k ≠ 27 → k ≠ 32 → M.2.1 66 k = m.2.1 66 k) → (0 ≤ (M.2.1 66 27).toInt ∧ (M.2.1 66 27).toInt ≤ 5) → (-1 ≤ (M.2.1 66 32).toInt ∧ (M.2.1 66 32).toInt ≤ 4) → ALL M := by
    intro m M t p k c1 c2 c3 c4 c5 c6
    obtain ⟨k1, k2, k3, k4, k5⟩ := k
    have row : ∀ r : Nat, r ≠ 65 → r ≠ 66 → M.2.1 r = μ.2.1 r := fun r r1 r2 => by rw [c3 r r2, k3 r r1 r2, Bo r r1 r2]
    have hc := h.2.2.1
    have pl : ∀ i : Nat, i ≠ 27 → i ≠ 31 → i ≠ 32 → i ≠ 210 + A → i ≠ 215 + A → i ≠ 220 + A → ¬ (225 + 140 * A ≤ i ∧ i < 365 + 140 * A) → M.2.1 66 i = μ.2.1 66 i := fun i i1 i2 i3 i4 i5 i6 i7 => by rw [c4 i i1 i3, k4 i i4 i5 i6 i7, C i i2 i4 i5 i6]
    have f65 : ∀ j : Nat, j ≠ 5 → j ≠ 6 → j ≠ 7 → j ≠ 8 → j ≠ 9 → M.2.1 65 j = μ.2.1 65 j := fun j j5 j6 j7 j8 j9 => by rw [c3 65 (by decide), k5 j j6 j8 j9, B65 j j9 j8 j6, m65 j j5 j7]
    have hw := p.wf
    have hw2 : wfp (M.2.1 66) A := by
      obtain ⟨w1, w2, tp, w3, w4⟩ := hw
      unfold wfp
      rw [c4 (220 + A) (by omega) (by omega)]
      refine ⟨w1, w2, tp, w3, fun i hi => ?_⟩
      rw [c4 (225 + 140 * A + i) (by omega) (by omega)]
      exact w4 i hi
    have e31 : M.2.1 66 31 = 0 := by rw [c4 31 (by decide) (by decide), k4 31 (by omega) (by omega) (by omega) (by omega), C31]
    refine h.upd (c1.trans (k1.trans B1)) (c2.trans (k2.trans B2)) (fun r hr => row r (by omega) (by omega)) (f65 4 (by decide) (by decide) (by decide) (by decide) (by decide)) (hM.2.af (A := A) (fun i hi i1 i2 i3 i4 i5 => pl i i1 i2 i3 (by unfold mp at hi; omega) (by unfold mp at hi; omega) i4 i5) c5 (by rw [e31]; exact ⟨by decide, by decide⟩) c6 hA5 hw2) ?_ ?_ ?_ ?_ ?_ ?_ ?_
    · rw [row 15 (by decide) (by decide)]; exact ⟨hc.n1, hc.n4, hc.n5⟩
    · rw [row 23 (by decide) (by decide), row 25 (by decide) (by decide), row 27 (by decide) (by decide)]; exact ⟨hc.n23, hc.n25, hc.n27⟩
    · rw [row 23 (by decide) (by decide), row 25 (by decide) (by decide), row 27 (by decide) (by decide)]; exact ⟨rfl, rfl, rfl⟩
    · rw [row 24 (by decide) (by decide)]; exact hc.sm
    · rw [row 3 (by decide) (by decide)]; exact ⟨hc.n3, rfl⟩
    · exact h.2.2.2.1.fr (by rw [row 15 (by decide) (by decide)]) (by rw [row 15 (by decide) (by decide)]) ⟨by rw [row (15 + 8) (by decide) (by decide)], by rw [row (15 + 10) (by decide) (by decide)], by rw [row (15 + 12) (by decide) (by decide)]⟩ (fun k hk => ⟨by rw [row _ (by omega) (by omega)], by rw [row _ (by omega) (by omega)], by rw [c2, k2, B2], fun j _ => by rw [row _ (by omega) (by omega)]⟩) (fun i hi => pl i (by unfold lp at hi; omega) (by unfold lp at hi; omega) (by unfold lp at hi; omega) (by unfold lp at hi; omega) (by unfold lp at hi; omega) (by unfold lp at hi; omega) (by unfold lp at hi; omega))
    · unfold LT
      rw [row 3 (by decide) (by decide), f65 19 (by decide) (by decide) (by decide) (by decide) (by decide), row 4 (by decide) (by decide), row 74 (by decide) (by decide)]
      exact h.2.2.2.2.2.2
  refine gw_if (gB.t (r := 65) rfl) ?_
  refine gw_bV (s_clause pB o0) (fun m23 ⟨x1, x2, t1, x3, x4⟩ => ?_)
  refine gw_loop (fun s => (1 ≤ s.1.toInt ∧ s.1.toInt ≤ 10) ∧ CP A B s.2) (fun s => 10 - s.1.toInt) (fun s ⟨u1, y1, y2, t, y3, y4⟩ => ?_) 5000 ((1 : Int32), m23) ⟨⟨by show 1 ≤ (1 : Int32).toInt; omega, by show (1 : Int32).toInt ≤ 10; omega⟩, x1, x2, t1, x3, x4⟩ (by show 10 - (1 : Int32).toInt < ((5000 : Nat) : Int); omega) (by show 0 ≤ 10 - (1 : Int32).toInt; omega)
  have hs := y3.g
  have d8 : (s.2.2.1 65 8).toInt = wr s.2 := rfl
  have d6 : (s.2.2.1 65 6).toInt = sp s.2 := rfl
  have hb := y3.1.2.1
  have hmn := y3.2.2.2.1
  have b27 : s.2.2.1 66 27 = μ.2.1 66 27 := by rw [y1.1.2.2.2.1 27 (by omega) (by omega) (by omega) (by omega), C 27 (by omega) (by omega) (by omega) (by omega)]
  have b32 : s.2.2.1 66 32 = μ.2.1 66 32 := by rw [y1.1.2.2.2.1 32 (by omega) (by omega) (by omega) (by omega), C 32 (by omega) (by omega) (by omega) (by omega)]
  have all1 : ALL s.2 := fin s.2 s.2 t y3 y1.1 rfl rfl (fun _ _ => rfl) (fun _ _ _ => rfl) (by rw [b27]; exact n27) (by rw [b32]; exact n32)
  refine gw_gIw (hs.c (r := 65) rfl) ?_
  refine gw_j (fun m => m = s.2) (fun m em => ?_) (fun j hj => ?_)
  · rw [em]
    refine gw_gIw (hs.c (r := 65) rfl) ?_
    refine gw_j (fun _ => True) (fun _ _ => ?_) (fun j2 hj2 => ?_)
    · refine gw_gIw (hs.c (r := 65) rfl) ?_
      exact gw_some (gs_inr (gq_I all1))
    · refine gw_ne (fun _ => hj2 _ trivial) (fun _ => ?_)
      refine gw_gIw (hs.c (r := 65) rfl) ?_
      refine gw_gIw (hs.c (r := 65) rfl) ?_
      refine gw_eq (fun _ => ?_) (fun _ => hj2 _ trivial)
      refine gw_gRa 66 (hs.c (r := 65) rfl) (hs.r (by decide)) ?_
      refine gw_aIw 27 (hs.t (r := 66) rfl) (hs.l (r := 66) rfl) (by omega) (by omega) ?_
      refine gw_sIw 27 (hs.t (r := 66) rfl) (hs.l (r := 66) rfl) (by omega) (by omega) ?_
      refine gw_gRa 66 (hs.c (r := 65) rfl) (hs.r (r := 65) (j := 1) (a := 66) (by decide)) ?_
      refine gw_gIw (hs.c (r := 65) rfl) ?_
      rw [wI_o _ _ _ _ (show (65 : Nat) ≠ 66 by decide)]
      refine gw_sIw 32 (hs.t (r := 66) rfl) (hs.l (r := 66) rfl) (by omega) (by omega) ?_
      refine gw_gIw (hs.c (r := 65) rfl) ?_
      have hb1 := cnt1 (x := s.2.2.1 66 27) (L := 5) (by rw [b27]; omega) (by rw [b27]; omega) (by decide)
      have ea := y3.2.2.1
      refine gw_some (gs_inr (gq_I (fin s.2 _ t y3 y1.1 rfl rfl (fun r hr => by rw [wI_o _ _ _ _ hr, wI_o _ _ _ _ hr]) (fun k k1 k2 => by rw [wI_n _ _ _ _ k2, wI_n _ _ _ _ k1]) (by rw [wI_n _ _ _ _ (by decide), wI_e]; exact hb1) (by rw [wI_e]; omega))))
  · refine gw_ne (fun _ => hj _ rfl) (fun g0 => ?_)
    refine gw_le (fun _ => hj _ rfl) (fun _ => ?_)
    refine gw_if (hs.t (r := 65) rfl) ?_
    refine gw_bI (s_here y3.1) (fun x m ⟨z, fx⟩ => ?_)
    replace z := z.symm
    subst z
    have l59 : (59 : Int32).toInt = 59 := rfl
    refine gw_ne (fun _ => hj _ rfl) (fun _ => ?_)
    have e1 := y4 (by omega)
    subst e1
    refine gw_gIw (hs.c (r := 65) rfl) ?_
    refine gw_pIw (hs.c (r := 65) rfl) ?_
    have n6 : (s.2.2.1 65 6 + (1 : Int32)).toInt = (s.2.2.1 65 6).toInt + (1 : Int32).toInt := gx_add (by omega) (by omega)
    obtain ⟨r1, r2, r3⟩ := (fq.refl y3.1).on y3.1 (x := s.2.2.1 65 6 + (1 : Int32)) (by omega) (by omega)
    obtain ⟨v1, -, -, v4, v5⟩ := y3.q r1
    refine gw_if (v1.g.t (r := 65) rfl) ?_
    refine gw_bV (s_clause v1 (by omega)) (fun m46 ⟨z1, z2, z3⟩ => ?_)
    have n : (s.1 + (1 : Int32)).toInt = s.1.toInt + (1 : Int32).toInt := gx_add (by omega) (by omega)
    exact gw_some (gs_inl ⟨⟨by show 1 ≤ (s.1 + (1 : Int32)).toInt; omega, by show (s.1 + (1 : Int32)).toInt ≤ 10; omega⟩, (y1.trans v5).trans z1, (by show op m46 = op B; omega), z3⟩ (by show 10 - (s.1 + (1 : Int32)).toInt < 10 - s.1.toInt; omega) (by show 0 ≤ 10 - (s.1 + (1 : Int32)).toInt; omega))
end
section
set_option maxHeartbeats 2000000 in
theorem p_row {μ : gm_M} (h : ALL μ) {a1 : Int32} {a2 : Int32} {a3 : Int32} : gwI (f_X11_row 1 a1 a2 a3 μ) (fun x m => gwI (f_X12_row 65 a1 a2 a3 m) (fun y m2 => y = x ∧ ALL m2)) := by
  refine gwI_of ?_
  unfold f_X11_row
  have hc := h.2.2.1
  have lm3 : (-3 : Int32).toInt = -3 := rfl
  have lm2 : (-2 : Int32).toInt = -2 := rfl
  have lm1 : (-1 : Int32).toInt = -1 := rfl
  have l0 : (0 : Int32).toInt = 0 := rfl
  have l3 : (3 : Int32).toInt = 3 := rfl
  have l4 : (4 : Int32).toInt = 4 := rfl
  have l6 : (6 : Int32).toInt = 6 := rfl
  have l9 : (9 : Int32).toInt = 9 := rfl
  have l33 : (33 : Int32).toInt = 33 := rfl
  have l43 : (43 : Int32).toInt = 43 := rfl
  have L26 := h.n26
  refine gw_if (hc.1.t (r := 1) rfl) ?_
  refine gw_bI (s_X11_isNobody hc ) (fun x1 m1 ⟨z1, f1⟩ => ?_)
  replace z1 := z1.symm
  subst z1
  refine gw_ne (fun h5_2 => ?_) (fun h5_2 => ?_)
  ·
    refine gw_some (gq_I ?_)
    have hm := h.1
    refine gwI_of ?_
    unfold f_X12_row
    refine gw_if (hm.1.t (r := 65) rfl) ?_
    refine gw_bI (s_X12_isChild hm ) (fun x3 m3 ⟨z3, f3⟩ => ?_)
    replace z3 := z3.symm
    subst z3
    refine gw_eq (fun h5_4 => ?_) (fun h5_4 => ?_)
    ·
      exact gw_some (gq_I (by first | (exfalso; omega) | exact ⟨rfl, h⟩ | (refine ⟨by rw [VAL, VALC, hv]; exact (h.rw _ _ (by omega) (by omega)).symm, ?_⟩; skip; rw [hv]; exact A_row h (by omega) (by omega) _)))
    ·
      refine gw_bI (s_X12_in ) (fun x5 m5 ⟨z5, f5⟩ => ?_)
      replace z5 := z5.symm
      subst z5
      refine gw_ne (fun h14_6 => ?_) (fun h14_6 => ?_)
      ·
        refine gw_bI (s_X12_in ) (fun x7 m7 ⟨z7, f7⟩ => ?_)
        replace z7 := z7.symm
        subst z7
        refine gw_ne (fun h26_8 => ?_) (fun h26_8 => ?_)
        ·
          refine gw_gRa 66 (hm.1.c (r := 65) rfl) (hm.1.r (by decide)) ?_
          have n9 : ((33 : Int32) + a1).toInt = (33 : Int32).toInt + a1.toInt := gx_add (by omega) (by omega)
          refine gw_aI (i := ((33 : Int32) + a1)) (hm.1.t (r := 66) rfl) (hm.1.l (r := 66) rfl) (by omega) (by omega) (fun v10 ev10 => ?_)
          have KD : v10.toInt = (μ.2.1 66 (33 + a1.toInt.toNat)).toInt := by rw [ev10, show ((33 : Int32) + a1).toInt.toNat = 33 + a1.toInt.toNat from by omega]
          refine gw_eq (fun h43_11 => ?_) (fun h43_11 => ?_)
          ·
            refine gw_gRa 66 (hm.1.c (r := 65) rfl) (hm.1.r (by decide)) ?_
            have n12 : ((4 : Int32) * a1).toInt = 4 * a1.toInt := gx_mul 4 rfl (by omega) (by omega)
            have n13 : ((43 : Int32) + ((4 : Int32) * a1)).toInt = (43 : Int32).toInt + ((4 : Int32) * a1).toInt := gx_add (by omega) (by omega)
            have n14 : (((43 : Int32) + ((4 : Int32) * a1)) + a2).toInt = ((43 : Int32) + ((4 : Int32) * a1)).toInt + a2.toInt := gx_add (by omega) (by omega)
            refine gw_aI (i := (((43 : Int32) + ((4 : Int32) * a1)) + a2)) (hm.1.t (r := 66) rfl) (hm.1.l (r := 66) rfl) (by omega) (by omega) (fun v15 ev15 => ?_)
            have VAL : v15 = μ.2.1 66 (43 + 4 * a1.toInt.toNat + a2.toInt.toNat) := by rw [ev15, show (((43 : Int32) + ((4 : Int32) * a1)) + a2).toInt.toNat = 43 + 4 * a1.toInt.toNat + a2.toInt.toNat from by omega]
            refine gw_gRa 66 (hm.1.c (r := 65) rfl) (hm.1.r (by decide)) ?_
            have n16 : ((4 : Int32) * a1).toInt = 4 * a1.toInt := gx_mul 4 rfl (by omega) (by omega)
            have n17 : ((43 : Int32) + ((4 : Int32) * a1)).toInt = (43 : Int32).toInt + ((4 : Int32) * a1).toInt := gx_add (by omega) (by omega)
            have n18 : (((43 : Int32) + ((4 : Int32) * a1)) + a2).toInt = ((43 : Int32) + ((4 : Int32) * a1)).toInt + a2.toInt := gx_add (by omega) (by omega)
            refine gw_sI (i := (((43 : Int32) + ((4 : Int32) * a1)) + a2)) (hm.1.t (r := 66) rfl) (hm.1.l (r := 66) rfl) (by omega) (by omega) (fun m19 em19 => ?_)
            have sm19 := gS.w hc.1 em19
            rw [show (((43 : Int32) + ((4 : Int32) * a1)) + a2).toInt.toNat = 43 + 4 * a1.toInt.toNat + a2.toInt.toNat from by omega] at em19
            exact gw_some (gq_I (by first | (exfalso; omega) | exact ⟨rfl, h⟩ | (refine ⟨by rw [VAL, VALC, hv]; exact (h.rw _ _ (by omega) (by omega)).symm, ?_⟩; subst em19; rw [hv]; exact A_row h (by omega) (by omega) _)))
          ·
            exact gw_some (gq_I (by first | (exfalso; omega) | exact ⟨rfl, h⟩ | (refine ⟨by rw [VAL, VALC, hv]; exact (h.rw _ _ (by omega) (by omega)).symm, ?_⟩; skip; rw [hv]; exact A_row h (by omega) (by omega) _)))
        ·
          exact gw_some (gq_I (by first | (exfalso; omega) | exact ⟨rfl, h⟩ | (refine ⟨by rw [VAL, VALC, hv]; exact (h.rw _ _ (by omega) (by omega)).symm, ?_⟩; skip; rw [hv]; exact A_row h (by omega) (by omega) _)))
      ·
        exact gw_some (gq_I (by first | (exfalso; omega) | exact ⟨rfl, h⟩ | (refine ⟨by rw [VAL, VALC, hv]; exact (h.rw _ _ (by omega) (by omega)).symm, ?_⟩; skip; rw [hv]; exact A_row h (by omega) (by omega) _)))
  ·
    refine gw_bI (s_X11_isOutside ) (fun x20 m20 ⟨z20, f20⟩ => ?_)
    replace z20 := z20.symm
    subst z20
    refine gw_eq (fun h14_21 => ?_) (fun h14_21 => ?_)
    ·
      refine gw_bI (s_X11_isOutside ) (fun x22 m22 ⟨z22, f22⟩ => ?_)
      replace z22 := z22.symm
      subst z22
      refine gw_eq (fun h26_23 => ?_) (fun h26_23 => ?_)
      ·
        refine gw_gRa 15 (hc.1.c (r := 1) rfl) (hc.1.r (by decide)) ?_
        refine gw_gRa 16 (hc.1.c (r := 15) rfl) (hc.1.r (by decide)) ?_
        refine gw_aR (i := a1) (hc.1.t (r := 16) rfl) (hc.1.l (r := 16) rfl) (by omega) (by omega) (fun v24 ev24 => ?_)
        have cv24 : isch v24 := by rw [ev24]; exact isch.of hc.1 (by omega) (by omega)
        have hv := h.ch (by omega) (by omega) ev24
        refine gw_gR (ict.c hc.1 (Or.inl cv24)) (fun v25 ev25 => ?_)
        have cv25 : kid v25 := by rw [ev25]; exact hc.kd (Or.inl cv24)
        have kk : ((v25 : Nat) : Int) = 8 + (μ.2.1 66 (33 + a1.toInt.toNat)).toInt := by rw [ev25, hv]; exact h.kd _ (by omega)
        refine gw_io (by rcases kid.t hc.1 cv25 with q | q | q | q | q | q | q <;> rw [q] <;> decide) (fun v26 iv26 => ?_)
        have jv26 : v26.toInt = 0 ∨ v26.toInt = 1 := iv26.elim (fun q => Or.inr q.1) (fun q => Or.inl q.1)
        have k15 := kid15 hc.1 cv25 iv26
        refine gw_ne (fun h51_27 => ?_) (fun h51_27 => ?_)
        ·
          refine gw_gRa (v24 + 1) (ict.c hc.1 (Or.inl cv24)) (ict.row hc.1 (Or.inl cv24)) ?_
          refine gw_aI (i := a2) (ict.rt hc.1 (Or.inl cv24)) (ict.rl hc.1 (Or.inl cv24)) (by omega) (by omega) (fun v29 ev29 => ?_)
          have VALC := ev29
          refine gw_gRa (v24 + 1) (ict.c hc.1 (Or.inl cv24)) (ict.row hc.1 (Or.inl cv24)) ?_
          refine gw_sI (i := a2) (ict.rt hc.1 (Or.inl cv24)) (ict.rl hc.1 (Or.inl cv24)) (by omega) (by omega) (fun m31 em31 => ?_)
          have sm31 := gS.w hc.1 em31
          have rm31 : m31.2.1 66 = μ.2.1 66 := r66w rfl em31 (ict.n66 (Or.inl cv24)).2
          refine gw_some (gq_I ?_)
          have hm : MI m31 := ⟨sm31, by rw [rm31]; exact h.1.2⟩
          refine gwI_of ?_
          unfold f_X12_row
          refine gw_if (hm.1.t (r := 65) rfl) ?_
          refine gw_bI (s_X12_isChild hm ) (fun x32 m32 ⟨z32, f32⟩ => ?_)
          replace z32 := z32.symm
          subst z32
          rw [rm31] at f32
          refine gw_eq (fun h5_33 => ?_) (fun h5_33 => ?_)
          ·
            exact gw_some (gq_I (by first | (exfalso; omega) | exact ⟨rfl, h⟩ | (refine ⟨by rw [VAL, VALC, hv]; exact (h.rw _ _ (by omega) (by omega)).symm, ?_⟩; subst em31; rw [hv]; exact A_row h (by omega) (by omega) _)))
          ·
            refine gw_bI (s_X12_in ) (fun x34 m34 ⟨z34, f34⟩ => ?_)
            replace z34 := z34.symm
            subst z34
            refine gw_ne (fun h14_35 => ?_) (fun h14_35 => ?_)
            ·
              refine gw_bI (s_X12_in ) (fun x36 m36 ⟨z36, f36⟩ => ?_)
              replace z36 := z36.symm
              subst z36
              refine gw_ne (fun h26_37 => ?_) (fun h26_37 => ?_)
              ·
                refine gw_gRa 66 (hm.1.c (r := 65) rfl) (hm.1.r (by decide)) ?_
                have n38 : ((33 : Int32) + a1).toInt = (33 : Int32).toInt + a1.toInt := gx_add (by omega) (by omega)
                refine gw_aI (i := ((33 : Int32) + a1)) (hm.1.t (r := 66) rfl) (hm.1.l (r := 66) rfl) (by omega) (by omega) (fun v39 ev39 => ?_)
                have KD : v39.toInt = (μ.2.1 66 (33 + a1.toInt.toNat)).toInt := by rw [ev39, rm31, show ((33 : Int32) + a1).toInt.toNat = 33 + a1.toInt.toNat from by omega]
                refine gw_eq (fun h43_40 => ?_) (fun h43_40 => ?_)
                ·
                  refine gw_gRa 66 (hm.1.c (r := 65) rfl) (hm.1.r (by decide)) ?_
                  have n41 : ((4 : Int32) * a1).toInt = 4 * a1.toInt := gx_mul 4 rfl (by omega) (by omega)
                  have n42 : ((43 : Int32) + ((4 : Int32) * a1)).toInt = (43 : Int32).toInt + ((4 : Int32) * a1).toInt := gx_add (by omega) (by omega)
                  have n43 : (((43 : Int32) + ((4 : Int32) * a1)) + a2).toInt = ((43 : Int32) + ((4 : Int32) * a1)).toInt + a2.toInt := gx_add (by omega) (by omega)
                  refine gw_aI (i := (((43 : Int32) + ((4 : Int32) * a1)) + a2)) (hm.1.t (r := 66) rfl) (hm.1.l (r := 66) rfl) (by omega) (by omega) (fun v44 ev44 => ?_)
                  have VAL : v44 = μ.2.1 66 (43 + 4 * a1.toInt.toNat + a2.toInt.toNat) := by rw [ev44, rm31, show (((43 : Int32) + ((4 : Int32) * a1)) + a2).toInt.toNat = 43 + 4 * a1.toInt.toNat + a2.toInt.toNat from by omega]
                  refine gw_gRa 66 (hm.1.c (r := 65) rfl) (hm.1.r (by decide)) ?_
                  have n45 : ((4 : Int32) * a1).toInt = 4 * a1.toInt := gx_mul 4 rfl (by omega) (by omega)
                  have n46 : ((43 : Int32) + ((4 : Int32) * a1)).toInt = (43 : Int32).toInt + ((4 : Int32) * a1).toInt := gx_add (by omega) (by omega)
                  have n47 : (((43 : Int32) + ((4 : Int32) * a1)) + a2).toInt = ((43 : Int32) + ((4 : Int32) * a1)).toInt + a2.toInt := gx_add (by omega) (by omega)
                  refine gw_sI (i := (((43 : Int32) + ((4 : Int32) * a1)) + a2)) (hm.1.t (r := 66) rfl) (hm.1.l (r := 66) rfl) (by omega) (by omega) (fun m48 em48 => ?_)
                  have sm48 := gS.w sm31 em48
                  rw [show (((43 : Int32) + ((4 : Int32) * a1)) + a2).toInt.toNat = 43 + 4 * a1.toInt.toNat + a2.toInt.toNat from by omega] at em48
                  exact gw_some (gq_I (by first | (exfalso; omega) | exact ⟨rfl, h⟩ | (refine ⟨by rw [VAL, VALC, hv]; exact (h.rw _ _ (by omega) (by omega)).symm, ?_⟩; subst em48; subst em31; rw [hv]; exact A_row h (by omega) (by omega) _)))
                ·
                  exact gw_some (gq_I (by first | (exfalso; omega) | exact ⟨rfl, h⟩ | (refine ⟨by rw [VAL, VALC, hv]; exact (h.rw _ _ (by omega) (by omega)).symm, ?_⟩; subst em31; rw [hv]; exact A_row h (by omega) (by omega) _)))
              ·
                exact gw_some (gq_I (by first | (exfalso; omega) | exact ⟨rfl, h⟩ | (refine ⟨by rw [VAL, VALC, hv]; exact (h.rw _ _ (by omega) (by omega)).symm, ?_⟩; subst em31; rw [hv]; exact A_row h (by omega) (by omega) _)))
            ·
              exact gw_some (gq_I (by first | (exfalso; omega) | exact ⟨rfl, h⟩ | (refine ⟨by rw [VAL, VALC, hv]; exact (h.rw _ _ (by omega) (by omega)).symm, ?_⟩; subst em31; rw [hv]; exact A_row h (by omega) (by omega) _)))
        ·
          refine gw_some (gq_I ?_)
          have hm := h.1
          refine gwI_of ?_
          unfold f_X12_row
          refine gw_if (hm.1.t (r := 65) rfl) ?_
          refine gw_bI (s_X12_isChild hm ) (fun x49 m49 ⟨z49, f49⟩ => ?_)
          replace z49 := z49.symm
          subst z49
          refine gw_eq (fun h5_50 => ?_) (fun h5_50 => ?_)
          ·
            exact gw_some (gq_I (by first | (exfalso; omega) | exact ⟨rfl, h⟩ | (refine ⟨by rw [VAL, VALC, hv]; exact (h.rw _ _ (by omega) (by omega)).symm, ?_⟩; skip; rw [hv]; exact A_row h (by omega) (by omega) _)))
          ·
            refine gw_bI (s_X12_in ) (fun x51 m51 ⟨z51, f51⟩ => ?_)
            replace z51 := z51.symm
            subst z51
            refine gw_ne (fun h14_52 => ?_) (fun h14_52 => ?_)
            ·
              refine gw_bI (s_X12_in ) (fun x53 m53 ⟨z53, f53⟩ => ?_)
              replace z53 := z53.symm
              subst z53
              refine gw_ne (fun h26_54 => ?_) (fun h26_54 => ?_)
              ·
                refine gw_gRa 66 (hm.1.c (r := 65) rfl) (hm.1.r (by decide)) ?_
                have n55 : ((33 : Int32) + a1).toInt = (33 : Int32).toInt + a1.toInt := gx_add (by omega) (by omega)
                refine gw_aI (i := ((33 : Int32) + a1)) (hm.1.t (r := 66) rfl) (hm.1.l (r := 66) rfl) (by omega) (by omega) (fun v56 ev56 => ?_)
                have KD : v56.toInt = (μ.2.1 66 (33 + a1.toInt.toNat)).toInt := by rw [ev56, show ((33 : Int32) + a1).toInt.toNat = 33 + a1.toInt.toNat from by omega]
                refine gw_eq (fun h43_57 => ?_) (fun h43_57 => ?_)
                ·
                  refine gw_gRa 66 (hm.1.c (r := 65) rfl) (hm.1.r (by decide)) ?_
                  have n58 : ((4 : Int32) * a1).toInt = 4 * a1.toInt := gx_mul 4 rfl (by omega) (by omega)
                  have n59 : ((43 : Int32) + ((4 : Int32) * a1)).toInt = (43 : Int32).toInt + ((4 : Int32) * a1).toInt := gx_add (by omega) (by omega)
                  have n60 : (((43 : Int32) + ((4 : Int32) * a1)) + a2).toInt = ((43 : Int32) + ((4 : Int32) * a1)).toInt + a2.toInt := gx_add (by omega) (by omega)
                  refine gw_aI (i := (((43 : Int32) + ((4 : Int32) * a1)) + a2)) (hm.1.t (r := 66) rfl) (hm.1.l (r := 66) rfl) (by omega) (by omega) (fun v61 ev61 => ?_)
                  have VAL : v61 = μ.2.1 66 (43 + 4 * a1.toInt.toNat + a2.toInt.toNat) := by rw [ev61, show (((43 : Int32) + ((4 : Int32) * a1)) + a2).toInt.toNat = 43 + 4 * a1.toInt.toNat + a2.toInt.toNat from by omega]
                  refine gw_gRa 66 (hm.1.c (r := 65) rfl) (hm.1.r (by decide)) ?_
                  have n62 : ((4 : Int32) * a1).toInt = 4 * a1.toInt := gx_mul 4 rfl (by omega) (by omega)
                  have n63 : ((43 : Int32) + ((4 : Int32) * a1)).toInt = (43 : Int32).toInt + ((4 : Int32) * a1).toInt := gx_add (by omega) (by omega)
                  have n64 : (((43 : Int32) + ((4 : Int32) * a1)) + a2).toInt = ((43 : Int32) + ((4 : Int32) * a1)).toInt + a2.toInt := gx_add (by omega) (by omega)
                  refine gw_sI (i := (((43 : Int32) + ((4 : Int32) * a1)) + a2)) (hm.1.t (r := 66) rfl) (hm.1.l (r := 66) rfl) (by omega) (by omega) (fun m65 em65 => ?_)
                  have sm65 := gS.w hc.1 em65
                  rw [show (((43 : Int32) + ((4 : Int32) * a1)) + a2).toInt.toNat = 43 + 4 * a1.toInt.toNat + a2.toInt.toNat from by omega] at em65
                  exact gw_some (gq_I (by first | (exfalso; omega) | exact ⟨rfl, h⟩ | (refine ⟨by rw [VAL, VALC, hv]; exact (h.rw _ _ (by omega) (by omega)).symm, ?_⟩; subst em65; rw [hv]; exact A_row h (by omega) (by omega) _)))
                ·
                  exact gw_some (gq_I (by first | (exfalso; omega) | exact ⟨rfl, h⟩ | (refine ⟨by rw [VAL, VALC, hv]; exact (h.rw _ _ (by omega) (by omega)).symm, ?_⟩; skip; rw [hv]; exact A_row h (by omega) (by omega) _)))
              ·
                exact gw_some (gq_I (by first | (exfalso; omega) | exact ⟨rfl, h⟩ | (refine ⟨by rw [VAL, VALC, hv]; exact (h.rw _ _ (by omega) (by omega)).symm, ?_⟩; skip; rw [hv]; exact A_row h (by omega) (by omega) _)))
            ·
              exact gw_some (gq_I (by first | (exfalso; omega) | exact ⟨rfl, h⟩ | (refine ⟨by rw [VAL, VALC, hv]; exact (h.rw _ _ (by omega) (by omega)).symm, ?_⟩; skip; rw [hv]; exact A_row h (by omega) (by omega) _)))
      ·
        refine gw_some (gq_I ?_)
        have hm := h.1
        refine gwI_of ?_
        unfold f_X12_row
        refine gw_if (hm.1.t (r := 65) rfl) ?_
        refine gw_bI (s_X12_isChild hm ) (fun x66 m66 ⟨z66, f66⟩ => ?_)
        replace z66 := z66.symm
        subst z66
        refine gw_eq (fun h5_67 => ?_) (fun h5_67 => ?_)
        ·
          exact gw_some (gq_I (by first | (exfalso; omega) | exact ⟨rfl, h⟩ | (refine ⟨by rw [VAL, VALC, hv]; exact (h.rw _ _ (by omega) (by omega)).symm, ?_⟩; skip; rw [hv]; exact A_row h (by omega) (by omega) _)))
        ·
          refine gw_bI (s_X12_in ) (fun x68 m68 ⟨z68, f68⟩ => ?_)
          replace z68 := z68.symm
          subst z68
          refine gw_ne (fun h14_69 => ?_) (fun h14_69 => ?_)
          ·
            refine gw_bI (s_X12_in ) (fun x70 m70 ⟨z70, f70⟩ => ?_)
            replace z70 := z70.symm
            subst z70
            refine gw_ne (fun h26_71 => ?_) (fun h26_71 => ?_)
            ·
              refine gw_gRa 66 (hm.1.c (r := 65) rfl) (hm.1.r (by decide)) ?_
              have n72 : ((33 : Int32) + a1).toInt = (33 : Int32).toInt + a1.toInt := gx_add (by omega) (by omega)
              refine gw_aI (i := ((33 : Int32) + a1)) (hm.1.t (r := 66) rfl) (hm.1.l (r := 66) rfl) (by omega) (by omega) (fun v73 ev73 => ?_)
              have KD : v73.toInt = (μ.2.1 66 (33 + a1.toInt.toNat)).toInt := by rw [ev73, show ((33 : Int32) + a1).toInt.toNat = 33 + a1.toInt.toNat from by omega]
              refine gw_eq (fun h43_74 => ?_) (fun h43_74 => ?_)
              ·
                refine gw_gRa 66 (hm.1.c (r := 65) rfl) (hm.1.r (by decide)) ?_
                have n75 : ((4 : Int32) * a1).toInt = 4 * a1.toInt := gx_mul 4 rfl (by omega) (by omega)
                have n76 : ((43 : Int32) + ((4 : Int32) * a1)).toInt = (43 : Int32).toInt + ((4 : Int32) * a1).toInt := gx_add (by omega) (by omega)
                have n77 : (((43 : Int32) + ((4 : Int32) * a1)) + a2).toInt = ((43 : Int32) + ((4 : Int32) * a1)).toInt + a2.toInt := gx_add (by omega) (by omega)
                refine gw_aI (i := (((43 : Int32) + ((4 : Int32) * a1)) + a2)) (hm.1.t (r := 66) rfl) (hm.1.l (r := 66) rfl) (by omega) (by omega) (fun v78 ev78 => ?_)
                have VAL : v78 = μ.2.1 66 (43 + 4 * a1.toInt.toNat + a2.toInt.toNat) := by rw [ev78, show (((43 : Int32) + ((4 : Int32) * a1)) + a2).toInt.toNat = 43 + 4 * a1.toInt.toNat + a2.toInt.toNat from by omega]
                refine gw_gRa 66 (hm.1.c (r := 65) rfl) (hm.1.r (by decide)) ?_
                have n79 : ((4 : Int32) * a1).toInt = 4 * a1.toInt := gx_mul 4 rfl (by omega) (by omega)
                have n80 : ((43 : Int32) + ((4 : Int32) * a1)).toInt = (43 : Int32).toInt + ((4 : Int32) * a1).toInt := gx_add (by omega) (by omega)
                have n81 : (((43 : Int32) + ((4 : Int32) * a1)) + a2).toInt = ((43 : Int32) + ((4 : Int32) * a1)).toInt + a2.toInt := gx_add (by omega) (by omega)
                refine gw_sI (i := (((43 : Int32) + ((4 : Int32) * a1)) + a2)) (hm.1.t (r := 66) rfl) (hm.1.l (r := 66) rfl) (by omega) (by omega) (fun m82 em82 => ?_)
                have sm82 := gS.w hc.1 em82
                rw [show (((43 : Int32) + ((4 : Int32) * a1)) + a2).toInt.toNat = 43 + 4 * a1.toInt.toNat + a2.toInt.toNat from by omega] at em82
                exact gw_some (gq_I (by first | (exfalso; omega) | exact ⟨rfl, h⟩ | (refine ⟨by rw [VAL, VALC, hv]; exact (h.rw _ _ (by omega) (by omega)).symm, ?_⟩; subst em82; rw [hv]; exact A_row h (by omega) (by omega) _)))
              ·
                exact gw_some (gq_I (by first | (exfalso; omega) | exact ⟨rfl, h⟩ | (refine ⟨by rw [VAL, VALC, hv]; exact (h.rw _ _ (by omega) (by omega)).symm, ?_⟩; skip; rw [hv]; exact A_row h (by omega) (by omega) _)))
            ·
              exact gw_some (gq_I (by first | (exfalso; omega) | exact ⟨rfl, h⟩ | (refine ⟨by rw [VAL, VALC, hv]; exact (h.rw _ _ (by omega) (by omega)).symm, ?_⟩; skip; rw [hv]; exact A_row h (by omega) (by omega) _)))
          ·
            exact gw_some (gq_I (by first | (exfalso; omega) | exact ⟨rfl, h⟩ | (refine ⟨by rw [VAL, VALC, hv]; exact (h.rw _ _ (by omega) (by omega)).symm, ?_⟩; skip; rw [hv]; exact A_row h (by omega) (by omega) _)))
    ·
      refine gw_some (gq_I ?_)
      have hm := h.1
      refine gwI_of ?_
      unfold f_X12_row
      refine gw_if (hm.1.t (r := 65) rfl) ?_
      refine gw_bI (s_X12_isChild hm ) (fun x83 m83 ⟨z83, f83⟩ => ?_)
      replace z83 := z83.symm
      subst z83
      refine gw_eq (fun h5_84 => ?_) (fun h5_84 => ?_)
      ·
        exact gw_some (gq_I (by first | (exfalso; omega) | exact ⟨rfl, h⟩ | (refine ⟨by rw [VAL, VALC, hv]; exact (h.rw _ _ (by omega) (by omega)).symm, ?_⟩; skip; rw [hv]; exact A_row h (by omega) (by omega) _)))
      ·
        refine gw_bI (s_X12_in ) (fun x85 m85 ⟨z85, f85⟩ => ?_)
        replace z85 := z85.symm
        subst z85
        refine gw_ne (fun h14_86 => ?_) (fun h14_86 => ?_)
        ·
          refine gw_bI (s_X12_in ) (fun x87 m87 ⟨z87, f87⟩ => ?_)
          replace z87 := z87.symm
          subst z87
          refine gw_ne (fun h26_88 => ?_) (fun h26_88 => ?_)
          ·
            refine gw_gRa 66 (hm.1.c (r := 65) rfl) (hm.1.r (by decide)) ?_
            have n89 : ((33 : Int32) + a1).toInt = (33 : Int32).toInt + a1.toInt := gx_add (by omega) (by omega)
            refine gw_aI (i := ((33 : Int32) + a1)) (hm.1.t (r := 66) rfl) (hm.1.l (r := 66) rfl) (by omega) (by omega) (fun v90 ev90 => ?_)
            have KD : v90.toInt = (μ.2.1 66 (33 + a1.toInt.toNat)).toInt := by rw [ev90, show ((33 : Int32) + a1).toInt.toNat = 33 + a1.toInt.toNat from by omega]
            refine gw_eq (fun h43_91 => ?_) (fun h43_91 => ?_)
            ·
              refine gw_gRa 66 (hm.1.c (r := 65) rfl) (hm.1.r (by decide)) ?_
              have n92 : ((4 : Int32) * a1).toInt = 4 * a1.toInt := gx_mul 4 rfl (by omega) (by omega)
              have n93 : ((43 : Int32) + ((4 : Int32) * a1)).toInt = (43 : Int32).toInt + ((4 : Int32) * a1).toInt := gx_add (by omega) (by omega)
              have n94 : (((43 : Int32) + ((4 : Int32) * a1)) + a2).toInt = ((43 : Int32) + ((4 : Int32) * a1)).toInt + a2.toInt := gx_add (by omega) (by omega)
              refine gw_aI (i := (((43 : Int32) + ((4 : Int32) * a1)) + a2)) (hm.1.t (r := 66) rfl) (hm.1.l (r := 66) rfl) (by omega) (by omega) (fun v95 ev95 => ?_)
              have VAL : v95 = μ.2.1 66 (43 + 4 * a1.toInt.toNat + a2.toInt.toNat) := by rw [ev95, show (((43 : Int32) + ((4 : Int32) * a1)) + a2).toInt.toNat = 43 + 4 * a1.toInt.toNat + a2.toInt.toNat from by omega]
              refine gw_gRa 66 (hm.1.c (r := 65) rfl) (hm.1.r (by decide)) ?_
              have n96 : ((4 : Int32) * a1).toInt = 4 * a1.toInt := gx_mul 4 rfl (by omega) (by omega)
              have n97 : ((43 : Int32) + ((4 : Int32) * a1)).toInt = (43 : Int32).toInt + ((4 : Int32) * a1).toInt := gx_add (by omega) (by omega)
              have n98 : (((43 : Int32) + ((4 : Int32) * a1)) + a2).toInt = ((43 : Int32) + ((4 : Int32) * a1)).toInt + a2.toInt := gx_add (by omega) (by omega)
              refine gw_sI (i := (((43 : Int32) + ((4 : Int32) * a1)) + a2)) (hm.1.t (r := 66) rfl) (hm.1.l (r := 66) rfl) (by omega) (by omega) (fun m99 em99 => ?_)
              have sm99 := gS.w hc.1 em99
              rw [show (((43 : Int32) + ((4 : Int32) * a1)) + a2).toInt.toNat = 43 + 4 * a1.toInt.toNat + a2.toInt.toNat from by omega] at em99
              exact gw_some (gq_I (by first | (exfalso; omega) | exact ⟨rfl, h⟩ | (refine ⟨by rw [VAL, VALC, hv]; exact (h.rw _ _ (by omega) (by omega)).symm, ?_⟩; subst em99; rw [hv]; exact A_row h (by omega) (by omega) _)))
            ·
              exact gw_some (gq_I (by first | (exfalso; omega) | exact ⟨rfl, h⟩ | (refine ⟨by rw [VAL, VALC, hv]; exact (h.rw _ _ (by omega) (by omega)).symm, ?_⟩; skip; rw [hv]; exact A_row h (by omega) (by omega) _)))
          ·
            exact gw_some (gq_I (by first | (exfalso; omega) | exact ⟨rfl, h⟩ | (refine ⟨by rw [VAL, VALC, hv]; exact (h.rw _ _ (by omega) (by omega)).symm, ?_⟩; skip; rw [hv]; exact A_row h (by omega) (by omega) _)))
        ·
          exact gw_some (gq_I (by first | (exfalso; omega) | exact ⟨rfl, h⟩ | (refine ⟨by rw [VAL, VALC, hv]; exact (h.rw _ _ (by omega) (by omega)).symm, ?_⟩; skip; rw [hv]; exact A_row h (by omega) (by omega) _)))
end
