/-! the reference reads -/
def sp (m : gm_M) : Int := (m.2.1 65 6).toInt
def en (m : gm_M) : Int := (m.2.1 65 7).toInt
def wr (m : gm_M) : Int := (m.2.1 65 8).toInt
def op (m : gm_M) : Int := (m.2.1 65 9).toInt
def mn (A : Nat) (m : gm_M) : Int := (m.2.1 66 (220 + A)).toInt
def FB (m : gm_M) : Prop := gS m ∧ (0 ≤ sp m ∧ sp m ≤ en m ∧ en m ≤ 100) ∧ (wr m = 0 ∨ wr m = 1)
def fq (μ m : gm_M) : Prop := (m.1 = μ.1 ∧ m.2.2 = μ.2.2 ∧ (∀ r : Nat, r ≠ 65 → m.2.1 r = μ.2.1 r) ∧ ∀ j : Nat, j ≠ 6 → j ≠ 8 → m.2.1 65 j = μ.2.1 65 j) ∧ (sp μ ≤ sp m ∧ sp m ≤ en μ) ∧ (wr m = 0 ∨ wr m = 1) ∧ (wr m = 0 → wr μ = 0)
theorem fq_en {μ m : gm_M} (h : fq μ m) : en m = en μ := by unfold en; rw [h.1.2.2.2 7 (by decide) (by decide)]
theorem fq.fb {μ m : gm_M} (h : fq μ m) (f : FB μ) : FB m := by
  have e := fq_en h
  exact ⟨f.1.same h.1.1 h.1.2.1, ⟨by have := f.2.1; have := h.2.1; omega, by rw [e]; exact h.2.1.2, by rw [e]; exact f.2.1.2.2⟩, h.2.2.1⟩
theorem fq.refl {μ : gm_M} (f : FB μ) : fq μ μ := ⟨⟨rfl, rfl, fun _ _ => rfl, fun _ _ _ => rfl⟩, ⟨Int.le_refl _, f.2.1.2.1⟩, f.2.2, fun h => h⟩
theorem fq.trans {a b c : gm_M} (h : fq a b) (g : fq b c) : fq a c := by
  have e := fq_en h
  obtain ⟨⟨h1, h2, h3, h4⟩, h5, h6, h7⟩ := h
  obtain ⟨⟨g1, g2, g3, g4⟩, g5, g6, g7⟩ := g
  exact ⟨⟨g1.trans h1, g2.trans h2, fun r hr => (g3 r hr).trans (h3 r hr), fun j j1 j2 => (g4 j j1 j2).trans (h4 j j1 j2)⟩, by omega, g6, fun q => h7 (g7 q)⟩
/-- one sign on -/
theorem fq.on {μ b : gm_M} (h : fq μ b) (f : FB μ) {x : Int32} (hx : x.toInt = sp b + 1) (hl : sp b < en μ) : fq μ (wI b 65 6 x) ∧ sp (wI b 65 6 x) = sp b + 1 ∧ wr (wI b 65 6 x) = wr b := by
  have e6 : sp (wI b 65 6 x) = sp b + 1 := by unfold sp; rw [wI_e]; exact hx
  have e8 : wr (wI b 65 6 x) = wr b := by unfold wr; rw [wI_n _ _ _ _ (by decide)]
  obtain ⟨⟨h1, h2, h3, h4⟩, h5, h6, h7⟩ := h
  exact ⟨⟨⟨h1, h2, fun r hr => (wI_o _ _ _ _ hr).trans (h3 r hr), fun j j1 j2 => (wI_n _ _ _ _ j1).trans (h4 j j1 j2)⟩, by rw [e6]; omega, by rw [e8]; exact h6, by rw [e8]; exact h7⟩, e6, e8⟩
theorem fq.ww {μ b : gm_M} (h : fq μ b) {x : Int32} (hx : x.toInt = 0 ∨ x.toInt = 1) (h0 : x.toInt = 0 → wr μ = 0) : fq μ (wI b 65 8 x) ∧ sp (wI b 65 8 x) = sp b ∧ wr (wI b 65 8 x) = x.toInt := by
  have e6 : sp (wI b 65 8 x) = sp b := by unfold sp; rw [wI_n _ _ _ _ (by decide)]
  have e8 : wr (wI b 65 8 x) = x.toInt := by unfold wr; rw [wI_e]
  obtain ⟨⟨h1, h2, h3, h4⟩, h5, h6, h7⟩ := h
  exact ⟨⟨⟨h1, h2, fun r hr => (wI_o _ _ _ _ hr).trans (h3 r hr), fun j j1 j2 => (wI_n _ _ _ _ j2).trans (h4 j j1 j2)⟩, by rw [e6]; exact h5, by rw [e8]; exact hx, by rw [e8]; exact h0⟩, e6, e8⟩
theorem s_here {μ : gm_M} (f : FB μ) : gwI (f_X12_here 65 μ) (fun x m => m = μ ∧ (x.toInt = -1 ∨ sp μ < en μ)) := by
  obtain ⟨hg, hb, -⟩ := f
  refine gwI_of ?_
  unfold f_X12_here
  have l110 : (110 : Int32).toInt = 110 := rfl
  have d6 : (μ.2.1 65 6).toInt = sp μ := rfl
  have d7 : (μ.2.1 65 7).toInt = en μ := rfl
  refine gw_gIw (hg.c (r := 65) rfl) ?_
  refine gw_gIw (hg.c (r := 65) rfl) ?_
  refine gw_le (fun _ => gw_some (gq_I ⟨rfl, Or.inl rfl⟩)) (fun g => ?_)
  refine gw_gRa 66 (hg.c (r := 65) rfl) (hg.r (by decide)) ?_
  refine gw_gIw (hg.c (r := 65) rfl) ?_
  have n : ((110 : Int32) + μ.2.1 65 6).toInt = (110 : Int32).toInt + (μ.2.1 65 6).toInt := gx_add (by omega) (by omega)
  refine gw_aI (i := (110 : Int32) + μ.2.1 65 6) (hg.t (r := 66) rfl) (hg.l (r := 66) rfl) (by omega) (by omega) (fun v _ => ?_)
  exact gw_some (gq_I ⟨rfl, Or.inr (by omega)⟩)
theorem s_must {μ : gm_M} (f : FB μ) {c : Int32} (hc : 0 ≤ c.toInt) : gwV (f_X12_must 65 c μ) (fun m => fq μ m ∧ (wr m = 0 → sp m = sp μ + 1)) := by
  have f0 := f
  obtain ⟨hg, hb, hw⟩ := f
  refine gwV_of ?_
  unfold f_X12_must
  have l0 : (0 : Int32).toInt = 0 := rfl
  have l1 : (1 : Int32).toInt = 1 := rfl
  have d8 : (μ.2.1 65 8).toInt = wr μ := rfl
  refine gw_gIw (hg.c (r := 65) rfl) ?_
  refine gw_j (fun s => s.2 = μ ∧ ((s.1.toInt = 1) ∨ (s.1.toInt = 0 ∧ wr μ = 0 ∧ sp μ < en μ))) (fun s ⟨es, hs⟩ => ?_) (fun j hj => ?_)
  · rw [es]
    obtain ⟨q1, q2, q3⟩ := (fq.refl f0).ww (x := s.1) (by omega) (by omega)
    have hg2 : gS (wI μ 65 8 s.1) := hg
    refine gw_pZw (hg.c (r := 65) rfl) (by omega) ?_
    refine gw_gIw (hg2.c (r := 65) rfl) ?_
    refine gw_gIw (hg2.c (r := 65) rfl) ?_
    have d6 : ((wI μ 65 8 s.1).2.1 65 6).toInt = sp μ := q2
    have d8' : ((wI μ 65 8 s.1).2.1 65 8).toInt = s.1.toInt := q3
    refine gw_j (fun z => (z.toInt = 1 ∧ s.1.toInt = 0) ∨ (z.toInt = 0 ∧ s.1.toInt = 1)) (fun z hz => ?_) (fun j2 hj2 => ?_)
    · have n : ((wI μ 65 8 s.1).2.1 65 6 + z).toInt = ((wI μ 65 8 s.1).2.1 65 6).toInt + z.toInt := gx_add (by omega) (by omega)
      refine gw_pIw (hg2.c (r := 65) rfl) ?_
      rcases hz with ⟨z1, z2⟩ | ⟨z1, z2⟩
      · obtain ⟨r1, r2, r3⟩ := q1.on f0 (x := (wI μ 65 8 s.1).2.1 65 6 + z) (by rw [q2]; omega) (by rw [q2]; omega)
        exact gw_some (gq_V ⟨r1, fun _ => by rw [r2, q2]⟩)
      · have e : (wI μ 65 8 s.1).2.1 65 6 + z = (wI μ 65 8 s.1).2.1 65 6 := by
          apply Int32.toInt_inj.mp; omega
        rw [e]
        have r1 : fq μ (wI (wI μ 65 8 s.1) 65 6 ((wI μ 65 8 s.1).2.1 65 6)) := by
          obtain ⟨⟨a1, a2, a3, a4⟩, a5, a6, a7⟩ := q1
          have s6 : sp (wI (wI μ 65 8 s.1) 65 6 ((wI μ 65 8 s.1).2.1 65 6)) = sp (wI μ 65 8 s.1) := by unfold sp; rw [wI_e]
          have s8 : wr (wI (wI μ 65 8 s.1) 65 6 ((wI μ 65 8 s.1).2.1 65 6)) = wr (wI μ 65 8 s.1) := by unfold wr; rw [wI_n _ _ _ _ (by decide)]
          exact ⟨⟨a1, a2, fun r hr => (wI_o _ _ _ _ hr).trans (a3 r hr), fun j j1 j2 => (wI_n _ _ _ _ j1).trans (a4 j j1 j2)⟩, by rw [s6]; exact a5, by rw [s8]; exact a6, by rw [s8]; exact a7⟩
        have s8 : wr (wI (wI μ 65 8 s.1) 65 6 ((wI μ 65 8 s.1).2.1 65 6)) = 1 := by unfold wr; rw [wI_n _ _ _ _ (by decide), wI_e]; exact z2
        exact gw_some (gq_V ⟨r1, fun q => by rw [s8] at q; omega⟩)
    · refine gw_eq (fun g => hj2 _ (Or.inl ⟨l1, by omega⟩)) (fun g => hj2 _ (Or.inr ⟨l0, by omega⟩))
  · refine gw_j (fun m => m = μ) (fun m em => hj _ ⟨em, Or.inl l1⟩) (fun j2 hj2 => ?_)
    refine gw_ne (fun g => hj2 _ rfl) (fun g => ?_)
    refine gw_if (hg.t (r := 65) rfl) ?_
    refine gw_bI (s_here f0) (fun x m ⟨z, fx⟩ => ?_)
    replace z := z.symm
    subst z
    exact gw_eq (fun g2 => hj _ ⟨rfl, Or.inr ⟨l0, by omega, by omega⟩⟩) (fun g2 => hj2 _ rfl)
theorem s_spells {μ : gm_M} (f : FB μ) {u : UInt32} (hu : gm_isS u) : gwV (f_X12_spells 65 u μ) (fun m => fq μ m) := by
  refine gwV_of ?_
  unfold f_X12_spells
  have l0 : (0 : Int32).toInt = 0 := rfl
  have l1 : (1 : Int32).toInt = 1 := rfl
  have six := (tx_len (μ := μ) hu).2
  have dl : (Int32.ofNat (gm_bn (u + 6))).toInt = ((gm_bn (u + 6) : Nat) : Int) := Int32.toInt_ofNat_of_lt (by omega)
  refine gw_loop (fun s => fq μ s.2 ∧ 0 ≤ s.1.toInt ∧ s.1.toInt ≤ 6) (fun s => 6 - s.1.toInt) (fun s ⟨k, u1, u2⟩ => ?_) 5000 ((0 : Int32), μ) ⟨fq.refl f, by show 0 ≤ (0 : Int32).toInt; omega, by show (0 : Int32).toInt ≤ 6; omega⟩ (by show 6 - (0 : Int32).toInt < ((5000 : Nat) : Int); omega) (by show 0 ≤ 6 - (0 : Int32).toInt; omega)
  refine gw_if hu ?_
  refine gw_bI (R := fun x m => m = s.2 ∧ x = Int32.ofNat (gm_bn (u + 6))) ⟨_, _, (tx_len hu).1, rfl, rfl⟩ (fun x m ⟨z, ex⟩ => ?_)
  replace z := z.symm
  subst z
  subst ex
  refine gw_le (fun _ => gw_some (gs_inr (gq_V k))) (fun g => ?_)
  refine gw_if hu ?_
  have tc := tx_char (μ := s.2) hu (i := s.1) (by omega) (by omega)
  refine gw_bI (R := fun x m => m = s.2 ∧ x = gm_bb (u + 6) s.1.toInt.toNat) ⟨_, _, tc.1, rfl, rfl⟩ (fun x m ⟨z, ex⟩ => ?_)
  replace z := z.symm
  subst z
  have fb := k.fb f
  refine gw_if (fb.1.t (r := 65) rfl) ?_
  refine gw_bV (s_must fb (by rw [ex]; exact tc.2)) (fun m ⟨g1, _⟩ => ?_)
  have n : (s.1 + (1 : Int32)).toInt = s.1.toInt + (1 : Int32).toInt := gx_add (by omega) (by omega)
  exact gw_some (gs_inl ⟨k.trans g1, by show 0 ≤ (s.1 + (1 : Int32)).toInt; omega, by show (s.1 + (1 : Int32)).toInt ≤ 6; omega⟩ (by show 6 - (s.1 + (1 : Int32)).toInt < 6 - s.1.toInt; omega) (by show 0 ≤ 6 - (s.1 + (1 : Int32)).toInt; omega))
theorem s_among {μ : gm_M} (f : FB μ) {u : UInt32} (hu : gm_isS u) : gwI (f_X12_among 65 u μ) (fun x m => fq μ m ∧ wr m = wr μ ∧ ((x.toInt = -1 ∧ sp m = sp μ) ∨ (0 ≤ x.toInt ∧ x.toInt < ((gm_bn (u + 6) : Nat) : Int) ∧ sp m = sp μ + 1))) := by
  refine gwI_of ?_
  unfold f_X12_among
  have l0 : (0 : Int32).toInt = 0 := rfl
  have l1 : (1 : Int32).toInt = 1 := rfl
  have six := (tx_len (μ := μ) hu).2
  have hg := f.1
  have dl : (Int32.ofNat (gm_bn (u + 6))).toInt = ((gm_bn (u + 6) : Nat) : Int) := Int32.toInt_ofNat_of_lt (by omega)
  refine gw_loop (fun s => s.2 = μ ∧ 0 ≤ s.1.toInt ∧ s.1.toInt ≤ 6) (fun s => 6 - s.1.toInt) (fun s ⟨k, u1, u2⟩ => ?_) 5000 ((0 : Int32), μ) ⟨rfl, by show 0 ≤ (0 : Int32).toInt; omega, by show (0 : Int32).toInt ≤ 6; omega⟩ (by show 6 - (0 : Int32).toInt < ((5000 : Nat) : Int); omega) (by show 0 ≤ 6 - (0 : Int32).toInt; omega)
  rw [k]
  refine gw_if hu ?_
  refine gw_bI (R := fun x m => m = μ ∧ x = Int32.ofNat (gm_bn (u + 6))) ⟨_, _, (tx_len hu).1, rfl, rfl⟩ (fun x m ⟨z, ex⟩ => ?_)
  replace z := z.symm
  subst z
  subst ex
  refine gw_le (fun _ => gw_some (gs_inr (gq_I ⟨fq.refl f, rfl, Or.inl ⟨rfl, rfl⟩⟩))) (fun g => ?_)
  refine gw_if (hg.t (r := 65) rfl) ?_
  refine gw_bI (s_here f) (fun y m ⟨z, fy⟩ => ?_)
  replace z := z.symm
  subst z
  refine gw_if hu ?_
  have tc := tx_char (μ := μ) hu (i := s.1) (by omega) (by omega)
  refine gw_bI (R := fun x m => m = μ ∧ x = gm_bb (u + 6) s.1.toInt.toNat) ⟨_, _, tc.1, rfl, rfl⟩ (fun x m ⟨z, ex⟩ => ?_)
  replace z := z.symm
  subst z
  have n : (s.1 + (1 : Int32)).toInt = s.1.toInt + (1 : Int32).toInt := gx_add (by omega) (by omega)
  refine gw_ne (fun _ => gw_some (gs_inl ⟨rfl, by show 0 ≤ (s.1 + (1 : Int32)).toInt; omega, by show (s.1 + (1 : Int32)).toInt ≤ 6; omega⟩ (by show 6 - (s.1 + (1 : Int32)).toInt < 6 - s.1.toInt; omega) (by show 0 ≤ 6 - (s.1 + (1 : Int32)).toInt; omega))) (fun g2 => ?_)
  have c0 : 0 ≤ x.toInt := by rw [ex]; exact tc.2
  have hb := f.2.1
  have d6 : (μ.2.1 65 6).toInt = sp μ := rfl
  refine gw_gIw (hg.c (r := 65) rfl) ?_
  refine gw_pIw (hg.c (r := 65) rfl) ?_
  have n6 : (μ.2.1 65 6 + (1 : Int32)).toInt = (μ.2.1 65 6).toInt + (1 : Int32).toInt := gx_add (by omega) (by omega)
  obtain ⟨r1, r2, r3⟩ := (fq.refl f).on f (x := μ.2.1 65 6 + (1 : Int32)) (by omega) (by omega)
  exact gw_some (gs_inr (gq_I ⟨r1, r3, Or.inr ⟨u1, by omega, r2⟩⟩))
theorem s_figures {μ : gm_M} (f : FB μ) : gwI (f_X12_figures 65 μ) (fun x m => fq μ m ∧ (wr m = 0 → (0 ≤ x.toInt ∧ x.toInt ≤ 99) ∧ sp μ + 1 ≤ sp m)) := by
  have f0 := f
  obtain ⟨hg, hb, hw⟩ := f
  refine gwI_of ?_
  unfold f_X12_figures
  have l0 : (0 : Int32).toInt = 0 := rfl
  have l1 : (1 : Int32).toInt = 1 := rfl
  have l2 : (2 : Int32).toInt = 2 := rfl
  have l48 : (48 : Int32).toInt = 48 := rfl
  have l57 : (57 : Int32).toInt = 57 := rfl
  have d8 : (μ.2.1 65 8).toInt = wr μ := rfl
  refine gw_gIw (hg.c (r := 65) rfl) ?_
  refine gw_j (fun s => s.2 = μ ∧ ((s.1.toInt = 1) ∨ (s.1.toInt = 0 ∧ wr μ = 0 ∧ ∃ x : Int32, f_X12_here 65 μ = some (some (.int x), μ) ∧ 48 ≤ x.toInt ∧ x.toInt ≤ 57))) (fun s ⟨es, hs⟩ => ?_) (fun j hj => ?_)
  · rw [es]
    obtain ⟨q1, q2, q3⟩ := (fq.refl f0).ww (x := s.1) (by omega) (by omega)
    refine gw_pZw (hg.c (r := 65) rfl) (by omega) ?_
    have fb1 := q1.fb f0
    -- the value so far, how many signs
    refine gw_loop (fun t => fq μ t.2.2 ∧ wr t.2.2 = s.1.toInt ∧ ((t.2.1.toInt = 0 ∧ t.1.toInt = 0 ∧ t.2.2 = wI μ 65 8 s.1) ∨ (t.2.1.toInt = 1 ∧ (0 ≤ t.1.toInt ∧ t.1.toInt ≤ 9) ∧ sp μ + 1 ≤ sp t.2.2) ∨ (t.2.1.toInt = 2 ∧ (0 ≤ t.1.toInt ∧ t.1.toInt ≤ 99) ∧ sp μ + 1 ≤ sp t.2.2))) (fun t => 2 - t.2.1.toInt) (fun t ⟨k, kw, kt⟩ => ?_) 5000 ((0 : Int32), (0 : Int32), wI μ 65 8 s.1) ⟨q1, q3, Or.inl ⟨l0, l0, rfl⟩⟩ (by show 2 - (0 : Int32).toInt < ((5000 : Nat) : Int); omega) (by show 0 ≤ 2 - (0 : Int32).toInt; omega)
    have fb := k.fb f0
    have ht := fb.1
    refine gw_le (fun g => gw_some (gs_inr (gq_I ⟨k, fun _ => by omega⟩))) (fun g => ?_)
    refine gw_gIw (ht.c (r := 65) rfl) ?_
    have d8' : (t.2.2.2.1 65 8).toInt = wr t.2.2 := rfl
    refine gw_ne (fun g2 => gw_some (gs_inr (gq_I ⟨k, fun q => by omega⟩))) (fun g2 => ?_)
    refine gw_if (ht.t (r := 65) rfl) ?_
    -- what stands here
    obtain ⟨x8, mx, ex, zx, fx⟩ := s_here fb
    subst zx
    refine gw_bI (R := fun x m => m = t.2.2 ∧ x = x8) ⟨x8, _, ex, rfl, rfl⟩ (fun x m ⟨z, e8⟩ => ?_)
    subst e8
    replace z := z.symm
    subst z
    refine gw_bI s_X12_in (fun x10 m9 ⟨z, f10⟩ => ?_)
    replace z := z.symm
    subst z
    refine gw_eq (fun g3 => gw_some (gs_inr (gq_I ⟨k, fun q => ?_⟩))) (fun g3 => ?_)
    · rcases kt with ⟨k1, k2, k3⟩ | ⟨k1, k2, k3⟩ | ⟨k1, k2, k3⟩
      · exfalso
        rcases hs with hs | ⟨hs1, hs2, y, ey, y1, y2⟩
        · omega
        · -- the same sign stood there at first
          have : f_X12_here 65 (wI μ 65 8 s.1) = some (some (.int y), wI μ 65 8 s.1) := by
            have e0 : ∀ j : Nat, j ≠ 8 → (wI μ 65 8 s.1).2.1 65 j = μ.2.1 65 j := fun j hj => wI_n _ _ _ _ hj
            have e1 : (wI μ 65 8 s.1).2.1 66 = μ.2.1 66 := wI_o _ _ _ _ (by decide)
            unfold f_X12_here gm_gI gm_gR gm_aI at ey ⊢
            simp only [wI_t, wI_l, wI_2, e0 6 (by decide), e0 7 (by decide)] at ey ⊢
            have e2 : (wI μ 65 8 s.1).2.1 (μ.2.2 65 1) = μ.2.1 (μ.2.2 65 1) := wI_o _ _ _ _ (by rw [hg.r (r := 65) (j := 1) (a := 66) (by decide)]; decide)
            rw [e2]
            revert ey
            repeat' split
            all_goals (intro ey; first | (cases ey; rfl) | (exact absurd ey (by simp)))
          rw [k3] at ex
          rw [this] at ex
          cases ex
          omega
      · omega
      · omega
    · refine gw_j (fun _ => t.2.1.toInt = 0 ∨ t.2.1.toInt = 1) (fun _ hz => ?_) (fun j2 hj2 => ?_)
      · refine gw_if (ht.t (r := 65) rfl) ?_
        refine gw_bI (R := fun y m => m = t.2.2 ∧ y = x) ⟨x, _, ex, rfl, rfl⟩ (fun y m ⟨z, e8⟩ => ?_)
        subst e8
        replace z := z.symm
        subst z
        refine gw_gIw (ht.c (r := 65) rfl) ?_
        refine gw_pIw (ht.c (r := 65) rfl) ?_
        have d6 : (t.2.2.2.1 65 6).toInt = sp t.2.2 := rfl
        have ee := fq_en k
        have hbt := fb.2.1
        have n6 : (t.2.2.2.1 65 6 + (1 : Int32)).toInt = (t.2.2.2.1 65 6).toInt + (1 : Int32).toInt := gx_add (by omega) (by omega)
        obtain ⟨r1, r2, r3⟩ := k.on f0 (x := t.2.2.2.1 65 6 + (1 : Int32)) (by omega) (by omega)
        have n1 : (t.2.1 + (1 : Int32)).toInt = t.2.1.toInt + (1 : Int32).toInt := gx_add (by omega) (by omega)
        have m1 : ((10 : Int32) * t.1).toInt = 10 * t.1.toInt := gx_mul 10 rfl (by omega) (by omega)
        have m2 : ((10 : Int32) * t.1 + y).toInt = ((10 : Int32) * t.1).toInt + y.toInt := gx_add (by omega) (by omega)
        have m3 : (((10 : Int32) * t.1 + y) - (48 : Int32)).toInt = ((10 : Int32) * t.1 + y).toInt - (48 : Int32).toInt := gx_sub (by omega) (by omega)
        have spk := k.2.1.1
        refine gw_some (gs_inl ⟨r1, by show wr (wI t.2.2 65 6 _) = _; rw [r3]; exact kw, ?_⟩ (by show 2 - (t.2.1 + (1 : Int32)).toInt < 2 - t.2.1.toInt; omega) (by show 0 ≤ 2 - (t.2.1 + (1 : Int32)).toInt; omega))
        show ((t.2.1 + (1 : Int32)).toInt = 0 ∧ _) ∨ ((t.2.1 + (1 : Int32)).toInt = 1 ∧ (0 ≤ (((10 : Int32) * t.1 + y) - (48 : Int32)).toInt ∧ (((10 : Int32) * t.1 + y) - (48 : Int32)).toInt ≤ 9) ∧ sp μ + 1 ≤ sp (wI t.2.2 65 6 (t.2.2.2.1 65 6 + (1 : Int32)))) ∨ ((t.2.1 + (1 : Int32)).toInt = 2 ∧ (0 ≤ (((10 : Int32) * t.1 + y) - (48 : Int32)).toInt ∧ (((10 : Int32) * t.1 + y) - (48 : Int32)).toInt ≤ 99) ∧ sp μ + 1 ≤ sp (wI t.2.2 65 6 (t.2.2.2.1 65 6 + (1 : Int32))))
        rcases kt with ⟨k1, k2, k3⟩ | ⟨k1, k2, k3⟩ | ⟨k1, k2, k3⟩
        · exact Or.inr (Or.inl ⟨by omega, by omega, by omega⟩)
        · exact Or.inr (Or.inr ⟨by omega, by omega, by omega⟩)
        · exfalso; omega
      · refine gw_eq (fun g4 => hj2 _ (by omega)) (fun g4 => ?_)
        refine gw_le (fun g5 => gw_some (gs_inr (gq_I ⟨k, fun _ => by omega⟩))) (fun g5 => hj2 _ (by omega))
  · refine gw_j (fun m => m = μ) (fun m em => hj _ ⟨em, Or.inl l1⟩) (fun j2 hj2 => ?_)
    refine gw_ne (fun g => hj2 _ rfl) (fun g => ?_)
    refine gw_if (hg.t (r := 65) rfl) ?_
    obtain ⟨x8, mx, ex, zx, fx⟩ := s_here f0
    subst zx
    refine gw_bI (R := fun x m => m = mx ∧ x = x8) ⟨x8, _, ex, rfl, rfl⟩ (fun x m ⟨z, e8⟩ => ?_)
    subst e8
    replace z := z.symm
    subst z
    refine gw_bI s_X12_in (fun x10 m9 ⟨z, f10⟩ => ?_)
    replace z := z.symm
    subst z
    exact gw_ne (fun g3 => hj _ ⟨rfl, Or.inr ⟨l0, by omega, x, ex, by omega, by omega⟩⟩) (fun g3 => hj2 _ rfl)
