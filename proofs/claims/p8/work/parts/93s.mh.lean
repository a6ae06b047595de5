/-! the reference: one child, minute by minute -/
theorem m_ab {μ : gm_M} (x : Int32) : gwI (f_X12_above x μ) (fun y m => y = ab x ∧ m = μ) := by
  refine gwI_of ?_
  unfold f_X12_above
  have l0 : (0 : Int32).toInt = 0 := rfl
  refine gw_le (fun g => gw_some (gq_I ⟨?_, rfl⟩)) (fun g => gw_some (gq_I ⟨?_, rfl⟩))
  · unfold ab; rw [if_neg (by rw [Int32.lt_iff_toInt_lt]; omega)]
  · unfold ab; rw [if_pos (by rw [Int32.lt_iff_toInt_lt]; omega)]
theorem m_in {β : Type} {Q : β → Prop} {μ : gm_M} {x lo hi : Int32} {f : Int32 → gm_M → Option β} (h1 : lo.toInt ≤ x.toInt → x.toInt ≤ hi.toInt → gw (f 1 μ) Q) (h0 : (x.toInt < lo.toInt ∨ hi.toInt < x.toInt) → gw (f 0 μ) Q) : gw (gm_bI (f_X12_in x lo hi μ) f) Q := by
  refine gw_bI (R := fun y m => m = μ ∧ ((y = 1 ∧ lo.toInt ≤ x.toInt ∧ x.toInt ≤ hi.toInt) ∨ (y = 0 ∧ (x.toInt < lo.toInt ∨ hi.toInt < x.toInt)))) (gwI_of ?_) (fun y m ⟨em, hy⟩ => ?_)
  · unfold f_X12_in
    refine gw_lt (fun g => gw_z Iff.rfl (Or.inl rfl) (gq_I ⟨rfl, Or.inr ⟨rfl, Or.inl g⟩⟩)) (fun g => ?_)
    exact gw_lt (fun g2 => gw_z Iff.rfl (Or.inl rfl) (gq_I ⟨rfl, Or.inr ⟨rfl, Or.inr g2⟩⟩)) (fun g2 => gw_z Iff.rfl (Or.inr rfl) (gq_I ⟨rfl, Or.inl ⟨rfl, g, g2⟩⟩))
  · subst em
    rcases hy with ⟨ey, a, b⟩ | ⟨ey, a⟩
    · subst ey; exact h1 a b
    · subst ey; exact h0 a
theorem kR_w {m : gm_M} {c d j i : Nat} {x : Int32} (hc : c < 5) (hd : d < 5) (hj : 3 ≤ j) (hj8 : j < 8) (hi : i = 5 * j - 14 + c) : kR ((wI m 66 i x).2.1 66) d = (if d = c then kud (kR (m.2.1 66) c) j x else kR (m.2.1 66) d) := by
  subst hi
  funext k
  have e : (wI m 66 (5 * j - 14 + c) x).2.1 66 = fun q => if q = 5 * j - 14 + c then x else m.2.1 66 q := by
    funext q
    by_cases h : q = 5 * j - 14 + c
    · rw [h, wI_e, if_pos rfl]
    · rw [wI_n _ _ _ _ h, if_neg h]
  rw [e]
  by_cases hdc : d = c
  · rw [if_pos hdc, hdc]
    unfold kud kR
    dsimp only
    by_cases h0 : k = 0
    · rw [if_pos h0, if_neg (show ¬ k = j by omega), if_pos h0]
    · rw [if_neg h0]
      by_cases h1 : k = 1
      · rw [if_pos h1, if_neg (show ¬ k = j by omega), if_neg h0, if_pos h1, if_neg (by omega)]
      · rw [if_neg h1]
        by_cases h2 : k = 2
        · rw [if_pos h2, if_neg (show ¬ k = j by omega), if_neg h0, if_neg h1, if_pos h2, if_neg (by omega)]
        · rw [if_neg h2]
          by_cases h8 : k < 8
          · rw [if_pos h8]
            by_cases hk : k = j
            · rw [if_pos hk, if_pos (by omega)]
            · rw [if_neg hk, if_neg (by omega), if_neg h0, if_neg h1, if_neg h2, if_pos h8]
          · rw [if_neg h8, if_neg (show ¬ k = j by omega), if_neg h0, if_neg h1, if_neg h2, if_neg h8]
            by_cases h12 : k < 12
            · rw [if_pos h12, if_pos h12, if_neg (by omega)]
            · rw [if_neg h12, if_neg h12]
  · rw [if_neg hdc]
    unfold kR
    dsimp only
    by_cases h0 : k = 0
    · rw [if_pos h0, if_pos h0]
    · rw [if_neg h0, if_neg h0]
      by_cases h1 : k = 1
      · rw [if_pos h1, if_pos h1, if_neg (by omega)]
      · rw [if_neg h1, if_neg h1]
        by_cases h2 : k = 2
        · rw [if_pos h2, if_pos h2, if_neg (by omega)]
        · rw [if_neg h2, if_neg h2]
          by_cases h8 : k < 8
          · rw [if_pos h8, if_pos h8, if_neg (by omega)]
          · rw [if_neg h8, if_neg h8]
            by_cases h12 : k < 12
            · rw [if_pos h12, if_pos h12, if_neg (by omega)]
            · rw [if_neg h12, if_neg h12]
/-- what the reference's askings go by -/
def MW (w sw : Int32) (P : List (List Int32 × Int32)) (μ : gm_M) : Prop := MI μ ∧ HR (μ.2.1 66) w sw P
theorem HR.of {σ τ : Nat → Int32} {w sw : Int32} {P : List (List Int32 × Int32)} (h : HR σ w sw P) (e : ∀ k : Nat, k = 32 ∨ 210 ≤ k → τ k = σ k) : HR τ w sw P := by
  obtain ⟨h1, h2⟩ := h
  refine ⟨h1, ?_⟩
  rcases h2 with ⟨a, b⟩ | ⟨a, ha, e1, ⟨e2, e3⟩, e4, e5⟩
  · exact Or.inl ⟨by rw [e 32 (Or.inl rfl)]; exact a, b⟩
  · exact Or.inr ⟨a, ha, by rw [e 32 (Or.inl rfl)]; exact e1, ⟨by rw [e _ (by omega)]; exact e2, by rw [e _ (by omega)]; exact e3⟩, by rw [e _ (by omega)]; exact e4, fun i hi => by rw [e _ (by omega)]; exact e5 i hi⟩
theorem MW.k2 {w sw : Int32} {P : List (List Int32 × Int32)} {μ m : gm_M} (h : MW w sw P μ) (g : km A2 μ m) : MW w sw P m := ⟨h.1.of2 g, h.2.of (fun k hk => g.2.2.2.1 k (by unfold A2; omega))⟩
theorem MW.k1 {w sw : Int32} {P : List (List Int32 × Int32)} {μ m : gm_M} (h : MW w sw P μ) (g : km A1 μ m) : MW w sw P m := h.k2 g.w12
theorem MW.k0 {w sw : Int32} {P : List (List Int32 × Int32)} {μ m : gm_M} (h : MW w sw P μ) (g : km A0 μ m) : MW w sw P m := h.k2 g.w02
theorem km.row {μ m : gm_M} (g : km A0 μ m) : m.2.1 66 = μ.2.1 66 := funext fun k => g.2.2.2.1 k (fun q => q)
section
variable {μ : gm_M} {w sw : Int32} {P : List (List Int32 × Int32)} {c : Nat}
theorem cSt_w {k : Nat → Int32} {mi : Int32} (hP : okP P) (hl : P.length ≤ 10) : (if (1 : Int32) ≤ 30 + cSum k mi P 0 then (if 30 + cSum k mi P 0 ≤ 1000000 then 30 + cSum k mi P 0 else 1000000) else 1) = cSt k mi P := by
  have b := cSum_b (k := k) (mi := mi) P 0 0 hP (by omega) (by decide) (by decide)
  have l1 : (1 : Int32).toInt = 1 := rfl
  have l30 : (30 : Int32).toInt = 30 := rfl
  have lm : (1000000 : Int32).toInt = 1000000 := rfl
  have e : 30 + cSum k mi P 0 = cSum k mi P 30 := by rw [← cSum_add, Int32.add_zero]
  have n : (30 + cSum k mi P 0).toInt = (30 : Int32).toInt + (cSum k mi P 0).toInt := gx_add (by omega) (by omega)
  rw [e] at n ⊢
  unfold cSt
  rw [if_pos (show cSum k mi P 30 ≤ 1000000 by rw [Int32.le_iff_toInt_le]; omega)]
  by_cases h : 1 < cSum k mi P 30
  · rw [if_pos h, if_pos]
    rw [Int32.lt_iff_toInt_lt] at h
    rw [Int32.le_iff_toInt_le]; omega
  · rw [if_neg h]
    split
    · rename_i g
      rw [Int32.lt_iff_toInt_lt] at h
      rw [Int32.le_iff_toInt_le] at g
      exact Int32.toInt_inj.mp (by omega)
    · rfl
theorem w_stretch (h : MW w sw P μ) (hc : c < 5) : gwI (f_X12_stretchOf 65 (Int32.ofNat c) μ) (fun x m => km A0 μ m ∧ x = cSt (kR (μ.2.1 66) c) (μ.2.1 66 0) P) := by
  refine gwI_of ?_
  unfold f_X12_stretchOf
  refine gw_if (h.1.1.t (r := 65) rfl) ?_
  refine gw_bI (w_looks h.1 hc h.2) (fun x m ⟨k, ex⟩ => ?_)
  subst ex
  refine gw_bI (R := fun y m' => m' = m ∧ y = cSt (kR (μ.2.1 66) c) (μ.2.1 66 0) P) (gwI_of ?_) (fun y m' ⟨em, ey⟩ => ?_)
  · rw [← cSt_w h.2.1.1 h.2.1.2.1]
    unfold f_X12_within
    refine gw_ite (fun g => ?_) (fun g => ?_)
    · rw [if_pos g]
      refine gw_ite (fun g2 => ?_) (fun g2 => ?_)
      · rw [if_pos g2]; exact gw_some (gq_I ⟨rfl, rfl⟩)
      · rw [if_neg g2]; exact gw_some (gq_I ⟨rfl, rfl⟩)
    · rw [if_neg g]; exact gw_some (gq_I ⟨rfl, rfl⟩)
  · subst em
    exact gw_some (gq_I ⟨k, ey⟩)
theorem w_wind (h : MW w sw P μ) : gwI (f_X12_tellsOf 65 210 0 μ) (fun x m => m = μ ∧ x = w) := by
  have l210 : (210 : Int32).toInt = 210 := rfl
  refine gwI_mono (s_X12_tellsOf h.1 ⟨by omega, by omega⟩) (fun x m ⟨em, hx⟩ => ⟨em, ?_⟩)
  rcases h.2.2 with ⟨a, b, -⟩ | ⟨a, ha, e1, ⟨e2, e3⟩, -⟩
  · rw [a] at hx
    rcases hx with ⟨-, ex⟩ | ⟨g, -⟩
    · rw [ex, b]
    · exact absurd g (by decide)
  · have oa := ofn (k := a) (by omega)
    rw [e1] at hx
    rcases hx with ⟨g, -⟩ | ⟨-, -, ex⟩
    · omega
    · rw [ex, ← e2, show ((210 : Int32).toInt + (Int32.ofNat a).toInt).toNat = 210 + a by omega]
theorem w_sweet (h : MW w sw P μ) : gwI (f_X12_sweetNow 65 μ) (fun x m => m = μ ∧ x = sw) := by
  have l215 : (215 : Int32).toInt = 215 := rfl
  refine gwI_of ?_
  unfold f_X12_sweetNow
  refine gw_if (h.1.1.t (r := 65) rfl) ?_
  refine gw_bI (R := fun x m => m = μ ∧ x = sw) (gwI_mono (s_X12_tellsOf h.1 ⟨by omega, by omega⟩) (fun x m ⟨em, hx⟩ => ⟨em, ?_⟩)) (fun x m ⟨em, ex⟩ => gw_some (gq_I ⟨em, ex⟩))
  rcases h.2.2 with ⟨a, -, b, -⟩ | ⟨a, ha, e1, ⟨e2, e3⟩, -⟩
  · rw [a] at hx
    rcases hx with ⟨-, ex⟩ | ⟨g, -⟩
    · rw [ex, b]
    · exact absurd g (by decide)
  · have oa := ofn (k := a) (by omega)
    rw [e1] at hx
    rcases hx with ⟨g, -⟩ | ⟨-, -, ex⟩
    · omega
    · rw [ex, ← e3, show ((215 : Int32).toInt + (Int32.ofNat a).toInt).toNat = 215 + a by omega]
theorem ixc (hc : c < 5) (v : Int32) (j : Nat) (hv : v.toInt = j) (hj : j ≤ 400) : (v + Int32.ofNat c).toInt = ((j + c : Nat) : Int) := by
  have oc := ofn (k := c) (by omega)
  have : (v + Int32.ofNat c).toInt = v.toInt + (Int32.ofNat c).toInt := gx_add (by omega) (by omega)
  omega
/-- a number of a child, in the reference's row -/
theorem gw_rd {β : Type} {Q : β → Prop} {m : gm_M} (h : MI m) (hc : c < 5) {v : Int32} (i : Nat) (hv : v.toInt = i) (hi : i ≤ 400) {f : Int32 → Option β} (k : gw (f (m.2.1 66 (i + c))) Q) : gw (gm_gR m [17] 65 1 (fun r => gm_aI m r (v + Int32.ofNat c) f)) Q := by
  refine gw_gRa 66 (h.1.c (r := 65) rfl) (h.1.r (by decide)) ?_
  exact gw_aIw (i + c) (h.1.t (r := 66) rfl) (h.1.l (r := 66) rfl) (ixc hc v i hv hi) (by omega) k
theorem w_holds (h : MW w sw P μ) (hc : c < 5) : gwI (f_X12_holdsOf 65 (Int32.ofNat c) μ) (fun x m => km A0 μ m ∧ x = cHold w P (kR (μ.2.1 66) c) (μ.2.1 66 0)) := by
  refine gwI_of ?_
  unfold f_X12_holdsOf
  refine gw_rd h.1 hc 1 rfl (by decide) ?_
  refine gw_if (h.1.1.t (r := 65) rfl) ?_
  refine gw_bI (w_stretch h hc) (fun x m ⟨k, ex⟩ => ?_)
  subst ex
  have hm := h.k0 k
  have er := km.row k
  refine gw_rd hm.1 hc 6 rfl (by decide) ?_
  refine gw_rd hm.1 hc 11 rfl (by decide) ?_
  refine gw_dv (by decide) ?_
  refine gw_if (hm.1.1.t (r := 65) rfl) ?_
  refine gw_bI (w_wind hm) (fun x m' ⟨em, ex⟩ => ?_)
  subst em
  subst ex
  refine gw_bI (m_ab _) (fun y m' ⟨ey, em⟩ => ?_)
  subst em
  subst ey
  refine gw_rd hm.1 hc 33 rfl (by decide) ?_
  rw [er]
  have e1 : kR (μ.2.1 66) c 1 = μ.2.1 66 (33 + c) := rfl
  have eb : ab (μ.2.1 66 (1 + c) * cSt (kR (μ.2.1 66) c) (μ.2.1 66 0) P - μ.2.1 66 (6 + c) - μ.2.1 66 (11 + c) / 2 - x) = cBear x P (kR (μ.2.1 66) c) (μ.2.1 66 0) := rfl
  rw [eb, ← e1]
  refine gw_ite (fun g => gw_some (gq_I ⟨k, ?_⟩)) (fun g => ?_)
  · unfold cHold; rw [if_neg g]
  · refine gw_bI (m_ab _) (fun y m' ⟨ey, em⟩ => ?_)
    subst em
    subst ey
    refine gw_some (gq_I ⟨k, ?_⟩)
    unfold cHold; rw [if_pos (Decidable.not_not.mp g)]
theorem w_chew (h : MW w sw P μ) (hc : c < 5) (hm : 0 ≤ (μ.2.1 66 0).toInt) : gwI (f_X12_chewsOf 65 (Int32.ofNat c) μ) (fun x m => m = μ ∧ x = cChew (kR (μ.2.1 66) c) (μ.2.1 66 0)) := by
  refine gwI_of ?_
  unfold f_X12_chewsOf
  refine gw_rd h.1 hc 38 rfl (by decide) ?_
  refine gw_dv (by decide) ?_
  refine gw_rd h.1 hc 33 rfl (by decide) ?_
  have e1 : kR (μ.2.1 66) c 1 = μ.2.1 66 (33 + c) := rfl
  have e2 : kR (μ.2.1 66) c 2 = μ.2.1 66 (38 + c) := rfl
  have e3 : kR (μ.2.1 66) c 3 = μ.2.1 66 (1 + c) := rfl
  unfold cChew
  rw [← e1, ← e2]
  refine gw_ite (fun g1 => ?_) (fun g1 => ?_)
  · rw [if_pos g1]; exact gw_some (gq_I ⟨rfl, rfl⟩)
  rw [if_neg g1]
  refine gw_ite (fun g2 => ?_) (fun g2 => ?_)
  · rw [if_pos g2]; exact gw_dv (by decide) (gw_some (gq_I ⟨rfl, rfl⟩))
  rw [if_neg g2]
  refine gw_ite (fun g3 => ?_) (fun g3 => ?_)
  · rw [if_pos g3]
    exact gw_bI (m_ab _) (fun y m' ⟨ey, em⟩ => gw_some (gq_I ⟨em, ey⟩))
  rw [if_neg g3]
  refine gw_ite (fun g4 => ?_) (fun g4 => ?_)
  · rw [if_pos g4]
    refine gw_rd h.1 hc 1 rfl (by decide) ?_
    exact gw_some (gq_I ⟨rfl, rfl⟩)
  rw [if_neg g4]
  refine gw_ite (fun g5 => ?_) (fun g5 => ?_)
  · rw [if_pos g5]; exact gw_dv (by decide) (gw_some (gq_I ⟨rfl, rfl⟩))
  rw [if_neg g5]
  refine gw_ite (fun g6 => ?_) (fun g6 => ?_)
  · rw [if_pos g6]
    refine gw_bI (m_ab _) (fun y m' ⟨ey, em⟩ => ?_)
    subst em
    subst ey
    have oc := ofn (k := c) (by omega)
    have m4 := mod4_i hm
    have l4 : (4 : Int32).toInt = 4 := rfl
    have l43 : (43 : Int32).toInt = 43 := rfl
    have n1 : ((4 : Int32) * Int32.ofNat c).toInt = 4 * (Int32.ofNat c).toInt := gx_mul 4 rfl (by omega) (by omega)
    have n2 : ((43 : Int32) + (4 : Int32) * Int32.ofNat c).toInt = (43 : Int32).toInt + ((4 : Int32) * Int32.ofNat c).toInt := gx_add (by omega) (by omega)
    have n3 : ((43 : Int32) + (4 : Int32) * Int32.ofNat c + m'.2.1 66 0 % 4).toInt = ((43 : Int32) + (4 : Int32) * Int32.ofNat c).toInt + (m'.2.1 66 0 % 4).toInt := gx_add (by omega) (by omega)
    refine gw_gRa 66 (h.1.1.c (r := 65) rfl) (h.1.1.r (by decide)) ?_
    refine gw_gRa 66 (h.1.1.c (r := 65) rfl) (h.1.1.r (by decide)) ?_
    refine gw_aIw 0 (h.1.1.t (r := 66) rfl) (h.1.1.l (r := 66) rfl) rfl (by decide) ?_
    refine gw_dv (by decide) ?_
    rw [gx_mod]
    refine gw_aIw (43 + 4 * c + (m'.2.1 66 0 % 4).toInt.toNat) (h.1.1.t (r := 66) rfl) (h.1.1.l (r := 66) rfl) (by omega) (by omega) ?_
    refine gw_some (gq_I ⟨rfl, ?_⟩)
    have : kR (m'.2.1 66) c (8 + (m'.2.1 66 0 % 4).toInt.toNat) = m'.2.1 66 (43 + 4 * c + (m'.2.1 66 0 % 4).toInt.toNat) := by
      unfold kR
      rw [if_neg (by omega), if_neg (by omega), if_neg (by omega), if_neg (by omega), if_pos (by omega), show 8 + (m'.2.1 66 0 % 4).toInt.toNat - 8 = (m'.2.1 66 0 % 4).toInt.toNat by omega]
    rw [this]
  · rw [if_neg g6]; exact gw_some (gq_I ⟨rfl, rfl⟩)
theorem w_tire (h : MW w sw P μ) (hc : c < 5) : gwI (f_X12_tiresOf 65 (Int32.ofNat c) μ) (fun x m => m = μ ∧ x = cTire (kR (μ.2.1 66) c)) := by
  refine gwI_of ?_
  unfold f_X12_tiresOf
  refine gw_rd h.1 hc 1 rfl (by decide) ?_
  refine gw_rd h.1 hc 33 rfl (by decide) ?_
  have e1 : kR (μ.2.1 66) c 1 = μ.2.1 66 (33 + c) := rfl
  have e3 : kR (μ.2.1 66) c 3 = μ.2.1 66 (1 + c) := rfl
  unfold cTire
  rw [← e1, ← e3]
  refine gw_ite (fun g1 => ?_) (fun g1 => ?_)
  · rw [if_pos g1]; exact gw_some (gq_I ⟨rfl, rfl⟩)
  rw [if_neg g1]
  refine gw_ite (fun g3 => ?_) (fun g3 => ?_)
  · rw [if_pos g3]; exact gw_some (gq_I ⟨rfl, rfl⟩)
  rw [if_neg g3]
  refine gw_ite (fun g4 => ?_) (fun g4 => ?_)
  · rw [if_pos g4]; exact gw_some (gq_I ⟨rfl, rfl⟩)
  rw [if_neg g4]
  refine gw_ite (fun g5 => ?_) (fun g5 => ?_)
  · rw [if_pos g5]; exact gw_dv (by decide) (gw_some (gq_I ⟨rfl, rfl⟩))
  rw [if_neg g5]
  refine gw_ite (fun g6 => ?_) (fun g6 => ?_)
  · rw [if_pos g6]; exact gw_some (gq_I ⟨rfl, rfl⟩)
  · rw [if_neg g6]; exact gw_some (gq_I ⟨rfl, rfl⟩)
theorem m_wi {μ : gm_M} (x : Int32) : gwI (f_X12_within x 0 99 μ) (fun y m => m = μ ∧ y = wi x) := by
  obtain ⟨l0, l1, l2, l3, l4, l5, l6, l10, l99⟩ := i_lit
  refine gwI_of ?_
  unfold f_X12_within
  refine gw_le (fun g => ?_) (fun g => gw_some (gq_I ⟨rfl, ?_⟩))
  · refine gw_le (fun g2 => gw_some (gq_I ⟨rfl, ?_⟩)) (fun g2 => gw_some (gq_I ⟨rfl, ?_⟩))
    · unfold wi; rw [if_neg (by rw [Int32.lt_iff_toInt_lt]; omega), if_neg (by rw [Int32.lt_iff_toInt_lt]; omega)]
    · unfold wi; rw [if_neg (by rw [Int32.lt_iff_toInt_lt]; omega), if_pos (by rw [Int32.lt_iff_toInt_lt]; omega)]
  · unfold wi; rw [if_pos (by rw [Int32.lt_iff_toInt_lt]; omega)]
/-- a number of a child is written -/
theorem gw_wr {β : Type} {Q : β → Prop} {m : gm_M} (h : MI m) (hc : c < 5) {v x : Int32} (i : Nat) (hv : v.toInt = i) (hi : i ≤ 400) {f : gm_M → Option β} (k : gw (f (wI m 66 (i + c) x)) Q) : gw (gm_sI m 66 (v + Int32.ofNat c) x f) Q :=
  gw_sIw (i + c) (h.1.t (r := 66) rfl) (h.1.l (r := 66) rfl) (ixc hc v i hv hi) (by omega) k
def oth (c : Nat) (μ m : gm_M) : Prop := ∀ d : Nat, d < 5 → d ≠ c → kR (m.2.1 66) d = kR (μ.2.1 66) d
theorem oth.wr {μ m : gm_M} (h : oth c μ m) (hc : c < 5) {j i : Nat} {x : Int32} (hj : 3 ≤ j) (hj8 : j < 8) (hi : i = 5 * j - 14 + c) : oth c μ (wI m 66 i x) := fun d hd hdc => by
  rw [kR_w hc hd hj hj8 hi, if_neg hdc]; exact h d hd hdc
theorem w_goesFor (h : MW w sw P μ) (hc : c < 5) (hm : 0 ≤ (μ.2.1 66 0).toInt) : gwV (f_X12_goesFor 65 (Int32.ofNat c) μ) (fun m => km A3 μ m ∧ kR (m.2.1 66) c = cGo (kR (μ.2.1 66) c) (μ.2.1 66 0) ∧ oth c μ m) := by
  have oc := ofn (k := c) (by omega)
  refine gwV_and (s_X12_goesFor h.1 ⟨by omega, by omega⟩) ?_
  refine gwV_of ?_
  unfold f_X12_goesFor
  have e6 : kR (μ.2.1 66) c 6 = μ.2.1 66 (16 + c) := rfl
  have e3 : kR (μ.2.1 66) c 3 = μ.2.1 66 (1 + c) := rfl
  have e5 : kR (μ.2.1 66) c 5 = μ.2.1 66 (11 + c) := rfl
  have e4 : kR (μ.2.1 66) c 4 = μ.2.1 66 (6 + c) := rfl
  have e2 : kR (μ.2.1 66) c 2 = μ.2.1 66 (38 + c) := rfl
  have o0 : oth c μ μ := fun _ _ _ => rfl
  have tc := h.1.1.c (r := 65) (t := 17) rfl
  have r1 : μ.2.2 65 1 = 66 := h.1.1.r (by decide)
  have i5 : 11 + c = 5 * 5 - 14 + c := by omega
  have i4 : 6 + c = 5 * 4 - 14 + c := by omega
  have i6 : 16 + c = 5 * 6 - 14 + c := by omega
  refine gw_rd h.1 hc 16 rfl (by decide) ?_
  rw [← e6]
  refine gw_ite (fun c6 => ?_) (fun c6 => ?_)
  · refine gw_rd h.1 hc 1 rfl (by decide) ?_
    rw [← e3]
    refine gw_ite (fun c3 => ?_) (fun c3 => ?_)
    · refine gw_gRa 66 tc r1 ?_
      refine gw_rd h.1 hc 11 rfl (by decide) ?_
      rw [← e5]
      refine gw_bI (m_ab _) (fun y m' ⟨ey, em⟩ => ?_)
      subst em
      subst ey
      refine gw_wr h.1 hc 11 rfl (by decide) ?_
      refine gw_some (gq_V ⟨?_, o0.wr hc (j := 5) (by decide) (by decide) i5⟩)
      rw [kR_w hc hc (j := 5) (by decide) (by decide) i5, if_pos rfl, cGo, if_pos c6, if_pos c3]
    · refine gw_if (h.1.1.t (r := 65) rfl) ?_
      refine gw_bI (w_chew h hc hm) (fun x m ⟨em, ex⟩ => ?_)
      subst em
      subst ex
      refine gw_gRa 66 tc r1 ?_
      refine gw_rd h.1 hc 11 rfl (by decide) ?_
      rw [← e5]
      refine gw_if (h.1.1.t (r := 65) rfl) ?_
      refine gw_bI (w_tire h hc) (fun x m' ⟨em, ex⟩ => ?_)
      subst em
      subst ex
      refine gw_bI (m_wi _) (fun y m2 ⟨em, ey⟩ => ?_)
      subst em
      subst ey
      refine gw_wr h.1 hc 11 rfl (by decide) ?_
      generalize hX : wi (kR (m2.2.1 66) c 5 + cTire (kR (m2.2.1 66) c)) = X
      have o1 : oth c m2 (wI m2 66 (11 + c) X) := o0.wr hc (j := 5) (by decide) (by decide) i5
      have k1 : kR ((wI m2 66 (11 + c) X).2.1 66) c = kud (kR (m2.2.1 66) c) 5 X := by
        rw [kR_w hc hc (j := 5) (by decide) (by decide) i5, if_pos rfl]
      have M1 : MI (wI m2 66 (11 + c) X) := h.1.of1 ((km.refl A1 m2).ws rfl (by unfold A1; omega))
      have n6 : (wI m2 66 (11 + c) X).2.1 66 (6 + c) = m2.2.1 66 (6 + c) := wI_n _ _ _ _ (by omega)
      generalize wI m2 66 (11 + c) X = M at *
      refine gw_gRa 66 (M1.1.c (r := 65) rfl) (M1.1.r (by decide)) ?_
      refine gw_rd M1 hc 6 rfl (by decide) ?_
      rw [n6, ← e4]
      refine gw_bI (m_ab _) (fun y m' ⟨ey, em⟩ => ?_)
      subst em
      subst ey
      refine gw_wr M1 hc 6 rfl (by decide) ?_
      refine gw_some (gq_V ⟨?_, o1.wr hc (j := 4) (by decide) (by decide) i4⟩)
      rw [kR_w hc hc (j := 4) (by decide) (by decide) i4, if_pos rfl, k1, cGo, if_pos c6, if_neg c3, hX]
      funext i
      unfold kud
      by_cases q4 : i = 4
      · rw [if_pos q4, if_neg (by omega), if_pos q4]
      · rw [if_neg q4, if_neg q4]
  · refine gw_gRa 66 tc r1 ?_
    refine gw_rd h.1 hc 16 rfl (by decide) ?_
    refine gw_rd h.1 hc 38 rfl (by decide) ?_
    rw [← e6, ← e2]
    refine gw_bI (m_ab _) (fun y m' ⟨ey, em⟩ => ?_)
    subst em
    subst ey
    refine gw_wr h.1 hc 16 rfl (by decide) ?_
    refine gw_some (gq_V ⟨?_, o0.wr hc (j := 6) (by decide) (by decide) i6⟩)
    rw [kR_w hc hc (j := 6) (by decide) (by decide) i6, if_pos rfl, cGo, if_neg c6]
end
