section
/-! the reference's reader: all that it writes -/
def BR (a n : Nat) (tx : Nat → Int32) (μ : gm_M) : Prop := gS μ ∧ a < 5 ∧ μ.2.1 65 5 = Int32.ofNat a ∧ μ.2.1 65 7 = Int32.ofNat n ∧ n ≤ 100 ∧ (∀ i : Nat, i < n → μ.2.1 66 (110 + i) = tx i) ∧ ∀ i : Nat, 0 ≤ (tx i).toInt ∧ (tx i).toInt ≤ 127
def bw (w : Bool) : Int32 := if w = true then 1 else 0
theorem bw_z (v : Bool) : (bw v).toInt = 0 ∨ (bw v).toInt = 1 := by cases v <;> decide
def rst (a n : Nat) (μ : gm_M) (w : Bool) (p o : Nat) (L : List Int32) (m : gm_M) : Prop := (m.1 = μ.1 ∧ m.2.2 = μ.2.2 ∧ (∀ r : Nat, r ≠ 65 → r ≠ 66 → m.2.1 r = μ.2.1 r) ∧ (∀ j : Nat, j ≠ 6 → j ≠ 8 → j ≠ 9 → m.2.1 65 j = μ.2.1 65 j) ∧ ∀ k : Nat, k ≠ 220 + a → ¬ (225 + 140 * a ≤ k ∧ k < 365 + 140 * a) → m.2.1 66 k = μ.2.1 66 k) ∧ (p ≤ n ∧ o ≤ 100 ∧ L.length ≤ p) ∧ m.2.1 65 6 = Int32.ofNat p ∧ m.2.1 65 8 = bw w ∧ m.2.1 65 9 = Int32.ofNat o ∧ m.2.1 66 (220 + a) = Int32.ofNat L.length ∧ ∀ i : Nat, i < L.length → L[i]? = some (m.2.1 66 (225 + 140 * a + i))
section
variable {a n p o : Nat} {tx : Nat → Int32} {μ m : gm_M} {w : Bool} {L : List Int32}
theorem rst.S (b : BR a n tx μ) (c : rst a n μ w p o L m) : gS m := b.1.same c.1.1 c.1.2.1
theorem rst.t (b : BR a n tx μ) (c : rst a n μ w p o L m) : gm_tag m 65 = 17 := (c.S b).t (r := 65) rfl
theorem rst.tc (b : BR a n tx μ) (c : rst a n μ w p o L m) : [17].contains (gm_tag m 65) = true := (c.S b).c (r := 65) rfl
theorem rst.r1 (b : BR a n tx μ) (c : rst a n μ w p o L m) : m.2.2 65 1 = 66 := (c.S b).r (by decide)
theorem rst.e5 (b : BR a n tx μ) (c : rst a n μ w p o L m) : m.2.1 65 5 = Int32.ofNat a := by rw [c.1.2.2.2.1 5 (by decide) (by decide) (by decide)]; exact b.2.2.1
theorem rst.e7 (b : BR a n tx μ) (c : rst a n μ w p o L m) : m.2.1 65 7 = Int32.ofNat n := by rw [c.1.2.2.2.1 7 (by decide) (by decide) (by decide)]; exact b.2.2.2.1
theorem rst.e6 (c : rst a n μ w p o L m) : m.2.1 65 6 = Int32.ofNat p := c.2.2.1
theorem rst.e8 (c : rst a n μ w p o L m) : m.2.1 65 8 = bw w := c.2.2.2.1
theorem rst.e9 (c : rst a n μ w p o L m) : m.2.1 65 9 = Int32.ofNat o := c.2.2.2.2.1
theorem rst.eL (c : rst a n μ w p o L m) : m.2.1 66 (220 + a) = Int32.ofNat L.length := c.2.2.2.2.2.1
theorem rst.txt (b : BR a n tx μ) (c : rst a n μ w p o L m) {i : Nat} (h : i < n) : m.2.1 66 (110 + i) = tx i := by
  have := b.2.2.2.2.1
  rw [c.1.2.2.2.2 (110 + i) (by omega) (by omega)]; exact b.2.2.2.2.2.1 i h
theorem rst.at (c : rst a n μ w p o L m) {q : Nat} (h : q ≤ n) (hL : L.length ≤ q) : rst a n μ w q o L (wI m 65 6 (Int32.ofNat q)) := by
  obtain ⟨⟨c1, c2, c3, c4, c5⟩, c6, c7, c8, c9, c10, c11⟩ := c
  exact ⟨⟨c1, c2, fun r r1 r2 => (wI_o _ _ _ _ r1).trans (c3 r r1 r2), fun j j1 j2 j3 => (wI_n _ _ _ _ j1).trans (c4 j j1 j2 j3), c5⟩, ⟨h, c6.2.1, hL⟩, wI_e _ _ _ _, (wI_n _ _ _ _ (by decide)).trans c8, (wI_n _ _ _ _ (by decide)).trans c9, c10, c11⟩
theorem rst.fl (c : rst a n μ w p o L m) (v : Bool) : rst a n μ v p o L (wI m 65 8 (bw v)) := by
  obtain ⟨⟨c1, c2, c3, c4, c5⟩, c6, c7, c8, c9, c10, c11⟩ := c
  exact ⟨⟨c1, c2, fun r r1 r2 => (wI_o _ _ _ _ r1).trans (c3 r r1 r2), fun j j1 j2 j3 => (wI_n _ _ _ _ j2).trans (c4 j j1 j2 j3), c5⟩, c6, (wI_n _ _ _ _ (by decide)).trans c7, wI_e _ _ _ _, (wI_n _ _ _ _ (by decide)).trans c9, c10, c11⟩
theorem rst.op (c : rst a n μ w p o L m) {q : Nat} (h : q ≤ 100) : rst a n μ w p q L (wI m 65 9 (Int32.ofNat q)) := by
  obtain ⟨⟨c1, c2, c3, c4, c5⟩, c6, c7, c8, c9, c10, c11⟩ := c
  exact ⟨⟨c1, c2, fun r r1 r2 => (wI_o _ _ _ _ r1).trans (c3 r r1 r2), fun j j1 j2 j3 => (wI_n _ _ _ _ j3).trans (c4 j j1 j2 j3), c5⟩, ⟨c6.1, h, c6.2.2⟩, (wI_n _ _ _ _ (by decide)).trans c7, (wI_n _ _ _ _ (by decide)).trans c8, wI_e _ _ _ _, c10, c11⟩
theorem rst.push (c : rst a n μ w p o L m) (h : L.length + 1 ≤ p) (hn : n ≤ 100) (x : Int32) : rst a n μ w p o (L ++ [x]) (wI (wI m 66 (225 + 140 * a + L.length) x) 66 (220 + a) (Int32.ofNat (L.length + 1))) := by
  obtain ⟨⟨c1, c2, c3, c4, c5⟩, c6, c7, c8, c9, c10, c11⟩ := c
  have e65 : (wI (wI m 66 (225 + 140 * a + L.length) x) 66 (220 + a) (Int32.ofNat (L.length + 1))).2.1 65 = m.2.1 65 := by rw [wI_o _ _ _ _ (by decide), wI_o _ _ _ _ (by decide)]
  refine ⟨⟨c1, c2, fun r r1 r2 => ?_, fun j j1 j2 j3 => ?_, fun k k1 k2 => ?_⟩, ⟨c6.1, c6.2.1, by rw [List.length_append, List.length_singleton]; exact h⟩, by rw [e65]; exact c7, by rw [e65]; exact c8, by rw [e65]; exact c9, ?_, fun i hi => ?_⟩
  · rw [wI_o _ _ _ _ r2, wI_o _ _ _ _ r2]; exact c3 r r1 r2
  · rw [e65]; exact c4 j j1 j2 j3
  · rw [wI_n _ _ _ _ k1, wI_n _ _ _ _ (by omega)]; exact c5 k k1 k2
  · rw [wI_e, List.length_append, List.length_singleton]
  · rw [List.length_append, List.length_singleton] at hi
    rw [wI_n _ _ _ _ (show 225 + 140 * a + i ≠ 220 + a by omega)]
    by_cases e : i = L.length
    · subst e
      rw [wI_e, List.getElem?_append_right (Nat.le_refl _), Nat.sub_self]; rfl
    · rw [wI_n _ _ _ _ (by omega), List.getElem?_append_left (by omega)]
      exact c11 i (by omega)
theorem w_here (b : BR a n tx μ) (c : rst a n μ w p o L m) : gwI (f_X12_here 65 m) (fun x m' => x = pd tx n p ∧ m' = m) := by
  refine gwI_of ?_
  unfold f_X12_here
  have hp := c.2.1.1
  have hn := b.2.2.2.2.1
  have op : (Int32.ofNat p).toInt = p := ofn (by omega)
  have on : (Int32.ofNat n).toInt = n := ofn (by omega)
  have l110 : (110 : Int32).toInt = 110 := rfl
  refine gw_gIw (c.tc b) ?_
  refine gw_gIw (c.tc b) ?_
  rw [c.e6, c.e7 b]
  refine gw_le (fun g => gw_some (gq_I ⟨?_, rfl⟩)) (fun g => ?_)
  · unfold pd; rw [if_neg (by omega)]
  · refine gw_gRa 66 (c.tc b) (c.r1 b) ?_
    refine gw_gIw (c.tc b) ?_
    rw [c.e6]
    have nn : ((110 : Int32) + Int32.ofNat p).toInt = (110 : Int32).toInt + (Int32.ofNat p).toInt := gx_add (by omega) (by omega)
    refine gw_aIw (110 + p) ((c.S b).t (r := 66) rfl) ((c.S b).l (r := 66) rfl) (by omega) (by omega) ?_
    rw [c.txt b (by omega)]
    refine gw_some (gq_I ⟨?_, rfl⟩)
    unfold pd
    rw [if_pos (by omega)]
theorem w_must (b : BR a n tx μ) (c : rst a n μ w p o L m) {x : Int32} (hx : x ≠ -1) : gwV (f_X12_must 65 x m) (fun m' => (w = false ∧ pd tx n p = x ∧ rst a n μ false (p + 1) o L m') ∨ (¬ (w = false ∧ pd tx n p = x) ∧ rst a n μ true p o L m')) := by
  refine gwV_of ?_
  unfold f_X12_must
  have hp := c.2.1
  have hn := b.2.2.2.2.1
  refine gw_gIw (c.tc b) ?_
  rw [c.e8]
  refine gw_j (fun s => s.2 = m ∧ ∃ v : Bool, s.1 = bw v ∧ ((v = false ∧ w = false ∧ pd tx n p = x) ∨ (v = true ∧ ¬ (w = false ∧ pd tx n p = x)))) (fun s ⟨es, v, ev, hv⟩ => ?_) (fun j hj => ?_)
  · obtain ⟨s1, s2⟩ := s
    replace es : s2 = m := es
    replace ev : s1 = bw v := ev
    subst es
    subst ev
    have c1 := c.fl v
    refine gw_pZw (c.tc b) (bw_z v) ?_
    refine gw_gIw (c1.tc b) ?_
    refine gw_gIw (c1.tc b) ?_
    show gw (gm_j _ (fun j8 => if (wI s2 65 8 (bw v)).2.1 65 8 = 0 then _ else _)) _
    rw [c1.e6, c1.e8]
    refine gw_ji ?_
    rcases hv with ⟨ev, h1, h2⟩ | ⟨ev, h1⟩
    · subst ev
      have q : p < n := pd_lt (tx := tx) (by rw [h2]; exact hx)
      rw [if_pos (show bw false = 0 from rfl)]
      refine gw_pIw (c1.tc b) ?_
      rw [ofn1 (by omega)]
      exact gw_some (gq_V (Or.inl ⟨h1, h2, c1.at (by omega) (by omega)⟩))
    · subst ev
      rw [if_neg (by decide)]
      refine gw_pIw (c1.tc b) ?_
      rw [Int32.add_zero]
      exact gw_some (gq_V (Or.inr ⟨h1, c1.at hp.1 hp.2.2⟩))
  · refine gw_j (fun M => M = m ∧ ¬ (w = false ∧ pd tx n p = x)) (fun M ⟨e, h⟩ => hj _ ⟨e, true, rfl, Or.inr ⟨rfl, h⟩⟩) (fun j2 hj2 => ?_)
    cases w with
    | true => rw [if_pos (by decide)]; exact hj2 _ ⟨rfl, fun h => by cases h.1⟩
    | false =>
      rw [if_neg (by decide)]
      refine gw_if (c.t b) ?_
      refine gw_bI (w_here b c) (fun y m' ⟨e1, e2⟩ => ?_)
      subst e2
      refine gw_ite (fun g => hj _ ⟨rfl, false, rfl, Or.inl ⟨rfl, rfl, by rw [← e1]; exact g⟩⟩) (fun g => hj2 _ ⟨rfl, fun h => g (by rw [e1]; exact h.2)⟩)
theorem w_emits (b : BR a n tx μ) (c : rst a n μ w p o L m) (x : Int32) (h : w = false → L.length + 1 ≤ p) : gwV (f_X12_emits 65 x m) (fun m' => (w = false ∧ rst a n μ false p o (L ++ [x]) m') ∨ (w = true ∧ m' = m)) := by
  refine gwV_of ?_
  unfold f_X12_emits
  have hn := b.2.2.2.2.1
  have ha := b.2.1
  have hp := c.2.1
  refine gw_gIw (c.tc b) ?_
  rw [c.e8]
  cases w with
  | true => rw [if_pos (by decide)]; exact gw_some (gq_V (Or.inr ⟨rfl, rfl⟩))
  | false =>
    rw [if_neg (by decide)]
    have hl := h rfl
    have l140 : (140 : Int32).toInt = 140 := rfl
    have l220 : (220 : Int32).toInt = 220 := rfl
    have l225 : (225 : Int32).toInt = 225 := rfl
    have oa : (Int32.ofNat a).toInt = a := ofn (by omega)
    have oL : (Int32.ofNat L.length).toInt = L.length := ofn (by omega)
    have n1 : ((220 : Int32) + Int32.ofNat a).toInt = (220 : Int32).toInt + (Int32.ofNat a).toInt := gx_add (by omega) (by omega)
    have n2 : ((140 : Int32) * Int32.ofNat a).toInt = 140 * (Int32.ofNat a).toInt := gx_mul 140 rfl (by omega) (by omega)
    have n3 : ((225 : Int32) + (140 : Int32) * Int32.ofNat a).toInt = (225 : Int32).toInt + ((140 : Int32) * Int32.ofNat a).toInt := gx_add (by omega) (by omega)
    have n4 : ((225 : Int32) + (140 : Int32) * Int32.ofNat a + Int32.ofNat L.length).toInt = ((225 : Int32) + (140 : Int32) * Int32.ofNat a).toInt + (Int32.ofNat L.length).toInt := gx_add (by omega) (by omega)
    have t66 := (c.S b).t (r := 66) rfl
    have l66 := (c.S b).l (r := 66) rfl
    refine gw_gRa 66 (c.tc b) (c.r1 b) ?_
    refine gw_gIw (c.tc b) ?_
    refine gw_gRa 66 (c.tc b) (c.r1 b) ?_
    refine gw_gIw (c.tc b) ?_
    rw [c.e5 b]
    refine gw_aIw (220 + a) t66 l66 (by omega) (by omega) ?_
    rw [c.eL]
    refine gw_sIw (225 + 140 * a + L.length) t66 l66 (by omega) (by omega) ?_
    have tc2 : [17].contains (gm_tag (wI m 66 (225 + 140 * a + L.length) x) 65) = true := (show [17].contains (gm_tag m 65) = true from c.tc b)
    refine gw_gRa 66 tc2 (show m.2.2 65 1 = 66 from c.r1 b) ?_
    refine gw_gIw tc2 ?_
    rw [wI_o _ _ _ _ (by decide), c.e5 b]
    refine gw_aIw (220 + a) t66 l66 (by omega) (by omega) ?_
    rw [wI_n _ _ _ _ (by omega), c.eL, ofn1 (by omega)]
    refine gw_sIw (220 + a) t66 l66 (by omega) (by omega) ?_
    exact gw_some (gq_V (Or.inl ⟨rfl, c.push hl hn x⟩))
theorem w_among (b : BR a n tx μ) (c : rst a n μ w p o L m) {u : UInt32} (hu : gm_isS u) : gwI (f_X12_among 65 u m) (fun x m' => x = pO u (pd tx n p) ∧ rst a n μ w (if pO u (pd tx n p) = -1 then p else p + 1) o L m') := by
  refine gwI_of ?_
  unfold f_X12_among
  have hp := c.2.1
  have hn := b.2.2.2.2.1
  have l0 : (0 : Int32).toInt = 0 := rfl
  have six := (tx_len (μ := μ) hu).2
  have oL := ofn (k := gm_bn (u + 6)) (by omega)
  refine gw_loop (fun s => s.2 = m ∧ ∃ k : Nat, s.1 = Int32.ofNat k ∧ k ≤ gm_bn (u + 6) ∧ pOi u (pd tx n p) (gm_bn (u + 6) - k) k = pO u (pd tx n p)) (fun s => 6 - s.1.toInt) (fun s hs => ?_) 5000 ((0 : Int32), m) ⟨rfl, 0, rfl, Nat.zero_le _, rfl⟩ (by show 6 - (0 : Int32).toInt < ((5000 : Nat) : Int); omega) (by show 0 ≤ 6 - (0 : Int32).toInt; omega)
  obtain ⟨s1, s2⟩ := s
  obtain ⟨es, k, ek, hk, hO⟩ := hs
  replace es : s2 = m := es
  replace ek : s1 = Int32.ofNat k := ek
  subst es
  subst ek
  have ok := ofn (k := k) (by omega)
  refine gw_if hu ?_
  refine gw_bI (R := fun x m' => m' = s2 ∧ x = Int32.ofNat (gm_bn (u + 6))) ⟨_, _, (tx_len hu).1, rfl, rfl⟩ (fun x m' ⟨z, ex⟩ => ?_)
  subst z
  subst ex
  refine gw_le (fun g => ?_) (fun g => ?_)
  · replace g : (Int32.ofNat (gm_bn (u + 6))).toInt ≤ (Int32.ofNat k).toInt := g
    rw [show gm_bn (u + 6) - k = 0 by omega] at hO
    have e : pO u (pd tx n p) = -1 := hO.symm
    rw [e, if_pos rfl]
    exact gw_some (gs_inr (gq_I ⟨rfl, c⟩))
  · replace g : (Int32.ofNat k).toInt < (Int32.ofNat (gm_bn (u + 6))).toInt := g
    refine gw_if (c.t b) ?_
    refine gw_bI (w_here b c) (fun y m2 ⟨ey, z⟩ => ?_)
    subst z
    refine gw_if hu ?_
    have tc := tx_char (μ := m2) hu (i := Int32.ofNat k) (by omega) (by omega)
    rw [ok, Int.toNat_natCast] at tc
    refine gw_bI (R := fun x m3 => m3 = m2 ∧ x = gm_bb (u + 6) k) ⟨_, _, tc.1, rfl, rfl⟩ (fun x m3 ⟨z, ex⟩ => ?_)
    subst z
    subst ex
    rw [show gm_bn (u + 6) - k = (gm_bn (u + 6) - (k + 1)) + 1 by omega] at hO
    unfold pOi at hO
    refine gw_ite (fun g2 => ?_) (fun g2 => ?_)
    · rw [if_neg (by rw [← ey]; exact g2)] at hO
      refine gw_some (gs_inl ⟨rfl, k + 1, ofn1 (by omega), by omega, hO⟩ ?_ ?_)
      · show 6 - (Int32.ofNat k + 1).toInt < 6 - (Int32.ofNat k).toInt
        rw [ofn1 (by omega), ofn (k := k + 1) (by omega)]; omega
      · show 0 ≤ 6 - (Int32.ofNat k + 1).toInt
        rw [ofn1 (by omega), ofn (k := k + 1) (by omega)]; omega
    · have e2 := Decidable.not_not.mp g2
      rw [if_pos (by rw [← ey]; exact e2)] at hO
      have q : p < n := pd_lt (tx := tx) (fun h => by
        have t2 := tc.2
        rw [← e2, ey, h] at t2
        exact absurd t2 (by decide))
      rw [← hO, if_neg (fun h => by rw [h] at ok; have : (-1 : Int32).toInt = -1 := rfl; omega)]
      refine gw_gIw (c.tc b) ?_
      refine gw_pIw (c.tc b) ?_
      rw [c.e6, ofn1 (by omega)]
      exact gw_some (gs_inr (gq_I ⟨rfl, c.at (by omega) (by omega)⟩))
theorem w_spells (b : BR a n tx μ) (c : rst a n μ w p o L m) {u : UInt32} (hu : gm_isS u) : gwV (f_X12_spells 65 u m) (fun m' => (w = false ∧ rst a n μ (!(pW tx n u (gm_bn (u + 6)) p).1) (pW tx n u (gm_bn (u + 6)) p).2 o L m') ∨ (w = true ∧ rst a n μ true p o L m')) := by
  refine gwV_of ?_
  unfold f_X12_spells
  have hp := c.2.1
  have hn := b.2.2.2.2.1
  have l0 : (0 : Int32).toInt = 0 := rfl
  have six := (tx_len (μ := μ) hu).2
  have oL := ofn (k := gm_bn (u + 6)) (by omega)
  refine gw_loop (fun s => ∃ k q : Nat, ∃ v : Bool, s.1 = Int32.ofNat k ∧ k ≤ gm_bn (u + 6) ∧ rst a n μ v q o L s.2 ∧ ((w = true ∧ v = true ∧ q = p) ∨ (w = false ∧ v = false ∧ pW tx n u (gm_bn (u + 6) - k) q = pW tx n u (gm_bn (u + 6)) p) ∨ (w = false ∧ v = true ∧ pW tx n u (gm_bn (u + 6)) p = (false, q)))) (fun s => 6 - s.1.toInt) (fun s hs => ?_) 5000 ((0 : Int32), m) ⟨0, p, w, rfl, Nat.zero_le _, c, by cases w with | true => exact Or.inl ⟨rfl, rfl, rfl⟩ | false => exact Or.inr (Or.inl ⟨rfl, rfl, rfl⟩)⟩ (by show 6 - (0 : Int32).toInt < ((5000 : Nat) : Int); omega) (by show 0 ≤ 6 - (0 : Int32).toInt; omega)
  obtain ⟨s1, s2⟩ := s
  obtain ⟨k, q, v, ek, hk, c', hv⟩ := hs
  replace ek : s1 = Int32.ofNat k := ek
  replace c' : rst a n μ v q o L s2 := c'
  subst ek
  have ok := ofn (k := k) (by omega)
  refine gw_if hu ?_
  refine gw_bI (R := fun x m' => m' = s2 ∧ x = Int32.ofNat (gm_bn (u + 6))) ⟨_, _, (tx_len hu).1, rfl, rfl⟩ (fun x m' ⟨z, ex⟩ => ?_)
  subst z
  subst ex
  refine gw_le (fun g => ?_) (fun g => ?_)
  · replace g : (Int32.ofNat (gm_bn (u + 6))).toInt ≤ (Int32.ofNat k).toInt := g
    refine gw_some (gs_inr (gq_V ?_))
    rcases hv with ⟨h1, h2, h3⟩ | ⟨h1, h2, h3⟩ | ⟨h1, h2, h3⟩
    · subst h2; subst h3; exact Or.inr ⟨h1, c'⟩
    · rw [show gm_bn (u + 6) - k = 0 by omega] at h3
      rw [← h3]
      subst h2
      exact Or.inl ⟨h1, c'⟩
    · rw [h3]
      subst h2
      exact Or.inl ⟨h1, c'⟩
  · replace g : (Int32.ofNat k).toInt < (Int32.ofNat (gm_bn (u + 6))).toInt := g
    refine gw_if hu ?_
    have tc := tx_char (μ := m') hu (i := Int32.ofNat k) (by omega) (by omega)
    rw [ok, Int.toNat_natCast] at tc
    refine gw_bI (R := fun x m3 => m3 = m' ∧ x = gm_bb (u + 6) k) ⟨_, _, tc.1, rfl, rfl⟩ (fun x m3 ⟨z, ex⟩ => ?_)
    subst z
    subst ex
    refine gw_if (c'.t b) ?_
    have hms : (6 - (Int32.ofNat k + 1).toInt < 6 - (Int32.ofNat k).toInt) ∧ 0 ≤ 6 - (Int32.ofNat k + 1).toInt := by
      rw [ofn1 (by omega), ofn (k := k + 1) (by omega)]; omega
    refine gw_bV (w_must b c' (x := gm_bb (u + 6) k) (fun h => by have t2 := tc.2; rw [h] at t2; exact absurd t2 (by decide))) (fun m4 h4 => ?_)
    rcases h4 with ⟨e1, e2, c4⟩ | ⟨e1, c4⟩
    · subst e1
      rcases hv with ⟨h1, h2, h3⟩ | ⟨h1, h2, h3⟩ | ⟨h1, h2, h3⟩
      · cases h2
      · refine gw_some (gs_inl ⟨k + 1, q + 1, false, ofn1 (by omega), by omega, c4, Or.inr (Or.inl ⟨h1, rfl, ?_⟩)⟩ hms.1 hms.2)
        rw [show gm_bn (u + 6) - k = (gm_bn (u + 6) - (k + 1)) + 1 by omega, pW, show gm_bn (u + 6) - (gm_bn (u + 6) - (k + 1) + 1) = k by omega, if_pos e2] at h3
        exact h3
      · cases h2
    · refine gw_some (gs_inl ⟨k + 1, q, true, ofn1 (by omega), by omega, c4, ?_⟩ hms.1 hms.2)
      rcases hv with ⟨h1, h2, h3⟩ | ⟨h1, h2, h3⟩ | ⟨h1, h2, h3⟩
      · exact Or.inl ⟨h1, rfl, h3⟩
      · refine Or.inr (Or.inr ⟨h1, rfl, ?_⟩)
        rw [show gm_bn (u + 6) - k = (gm_bn (u + 6) - (k + 1)) + 1 by omega, pW, show gm_bn (u + 6) - (gm_bn (u + 6) - (k + 1) + 1) = k by omega, if_neg (fun h => e1 ⟨h2, h⟩)] at h3
        exact h3.symm
      · exact Or.inr (Or.inr ⟨h1, rfl, h3⟩)
end
end
section
section
variable {a n p o : Nat} {tx : Nat → Int32} {μ m : gm_M} {w : Bool} {L : List Int32}
theorem dg_in {x r : Int32} (h : (r.toInt = 1 ∧ (48 : Int32).toInt ≤ x.toInt ∧ x.toInt ≤ (57 : Int32).toInt) ∨ (r.toInt = 0 ∧ (x.toInt < (48 : Int32).toInt ∨ (57 : Int32).toInt < x.toInt))) : (r ≠ 0 ∧ dg x = true) ∨ (r = 0 ∧ dg x = false) := by
  have l48 : (48 : Int32).toInt = 48 := rfl
  have l57 : (57 : Int32).toInt = 57 := rfl
  have l0 : (0 : Int32).toInt = 0 := rfl
  rcases h with ⟨h1, h2⟩ | ⟨h1, h2⟩
  · exact Or.inl ⟨fun e => by rw [e] at h1; omega, decide_eq_true (by omega)⟩
  · exact Or.inr ⟨Int32.toInt_inj.mp (by omega), decide_eq_false (by omega)⟩
theorem w_figs (b : BR a n tx μ) (c : rst a n μ w p o L m) : gwI (f_X12_figures 65 m) (fun x m' => (w = false ∧ rst a n μ (!(pN tx n p).1) (pN tx n p).2.1 o L m' ∧ ((pN tx n p).1 = true → x = (pN tx n p).2.2)) ∨ (w = true ∧ rst a n μ true p o L m')) := by
  refine gwI_of ?_
  unfold f_X12_figures
  have hp := c.2.1
  have hn := b.2.2.2.2.1
  have l0 : (0 : Int32).toInt = 0 := rfl
  have l1 : (1 : Int32).toInt = 1 := rfl
  have l2 : (2 : Int32).toInt = 2 := rfl
  refine gw_gIw (c.tc b) ?_
  rw [c.e8]
  refine gw_j (fun s => s.2 = m ∧ ∃ v : Bool, s.1 = bw v ∧ v = (w || !(dg (pd tx n p)))) (fun s ⟨es, v, ev, hv⟩ => ?_) (fun j hj => ?_)
  · obtain ⟨s1, s2⟩ := s
    replace es : s2 = m := es
    replace ev : s1 = bw v := ev
    subst es
    subst ev
    have c1 := c.fl v
    refine gw_pZw (c.tc b) (bw_z v) ?_
    have fin : ∀ (q : Nat) (x : Int32) (M : gm_M), w = false → rst a n μ false q o L M → pN tx n p = (true, q, x) → gw (some (Sum.inr (some (.int x), M)) : Option ((Int32 × Int32 × gm_M) ⊕ (Option Value × gm_M))) (fun b => match b with | .inl _ => False | .inr b => gqI (fun x m' => (w = false ∧ rst a n μ (!(pN tx n p).1) (pN tx n p).2.1 o L m' ∧ ((pN tx n p).1 = true → x = (pN tx n p).2.2)) ∨ (w = true ∧ rst a n μ true p o L m')) b) := fun q x M hw hr e => gw_some (gq_I (Or.inl ⟨hw, by rw [e]; exact hr, fun _ => by rw [e]⟩))
    refine gw_loop (fun t : Int32 × Int32 × gm_M => (t.2.1 = 0 ∧ t.1 = 0 ∧ rst a n μ v p o L t.2.2) ∨ (t.2.1 = 1 ∧ v = false ∧ t.1 = pd tx n p - 48 ∧ rst a n μ false (p + 1) o L t.2.2) ∨ (t.2.1 = 2 ∧ v = false ∧ ∃ q : Nat, pN tx n p = (true, q, t.1) ∧ rst a n μ false q o L t.2.2)) (fun t => 2 - t.2.1.toInt) (fun t ht => ?_) 5000 ((0 : Int32), (0 : Int32), wI s2 65 8 (bw v)) (Or.inl ⟨rfl, rfl, c1⟩) (by show 2 - (0 : Int32).toInt < ((5000 : Nat) : Int); omega) (by show 0 ≤ 2 - (0 : Int32).toInt; omega)
    obtain ⟨t1, t2, t3⟩ := t
    have wf : v = false → w = false ∧ dg (pd tx n p) = true := fun e => by
      rw [e] at hv
      cases w with
      | true => cases hv
      | false =>
        refine ⟨rfl, ?_⟩
        cases h : dg (pd tx n p) with
        | true => rfl
        | false => rw [h] at hv; cases hv
    rcases ht with ⟨h1, h2, h3⟩ | ⟨h1, h2, h3, h4⟩ | ⟨h1, h2, q, h3, h4⟩
    · replace h1 : t2 = 0 := h1
      replace h2 : t1 = 0 := h2
      replace h3 : rst a n μ v p o L t3 := h3
      subst h1
      subst h2
      refine gw_le (fun g => absurd (show (2 : Int32).toInt ≤ (0 : Int32).toInt from g) (by decide)) (fun _ => ?_)
      refine gw_gIw (h3.tc b) ?_
      show gw (if t3.2.1 65 8 ≠ 0 then _ else _) _
      rw [h3.e8]
      cases v with
      | true =>
        rw [if_pos (by decide)]
        refine gw_some (gs_inr (gq_I ?_))
        cases w with
        | true => exact Or.inr ⟨rfl, h3⟩
        | false =>
          have e : dg (pd tx n p) = false := by
            cases h : dg (pd tx n p) with
            | false => rfl
            | true => rw [h] at hv; cases hv
          have eN : pN tx n p = (false, p, -1) := by unfold pN; rw [if_neg (by rw [e]; decide)]
          rw [eN]
          exact Or.inl ⟨rfl, h3, fun q => by cases q⟩
      | false =>
        obtain ⟨hw, hd⟩ := wf rfl
        rw [if_neg (by decide)]
        have q : p < n := pd_lt (tx := tx) (fun e => by rw [e] at hd; exact absurd hd (by decide))
        refine gw_if (h3.t b) ?_
        refine gw_bI (w_here b h3) (fun x m' ⟨e1, e2⟩ => ?_)
        subst e2
        refine gw_bI s_X12_in (fun r m' ⟨z, f⟩ => ?_)
        subst z
        rcases dg_in f with ⟨f1, f2⟩ | ⟨f1, f2⟩
        · rw [if_neg f1]
          refine gw_ji ?_
          rw [if_pos rfl]
          refine gw_if (h3.t b) ?_
          refine gw_bI (w_here b h3) (fun y m'' ⟨e3, e4⟩ => ?_)
          subst e4
          refine gw_gIw (h3.tc b) ?_
          refine gw_pIw (h3.tc b) ?_
          rw [h3.e6, ofn1 (by omega)]
          refine gw_some (gs_inl (Or.inr (Or.inl ⟨rfl, rfl, ?_, h3.at (by omega) (by omega)⟩)) (by show 2 - ((0 : Int32) + 1).toInt < 2 - (0 : Int32).toInt; decide) (by show 0 ≤ 2 - ((0 : Int32) + 1).toInt; decide))
          show (10 * 0 + y) - 48 = pd tx n p - 48
          rw [e3, Int32.mul_zero, Int32.zero_add]
        · rw [← e1, f2] at hd; cases hd
    · replace h1 : t2 = 1 := h1
      replace h3 : t1 = pd tx n p - 48 := h3
      replace h4 : rst a n μ false (p + 1) o L t3 := h4
      subst h1
      obtain ⟨hw, hd⟩ := wf h2
      have d1 := of_decide_eq_true hd
      refine gw_le (fun g => absurd (show (2 : Int32).toInt ≤ (1 : Int32).toInt from g) (by decide)) (fun _ => ?_)
      refine gw_gIw (h4.tc b) ?_
      show gw (if t3.2.1 65 8 ≠ 0 then _ else _) _
      rw [h4.e8, if_neg (by decide)]
      refine gw_if (h4.t b) ?_
      refine gw_bI (w_here b h4) (fun x m' ⟨e1, e2⟩ => ?_)
      subst e2
      refine gw_bI s_X12_in (fun r m' ⟨z, f⟩ => ?_)
      subst z
      have l48 : (48 : Int32).toInt = 48 := rfl
      have s1 : (pd tx n p - 48).toInt = (pd tx n p).toInt - (48 : Int32).toInt := gx_sub (by omega) (by omega)
      have one : (pd tx n p = 48 ∨ dg (pd tx n (p + 1)) = false) → pN tx n p = (true, p + 1, t1) := fun h => by
        unfold pN; rw [if_pos hd, if_pos h, h3]
      rcases dg_in f with ⟨f1, f2⟩ | ⟨f1, f2⟩
      · rw [if_neg f1]
        refine gw_ji ?_
        rw [if_neg (show ¬ (t1, (1 : Int32), m').2.1 = 0 from (by decide : ¬ (1 : Int32) = 0))]
        have q2 : p + 1 < n := pd_lt (tx := tx) (fun e => by rw [← e1] at e; rw [e] at f2; exact absurd f2 (by decide))
        refine gw_le (fun g => ?_) (fun g => ?_)
        · replace g : t1.toInt ≤ (0 : Int32).toInt := g
          have e48 : pd tx n p = 48 := Int32.toInt_inj.mp (by rw [h3] at g; omega)
          have e := one (Or.inl e48)
          exact gw_some (gs_inr (gq_I (Or.inl ⟨hw, by rw [e]; exact h4, fun _ => by rw [e]⟩)))
        · replace g : (0 : Int32).toInt < t1.toInt := g
          refine gw_if (h4.t b) ?_
          refine gw_bI (w_here b h4) (fun y m'' ⟨e3, e4⟩ => ?_)
          subst e4
          refine gw_gIw (h4.tc b) ?_
          refine gw_pIw (h4.tc b) ?_
          rw [h4.e6, ofn1 (by omega)]
          refine gw_some (gs_inl (Or.inr (Or.inr ⟨rfl, h2, p + 2, ?_, h4.at (by omega) (by omega)⟩)) (by show 2 - ((1 : Int32) + 1).toInt < 2 - (1 : Int32).toInt; decide) (by show 0 ≤ 2 - ((1 : Int32) + 1).toInt; decide))
          unfold pN
          rw [if_pos hd, if_neg]
          · show _ = (true, p + 2, (10 * t1 + y) - 48)
            rw [e3, h3]
          · intro h
            rcases h with h | h
            · rw [h3, h] at g; exact absurd g (by decide)
            · rw [← e1, f2] at h; cases h
      · rw [if_pos f1]
        have e := one (Or.inr (by rw [← e1]; exact f2))
        exact gw_some (gs_inr (gq_I (Or.inl ⟨hw, by rw [e]; exact h4, fun _ => by rw [e]⟩)))
    · replace h1 : t2 = 2 := h1
      replace h3 : pN tx n p = (true, q, t1) := h3
      replace h4 : rst a n μ false q o L t3 := h4
      subst h1
      refine gw_le (fun _ => ?_) (fun g => absurd (show (2 : Int32).toInt < (2 : Int32).toInt from g) (by decide))
      exact gw_some (gs_inr (gq_I (Or.inl ⟨(wf h2).1, by rw [h3]; exact h4, fun _ => by rw [h3]⟩)))
  · refine gw_j (fun M => M = m ∧ (w || !(dg (pd tx n p))) = true) (fun M ⟨e, h⟩ => hj _ ⟨e, true, rfl, h.symm⟩) (fun j2 hj2 => ?_)
    cases w with
    | true => rw [if_pos (by decide)]; exact hj2 _ ⟨rfl, rfl⟩
    | false =>
      rw [if_neg (by decide)]
      refine gw_if (c.t b) ?_
      refine gw_bI (w_here b c) (fun x m' ⟨e1, e2⟩ => ?_)
      subst e2
      refine gw_bI s_X12_in (fun r m' ⟨z, f⟩ => ?_)
      subst z
      rcases dg_in f with ⟨f1, f2⟩ | ⟨f1, f2⟩
      · rw [if_pos f1]
        exact hj _ ⟨rfl, false, rfl, by rw [← e1, f2]; rfl⟩
      · rw [if_neg (fun h => h f1)]
        exact hj2 _ ⟨rfl, by rw [← e1, f2]; rfl⟩
/-- how a piece of E ends -/
def ro (a n : Nat) (μ : gm_M) (o : Nat) (L : List Int32) (r : pA) (m : gm_M) : Prop := (r.1 = true ∧ rst a n μ false r.2.1 o (L ++ r.2.2) m) ∨ (r.1 = false ∧ ∃ L' : List Int32, rst a n μ true r.2.1 o L' m)
def WF (a n : Nat) (μ : gm_M) (G : Nat → gm_M → Option (Option Value × gm_M)) (o : Nat) (F : Nat → pA) : Prop := ∀ {p : Nat} {L : List Int32} {m : gm_M}, rst a n μ false p o L m → gwV (G 65 m) (fun m' => ro a n μ o L (F p) m')
def WW (a n : Nat) (μ : gm_M) (G : Nat → gm_M → Option (Option Value × gm_M)) : Prop := ∀ {p o : Nat} {L : List Int32} {m : gm_M}, rst a n μ true p o L m → gwV (G 65 m) (fun m' => rst a n μ true p o L m')
/-- a row of factors, so far -/
def rc (tx : Nat → Int32) (n : Nat) (F : Nat → pA) (fu p : Nat) (L : List Int32) (fu' p' : Nat) (L' : List Int32) : Prop := (pS tx n F fu p).1 = (pS tx n F fu' p').1 ∧ (pS tx n F fu p).2.1 = (pS tx n F fu' p').2.1 ∧ ∀ w : Bool, L ++ pC w (pS tx n F fu p).2.2 = L' ++ pC w (pS tx n F fu' p').2.2
def re (a n : Nat) (tx : Nat → Int32) (μ : gm_M) (o : Nat) (F : Nat → pA) (fu p : Nat) (L : List Int32) (m : gm_M) : Prop := ((pS tx n F fu p).1 = false ∧ ∃ L' : List Int32, rst a n μ true (pS tx n F fu p).2.1 o L' m) ∨ ∃ (fu' p' : Nat) (L' : List Int32), rst a n μ false p' o L' m ∧ 101 ≤ fu' + p' ∧ pd tx n p' ≠ 38 ∧ rc tx n F fu p L fu' p' L' ∧ p ≤ p' ∧ L'.length + p ≤ L.length + p'
def WE (a n : Nat) (tx : Nat → Int32) (μ : gm_M) (G : Nat → gm_M → Option (Option Value × gm_M)) (o : Nat) (F : Nat → pA) : Prop := ∀ {p : Nat} {L : List Int32} {m : gm_M} (fu : Nat), rst a n μ false p o L m → 101 ≤ fu + (F p).2.1 → gwV (G 65 m) (fun m' => ((F p).1 = false ∧ ∃ L' : List Int32, rst a n μ true (F p).2.1 o L' m') ∨ ((F p).1 = true ∧ re a n tx μ o F fu (F p).2.1 (L ++ (F p).2.2) m'))
theorem w_every (b : BR a n tx μ) {R0 R1 R2 : Nat → gm_M → Option (Option Value × gm_M)} {F : Nat → pA} (hR : WF a n μ R1 o F) (hF : ∀ p, p ≤ n → pG n p (F p)) : WE a n tx μ (b_X12_every R0 R1 R2) o F := by
  have hn := b.2.2.2.2.1
  · intro p L m fu c hfu
    refine gwV_of ?_
    unfold b_X12_every
    have F0 := hF p c.2.1.1
    have hL := c.2.1.2.2
    refine gw_if (c.t b) ?_
    refine gw_bV (hR c) (fun m1 h1 => ?_)
    rcases h1 with ⟨f1, c1⟩ | ⟨f1, L', c1⟩
    · generalize hI : (fun s : gm_M => ((pS tx n F fu (F p).2.1).1 = false ∧ ∃ L' : List Int32, rst a n μ true (pS tx n F fu (F p).2.1).2.1 o L' s) ∨ ∃ (fu' p' : Nat) (L' : List Int32), rst a n μ false p' o L' s ∧ 101 ≤ fu' + p' ∧ rc tx n F fu (F p).2.1 (L ++ (F p).2.2) fu' p' L' ∧ (F p).2.1 ≤ p' ∧ L'.length + (F p).2.1 ≤ (L ++ (F p).2.2).length + p') = I
      refine gw_loop I (fun s => 200 - (s.2.1 65 6).toInt + 200 - 200 * (s.2.1 65 8).toInt) (fun s hs => ?_) 5000 m1 ?_ ?_ ?_
      · rw [← hI] at hs
        rcases hs with ⟨k1, L', k2⟩ | ⟨fu', p', L', k1, k2, k3, k4, k5⟩
        · replace k2 : rst a n μ true (pS tx n F fu (F p).2.1).2.1 o L' s := k2
          refine gw_gIw (k2.tc b) ?_
          rw [k2.e8, if_pos (by decide)]
          exact gw_some (gs_inr (gq_V (Or.inr ⟨f1, Or.inl ⟨k1, L', k2⟩⟩)))
        · replace k1 : rst a n μ false p' o L' s := k1
          refine gw_gIw (k1.tc b) ?_
          rw [k1.e8, if_neg (by decide)]
          refine gw_if (k1.t b) ?_
          refine gw_bI (w_here b k1) (fun x m' ⟨e1, e2⟩ => ?_)
          subst e2
          refine gw_ite (fun g => ?_) (fun g => ?_)
          · exact gw_some (gs_inr (gq_V (Or.inr ⟨f1, Or.inr ⟨fu', p', L', k1, k2, by rw [← e1]; exact g, k3, k4, k5⟩⟩)))
          · have e38 : pd tx n p' = 38 := by rw [← e1]; exact Decidable.not_not.mp g
            have q : p' < n := pd_lt (tx := tx) (by rw [e38]; decide)
            have hL' := k1.2.1.2.2
            obtain ⟨fv, rfl⟩ : ∃ fv, fu' = fv + 1 := ⟨fu' - 1, by omega⟩
            refine gw_gIw (k1.tc b) ?_
            refine gw_pIw (k1.tc b) ?_
            rw [k1.e6, ofn1 (by omega)]
            have c2 := k1.at (q := p' + 1) (by omega) (by omega)
            have o6 := k1.e6
            have o8 := k1.e8
            have G := hF (p' + 1) q
            refine gw_if (c2.t b) ?_
            refine gw_bV (hR c2) (fun m9 h9 => ?_)
            rcases h9 with ⟨f2, c9⟩ | ⟨f2, L2, c9⟩
            · obtain ⟨G1, G2, G3⟩ := G
              obtain ⟨G4, G5⟩ := G3 f2
              have e1 := pS_ok (tx := tx) (fu := fv) (Or.inl e38) f2
              rw [show decide (pd tx n p' = 124) = false from decide_eq_false (by rw [e38]; decide)] at e1
              refine gw_if (c9.t b) ?_
              refine gw_bV (w_emits b c9 (-2) (fun _ => by rw [List.length_append]; omega)) (fun m11 h11 => ?_)
              rcases h11 with ⟨-, c11⟩ | ⟨h, -⟩
              · have o6' := c11.e6
                have o8' := c11.e8
                have of1 := ofn (k := p') (by omega)
                have of2 := ofn (k := (F (p' + 1)).2.1) (by omega)
                refine gw_some (gs_inl ?_ ?_ ?_)
                · rw [← hI]
                  refine Or.inr ⟨fv, (F (p' + 1)).2.1, _, c11, by omega, ?_, by omega, by rw [List.length_append, List.length_append, List.length_singleton]; omega⟩
                  obtain ⟨r1, r2, r3⟩ := k3
                  refine ⟨by rw [r1, e1], by rw [r2, e1], fun v => ?_⟩
                  rw [r3 v, e1]
                  show L' ++ ((F (p' + 1)).2.2 ++ ((-2 : Int32) :: pC v (pS tx n F fv (F (p' + 1)).2.1).2.2)) = L' ++ (F (p' + 1)).2.2 ++ [-2] ++ pC v (pS tx n F fv (F (p' + 1)).2.1).2.2
                  rw [List.append_assoc, List.append_assoc]; rfl
                · show 200 - (m11.2.1 65 6).toInt + 200 - 200 * (m11.2.1 65 8).toInt < 200 - (m'.2.1 65 6).toInt + 200 - 200 * (m'.2.1 65 8).toInt
                  rw [o6', o8', o6, o8, of1, of2]; omega
                · show 0 ≤ 200 - (m11.2.1 65 6).toInt + 200 - 200 * (m11.2.1 65 8).toInt
                  rw [o6', o8', of2]
                  have : (bw false).toInt = 0 := rfl
                  omega
              · cases h
            · have e1 := pS_no (tx := tx) (fu := fv) (Or.inl e38) f2
              refine gw_if (c9.t b) ?_
              refine gw_bV (w_emits b c9 (-2) (fun h => by cases h)) (fun m11 h11 => ?_)
              rcases h11 with ⟨h, -⟩ | ⟨-, h⟩
              · cases h
              · subst h
                have o6' := c9.e6
                have o8' := c9.e8
                have of1 := ofn (k := p') (by omega)
                have of2 := ofn (k := (F (p' + 1)).2.1) (by have := c9.2.1.1; omega)
                have b0 : (bw false).toInt = 0 := rfl
                have b1 : (bw true).toInt = 1 := rfl
                have := c9.2.1.1
                refine gw_some (gs_inl ?_ ?_ ?_)
                · rw [← hI]
                  obtain ⟨r1, r2, r3⟩ := k3
                  exact Or.inl ⟨by rw [r1, e1], L2, by rw [r2, e1]; exact c9⟩
                · show 200 - (m11.2.1 65 6).toInt + 200 - 200 * (m11.2.1 65 8).toInt < 200 - (m'.2.1 65 6).toInt + 200 - 200 * (m'.2.1 65 8).toInt
                  rw [o6', o8', o6, o8, of1, of2]; omega
                · show 0 ≤ 200 - (m11.2.1 65 6).toInt + 200 - 200 * (m11.2.1 65 8).toInt
                  rw [o6', o8', of2]; omega
      · rw [← hI]
        exact Or.inr ⟨fu, (F p).2.1, _, c1, hfu, ⟨rfl, rfl, fun _ => rfl⟩, Nat.le_refl _, Nat.le_refl _⟩
      · show 200 - (m1.2.1 65 6).toInt + 200 - 200 * (m1.2.1 65 8).toInt < ((5000 : Nat) : Int)
        have := c1.2.1.1
        have b0 : (bw false).toInt = 0 := rfl
        rw [c1.e6, c1.e8, ofn (k := (F p).2.1) (by omega)]; omega
      · show 0 ≤ 200 - (m1.2.1 65 6).toInt + 200 - 200 * (m1.2.1 65 8).toInt
        have := c1.2.1.1
        have b0 : (bw false).toInt = 0 := rfl
        rw [c1.e6, c1.e8, ofn (k := (F p).2.1) (by omega)]; omega
    · -- wrong at once
      refine gw_loop (fun s => s = m1) (fun _ => 0) (fun s hs => ?_) 5000 m1 rfl (by decide) (by decide)
      subst hs
      refine gw_gIw (c1.tc b) ?_
      rw [c1.e8, if_pos (by decide)]
      exact gw_some (gs_inr (gq_V (Or.inl ⟨f1, L', c1⟩)))
theorem w_every_w (b : BR a n tx μ) {R0 R1 R2 : Nat → gm_M → Option (Option Value × gm_M)} (hW : WW a n μ R1) : WW a n μ (b_X12_every R0 R1 R2) := by
  · intro p o L m c
    refine gwV_of ?_
    unfold b_X12_every
    refine gw_if (c.t b) ?_
    refine gw_bV (hW c) (fun m1 c1 => ?_)
    refine gw_loop (fun s => s = m1) (fun _ => 0) (fun s hs => ?_) 5000 m1 rfl (by decide) (by decide)
    subst hs
    refine gw_gIw (c1.tc b) ?_
    rw [c1.e8, if_pos (by decide)]
    exact gw_some (gs_inr (gq_V c1))
theorem pC_flip {F : Nat → pA} {fu : Nat} (h : pd tx n p ≠ 38) : pC true (pS tx n F fu p).2.2 = -3 :: pC false (pS tx n F fu p).2.2 := by
  cases fu with
  | zero => rfl
  | succ fv =>
    by_cases h2 : pd tx n p = 124
    · cases f : (F (p + 1)).1 with
      | true =>
        rw [pS_ok (Or.inr h2) f, show decide (pd tx n p = 124) = true from decide_eq_true h2]
        rfl
      | false => rw [pS_no (Or.inr h2) f]; rfl
    · rw [pS_end h h2]; rfl
theorem w_some (b : BR a n tx μ) {R0 R1 R2 : Nat → gm_M → Option (Option Value × gm_M)} {F : Nat → pA} (hR : WE a n tx μ R0 o F) (hF : ∀ p, p ≤ n → pG n p (F p)) : WF a n μ (b_X12_some R0 R1 R2) o (pE tx n F) := by
  have hn := b.2.2.2.2.1
  have b0 : (bw false).toInt = 0 := rfl
  have b1 : (bw true).toInt = 1 := rfl
  · intro p L m c
    refine gwV_of ?_
    unfold b_X12_some
    have F0 := hF p c.2.1.1
    have hL := c.2.1.2.2
    refine gw_if (c.t b) ?_
    refine gw_bV (hR (101 - (F p).2.1) c (by omega)) (fun m1 h1 => ?_)
    rcases h1 with ⟨f1, L', c1⟩ | ⟨f1, h1⟩
    · have eE : pE tx n F p = (false, (F p).2.1, []) := by unfold pE; rw [if_neg (by rw [f1]; decide)]
      refine gw_loop (fun s => s = m1) (fun _ => 0) (fun s hs => ?_) 5000 m1 rfl (by decide) (by decide)
      subst hs
      refine gw_gIw (c1.tc b) ?_
      rw [c1.e8, if_pos (by decide)]
      exact gw_some (gs_inr (gq_V (Or.inr ⟨by rw [eE], L', by rw [eE]; exact c1⟩)))
    · have eE : pE tx n F p = ((pS tx n F (101 - (F p).2.1) (F p).2.1).1, (pS tx n F (101 - (F p).2.1) (F p).2.1).2.1, (F p).2.2 ++ pC false (pS tx n F (101 - (F p).2.1) (F p).2.1).2.2) := by unfold pE; rw [if_pos f1]
      -- how it stands ahead of a |
      generalize hI : (fun s : gm_M => ((pE tx n F p).1 = false ∧ ∃ L' : List Int32, rst a n μ true (pE tx n F p).2.1 o L' s) ∨ ∃ (fu' p' : Nat) (L' : List Int32), rst a n μ false p' o L' s ∧ 101 ≤ fu' + p' ∧ pd tx n p' ≠ 38 ∧ (pE tx n F p).1 = (pS tx n F fu' p').1 ∧ (pE tx n F p).2.1 = (pS tx n F fu' p').2.1 ∧ L ++ (pE tx n F p).2.2 = L' ++ pC false (pS tx n F fu' p').2.2) = I
      have h0 : I m1 := by
        rw [← hI]
        rcases h1 with ⟨k1, L', k2⟩ | ⟨fu', p', L', k1, k2, k3, ⟨r1, r2, r3⟩, -, -⟩
        · exact Or.inl ⟨by rw [eE]; exact k1, L', by rw [eE]; exact k2⟩
        · exact Or.inr ⟨fu', p', L', k1, k2, k3, by rw [eE]; exact r1, by rw [eE]; exact r2, by rw [eE, ← r3 false, List.append_assoc]⟩
      have hb : ∀ s, I s → 0 ≤ 200 - (s.2.1 65 6).toInt + 200 - 200 * (s.2.1 65 8).toInt ∧ 200 - (s.2.1 65 6).toInt + 200 - 200 * (s.2.1 65 8).toInt < 5000 := fun s hs => by
        rw [← hI] at hs
        rcases hs with ⟨k1, L', k2⟩ | ⟨fu', p', L', k1, -⟩
        · replace k2 : rst a n μ true (pE tx n F p).2.1 o L' s := k2
          have := k2.2.1.1
          rw [k2.e6, k2.e8, ofn (k := (pE tx n F p).2.1) (by omega)]; omega
        · replace k1 : rst a n μ false p' o L' s := k1
          have := k1.2.1.1
          rw [k1.e6, k1.e8, ofn (k := p') (by omega)]; omega
      refine gw_loop I (fun s => 200 - (s.2.1 65 6).toInt + 200 - 200 * (s.2.1 65 8).toInt) (fun s hs => ?_) 5000 m1 h0 (hb m1 h0).2 (hb m1 h0).1
      have hs' := hs
      rw [← hI] at hs
      rcases hs with ⟨k1, L', k2⟩ | ⟨fu', p', L', k1, k2, k3, r1, r2, r3⟩
      · replace k2 : rst a n μ true (pE tx n F p).2.1 o L' s := k2
        refine gw_gIw (k2.tc b) ?_
        rw [k2.e8, if_pos (by decide)]
        exact gw_some (gs_inr (gq_V (Or.inr ⟨k1, L', k2⟩)))
      · replace k1 : rst a n μ false p' o L' s := k1
        refine gw_gIw (k1.tc b) ?_
        rw [k1.e8, if_neg (by decide)]
        refine gw_if (k1.t b) ?_
        refine gw_bI (w_here b k1) (fun x m' ⟨e1, e2⟩ => ?_)
        subst e2
        refine gw_ite (fun g => ?_) (fun g => ?_)
        · have e := pS_end (F := F) k3 (by rw [← e1]; exact g) fu'
          rw [e] at r1 r2 r3
          refine gw_some (gs_inr (gq_V (Or.inl ⟨r1, ?_⟩)))
          rw [r2, r3]
          show rst a n μ false p' o (L' ++ ([] : List Int32)) m'
          rw [List.append_nil]; exact k1
        · have e124 : pd tx n p' = 124 := by rw [← e1]; exact Decidable.not_not.mp g
          have q : p' < n := pd_lt (tx := tx) (by rw [e124]; decide)
          have hL' := k1.2.1.2.2
          obtain ⟨fv, rfl⟩ : ∃ fv, fu' = fv + 1 := ⟨fu' - 1, by omega⟩
          refine gw_gIw (k1.tc b) ?_
          refine gw_pIw (k1.tc b) ?_
          rw [k1.e6, ofn1 (by omega)]
          have c2 := k1.at (q := p' + 1) (by omega) (by omega)
          have o6 := k1.e6
          have o8 := k1.e8
          obtain ⟨G1, G2, G3⟩ := hF (p' + 1) q
          have of1 := ofn (k := p') (by omega)
          have of2 := ofn (k := (F (p' + 1)).2.1) (by omega)
          refine gw_if (c2.t b) ?_
          refine gw_bV (hR fv c2 (by omega)) (fun m9 h9 => ?_)
          -- ends that are wrong
          have bad : ∀ (q : Nat) (L2 : List Int32), p' ≤ q → (pE tx n F p).1 = false → (pE tx n F p).2.1 = q → rst a n μ true q o L2 m9 → gw (if gm_tag m9 65 = 17 then gm_bV (f_X12_emits 65 (-3 : Int32) m9) (fun m11 => some (Sum.inl m11)) else none) (gs_st I (fun s => 200 - (s.2.1 65 6).toInt + 200 - 200 * (s.2.1 65 8).toInt) m' (gqV (fun m' => ro a n μ o L (pE tx n F p) m'))) := fun q L2 hq z1 z2 z3 => by
            have z4 := z3.2.1.1
            refine gw_if (z3.t b) ?_
            refine gw_bV (w_emits b z3 (-3) (fun h => by cases h)) (fun m11 h11 => ?_)
            rcases h11 with ⟨h, -⟩ | ⟨-, h⟩
            · cases h
            · subst h
              have hh : I m11 := by rw [← hI]; exact Or.inl ⟨z1, L2, by rw [z2]; exact z3⟩
              refine gw_some (gs_inl hh ?_ (hb m11 hh).1)
              show 200 - (m11.2.1 65 6).toInt + 200 - 200 * (m11.2.1 65 8).toInt < 200 - (m'.2.1 65 6).toInt + 200 - 200 * (m'.2.1 65 8).toInt
              rw [z3.e6, z3.e8, o6, o8, of1, ofn (k := q) (by omega)]; omega
          rcases h9 with ⟨f2, L2, c9⟩ | ⟨f2, h9⟩
          · have e1 := pS_no (tx := tx) (fu := fv) (Or.inr e124) f2
            exact bad _ L2 (by omega) (by rw [r1, e1]) (by rw [r2, e1]) c9
          · obtain ⟨G4, G5⟩ := G3 f2
            have e1 := pS_ok (tx := tx) (fu := fv) (Or.inr e124) f2
            rw [show decide (pd tx n p' = 124) = true from decide_eq_true e124] at e1
            rcases h9 with ⟨j1, L2, j2⟩ | ⟨fu2, p2, L2, j1, j2, j3, ⟨q1, q2, q3⟩, j5, j6⟩
            · have := (pS_g (tx := tx) hF fv (F (p' + 1)).2.1 G2).1
              exact bad _ L2 (by omega) (by rw [r1, e1]; exact j1) (by rw [r2, e1]) j2
            · have hlen : L2.length + 1 ≤ p2 ∧ (F (p' + 1)).2.1 ≤ p2 := by
                rw [List.length_append] at j6
                omega
              have j4 := j1.2.1.1
              refine gw_if (j1.t b) ?_
              refine gw_bV (w_emits b j1 (-3) (fun _ => hlen.1)) (fun m11 h11 => ?_)
              rcases h11 with ⟨-, c11⟩ | ⟨h, -⟩
              · have hh : I m11 := by
                  rw [← hI]
                  refine Or.inr ⟨fu2, p2, _, c11, j2, j3, by rw [r1, e1]; exact q1, by rw [r2, e1]; exact q2, ?_⟩
                  rw [r3, e1]
                  show L' ++ ((F (p' + 1)).2.2 ++ pC true (pS tx n F fv (F (p' + 1)).2.1).2.2) = L2 ++ [-3] ++ pC false (pS tx n F fu2 p2).2.2
                  rw [← List.append_assoc, q3 true, pC_flip j3, List.append_assoc]; rfl
                refine gw_some (gs_inl hh ?_ (hb m11 hh).1)
                show 200 - (m11.2.1 65 6).toInt + 200 - 200 * (m11.2.1 65 8).toInt < 200 - (m'.2.1 65 6).toInt + 200 - 200 * (m'.2.1 65 8).toInt
                rw [c11.e6, c11.e8, o6, o8, of1, ofn (k := p2) (by omega)]; omega
              · cases h
theorem w_some_w (b : BR a n tx μ) {R0 R1 R2 : Nat → gm_M → Option (Option Value × gm_M)} (hW : WW a n μ R0) : WW a n μ (b_X12_some R0 R1 R2) := by
  · intro p o L m c
    refine gwV_of ?_
    unfold b_X12_some
    refine gw_if (c.t b) ?_
    refine gw_bV (hW c) (fun m1 c1 => ?_)
    refine gw_loop (fun s => s = m1) (fun _ => 0) (fun s hs => ?_) 5000 m1 rfl (by decide) (by decide)
    subst hs
    refine gw_gIw (c1.tc b) ?_
    rw [c1.e8, if_pos (by decide)]
    exact gw_some (gs_inr (gq_V c1))
end
end
section
section
variable {a n p o : Nat} {tx : Nat → Int32} {μ m : gm_M} {w : Bool} {L : List Int32}
theorem w_test (b : BR a n tx μ) (c : rst a n μ false p o L m) {Q : Option Value × gm_M → Prop} (hQ : ∀ m', ro a n μ o L (pT tx n p) m' → Q (none, m')) : gw (gm_bI (f_X12_among 65 (5 : UInt32) m) (fun x30 m29 => gm_j (fun (s31 : Int32) => gm_pZ m29 [17] 65 8 s31 (fun m33 => gm_gI m33 [17] 65 8 (fun v34 => gm_j (fun (s35 : Int32 × gm_M) => gm_gI s35.2 [17] 65 8 (fun v37 => gm_j (fun (s38 : Int32) => gm_pZ s35.2 [17] 65 8 s38 (fun m40 => if gm_tag m40 65 = 17 then gm_bI (f_X12_figures 65 m40) (fun x42 m41 => if gm_tag m41 65 = 17 then gm_bV (f_X12_emits 65 ((x30 + ((8 : Int32) * s35.1)) + ((32 : Int32) * x42)) m41) (fun m43 => some (none, m43)) else none) else none)) (fun j39 => gm_j (fun (s45 : Unit) => j39 (1 : Int32)) (fun j46 => if v37 ≠ 0 then j46 () else if s35.1 ≠ (-1 : Int32) then j39 (0 : Int32) else j46 ())))) (fun j36 => if v34 = 0 then if gm_tag m33 65 = 17 then gm_bI (f_X12_among 65 (6 : UInt32) m33) (fun x48 m47 => j36 (x48, m47)) else none else j36 ((0 : Int32), m33))))) (fun j32 => if x30 ≠ (-1 : Int32) then j32 (0 : Int32) else j32 (1 : Int32)))) Q := by
  have hn := b.2.2.2.2.1
  have hp := c.2.1
  have gT := pT_g (tx := tx) hp.1
  refine gw_bI (w_among b c (u := 5) (by decide)) (fun x30 m29 ⟨e30, c29⟩ => ?_)
  refine gw_j (fun s => ∃ v : Bool, s = bw v ∧ v = decide (pO 5 (pd tx n p) = -1)) (fun s ⟨v, es, ev⟩ => ?_) (fun j32 hj32 => ?_)
  · subst es
    refine gw_pZw (c29.tc b) (bw_z v) ?_
    have c33 := c29.fl v
    generalize wI m29 65 8 (bw v) = m33 at *
    refine gw_gIw (c33.tc b) ?_
    rw [c33.e8]
    -- behind the sign
    refine gw_j (fun s => (v = true ∧ pT tx n p = (false, p, []) ∧ ∃ q, rst a n μ true q o L s.2 ∧ q = p) ∨ (v = false ∧ pO 5 (pd tx n p) ≠ -1 ∧ s.1 = pO 6 (pd tx n (p + 1)) ∧ rst a n μ false (if pO 6 (pd tx n (p + 1)) = -1 then p + 1 else p + 2) o L s.2)) (fun s hs => ?_) (fun j36 hj36 => ?_)
    · obtain ⟨s1, s2⟩ := s
      obtain ⟨u, q, hu, hq⟩ : ∃ (u : Bool) (q : Nat), rst a n μ u q o L s2 ∧ ((u = true ∧ pT tx n p = (false, q, [])) ∨ (u = false ∧ pO 5 (pd tx n p) ≠ -1 ∧ s1 = pO 6 (pd tx n (p + 1)) ∧ q = (if pO 6 (pd tx n (p + 1)) = -1 then p + 1 else p + 2))) := by
        rcases hs with ⟨-, h2, q, h3, h4⟩ | ⟨-, h2, h3, h4⟩
        · exact ⟨true, p, by rw [← h4]; exact h3, Or.inl ⟨rfl, h2⟩⟩
        · exact ⟨false, _, h4, Or.inr ⟨rfl, h2, h3, rfl⟩⟩
      refine gw_gIw (hu.tc b) ?_
      show gw (gm_j _ (fun j39 => gm_j _ (fun j46 => if s2.2.1 65 8 ≠ 0 then _ else if s1 ≠ (-1 : Int32) then _ else _))) Q
      rw [hu.e8]
      refine gw_j (fun s38 => ∃ v : Bool, s38 = bw v ∧ ((v = true ∧ pT tx n p = (false, q, [])) ∨ (v = false ∧ pO 5 (pd tx n p) ≠ -1 ∧ pO 6 (pd tx n (p + 1)) ≠ -1 ∧ s1 = pO 6 (pd tx n (p + 1)) ∧ q = p + 2))) (fun s38 hs38 => ?_) (fun j39 hj39 => ?_)
      · obtain ⟨v2, es, h2⟩ := hs38
        subst es
        refine gw_pZw (hu.tc b) (bw_z v2) ?_
        have c40 := hu.fl v2
        show gw (if gm_tag (wI s2 65 8 (bw v2)) 65 = 17 then _ else _) Q
        generalize wI s2 65 8 (bw v2) = m40 at *
        refine gw_if (c40.t b) ?_
        refine gw_bI (w_figs b c40) (fun x42 m41 h41 => ?_)
        rcases h2 with ⟨ev, hT⟩ | ⟨ev, h5, h6, e1, eq⟩
        · subst ev
          rcases h41 with ⟨h, -⟩ | ⟨-, c41⟩
          · cases h
          · refine gw_if (c41.t b) ?_
            refine gw_bV (w_emits b c41 _ (fun h => by cases h)) (fun m43 h43 => ?_)
            rcases h43 with ⟨h, -⟩ | ⟨-, h⟩
            · cases h
            · subst h
              exact gw_some (hQ _ (Or.inr ⟨by rw [hT], L, by rw [hT]; exact c41⟩))
        · subst ev
          subst eq
          rcases h41 with ⟨-, c41, f41⟩ | ⟨h, -⟩
          · refine gw_if (c41.t b) ?_
            cases hN : (pN tx n (p + 2)).1 with
            | true =>
              rw [hN] at c41
              have eT : pT tx n p = (true, (pN tx n (p + 2)).2.1, [(pO 5 (pd tx n p) + 8 * pO 6 (pd tx n (p + 1))) + 32 * (pN tx n (p + 2)).2.2]) := by
                unfold pT; rw [if_neg h5, if_neg h6, if_pos hN]
              have gN := (pN_g (tx := tx) hu.2.1.1).2.2 hN
              refine gw_bV (w_emits b c41 _ (fun _ => by omega)) (fun m43 h43 => ?_)
              rcases h43 with ⟨-, c43⟩ | ⟨h, -⟩
              · refine gw_some (hQ _ (Or.inl ⟨by rw [eT], ?_⟩))
                rw [eT]
                show rst a n μ false (pN tx n (p + 2)).2.1 o (L ++ [(pO 5 (pd tx n p) + 8 * pO 6 (pd tx n (p + 1))) + 32 * (pN tx n (p + 2)).2.2]) m43
                rw [← e30, ← f41 hN, ← show s1 = _ from e1]
                exact c43
              · cases h
            | false =>
              rw [hN] at c41
              have eT : pT tx n p = (false, (pN tx n (p + 2)).2.1, []) := by
                unfold pT; rw [if_neg h5, if_neg h6, if_neg (by rw [hN]; decide)]
              refine gw_bV (w_emits b c41 _ (fun h => by cases h)) (fun m43 h43 => ?_)
              rcases h43 with ⟨h, -⟩ | ⟨-, h⟩
              · cases h
              · subst h
                exact gw_some (hQ _ (Or.inr ⟨by rw [eT], L, by rw [eT]; exact c41⟩))
          · cases h
      · refine gw_j (fun _ => pT tx n p = (false, q, [])) (fun _ h => hj39 _ ⟨true, rfl, Or.inl ⟨rfl, h⟩⟩) (fun j46 hj46 => ?_)
        rcases hq with ⟨eu, hT⟩ | ⟨eu, h5, e1, eq⟩
        · subst eu
          rw [if_pos (by decide)]
          exact hj46 _ hT
        · subst eu
          rw [if_neg (by decide)]
          refine gw_ite (fun g => hj39 _ ⟨false, rfl, Or.inr ⟨rfl, h5, by rw [← e1]; exact g, e1, by rw [eq, if_neg (by rw [← e1]; exact g)]⟩⟩) (fun g => hj46 _ ?_)
          have g2 : pO 6 (pd tx n (p + 1)) = -1 := by rw [← e1]; exact Decidable.not_not.mp g
          unfold pT; rw [if_neg h5, if_pos g2, eq, if_pos g2]
    · cases v with
      | true =>
        have h5 := of_decide_eq_true ev.symm
        rw [if_neg (by decide)]
        rw [if_pos h5] at c33
        exact hj36 _ (Or.inl ⟨rfl, by unfold pT; rw [if_pos h5], p, c33, rfl⟩)
      | false =>
        have h5 := of_decide_eq_false ev.symm
        rw [if_pos (show bw false = 0 from rfl)]
        rw [if_neg h5] at c33
        refine gw_if (c33.t b) ?_
        refine gw_bI (w_among b c33 (u := 6) (by decide)) (fun x48 m47 ⟨e48, c47⟩ => ?_)
        exact hj36 _ (Or.inr ⟨rfl, h5, e48, c47⟩)
  · refine gw_ite (fun g => hj32 _ ⟨false, rfl, (decide_eq_false (by rw [← e30]; exact g)).symm⟩) (fun g => hj32 _ ⟨true, rfl, (decide_eq_true (by rw [← e30]; exact Decidable.not_not.mp g)).symm⟩)
set_option maxHeartbeats 2000000 in
theorem w_factor (b : BR a n tx μ) {R0 R1 R2 : Nat → gm_M → Option (Option Value × gm_M)} {e : Nat} (he : e ≤ 5) (hW1 : WW a n μ R1) (hW2 : WW a n μ R2) (h1 : ∀ e', e = e' + 1 → WF a n μ R1 (5 - e') (pF tx n e')) (h2 : ∀ e', e = e' + 1 → WF a n μ R2 (5 - e') (pE tx n (pF tx n e'))) : WF a n μ (b_X12_factor R0 R1 R2) (5 - e) (pF tx n e) := by
  intro p L m c
  have hn := b.2.2.2.2.1
  have hp := c.2.1
  have b0 : bw false = 0 := rfl
  have b1 : bw true = 1 := rfl
  refine gwV_of ?_
  unfold b_X12_factor
  refine gw_gIw (c.tc b) ?_
  rw [c.e8, if_pos (by decide)]
  refine gw_if (c.t b) ?_
  refine gw_bI (w_here b c) (fun x m' ⟨ex, em⟩ => ?_)
  subst em
  refine gw_j (fun _ => x = 33 ∨ x = 40) (fun _ hx => ?_) (fun j hj => ?_)
  · have q : p < n := pd_lt (tx := tx) (by rw [← ex]; intro h; rw [h] at hx; exact absurd hx (by decide))
    refine gw_gIw (c.tc b) ?_
    rw [c.e9]
    refine gw_j (fun s => ∃ v : Bool, s = bw v ∧ v = decide (e = 0)) (fun s ⟨v, es, ev⟩ => ?_) (fun j8 hj8 => ?_)
    · subst es
      refine gw_pZw (c.tc b) (bw_z v) ?_
      have c1 := c.fl v
      generalize wI m' 65 8 (bw v) = m9 at *
      refine gw_gIw (c1.tc b) ?_
      refine gw_pIw (c1.tc b) ?_
      rw [c1.e9, ofn1 (by omega)]
      have c2 := c1.op (q := 5 - e + 1) (by omega)
      generalize wI m9 65 9 (Int32.ofNat (5 - e + 1)) = m11 at *
      refine gw_gIw (c2.tc b) ?_
      refine gw_gIw (c2.tc b) ?_
      rw [c2.e6, c2.e8]
      refine gw_j (fun s => Int32.ofNat p + s = Int32.ofNat (if v = true then p else p + 1)) (fun s hs => ?_) (fun j15 hj15 => ?_)
      · refine gw_pIw (c2.tc b) ?_
        rw [hs]
        have c3 := c2.at (q := if v = true then p else p + 1) (by split <;> omega) (by split <;> omega)
        generalize wI m11 65 6 (Int32.ofNat (if v = true then p else p + 1)) = m16 at *
        -- at the end: one open less
        refine gw_j (fun M => ro a n μ (5 - e + 1) L (pF tx n e p) M) (fun M hM => ?_) (fun j18 hj18 => ?_)
        · have fin : ∀ (u : Bool) (k : Nat) (T : List Int32), rst a n μ u k (5 - e + 1) T M → gw (gm_gI M [17] 65 9 (fun v19 => gm_pI M [17] 65 9 (v19 - (1 : Int32)) (fun m20 => some (none, m20)))) (gqV (fun m' => rst a n μ u k (5 - e) T m')) := fun u k T h => by
            refine gw_gIw (h.tc b) ?_
            refine gw_pIw (h.tc b) ?_
            rw [h.e9, ← ofn1 (by omega), gx_p1]
            exact gw_some (gq_V (h.op (by omega)))
          rcases hM with ⟨k1, k2⟩ | ⟨k1, L', k2⟩
          · exact gw_mono (fin _ _ _ k2) (fun b hb => ⟨hb.1, Or.inl ⟨k1, hb.2⟩⟩)
          · exact gw_mono (fin _ _ _ k2) (fun b hb => ⟨hb.1, Or.inr ⟨k1, L', hb.2⟩⟩)
        · cases v with
          | true =>
            have e0 := of_decide_eq_true ev.symm
            subst e0
            have eF : pF tx n 0 p = (false, p, []) := by
              rw [pF]
              exact if_pos (by rw [← ex]; exact hx)
            replace c3 : rst a n μ true p (5 - 0 + 1) L m16 := c3
            refine gw_ite (fun g3 => ?_) (fun g3 => ?_)
            · refine gw_if (c3.t b) ?_
              refine gw_bV (hW2 c3) (fun m21 c21 => ?_)
              refine gw_if (c21.t b) ?_
              refine gw_bV (w_must b c21 (x := 41) (by decide)) (fun m23 h23 => ?_)
              rcases h23 with ⟨h, -⟩ | ⟨-, c23⟩
              · cases h
              · exact hj18 _ (Or.inr ⟨by rw [eF], L, by rw [eF]; exact c23⟩)
            · refine gw_if (c3.t b) ?_
              refine gw_bV (hW1 c3) (fun m25 c25 => ?_)
              refine gw_if (c25.t b) ?_
              refine gw_bV (w_emits b c25 (-1) (fun h => by cases h)) (fun m27 h27 => ?_)
              rcases h27 with ⟨h, -⟩ | ⟨-, h⟩
              · cases h
              · subst h
                exact hj18 _ (Or.inr ⟨by rw [eF], L, by rw [eF]; exact c25⟩)
          | false =>
            have e0 := of_decide_eq_false ev.symm
            obtain ⟨d, rfl⟩ : ∃ d, e = d + 1 := ⟨e - 1, by omega⟩
            replace c3 : rst a n μ false (p + 1) (5 - (d + 1) + 1) L m16 := c3
            rw [show 5 - (d + 1) + 1 = 5 - d by omega] at c3 hj18
            refine gw_ite (fun g3 => ?_) (fun g3 => ?_)
            · -- (
              have e40 : pd tx n p = 40 := by rw [← ex]; exact hx.elim (fun h => absurd h g3) id
              have eF : pF tx n (d + 1) p = (if (pE tx n (pF tx n d) (p + 1)).1 = true then (if pd tx n (pE tx n (pF tx n d) (p + 1)).2.1 = 41 then (true, (pE tx n (pF tx n d) (p + 1)).2.1 + 1, (pE tx n (pF tx n d) (p + 1)).2.2) else (false, (pE tx n (pF tx n d) (p + 1)).2.1, [])) else (false, (pE tx n (pF tx n d) (p + 1)).2.1, [])) := by
                rw [pF]
                show (if pd tx n p = 40 then _ else _) = _
                rw [if_pos e40]
              have hB := h2 d rfl c3
              generalize pE tx n (pF tx n d) (p + 1) = r at *
              refine gw_if (c3.t b) ?_
              refine gw_bV hB (fun m21 h21 => ?_)
              rcases h21 with ⟨f1, c21⟩ | ⟨f1, L', c21⟩
              · rw [if_pos f1] at eF
                refine gw_if (c21.t b) ?_
                refine gw_bV (w_must b c21 (x := 41) (by decide)) (fun m23 h23 => ?_)
                rcases h23 with ⟨-, h, c23⟩ | ⟨h, c23⟩
                · rw [if_pos h] at eF
                  exact hj18 _ (Or.inl ⟨by rw [eF], by rw [eF]; exact c23⟩)
                · rw [if_neg (fun g => h ⟨rfl, g⟩)] at eF
                  exact hj18 _ (Or.inr ⟨by rw [eF], _, by rw [eF]; exact c23⟩)
              · rw [if_neg (by rw [f1]; decide)] at eF
                refine gw_if (c21.t b) ?_
                refine gw_bV (w_must b c21 (x := 41) (by decide)) (fun m23 h23 => ?_)
                rcases h23 with ⟨h, -⟩ | ⟨-, c23⟩
                · cases h
                · exact hj18 _ (Or.inr ⟨by rw [eF], L', by rw [eF]; exact c23⟩)
            · -- !
              have e33 : pd tx n p = 33 := by rw [← ex]; exact Decidable.not_not.mp g3
              have eF : pF tx n (d + 1) p = (if (pF tx n d (p + 1)).1 = true then (true, (pF tx n d (p + 1)).2.1, (pF tx n d (p + 1)).2.2 ++ [-1]) else (false, (pF tx n d (p + 1)).2.1, [])) := by
                rw [pF]
                show (if pd tx n p = 40 then _ else if pd tx n p = 33 then _ else _) = _
                rw [if_neg (by rw [e33]; decide), if_pos e33]
              have hB := h1 d rfl c3
              have G := pF_g (tx := tx) d (p + 1) q
              generalize pF tx n d (p + 1) = r at *
              refine gw_if (c3.t b) ?_
              refine gw_bV hB (fun m25 h25 => ?_)
              rcases h25 with ⟨f1, c25⟩ | ⟨f1, L', c25⟩
              · rw [if_pos f1] at eF
                obtain ⟨G1, G2, G3⟩ := G
                obtain ⟨G4, G5⟩ := G3 f1
                refine gw_if (c25.t b) ?_
                refine gw_bV (w_emits b c25 (-1) (fun _ => by rw [List.length_append]; omega)) (fun m27 h27 => ?_)
                rcases h27 with ⟨-, c27⟩ | ⟨h, -⟩
                · refine hj18 _ (Or.inl ⟨by rw [eF], ?_⟩)
                  rw [eF]
                  show rst a n μ false r.2.1 (5 - d) (L ++ (r.2.2 ++ [-1])) m27
                  rw [← List.append_assoc]; exact c27
                · cases h
              · rw [if_neg (by rw [f1]; decide)] at eF
                refine gw_if (c25.t b) ?_
                refine gw_bV (w_emits b c25 (-1) (fun h => by cases h)) (fun m27 h27 => ?_)
                rcases h27 with ⟨h, -⟩ | ⟨-, h⟩
                · cases h
                · subst h
                  exact hj18 _ (Or.inr ⟨by rw [eF], L', by rw [eF]; exact c25⟩)
      · cases v with
        | true => rw [if_neg (by decide)]; exact hj15 _ (Int32.add_zero _)
        | false => rw [if_pos (show bw false = 0 from rfl)]; exact hj15 _ (ofn1 (by omega))
    · have oe := ofn (k := 5 - e) (by omega)
      refine gw_ite (fun g => hj8 _ ⟨false, rfl, (decide_eq_false (fun h => g (by rw [h]; rfl))).symm⟩) (fun g => hj8 _ ⟨true, rfl, (decide_eq_true ?_).symm⟩)
      have := Decidable.not_not.mp g
      rw [this] at oe
      have : (5 : Int32).toInt = 5 := rfl
      omega
  · refine gw_ite (fun g => hj _ (Or.inl g)) (fun g => ?_)
    refine gw_ite (fun g2 => ?_) (fun g2 => hj _ (Or.inr (Decidable.not_not.mp g2)))
    have eF : pF tx n e p = pT tx n p := by
      rw [ex] at g g2
      cases e with
      | zero => rw [pF]; exact if_neg (fun h => h.elim g g2)
      | succ d =>
        rw [pF]
        show (if pd tx n p = 40 then _ else if pd tx n p = 33 then _ else _) = _
        rw [if_neg g2, if_neg g]
    refine gw_if (c.t b) ?_
    exact w_test b c (fun m' h => gq_V (by rw [eF]; exact h))
theorem w_factor_w (b : BR a n tx μ) {R0 R1 R2 : Nat → gm_M → Option (Option Value × gm_M)} : WW a n μ (b_X12_factor R0 R1 R2) := by
  intro p o L m c
  refine gwV_of ?_
  unfold b_X12_factor
  refine gw_gIw (c.tc b) ?_
  rw [c.e8, if_neg (by decide)]
  exact gw_some (gq_V c)
theorem wr_ww (b : BR a n tx μ) : ∀ fu : Nat, (2 ≤ fu → WW a n μ (r_X12_every fu).1) ∧ (1 ≤ fu → WW a n μ (r_X12_every fu).2.1) ∧ (3 ≤ fu → WW a n μ (r_X12_every fu).2.2)
  | 0 => ⟨fun h => by omega, fun h => by omega, fun h => by omega⟩
  | fu + 1 => ⟨fun h => w_every_w b (R0 := (r_X12_every fu).1) (R2 := (r_X12_every fu).2.2) ((wr_ww b fu).2.1 (by omega)), fun _ => w_factor_w b (R0 := (r_X12_every fu).1), fun h => w_some_w b (R1 := (r_X12_every fu).2.1) (R2 := (r_X12_every fu).2.2) ((wr_ww b fu).1 (by omega))⟩
theorem wr_read (b : BR a n tx μ) : ∀ (fu e : Nat), e ≤ 5 → (3 * e + 5 ≤ fu → WE a n tx μ (r_X12_every fu).1 (5 - e) (pF tx n e)) ∧ (3 * e + 4 ≤ fu → WF a n μ (r_X12_every fu).2.1 (5 - e) (pF tx n e)) ∧ (3 * e + 6 ≤ fu → WF a n μ (r_X12_every fu).2.2 (5 - e) (pE tx n (pF tx n e)))
  | 0, e, _ => ⟨fun h => by omega, fun h => by omega, fun h => by omega⟩
  | fu + 1, e, he => ⟨fun h => w_every b (R0 := (r_X12_every fu).1) (R2 := (r_X12_every fu).2.2) ((wr_read b fu e he).2.1 (by omega)) (fun p => pF_g e p), fun h => w_factor b (R0 := (r_X12_every fu).1) he ((wr_ww b fu).2.1 (by omega)) ((wr_ww b fu).2.2 (by omega)) (fun e' q => (wr_read b fu e' (by omega)).2.1 (by omega)) (fun e' q => (wr_read b fu e' (by omega)).2.2 (by omega)), fun h => w_some b (R1 := (r_X12_every fu).2.1) (R2 := (r_X12_every fu).2.2) ((wr_read b fu e he).1 (by omega)) (fun p => pF_g e p)⟩
end
end
section
def mst (a n : Nat) (μ : gm_M) (v : Bool) (p : Nat) (w sw : Int32) (L : List Int32) (m : gm_M) : Prop := (m.1 = μ.1 ∧ m.2.2 = μ.2.2 ∧ (∀ r : Nat, r ≠ 65 → r ≠ 66 → m.2.1 r = μ.2.1 r) ∧ (∀ j : Nat, j ≠ 6 → j ≠ 8 → j ≠ 9 → m.2.1 65 j = μ.2.1 65 j) ∧ ∀ k : Nat, k ≠ 210 + a → k ≠ 215 + a → k ≠ 220 + a → ¬ (225 + 140 * a ≤ k ∧ k < 365 + 140 * a) → m.2.1 66 k = μ.2.1 66 k) ∧ (m.2.1 66 (210 + a) = w ∧ m.2.1 66 (215 + a) = sw) ∧ rst a n m v p 0 L m
section
variable {a n p o : Nat} {tx : Nat → Int32} {μ m : gm_M} {w sw : Int32} {v : Bool} {L : List Int32}
theorem mst.b (b : BR a n tx μ) (d : mst a n μ v p w sw L m) : BR a n tx m := by
  obtain ⟨b1, b2, b3, b4, b5, b6, b7⟩ := b
  obtain ⟨⟨d1, d2, d3, d4, d5⟩, -⟩ := d
  exact ⟨b1.same d1 d2, b2, by rw [d4 5 (by decide) (by decide) (by decide)]; exact b3, by rw [d4 7 (by decide) (by decide) (by decide)]; exact b4, b5, fun i hi => by rw [d5 (110 + i) (by omega) (by omega) (by omega) (by omega)]; exact b6 i hi, b7⟩
theorem mst.c (d : mst a n μ v p w sw L m) : rst a n m v p 0 L m := d.2.2
theorem mst.on (d : mst a n μ v p w sw L m) (ha : a < 5) {u : Bool} {q : Nat} {T : List Int32} {m' : gm_M} (c : rst a n m u q 0 T m') : mst a n μ u q w sw T m' := by
  obtain ⟨⟨d1, d2, d3, d4, d5⟩, ⟨d6, d7⟩, -⟩ := d
  have c' := c
  obtain ⟨⟨c1, c2, c3, c4, c5⟩, c6, c7, c8, c9, c10, c11⟩ := c
  exact ⟨⟨c1.trans d1, c2.trans d2, fun r r1 r2 => (c3 r r1 r2).trans (d3 r r1 r2), fun j j1 j2 j3 => (c4 j j1 j2 j3).trans (d4 j j1 j2 j3), fun k k1 k2 k3 k4 => (c5 k k3 k4).trans (d5 k k1 k2 k3 k4)⟩, ⟨(c5 (210 + a) (by omega) (by omega)).trans d6, (c5 (215 + a) (by omega) (by omega)).trans d7⟩, ⟨⟨rfl, rfl, fun _ _ _ => rfl, fun _ _ _ _ => rfl, fun _ _ _ => rfl⟩, c6, c7, c8, c9, c10, c11⟩⟩
theorem mst.wd (d : mst a n μ v p w sw L m) (ha : a < 5) (x : Int32) : mst a n μ v p x sw L (wI m 66 (210 + a) x) := by
  obtain ⟨⟨d1, d2, d3, d4, d5⟩, ⟨d6, d7⟩, ⟨⟨c1, c2, c3, c4, c5⟩, c6, c7, c8, c9, c10, c11⟩⟩ := d
  have e65 : (wI m 66 (210 + a) x).2.1 65 = m.2.1 65 := wI_o _ _ _ _ (by decide)
  refine ⟨⟨d1, d2, fun r r1 r2 => (wI_o _ _ _ _ r2).trans (d3 r r1 r2), fun j j1 j2 j3 => by rw [e65]; exact d4 j j1 j2 j3, fun k k1 k2 k3 k4 => (wI_n _ _ _ _ k1).trans (d5 k k1 k2 k3 k4)⟩, ⟨wI_e _ _ _ _, (wI_n _ _ _ _ (by omega)).trans d7⟩, ⟨⟨rfl, rfl, fun _ _ _ => rfl, fun _ _ _ _ => rfl, fun _ _ _ => rfl⟩, c6, by rw [e65]; exact c7, by rw [e65]; exact c8, by rw [e65]; exact c9, (wI_n _ _ _ _ (by omega)).trans c10, fun i hi => by rw [wI_n _ _ _ _ (by omega)]; exact c11 i hi⟩⟩
theorem mst.sd (d : mst a n μ v p w sw L m) (ha : a < 5) (x : Int32) : mst a n μ v p w x L (wI m 66 (215 + a) x) := by
  obtain ⟨⟨d1, d2, d3, d4, d5⟩, ⟨d6, d7⟩, ⟨⟨c1, c2, c3, c4, c5⟩, c6, c7, c8, c9, c10, c11⟩⟩ := d
  have e65 : (wI m 66 (215 + a) x).2.1 65 = m.2.1 65 := wI_o _ _ _ _ (by decide)
  refine ⟨⟨d1, d2, fun r r1 r2 => (wI_o _ _ _ _ r2).trans (d3 r r1 r2), fun j j1 j2 j3 => by rw [e65]; exact d4 j j1 j2 j3, fun k k1 k2 k3 k4 => (wI_n _ _ _ _ k2).trans (d5 k k1 k2 k3 k4)⟩, ⟨(wI_n _ _ _ _ (by omega)).trans d6, wI_e _ _ _ _⟩, ⟨⟨rfl, rfl, fun _ _ _ => rfl, fun _ _ _ _ => rfl, fun _ _ _ => rfl⟩, c6, by rw [e65]; exact c7, by rw [e65]; exact c8, by rw [e65]; exact c9, (wI_n _ _ _ _ (by omega)).trans c10, fun i hi => by rw [wI_n _ _ _ _ (by omega)]; exact c11 i hi⟩⟩
/-- a word and its number -/
theorem w_wn {β : Type} {Q : β → Prop} (b : BR a n tx μ) (c : rst a n μ v p o L m) {u : UInt32} (hu : gm_isS u) {f : Int32 → gm_M → Option β} (k : ∀ (x : Int32) (m' : gm_M), (v = false ∧ rst a n μ (!(pWN tx n u p).1) (pWN tx n u p).2.1 o L m' ∧ ((pWN tx n u p).1 = true → x = (pWN tx n u p).2.2)) ∨ (v = true ∧ rst a n μ true p o L m') → gw (f x m') Q) : gw (gm_bV (f_X12_spells 65 u m) (fun m1 => if gm_tag m1 65 = 17 then gm_bI (f_X12_figures 65 m1) f else none)) Q := by
  refine gw_bV (w_spells b c hu) (fun m1 h1 => ?_)
  rcases h1 with ⟨ev, c1⟩ | ⟨ev, c1⟩
  · refine gw_if (c1.t b) ?_
    refine gw_bI (w_figs b c1) (fun x m3 h3 => k x m3 (Or.inl ⟨ev, ?_⟩))
    unfold pWN
    cases hW : (pW tx n u (gm_bn (u + 6)) p).1 with
    | true =>
      rw [if_pos rfl]
      rcases h3 with ⟨-, h⟩ | ⟨h, -⟩
      · exact h
      · rw [hW] at h; cases h
    | false =>
      rw [if_neg (by decide)]
      rcases h3 with ⟨h, -⟩ | ⟨-, h⟩
      · rw [hW] at h; cases h
      · exact ⟨h, fun q => by cases q⟩
  · refine gw_if (c1.t b) ?_
    refine gw_bI (w_figs b c1) (fun x m3 h3 => k x m3 (Or.inr ⟨ev, ?_⟩))
    rcases h3 with ⟨h, -⟩ | ⟨-, h⟩
    · cases h
    · exact h
theorem w_much (b : BR a n tx μ) (c : rst a n μ v p 0 L m) {u : UInt32} (hu : gm_isS u) (kd w sw : Int32) : gwV (f_X12_much 65 kd u m) (fun m' => (v = false ∧ (((pM tx n u kd p w sw L).1 = true ∧ rst a n μ false (pM tx n u kd p w sw L).2.1 0 (pM tx n u kd p w sw L).2.2.2.2 m') ∨ ((pM tx n u kd p w sw L).1 = false ∧ ∃ L' : List Int32, rst a n μ true (pM tx n u kd p w sw L).2.1 0 L' m'))) ∨ (v = true ∧ rst a n μ true p 0 L m')) := by
  refine gwV_of ?_
  unfold f_X12_much
  have hn := b.2.2.2.2.1
  have hp := c.2.1
  have gW := pWN_g (tx := tx) hu hp.1
  have WS : WW a n μ (r_X12_every 64).2.2 := (wr_ww b 64).2.2 (by omega)
  have bad : ∀ (q : Nat) (kx : Int32) (M : gm_M) (Q : gm_M → Prop), rst a n μ true q 0 L M → (∀ m', rst a n μ true q 0 L m' → Q m') → gw (if gm_tag M 65 = 17 then gm_bV (f_X12_must 65 (32 : Int32) M) (fun m5 => if gm_tag m5 65 = 17 then gm_bV (f_X12_some 65 m5) (fun m7 => if gm_tag m7 65 = 17 then gm_bV (f_X12_emits 65 (kd - kx) m7) (fun m9 => some (none, m9)) else none) else none) else none) (gqV Q) := fun q kx M Q c1 hQ => by
    refine gw_if (c1.t b) ?_
    refine gw_bV (w_must b c1 (x := 32) (by decide)) (fun m5 h5 => ?_)
    rcases h5 with ⟨h, -⟩ | ⟨-, c5⟩
    · cases h
    · refine gw_if (c5.t b) ?_
      refine gw_bV (show gwV (f_X12_some 65 m5) _ from WS c5) (fun m7 c7 => ?_)
      refine gw_if (c7.t b) ?_
      refine gw_bV (w_emits b c7 (kd - kx) (fun h => by cases h)) (fun m9 h9 => ?_)
      rcases h9 with ⟨h, -⟩ | ⟨-, h⟩
      · cases h
      · subst h; exact gw_some (gq_V (hQ _ c7))
  refine gw_if (c.t b) ?_
  refine w_wn b c hu (fun x m3 h3 => ?_)
  rcases h3 with ⟨ev, c3, ex⟩ | ⟨ev, c3⟩
  · cases hW : (pWN tx n u p).1 with
    | false =>
      rw [hW] at c3
      have eM : pM tx n u kd p w sw L = (false, (pWN tx n u p).2.1, w, sw, L) := by unfold pM; rw [if_neg (by rw [hW]; decide)]
      exact bad _ x m3 _ c3 (fun m' h => Or.inl ⟨ev, Or.inr ⟨by rw [eM], L, by rw [eM]; exact h⟩⟩)
    | true =>
      rw [hW] at c3
      replace c3 : rst a n μ false (pWN tx n u p).2.1 0 L m3 := c3
      have e3 := ex hW
      have gW3 := gW.2.2 hW
      refine gw_if (c3.t b) ?_
      refine gw_bV (w_must b c3 (x := 32) (by decide)) (fun m5 h5 => ?_)
      rcases h5 with ⟨-, ep, c5⟩ | ⟨ep, c5⟩
      · have eM : pM tx n u kd p w sw L = ((pE tx n (pF tx n 5) ((pWN tx n u p).2.1 + 1)).1, (pE tx n (pF tx n 5) ((pWN tx n u p).2.1 + 1)).2.1, w, sw, (L ++ (pE tx n (pF tx n 5) ((pWN tx n u p).2.1 + 1)).2.2) ++ [kd - x]) := by
          unfold pM; rw [if_pos hW, if_pos ep, e3]
        have hE := pE_g (tx := tx) (fun p => pF_g (tx := tx) (n := n) 5 p) c5.2.1.1
        have V := ((wr_read b 64 5 (by omega)).2.2 (by omega)) (show rst a n μ false ((pWN tx n u p).2.1 + 1) (5 - 5) L m5 from c5)
        have eR : f_X12_some 65 m5 = (r_X12_every 64).2.2 65 m5 := rfl
        rw [← eR] at V
        rw [eM]
        generalize pE tx n (pF tx n 5) ((pWN tx n u p).2.1 + 1) = r at *
        refine gw_if (c5.t b) ?_
        refine gw_bV V (fun m7 h7 => ?_)
        rcases h7 with ⟨f1, c7⟩ | ⟨f1, L', c7⟩
        · obtain ⟨hE1, hE2, hE3⟩ := hE
          obtain ⟨hE4, hE5⟩ := hE3 f1
          refine gw_if (c7.t b) ?_
          refine gw_bV (w_emits b c7 (kd - x) (fun _ => by rw [List.length_append]; omega)) (fun m9 h9 => ?_)
          rcases h9 with ⟨-, c9⟩ | ⟨h, -⟩
          · exact gw_some (gq_V (Or.inl ⟨ev, Or.inl ⟨f1, c9⟩⟩))
          · cases h
        · refine gw_if (c7.t b) ?_
          refine gw_bV (w_emits b c7 (kd - x) (fun h => by cases h)) (fun m9 h9 => ?_)
          rcases h9 with ⟨h, -⟩ | ⟨-, h⟩
          · cases h
          · subst h
            exact gw_some (gq_V (Or.inl ⟨ev, Or.inr ⟨f1, L', c7⟩⟩))
      · have eM : pM tx n u kd p w sw L = (false, (pWN tx n u p).2.1, w, sw, L) := by unfold pM; rw [if_pos hW, if_neg (fun h => ep ⟨rfl, h⟩)]
        refine gw_if (c5.t b) ?_
        refine gw_bV (show gwV (f_X12_some 65 m5) _ from WS c5) (fun m7 c7 => ?_)
        refine gw_if (c7.t b) ?_
        refine gw_bV (w_emits b c7 (kd - x) (fun h => by cases h)) (fun m9 h9 => ?_)
        rcases h9 with ⟨h, -⟩ | ⟨-, h⟩
        · cases h
        · subst h
          exact gw_some (gq_V (Or.inl ⟨ev, Or.inr ⟨by rw [eM], L, by rw [eM]; exact c7⟩⟩))
  · exact bad _ x m3 _ c3 (fun m' h => Or.inr ⟨ev, h⟩)
def mk (a n : Nat) (μ : gm_M) (r : pB) (m : gm_M) : Prop := (r.1 = true ∧ mst a n μ false r.2.1 r.2.2.1 r.2.2.2.1 r.2.2.2.2 m) ∨ (r.1 = false ∧ ∃ (w sw : Int32) (L : List Int32), mst a n μ true r.2.1 w sw L m)
theorem m_tell (b : BR a n tx μ) (d : mst a n μ false p w sw L m) {x : Int32} {u : UInt32} (hu : gm_isS u) (hx : x = 210 ∨ x = 215) : gwV (f_X12_tellsHere 65 x u m) (fun m' => mk a n μ ((pWN tx n u p).1, (pWN tx n u p).2.1, (if x = 210 then (pWN tx n u p).2.2 else w), (if x = 210 then sw else (pWN tx n u p).2.2), L) m') := by
  have bm := d.b b
  have c := d.c
  have ha := b.2.1
  refine gwV_of ?_
  unfold f_X12_tellsHere
  refine gw_if (c.t bm) ?_
  refine w_wn bm c hu (fun y m3 h3 => ?_)
  rcases h3 with ⟨-, c3, ey⟩ | ⟨h, -⟩
  · refine gw_gIw (c3.tc bm) ?_
    rw [c3.e8]
    cases hW : (pWN tx n u p).1 with
    | false =>
      rw [hW] at c3
      rw [if_pos (by decide)]
      exact gw_some (gq_V (Or.inr ⟨rfl, w, sw, L, d.on ha c3⟩))
    | true =>
      rw [hW] at c3
      rw [if_neg (by decide)]
      have e := ey hW
      subst e
      have l210 : (210 : Int32).toInt = 210 := rfl
      have l215 : (215 : Int32).toInt = 215 := rfl
      have oa : (Int32.ofNat a).toInt = a := ofn (by omega)
      refine gw_gRa 66 (c3.tc bm) (c3.r1 bm) ?_
      refine gw_gIw (c3.tc bm) ?_
      rw [c3.e5 bm]
      have d3 := d.on ha c3
      rcases hx with rfl | rfl
      · have n1 : ((210 : Int32) + Int32.ofNat a).toInt = (210 : Int32).toInt + (Int32.ofNat a).toInt := gx_add (by omega) (by omega)
        refine gw_sIw (210 + a) ((c3.S bm).t (r := 66) rfl) ((c3.S bm).l (r := 66) rfl) (by omega) (by omega) ?_
        rw [if_pos rfl, if_pos rfl]
        exact gw_some (gq_V (Or.inl ⟨rfl, d3.wd ha _⟩))
      · have n1 : ((215 : Int32) + Int32.ofNat a).toInt = (215 : Int32).toInt + (Int32.ofNat a).toInt := gx_add (by omega) (by omega)
        refine gw_sIw (215 + a) ((c3.S bm).t (r := 66) rfl) ((c3.S bm).l (r := 66) rfl) (by omega) (by omega) ?_
        rw [if_neg (by decide), if_neg (by decide)]
        exact gw_some (gq_V (Or.inl ⟨rfl, d3.sd ha _⟩))
  · cases h
theorem m_clause (b : BR a n tx μ) (d : mst a n μ false p w sw L m) : gwV (f_X12_clauseHere 65 m) (fun m' => mk a n μ (pK tx n p w sw L) m') := by
  have bm := d.b b
  have c := d.c
  have ha := b.2.1
  have hn := b.2.2.2.2.1
  refine gwV_of ?_
  unfold f_X12_clauseHere
  refine gw_if (c.t bm) ?_
  refine gw_bI (w_here bm c) (fun x m' ⟨ex, em⟩ => ?_)
  subst em
  refine gw_ite (fun g => ?_) (fun g => ?_)
  · have e115 : pd tx n p = 115 := by rw [← ex]; exact g
    have n119 : pd tx n p ≠ 119 := by rw [e115]; decide
    have q : p < n := pd_lt (tx := tx) (by rw [e115]; decide)
    refine gw_if (c.t bm) ?_
    have W : gwV (f_X12_wordOfS 65 m') (fun m' => mk a n μ (pK tx n p w sw L) m') := by
      refine gwV_of ?_
      unfold f_X12_wordOfS
      refine gw_if (c.t bm) ?_
      refine gw_bV (w_must bm c (x := 115) (by decide)) (fun m1 h1 => ?_)
      rcases h1 with ⟨-, -, c1⟩ | ⟨h, -⟩
      · refine gw_if (c1.t bm) ?_
        refine gw_bI (w_here bm c1) (fun x4 m3 ⟨e4, em⟩ => ?_)
        subst em
        refine gw_ite (fun g4 => ?_) (fun g4 => ?_)
        · have n119' : pd tx n (p + 1) ≠ 119 := by rw [← e4]; exact g4
          refine gw_if (c1.t bm) ?_
          refine gw_bV (w_must bm c1 (x := 116) (by decide)) (fun m5 h5 => ?_)
          rcases h5 with ⟨-, ep, c5⟩ | ⟨ep, c5⟩
          · replace c5 : rst a n m' false (p + 2) 0 L m5 := c5
            refine gw_if (c5.t bm) ?_
            refine gw_bI (w_here bm c5) (fun x8 m7 ⟨e8, em⟩ => ?_)
            subst em
            refine gw_ite (fun g8 => ?_) (fun g8 => ?_)
            · have eK : pK tx n p w sw L = pM tx n 4 (-200) (p + 2) w sw L := by rw [pK, if_neg n119, if_pos e115, if_neg n119', if_pos ep, if_neg (by rw [← e8]; exact g8)]
              have eW : (pM tx n 4 (-200) (p + 2) w sw L).2.2.1 = w ∧ (pM tx n 4 (-200) (p + 2) w sw L).2.2.2.1 = sw := by
                unfold pM; repeat' split
                all_goals exact ⟨rfl, rfl⟩
              refine gw_if (c5.t bm) ?_
              refine gw_bV (w_much bm c5 (u := 4) (by decide) (-200) w sw) (fun m9 h9 => gw_some (gq_V ?_))
              rw [eK]
              rcases h9 with ⟨-, ⟨f1, c9⟩ | ⟨f1, L', c9⟩⟩ | ⟨h, -⟩
              · exact Or.inl ⟨f1, by rw [eW.1, eW.2]; exact d.on ha c9⟩
              · exact Or.inr ⟨f1, w, sw, L', d.on ha c9⟩
              · cases h
            · have eK : pK tx n p w sw L = pM tx n 3 (-10) (p + 2) w sw L := by rw [pK, if_neg n119, if_pos e115, if_neg n119', if_pos ep, if_pos (by rw [← e8]; exact Decidable.not_not.mp g8)]
              have eW : (pM tx n 3 (-10) (p + 2) w sw L).2.2.1 = w ∧ (pM tx n 3 (-10) (p + 2) w sw L).2.2.2.1 = sw := by
                unfold pM; repeat' split
                all_goals exact ⟨rfl, rfl⟩
              refine gw_if (c5.t bm) ?_
              refine gw_bV (w_much bm c5 (u := 3) (by decide) (-10) w sw) (fun m9 h9 => gw_some (gq_V ?_))
              rw [eK]
              rcases h9 with ⟨-, ⟨f1, c9⟩ | ⟨f1, L', c9⟩⟩ | ⟨h, -⟩
              · exact Or.inl ⟨f1, by rw [eW.1, eW.2]; exact d.on ha c9⟩
              · exact Or.inr ⟨f1, w, sw, L', d.on ha c9⟩
              · cases h
          · have eK : pK tx n p w sw L = (false, p + 1, w, sw, L) := by rw [pK, if_neg n119, if_pos e115, if_neg n119', if_neg (fun h => ep ⟨rfl, h⟩)]
            have bad : ∀ m9, (false = true ∧ True) ∨ True → rst a n m' true (p + 1) 0 L m9 → mk a n μ (pK tx n p w sw L) m9 := fun m9 _ c9 => by rw [eK]; exact Or.inr ⟨rfl, w, sw, L, d.on ha c9⟩
            refine gw_if (c5.t bm) ?_
            refine gw_bI (w_here bm c5) (fun x8 m7 ⟨e8, em⟩ => ?_)
            subst em
            refine gw_ite (fun g8 => ?_) (fun g8 => ?_)
            · refine gw_if (c5.t bm) ?_
              refine gw_bV (w_much bm c5 (u := 4) (by decide) (-200) w sw) (fun m9 h9 => gw_some (gq_V ?_))
              rcases h9 with ⟨h, -⟩ | ⟨-, c9⟩
              · cases h
              · exact bad _ (Or.inr trivial) c9
            · refine gw_if (c5.t bm) ?_
              refine gw_bV (w_much bm c5 (u := 3) (by decide) (-10) w sw) (fun m9 h9 => gw_some (gq_V ?_))
              rcases h9 with ⟨h, -⟩ | ⟨-, c9⟩
              · cases h
              · exact bad _ (Or.inr trivial) c9
        · have e119 : pd tx n (p + 1) = 119 := by rw [← e4]; exact Decidable.not_not.mp g4
          have eK : pK tx n p w sw L = ((pWN tx n 2 (p + 1)).1, (pWN tx n 2 (p + 1)).2.1, w, (pWN tx n 2 (p + 1)).2.2, L) := by rw [pK, if_neg n119, if_pos e115, if_pos e119]
          rw [eK]
          refine gw_if (c1.t bm) ?_
          refine gw_bV (m_tell b (d.on ha c1) (x := 215) (u := 2) (by decide) (Or.inr rfl)) (fun m13 h13 => gw_some (gq_V ?_))
          rw [if_neg (by decide), if_neg (by decide)] at h13
          exact h13
      · exact absurd ⟨rfl, e115⟩ h
    exact gw_bV W (fun m3 h3 => gw_some (gq_V h3))
  · have n115 : pd tx n p ≠ 115 := by rw [← ex]; exact g
    refine gw_ite (fun g2 => ?_) (fun g2 => ?_)
    · have e119 : pd tx n p = 119 := by rw [← ex]; exact g2
      have eK : pK tx n p w sw L = ((pWN tx n 1 p).1, (pWN tx n 1 p).2.1, (pWN tx n 1 p).2.2, sw, L) := by rw [pK, if_pos e119]
      rw [eK]
      refine gw_if (c.t bm) ?_
      refine gw_bV (m_tell b d (x := 210) (u := 1) (by decide) (Or.inl rfl)) (fun m13 h13 => gw_some (gq_V ?_))
      rw [if_pos rfl, if_pos rfl] at h13
      exact h13
    · have n119 : pd tx n p ≠ 119 := by rw [← ex]; exact g2
      have eK : pK tx n p w sw L = (false, p, w, sw, L) := by rw [pK, if_neg n119, if_neg n115]
      rw [eK]
      refine gw_pZw (c.tc bm) (Or.inr rfl) ?_
      exact gw_some (gq_V (Or.inr ⟨rfl, w, sw, L, d.on ha (c.fl true)⟩))
end
end
section
theorem gwV_and {z : Option (Option Value × gm_M)} {R S : gm_M → Prop} (h : gwV z R) (k : gwV z S) : gwV z (fun m => R m ∧ S m) := by
  obtain ⟨m, e, a⟩ := h
  obtain ⟨m2, e2, b⟩ := k
  rw [e] at e2
  injection e2 with e3
  injection e3 with e4 e5
  subst e5
  exact ⟨m, e, a, b⟩
set_option maxHeartbeats 8000000 in
theorem s_ainit2 {μ : gm_M} : gwV (f_X0_init μ.1.length (gm_nw μ 5 10)) (fun m => m.2.1 μ.1.length 0 = 0 ∧ m.2.1 μ.1.length 1 = 20) := by
  refine gwV_of ?_
  unfold f_X0_init
  generalize hA : μ.1.length = A
  have l10 : (10 : Int32).toInt = (10 : Nat) := rfl
  have l100 : (100 : Int32).toInt = (100 : Nat) := rfl
  have l0 : (0 : Int32).toInt = (0 : Nat) := rfl
  have tg : ∀ (m : gm_M) (l : List (Nat × Nat)), m.1 = μ.1 ++ (5, 10) :: l → gm_tag m A = 5 := fun m l e => by
    unfold gm_tag; rw [e, ← hA, List.getElem?_append_right (Nat.le_refl _), Nat.sub_self]; rfl
  have t5 : ∀ (m : gm_M) (l : List (Nat × Nat)), m.1 = μ.1 ++ (5, 10) :: l → [5].contains (gm_tag m A) = true := fun m l e => by rw [tg m l e]; rfl
  have len : ∀ (m : gm_M) (l : List (Nat × Nat)), m.1 = μ.1 ++ l → m.1.length = A + l.length := fun m l e => by rw [e, List.length_append, hA]
  refine gw_if (by rw [tg _ [] rfl]; decide) ?_
  refine gw_pIw (t5 _ [] rfl) ?_
  refine gw_pIw (t5 _ [] rfl) ?_
  generalize h1 : wI (wI (gm_nw μ 5 10) A 0 0) A 1 20 = m1
  have a1 : m1.1 = μ.1 ++ [(5, 10)] := by rw [← h1]; rfl
  have i1 : ∀ r : Nat, r ≠ A → m1.2.1 r = μ.2.1 r := fun r hr => by rw [← h1, wI_o _ _ _ _ hr, wI_o _ _ _ _ hr, nw_i (by omega)]
  have r1 : ∀ r : Nat, r ≠ A → m1.2.2 r = μ.2.2 r := fun r hr => by rw [← h1]; show (gm_nw μ 5 10).2.2 r = _; exact nw_r (by omega)
  have z1 : ∀ j : Nat, j ≠ 0 → j ≠ 1 → m1.2.1 A j = 0 := fun j j0 j1 => by rw [← h1, wI_n _ _ _ _ j1, wI_n _ _ _ _ j0, ← hA]; exact nw_z
  have y1 : m1.2.1 A 0 = 0 ∧ m1.2.1 A 1 = 20 := by
    rw [← h1]
    exact ⟨by rw [wI_n _ _ _ _ (by decide), wI_e], wI_e _ _ _ _⟩
  clear h1
  refine gw_nA l10 (Nat.le_refl _) ?_
  have e1 : m1.1.length = A + 1 := len _ _ a1
  rw [e1]
  refine gw_pRw (t5 _ [(1, 10)] (by rw [nw_1, a1, List.append_assoc]; rfl)) ?_
  generalize h2 : wR (gm_nw m1 1 10) A 3 (A + 1) = m2
  have a2 : m2.1 = μ.1 ++ [(5, 10), (1, 10)] := by rw [← h2]; show (gm_nw m1 1 10).1 = _; rw [nw_1, a1, List.append_assoc]; rfl
  have i2 : ∀ r : Nat, r ≠ A + 1 → m2.2.1 r = m1.2.1 r := fun r hr => by rw [← h2]; show (gm_nw m1 1 10).2.1 r = _; exact nw_i (by omega)
  have r2 : ∀ r : Nat, r ≠ A → r ≠ A + 1 → m2.2.2 r = m1.2.2 r := fun r hr hr2 => by rw [← h2]; show gm_u (gm_nw m1 1 10).2.2 A 3 (A + 1) r = _; rw [gu_row hr]; exact nw_r (by omega)
  have q2 : m2.2.2 A 3 = A + 1 := by rw [← h2]; show gm_u (gm_nw m1 1 10).2.2 A 3 (A + 1) A 3 = _; exact gu_eq
  clear h2
  refine gw_nA l10 (Nat.le_refl _) ?_
  have e2 : m2.1.length = A + 2 := len _ _ a2
  rw [e2]
  refine gw_pRw (t5 _ [(1, 10), (1, 10)] (by rw [nw_1, a2, List.append_assoc]; rfl)) ?_
  generalize h3 : wR (gm_nw m2 1 10) A 4 (A + 2) = m3
  have a3 : m3.1 = μ.1 ++ [(5, 10), (1, 10), (1, 10)] := by rw [← h3]; show (gm_nw m2 1 10).1 = _; rw [nw_1, a2, List.append_assoc]; rfl
  have i3 : ∀ r : Nat, r ≠ A + 2 → m3.2.1 r = m2.2.1 r := fun r hr => by rw [← h3]; show (gm_nw m2 1 10).2.1 r = _; exact nw_i (by omega)
  have z3 : ∀ k : Nat, m3.2.1 (A + 2) k = 0 := fun k => by rw [← h3]; show (gm_nw m2 1 10).2.1 (A + 2) k = 0; rw [← e2]; exact nw_z
  have r3 : ∀ r : Nat, r ≠ A → r ≠ A + 2 → m3.2.2 r = m2.2.2 r := fun r hr hr2 => by rw [← h3]; show gm_u (gm_nw m2 1 10).2.2 A 4 (A + 2) r = _; rw [gu_row hr]; exact nw_r (by omega)
  have q3 : m3.2.2 A 4 = A + 2 ∧ m3.2.2 A 3 = A + 1 := by
    rw [← h3]
    exact ⟨(show gm_u (gm_nw m2 1 10).2.2 A 4 (A + 2) A 4 = _ from gu_eq), by show gm_u (gm_nw m2 1 10).2.2 A 4 (A + 2) A 3 = _; rw [gu_ne (by decide), nw_r (by omega)]; exact q2⟩
  clear h3
  refine gw_nA l100 (Nat.le_refl _) ?_
  have e3 : m3.1.length = A + 3 := len _ _ a3
  rw [e3]
  refine gw_pRw (t5 _ [(1, 10), (1, 10), (1, 100)] (by rw [nw_1, a3, List.append_assoc]; rfl)) ?_
  generalize h4 : wR (gm_nw m3 1 100) A 5 (A + 3) = m4
  have a4 : m4.1 = μ.1 ++ [(5, 10), (1, 10), (1, 10), (1, 100)] := by rw [← h4]; show (gm_nw m3 1 100).1 = _; rw [nw_1, a3, List.append_assoc]; rfl
  have i4 : ∀ r : Nat, r ≠ A + 3 → m4.2.1 r = m3.2.1 r := fun r hr => by rw [← h4]; show (gm_nw m3 1 100).2.1 r = _; exact nw_i (by omega)
  have r4 : ∀ r : Nat, r ≠ A → r ≠ A + 3 → m4.2.2 r = m3.2.2 r := fun r hr hr2 => by rw [← h4]; show gm_u (gm_nw m3 1 100).2.2 A 5 (A + 3) r = _; rw [gu_row hr]; exact nw_r (by omega)
  have q4 : m4.2.2 A 5 = A + 3 ∧ m4.2.2 A 4 = A + 2 ∧ m4.2.2 A 3 = A + 1 := by
    rw [← h4]
    exact ⟨(show gm_u (gm_nw m3 1 100).2.2 A 5 (A + 3) A 5 = _ from gu_eq), by show gm_u (gm_nw m3 1 100).2.2 A 5 (A + 3) A 4 = _; rw [gu_ne (by decide), nw_r (by omega)]; exact q3.1, by show gm_u (gm_nw m3 1 100).2.2 A 5 (A + 3) A 3 = _; rw [gu_ne (by decide), nw_r (by omega)]; exact q3.2⟩
  clear h4
  refine gw_nA l0 (Nat.le_refl _) ?_
  have e4 : m4.1.length = A + 4 := len _ _ a4
  rw [e4]
  refine gw_pRw (t5 _ [(1, 10), (1, 10), (1, 100), (1, 0)] (by rw [nw_1, a4, List.append_assoc]; rfl)) ?_
  generalize h5 : wR (gm_nw m4 1 0) A 7 (A + 4) = m5
  have a5 : m5.1 = μ.1 ++ [(5, 10), (1, 10), (1, 10), (1, 100), (1, 0)] := by rw [← h5]; show (gm_nw m4 1 0).1 = _; rw [nw_1, a4, List.append_assoc]; rfl
  have i5 : ∀ r : Nat, r ≠ A + 4 → m5.2.1 r = m4.2.1 r := fun r hr => by rw [← h5]; show (gm_nw m4 1 0).2.1 r = _; exact nw_i (by omega)
  have r5 : ∀ r : Nat, r ≠ A → r ≠ A + 4 → m5.2.2 r = m4.2.2 r := fun r hr hr2 => by rw [← h5]; show gm_u (gm_nw m4 1 0).2.2 A 7 (A + 4) r = _; rw [gu_row hr]; exact nw_r (by omega)
  have q5 : m5.2.2 A 5 = A + 3 ∧ m5.2.2 A 4 = A + 2 ∧ m5.2.2 A 3 = A + 1 := by
    rw [← h5]
    refine ⟨?_, ?_, ?_⟩
    · show gm_u (gm_nw m4 1 0).2.2 A 7 (A + 4) A 5 = _; rw [gu_ne (by decide), nw_r (by omega)]; exact q4.1
    · show gm_u (gm_nw m4 1 0).2.2 A 7 (A + 4) A 4 = _; rw [gu_ne (by decide), nw_r (by omega)]; exact q4.2.1
    · show gm_u (gm_nw m4 1 0).2.2 A 7 (A + 4) A 3 = _; rw [gu_ne (by decide), nw_r (by omega)]; exact q4.2.2
  clear h5
  refine gw_some (gq_V ?_)
  have zA : m5.2.1 A = m1.2.1 A := by rw [i5 A (by omega), i4 A (by omega), i3 A (by omega), i2 A (by omega)]
  rw [zA]
  exact y1
/-! what an afternoon says, on both sides: w its wind, sw how sweet, L its steps -/
def AFC (m : gm_M) (A : Nat) (w sw : Int32) (L : List Int32) : Prop := (m.2.1 A 0 = w ∧ m.2.1 A 1 = sw) ∧ (m.2.1 A 6 = Int32.ofNat (cds L).length ∧ ∀ i : Nat, i < (cds L).length → (cds L)[i]? = some (m.2.1 (A + 3) i)) ∧ m.2.1 A 2 = Int32.ofNat (chs L 0).length ∧ ∀ (i : Nat) (q : Int32 × Nat), (chs L 0)[i]? = some q → m.2.1 (A + 1) i = q.1 ∧ m.2.1 (A + 2) i = Int32.ofNat q.2
def AFR (σ : Nat → Int32) (a : Nat) (w sw : Int32) (L : List Int32) : Prop := (σ (210 + a) = w ∧ σ (215 + a) = sw) ∧ σ (220 + a) = Int32.ofNat L.length ∧ ∀ i : Nat, i < L.length → L[i]? = some (σ (225 + 140 * a + i))
def CA (μ : gm_M) (r : pB) (x : Int32) (m : gm_M) : Prop := (∀ q : Nat, q < μ.1.length → q ≠ 15 → m.2.1 q = μ.2.1 q) ∧ (∀ j : Nat, j ≠ 4 → j ≠ 5 → m.2.1 15 j = μ.2.1 15 j) ∧ m.2.1 15 4 = 0 ∧ (∀ q j : Nat, q < μ.1.length → ¬ (q = 15 ∧ j = 6) → m.2.2 q j = μ.2.2 q j) ∧ ((r.1 = true ∧ x = μ.2.1 15 5 ∧ m.2.1 15 5 = μ.2.1 15 5 + 1 ∧ m.2.2 15 6 = μ.1.length ∧ AFC m μ.1.length r.2.2.1 r.2.2.2.1 r.2.2.2.2 ∧ r.2.2.2.2.length ≤ 100) ∨ (r.1 = false ∧ x = -10 - Int32.ofNat r.2.1 ∧ m.2.1 15 5 = μ.2.1 15 5 ∧ m.2.2 15 6 = μ.2.2 15 6))
def RA (μ : gm_M) (a : Nat) (r : pB) (x : Int32) (m : gm_M) : Prop := (∀ q : Nat, q ≠ 65 → q ≠ 66 → m.2.1 q = μ.2.1 q) ∧ m.2.2 = μ.2.2 ∧ (∀ k : Nat, k ≠ 27 → k ≠ 31 → k ≠ 32 → k ≠ 210 + a → k ≠ 215 + a → k ≠ 220 + a → ¬ (225 + 140 * a ≤ k ∧ k < 365 + 140 * a) → m.2.1 66 k = μ.2.1 66 k) ∧ m.2.1 66 31 = 0 ∧ ((r.1 = true ∧ x = μ.2.1 66 27 ∧ m.2.1 66 27 = μ.2.1 66 27 + 1 ∧ m.2.1 66 32 = μ.2.1 66 27 ∧ AFR (m.2.1 66) a r.2.2.1 r.2.2.2.1 r.2.2.2.2) ∨ (r.1 = false ∧ x = -10 - Int32.ofNat r.2.1 ∧ m.2.1 66 27 = μ.2.1 66 27 ∧ m.2.1 66 32 = μ.2.1 66 32))
set_option maxHeartbeats 2000000 in
theorem v_afternoon {μ : gm_M} (h : ALL μ) {n : Nat} {tx : Nat → Int32} (hn : n ≤ 100) (en : μ.2.1 15 4 = Int32.ofNat n) (ht : ∀ i : Nat, i < n → μ.2.1 17 i = tx i) (hr : ∀ i : Nat, 0 ≤ (tx i).toInt ∧ (tx i).toInt ≤ 127) : gwI (f_X11_afternoon 1 μ) (fun x m => (5 ≤ (μ.2.1 15 5).toInt ∧ x = -4 ∧ m = μ) ∨ ((μ.2.1 15 5).toInt < 5 ∧ CA μ (pAft tx n) x m)) := by
  have hc := h.2.2.1
  have hg := hc.1
  have hL := hg.len
  have l5 : (5 : Int32).toInt = 5 := rfl
  have l0 : (0 : Int32).toInt = 0 := rfl
  refine gwI_of ?_
  unfold f_X11_afternoon
  refine gw_gRa 15 (hg.c (r := 1) rfl) (hg.r (by decide)) ?_
  refine gw_gIw (hg.c (r := 15) rfl) ?_
  refine gw_lt (fun g5 => ?_) (fun g5 => gw_some (gq_I (Or.inl ⟨by omega, rfl, rfl⟩)))
  show gw (gm_mk μ 5 10 _) _
  unfold gm_mk
  have tq : gm_tag (gm_nw μ 5 10) μ.1.length = 5 := by
    unfold gm_tag; rw [nw_1, List.getElem?_append_right (Nat.le_refl _), Nat.sub_self]; rfl
  refine gw_if (by rw [tq]; decide) ?_
  refine gw_bV (gwV_and s_ainit s_ainit2) (fun m5 ⟨⟨a1, a2, a3, a4, a5, a6⟩, z0, z1⟩ => ?_)
  generalize hA : μ.1.length = A at *
  have up : ∀ (r : Nat) (q : Nat × Nat), μ.1[r]? = some q → m5.1[r]? = some q := fun r q e => by
    rw [a1, List.getElem?_append_left (List.getElem?_eq_some_iff.mp e).1]; exact e
  have lt75 : ∀ q ∈ gRl, q.1 < 75 := by decide
  have hS5 : gS m5 := ⟨fun r q e => up r q (hg.1 r q e), fun q hq => by rw [a3 q.1 (by have := lt75 q hq; omega)]; exact hg.2 q hq⟩
  have hT : m5.1[A]? = some (5, 10) ∧ m5.1[A + 1]? = some (1, 10) ∧ m5.1[A + 2]? = some (1, 10) ∧ m5.1[A + 3]? = some (1, 100) := by
    rw [a1, ← hA]
    refine ⟨?_, ?_, ?_, ?_⟩
    · rw [List.getElem?_append_right (Nat.le_refl _), Nat.sub_self]; rfl
    · rw [List.getElem?_append_right (Nat.le_add_right _ _), Nat.add_sub_cancel_left]; rfl
    · rw [List.getElem?_append_right (Nat.le_add_right _ _), Nat.add_sub_cancel_left]; rfl
    · rw [List.getElem?_append_right (Nat.le_add_right _ _), Nat.add_sub_cancel_left]; rfl
  refine gw_gRa 15 (hS5.c (r := 1) rfl) (hS5.r (by decide)) ?_
  refine gw_gRa 17 (hS5.c (r := 15) rfl) (hS5.r (by decide)) ?_
  refine gw_gRa 15 (hS5.c (r := 1) rfl) (hS5.r (by decide)) ?_
  refine gw_gIw (hS5.c (r := 15) rfl) ?_
  rw [a2 15 (by omega), en]
  have t5 : gm_tag m5 A = 5 := by unfold gm_tag; rw [hT.1]
  have t5c : [5].contains (gm_tag m5 A) = true := by rw [t5]; rfl
  refine gw_if t5 ?_
  have on : (Int32.ofNat n).toInt = n := ofn (by omega)
  have RD : gwI (f_X0_read A 17 (Int32.ofNat n) m5) (fun x m => (m.1 = m5.1 ∧ (∀ r : Nat, r ≠ A → m.2.2 r = m5.2.2 r) ∧ (∀ r : Nat, r ≠ A → r ≠ A + 1 → r ≠ A + 2 → r ≠ A + 3 → m.2.1 r = m5.2.1 r) ∧ RI A m) ∧ (((pAft tx n).1 = true ∧ x = -1 ∧ AFC m A (pAft tx n).2.2.1 (pAft tx n).2.2.2.1 (pAft tx n).2.2.2.2 ∧ (pAft tx n).2.2.2.2.length ≤ 100) ∨ ((pAft tx n).1 = false ∧ x = Int32.ofNat (pAft tx n).2.1 ∧ (pAft tx n).2.1 ≤ n))) := by
    refine gwI_and (s_read hS5 hL hT a4 a5 a6 ⟨by omega, by omega⟩) ?_
    refine gwI_of ?_
    unfold f_X0_read
    refine gw_pRw t5c ?_
    refine gw_al (hS5.t (r := 17) rfl) (hS5.l (r := 17) rfl) ?_
    refine gw_pIw t5c ?_
    have ex : (if Int32.ofNat 100 < Int32.ofNat n then Int32.ofNat 100 else Int32.ofNat n) = Int32.ofNat n := by
      rw [if_neg]
      rw [Int32.lt_iff_toInt_lt, on]
      have : (Int32.ofNat 100).toInt = 100 := rfl
      omega
    rw [ex]
    generalize hB : wI (wR m5 A 7 17) A 8 (Int32.ofNat n) = B
    have B1 : B.1 = m5.1 := by rw [← hB]; rfl
    have B2 : ∀ r : Nat, r ≠ A → B.2.2 r = m5.2.2 r := fun r hr => by rw [← hB]; show gm_u m5.2.2 A 7 17 r = _; exact gu_row hr
    have B2n : ∀ j : Nat, j ≠ 7 → B.2.2 A j = m5.2.2 A j := fun j hj => by rw [← hB]; show gm_u m5.2.2 A 7 17 A j = _; exact gu_ne hj
    have B27 : B.2.2 A 7 = 17 := by rw [← hB]; show gm_u m5.2.2 A 7 17 A 7 = _; exact gu_eq
    have Bo : ∀ r : Nat, r ≠ A → B.2.1 r = m5.2.1 r := fun r hr => by rw [← hB, wI_o _ _ _ _ hr]; rfl
    have Bn : ∀ j : Nat, j ≠ 8 → B.2.1 A j = m5.2.1 A j := fun j hj => by rw [← hB, wI_n _ _ _ _ hj]; rfl
    have B8 : B.2.1 A 8 = Int32.ofNat n := by rw [← hB, wI_e]
    clear hB
    have hSB : gS B := ⟨fun r q e => by rw [B1]; exact hS5.1 r q e, fun q hq => by rw [B2 q.1 (by have := lt75 q hq; omega)]; exact hS5.2 q hq⟩
    have bs : BS A n tx B := ⟨hSB, hL, by rw [B1]; exact hT, ⟨by rw [B2n 3 (by decide)]; exact a4.1, by rw [B2n 4 (by decide)]; exact a4.2.1, by rw [B2n 5 (by decide)]; exact a4.2.2, B27⟩, hn, B8, fun i hi => by rw [Bo 17 (by omega), a2 17 (by omega)]; exact ht i hi, hr⟩
    have ds : dst A n B 0 0 20 [] B := ⟨⟨rfl, rfl, fun _ _ _ _ _ => rfl, rfl⟩, ⟨Nat.zero_le _, Nat.le_refl _⟩, ⟨by rw [Bn 0 (by decide)]; exact z0, by rw [Bn 1 (by decide)]; exact z1, by rw [Bn 9 (by decide)]; exact a5.1⟩, ⟨by rw [Bn 6 (by decide)]; exact a5.2.1, fun i hi => absurd hi (Nat.not_lt_zero i)⟩, by rw [Bn 2 (by decide)]; exact a5.2.2, fun i q hi => by cases hi⟩
    refine gw_mono (v_loop bs ds) (fun b hb => ?_)
    obtain ⟨x, e1, hx⟩ := hb
    refine ⟨x, e1, ?_⟩
    rcases hx with ⟨r1, r2, r3⟩ | ⟨r1, r2, r3⟩
    · obtain ⟨-, d2, d3, d4, d5, d6⟩ := r3
      exact Or.inl ⟨r1, r2, ⟨⟨d3.1, d3.2.1⟩, d4, d5, d6⟩, by omega⟩
    · exact Or.inr ⟨r1, r2, r3⟩
  refine gw_bI RD (fun x m ⟨⟨b1, b2, b3, b4⟩, hx⟩ => ?_)
  have hS := b4.1
  have ir : ∀ r : Nat, r < A → m.2.1 r = μ.2.1 r := fun r hr => by rw [b3 r (by omega) (by omega) (by omega) (by omega), a2 r hr]
  have rr : ∀ r : Nat, r < A → m.2.2 r = μ.2.2 r := fun r hr => by rw [b2 r (by omega), a3 r hr]
  refine gw_gRa 15 (hS.c (r := 1) rfl) (hS.r (by decide)) ?_
  refine gw_pIw (hS.c (r := 15) rfl) ?_
  rcases hx with ⟨r1, r2, r3, r4⟩ | ⟨r1, r2, r3⟩
  · subst r2
    refine gw_lt (fun _ => ?_) (fun g => absurd g (by decide))
    refine gw_gRa 15 (hS.c (r := 1) rfl) (hS.r (by decide)) ?_
    refine gw_pRw (hS.c (r := 15) rfl) ?_
    have hS6 : gS (wR (wI m 15 4 0) 15 6 A) := gS.w6 (μ := wI m 15 4 0) (s := 15) (v := A) hS (Or.inl rfl) rfl rfl
    refine gw_gRa 15 (hS6.c (r := 1) rfl) (hS6.r (by decide)) ?_
    refine gw_gIw (hS6.c (r := 15) rfl) ?_
    refine gw_pIw (hS6.c (r := 15) rfl) ?_
    refine gw_gRa 15 (hS6.c (r := 1) rfl) (hS6.r (r := 1) (j := 1) (a := 15) (by decide)) ?_
    refine gw_gIw (hS6.c (r := 15) rfl) ?_
    have e5 : (wR (wI m 15 4 0) 15 6 A).2.1 15 5 = μ.2.1 15 5 := by
      show (wI m 15 4 0).2.1 15 5 = _
      rw [wI_n _ _ _ _ (by decide), ir 15 (by omega)]
    rw [e5, wI_e]
    have rd : ∀ q : Nat, q ≠ 15 → (wI (wR (wI m 15 4 0) 15 6 A) 15 5 (μ.2.1 15 5 + 1)).2.1 q = m.2.1 q := fun q hq => by rw [wI_o _ _ _ _ hq]; show (wI m 15 4 0).2.1 q = _; exact wI_o _ _ _ _ hq
    refine gw_some (gq_I (Or.inr ⟨by omega, fun q q1 q2 => by rw [rd q q2]; exact ir q (by omega), fun j j4 j5 => by rw [wI_n _ _ _ _ j5]; show (wI m 15 4 0).2.1 15 j = _; rw [wI_n _ _ _ _ j4, ir 15 (by omega)], ?_, fun q j q1 q2 => ?_, Or.inl ⟨r1, gx_p1 _, wI_e _ _ _ _, ?_, ?_, r4⟩⟩))
    · rw [wI_n _ _ _ _ (by decide)]
      show (wI m 15 4 0).2.1 15 4 = 0
      rw [wI_e]
    · show gm_u m.2.2 15 6 A q j = _
      by_cases e : q = 15
      · subst e
        rw [gu_ne (fun z => q2 ⟨rfl, z⟩), rr 15 (by omega)]
      · rw [gu_row e, rr q (by omega)]
    · rw [hA]
      show gm_u m.2.2 15 6 A 15 6 = A
      exact gu_eq
    · rw [hA]
      unfold AFC
      rw [rd A (by omega), rd (A + 1) (by omega), rd (A + 2) (by omega), rd (A + 3) (by omega)]
      exact r3
  · subst r2
    have op := ofn (k := (pAft tx n).2.1) (by omega)
    refine gw_lt (fun g => by omega) (fun _ => ?_)
    refine gw_some (gq_I (Or.inr ⟨by omega, fun q q1 q2 => (wI_o _ _ _ _ q2).trans (ir q (by omega)), fun j j4 _ => (wI_n _ _ _ _ j4).trans (by rw [ir 15 (by omega)]), wI_e _ _ _ _, fun q j q1 q2 => ?_, Or.inr ⟨r1, rfl, (wI_n _ _ _ _ (by decide)).trans (by rw [ir 15 (by omega)]), ?_⟩⟩))
    · show m.2.2 q j = _
      rw [rr q (by omega)]
    · show m.2.2 15 6 = _
      rw [rr 15 (by omega)]
set_option maxHeartbeats 2000000 in
theorem m_aft {μ : gm_M} (h : ALL μ) {n a : Nat} {tx : Nat → Int32} (hn : n ≤ 100) (ha : a ≤ 5) (en : μ.2.1 66 31 = Int32.ofNat n) (ea : μ.2.1 66 27 = Int32.ofNat a) (ht : ∀ i : Nat, i < n → μ.2.1 66 (110 + i) = tx i) (hr : ∀ i : Nat, 0 ≤ (tx i).toInt ∧ (tx i).toInt ≤ 127) : gwI (f_X12_afternoon 65 μ) (fun x m => (5 ≤ (μ.2.1 66 27).toInt ∧ x = -4 ∧ m = μ) ∨ ((μ.2.1 66 27).toInt < 5 ∧ RA μ a (pAft tx n) x m)) := by
  have hM := h.1
  have hg := hM.1
  have n27 := hM.n27
  have l0 : (0 : Int32).toInt = 0 := rfl
  have l1 : (1 : Int32).toInt = 1 := rfl
  have l5 : (5 : Int32).toInt = 5 := rfl
  have l10 : (10 : Int32).toInt = 10 := rfl
  have l27 : (27 : Int32).toInt = 27 := rfl
  have l31 : (31 : Int32).toInt = 31 := rfl
  have l32 : (32 : Int32).toInt = 32 := rfl
  have l210 : (210 : Int32).toInt = 210 := rfl
  have l215 : (215 : Int32).toInt = 215 := rfl
  have l220 : (220 : Int32).toInt = 220 := rfl
  refine gwI_of ?_
  unfold f_X12_afternoon
  refine gw_gRa 66 (hg.c (r := 65) rfl) (hg.r (by decide)) ?_
  refine gw_aIw 27 (hg.t (r := 66) rfl) (hg.l (r := 66) rfl) (by omega) (by omega) ?_
  refine gw_ne (fun g => ?_) (fun g => gw_some (gq_I (Or.inl ⟨by omega, rfl, rfl⟩)))
  have oa : (Int32.ofNat a).toInt = a := ofn (by omega)
  have ha5 : a < 5 := by rw [ea] at n27 g; omega
  refine gw_gRa 66 (hg.c (r := 65) rfl) (hg.r (by decide)) ?_
  refine gw_aIw 27 (hg.t (r := 66) rfl) (hg.l (r := 66) rfl) (by omega) (by omega) ?_
  refine gw_pIw (hg.c (r := 65) rfl) ?_
  refine gw_gRa 66 (hg.c (r := 65) rfl) (hg.r (r := 65) (j := 1) (a := 66) (by decide)) ?_
  refine gw_aIw 31 (hg.t (r := 66) rfl) (hg.l (r := 66) rfl) (by omega) (by omega) ?_
  rw [wI_o _ _ _ _ (show (66 : Nat) ≠ 65 by decide)]
  refine gw_pIw (hg.c (r := 65) rfl) ?_
  refine gw_gRa 66 (hg.c (r := 65) rfl) (hg.r (r := 65) (j := 1) (a := 66) (by decide)) ?_
  refine gw_sIw 31 (hg.t (r := 66) rfl) (hg.l (r := 66) rfl) (by omega) (by omega) ?_
  generalize h1 : wI (wI (wI μ 65 5 (μ.2.1 66 27)) 65 7 (μ.2.1 66 31)) 66 31 0 = m1
  have g1 : gS m1 := by rw [← h1]; exact hg
  have a5 : m1.2.1 65 5 = Int32.ofNat a := by rw [← h1, wI_o _ _ _ _ (by decide), wI_n _ _ _ _ (by decide), wI_e, ea]
  refine gw_gRa 66 (g1.c (r := 65) rfl) (g1.r (by decide)) ?_
  refine gw_gIw (g1.c (r := 65) rfl) ?_
  rw [a5]
  have n210 : ((210 : Int32) + Int32.ofNat a).toInt = (210 : Int32).toInt + (Int32.ofNat a).toInt := gx_add (by omega) (by omega)
  have n215 : ((215 : Int32) + Int32.ofNat a).toInt = (215 : Int32).toInt + (Int32.ofNat a).toInt := gx_add (by omega) (by omega)
  have n220 : ((220 : Int32) + Int32.ofNat a).toInt = (220 : Int32).toInt + (Int32.ofNat a).toInt := gx_add (by omega) (by omega)
  refine gw_sIw (210 + a) (g1.t (r := 66) rfl) (g1.l (r := 66) rfl) (by omega) (by omega) ?_
  refine gw_gRa 66 (g1.c (r := 65) rfl) (g1.r (r := 65) (j := 1) (a := 66) (by decide)) ?_
  refine gw_gIw (g1.c (r := 65) rfl) ?_
  rw [wI_o _ _ _ _ (show (65 : Nat) ≠ 66 by decide), a5]
  refine gw_sIw (215 + a) (g1.t (r := 66) rfl) (g1.l (r := 66) rfl) (by omega) (by omega) ?_
  refine gw_gRa 66 (g1.c (r := 65) rfl) (g1.r (r := 65) (j := 1) (a := 66) (by decide)) ?_
  refine gw_gIw (g1.c (r := 65) rfl) ?_
  rw [wI_o _ _ _ _ (show (65 : Nat) ≠ 66 by decide), wI_o _ _ _ _ (show (65 : Nat) ≠ 66 by decide), a5]
  refine gw_sIw (220 + a) (g1.t (r := 66) rfl) (g1.l (r := 66) rfl) (by omega) (by omega) ?_
  refine gw_pIw (g1.c (r := 65) rfl) ?_
  refine gw_pZw (g1.c (r := 65) rfl) (Or.inl l0) ?_
  refine gw_pIw (g1.c (r := 65) rfl) ?_
  generalize hB : wI (wI (wI (wI (wI (wI m1 66 (210 + a) 0) 66 (215 + a) 20) 66 (220 + a) 0) 65 6 0) 65 8 0) 65 9 0 = B
  have gB : gS B := by rw [← hB]; exact g1
  have B2 : B.2.2 = μ.2.2 := by rw [← hB, ← h1]; rfl
  have Bo : ∀ r : Nat, r ≠ 65 → r ≠ 66 → B.2.1 r = μ.2.1 r := fun r r1 r2 => by
    rw [← hB, wI_o _ _ _ _ r1, wI_o _ _ _ _ r1, wI_o _ _ _ _ r1, wI_o _ _ _ _ r2, wI_o _ _ _ _ r2, wI_o _ _ _ _ r2, ← h1, wI_o _ _ _ _ r2, wI_o _ _ _ _ r1, wI_o _ _ _ _ r1]
  have B65 : ∀ j : Nat, j ≠ 9 → j ≠ 8 → j ≠ 6 → B.2.1 65 j = m1.2.1 65 j := fun j j9 j8 j6 => by
    rw [← hB, wI_n _ _ _ _ j9, wI_n _ _ _ _ j8, wI_n _ _ _ _ j6, wI_o _ _ _ _ (by decide), wI_o _ _ _ _ (by decide), wI_o _ _ _ _ (by decide)]
  have B9 : B.2.1 65 9 = 0 := by rw [← hB, wI_e]
  have B8 : B.2.1 65 8 = 0 := by rw [← hB, wI_n _ _ _ _ (by decide), wI_e]
  have B6 : B.2.1 65 6 = 0 := by rw [← hB, wI_n _ _ _ _ (by decide), wI_n _ _ _ _ (by decide), wI_e]
  have B7 : B.2.1 65 7 = Int32.ofNat n := by rw [B65 7 (by decide) (by decide) (by decide), ← h1, wI_o _ _ _ _ (by decide), wI_e, en]
  have B5 : B.2.1 65 5 = Int32.ofNat a := by rw [B65 5 (by decide) (by decide) (by decide)]; exact a5
  have C : ∀ k : Nat, k ≠ 31 → k ≠ 210 + a → k ≠ 215 + a → k ≠ 220 + a → B.2.1 66 k = μ.2.1 66 k := fun k k1 k2 k3 k4 => by
    rw [← hB, wI_o _ _ _ _ (by decide), wI_o _ _ _ _ (by decide), wI_o _ _ _ _ (by decide), wI_n _ _ _ _ k4, wI_n _ _ _ _ k3, wI_n _ _ _ _ k2, ← h1, wI_n _ _ _ _ k1, wI_o _ _ _ _ (by decide), wI_o _ _ _ _ (by decide)]
  have C31 : B.2.1 66 31 = 0 := by
    rw [← hB, wI_o _ _ _ _ (by decide), wI_o _ _ _ _ (by decide), wI_o _ _ _ _ (by decide), wI_n _ _ _ _ (by omega), wI_n _ _ _ _ (by omega), wI_n _ _ _ _ (by omega), ← h1, wI_e]
  have C220 : B.2.1 66 (220 + a) = 0 := by rw [← hB, wI_o _ _ _ _ (by decide), wI_o _ _ _ _ (by decide), wI_o _ _ _ _ (by decide), wI_e]
  have C215 : B.2.1 66 (215 + a) = 20 := by rw [← hB, wI_o _ _ _ _ (by decide), wI_o _ _ _ _ (by decide), wI_o _ _ _ _ (by decide), wI_n _ _ _ _ (by omega), wI_e]
  have C210 : B.2.1 66 (210 + a) = 0 := by rw [← hB, wI_o _ _ _ _ (by decide), wI_o _ _ _ _ (by decide), wI_o _ _ _ _ (by decide), wI_n _ _ _ _ (by omega), wI_n _ _ _ _ (by omega), wI_e]
  clear hB h1
  have br : BR a n tx B := ⟨gB, ha5, B5, B7, hn, fun i hi => by rw [C (110 + i) (by omega) (by omega) (by omega) (by omega)]; exact ht i hi, hr⟩
  have dB : mst a n B false 0 0 20 [] B := ⟨⟨rfl, rfl, fun _ _ _ => rfl, fun _ _ _ _ => rfl, fun _ _ _ _ _ => rfl⟩, ⟨C210, C215⟩, ⟨rfl, rfl, fun _ _ _ => rfl, fun _ _ _ _ => rfl, fun _ _ _ => rfl⟩, ⟨Nat.zero_le _, Nat.zero_le _, Nat.le_refl _⟩, B6, B8, B9, C220, fun i hi => absurd hi (Nat.not_lt_zero i)⟩
  refine gw_if (gB.t (r := 65) rfl) ?_
  refine gw_bV (m_clause br dB) (fun m23 h23 => ?_)
  -- what is left: k clauses more
  generalize hI : (fun s : Int32 × gm_M => ∃ i : Nat, s.1 = Int32.ofNat i ∧ 1 ≤ i ∧ i ≤ 10 ∧ ∃ r : pB, mk a n B r s.2 ∧ pAft tx n = (if r.1 = true then pR tx n (10 - i) r else r)) = I
  have on := ofn (k := n) (by omega)
  refine gw_loop I (fun s => 10 - s.1.toInt) (fun s hs => ?_) 5000 ((1 : Int32), m23) (by rw [← hI]; exact ⟨1, rfl, Nat.le_refl _, by decide, pK tx n 0 0 20 [], h23, rfl⟩) (by show 10 - (1 : Int32).toInt < ((5000 : Nat) : Int); omega) (by show 0 ≤ 10 - (1 : Int32).toInt; omega)
  obtain ⟨s1, s2⟩ := s
  rw [← hI] at hs
  obtain ⟨i, es, hi1, hi2, r, hr2, eA⟩ := hs
  replace es : s1 = Int32.ofNat i := es
  replace hr2 : mk a n B r s2 := hr2
  subst es
  have oi := ofn (k := i) (by omega)
  have bad : ∀ (q : Nat) (w sw : Int32) (T : List Int32) (v : Bool) (M : gm_M), (v = true ∨ q < n) → pAft tx n = (false, q, (pAft tx n).2.2) → mst a n B v q w sw T M → gw (gm_gI M [17] 65 8 (fun v29 => gm_j (fun (s30 : Unit) => gm_gI M [17] 65 6 (fun v32 => (some (Sum.inr (some (.int ((-10 : Int32) - v32)), M)) : Option ((Int32 × gm_M) ⊕ (Option Value × gm_M))))) (fun j31 => if v29 ≠ 0 then j31 () else gm_gI M [17] 65 6 (fun v33 => gm_gI M [17] 65 7 (fun v34 => if v33 = v34 then gm_gR M [17] 65 1 (fun v35 => gm_aI M v35 (27 : Int32) (fun v36 => gm_sI M v35 (27 : Int32) (v36 + (1 : Int32)) (fun m37 => gm_gR m37 [17] 65 1 (fun v38 => gm_gI m37 [17] 65 5 (fun v39 => gm_sI m37 v38 (32 : Int32) v39 (fun m40 => gm_gI m40 [17] 65 5 (fun v41 => some (Sum.inr (some (.int v41), m40))))))))) else j31 ()))))) (gs_st I (fun s => 10 - s.1.toInt) (Int32.ofNat i, s2) (gqI (fun x m => (5 ≤ (μ.2.1 66 27).toInt ∧ x = -4 ∧ m = μ) ∨ ((μ.2.1 66 27).toInt < 5 ∧ RA μ a (pAft tx n) x m)))) := fun q w sw T v M hv eq d => by
    have bm := d.b br
    have c := d.c
    have hq := c.2.1.1
    obtain ⟨⟨d1, d2, d3, d4, d5⟩, d6, -⟩ := d
    have ok : RA μ a (pAft tx n) (-10 - Int32.ofNat q) M := by
      rw [eq]
      refine ⟨fun k k1 k2 => (d3 k k1 k2).trans (Bo k k1 k2), d2.trans B2, fun k k1 k2 k3 k4 k5 k6 k7 => (d5 k k4 k5 k6 k7).trans (C k k2 k4 k5 k6), (d5 31 (by omega) (by omega) (by omega) (by omega)).trans C31, Or.inr ⟨rfl, rfl, (d5 27 (by omega) (by omega) (by omega) (by omega)).trans (C 27 (by omega) (by omega) (by omega) (by omega)), (d5 32 (by omega) (by omega) (by omega) (by omega)).trans (C 32 (by omega) (by omega) (by omega) (by omega))⟩⟩
    refine gw_gIw (c.tc bm) ?_
    rw [c.e8]
    refine gw_j (fun _ => True) (fun _ _ => ?_) (fun j31 hj31 => ?_)
    · refine gw_gIw (c.tc bm) ?_
      rw [c.e6]
      exact gw_some (gs_inr (gq_I (Or.inr ⟨by rw [ea, oa]; omega, ok⟩)))
    · cases v with
      | true => rw [if_pos (by decide)]; exact hj31 _ trivial
      | false =>
        rw [if_neg (by decide)]
        refine gw_gIw (c.tc bm) ?_
        refine gw_gIw (c.tc bm) ?_
        rw [c.e6, c.e7 bm]
        have oq := ofn (k := q) (by omega)
        refine gw_eq (fun g => ?_) (fun _ => hj31 _ trivial)
        rcases hv with h | h
        · cases h
        · omega
  cases r1 : r.1 with
  | false =>
    rw [if_neg (by rw [r1]; decide)] at eA
    rcases hr2 with ⟨h, -⟩ | ⟨-, w, sw, T, d⟩
    · rw [r1] at h; cases h
    · have bm := d.b br
      have c := d.c
      refine gw_gIw (c.tc bm) ?_
      show gw (gm_j _ (fun j28 => if s2.2.1 65 8 ≠ 0 then _ else _)) _
      rw [c.e8]
      refine gw_ji ?_
      rw [if_pos (by decide)]
      exact bad r.2.1 w sw T true s2 (Or.inl rfl) (by rw [eA, ← r1]) d
  | true =>
    rw [if_pos r1] at eA
    rcases hr2 with ⟨-, d⟩ | ⟨h, -⟩
    · have bm := d.b br
      have c := d.c
      have hq := c.2.1.1
      have orp := ofn (k := r.2.1) (by omega)
      refine gw_gIw (c.tc bm) ?_
      show gw (gm_j _ (fun j28 => if s2.2.1 65 8 ≠ 0 then _ else _)) _
      rw [c.e8]
      refine gw_j (fun M => M = s2 ∧ (n ≤ r.2.1 ∨ (r.2.1 < n ∧ pAft tx n = (false, r.2)))) (fun M ⟨eM, hM⟩ => ?_) (fun j28 hj28 => ?_)
      · subst eM
        by_cases hend : n ≤ r.2.1
        · have e : pAft tx n = r := by
            rw [eA]
            cases 10 - i with
            | zero => rw [pR, if_pos hend]
            | succ k => rw [pR, if_pos hend]
          refine gw_gIw (c.tc bm) ?_
          rw [c.e8]
          refine gw_ji ?_
          rw [if_neg (by decide)]
          refine gw_gIw (c.tc bm) ?_
          refine gw_gIw (c.tc bm) ?_
          rw [c.e6, c.e7 bm, if_pos (by rw [show r.2.1 = n by omega])]
          obtain ⟨⟨d1, d2, d3, d4, d5⟩, ⟨d6, d7⟩, -⟩ := d
          have c11 := c.2.2.2.2.2
          have e27 : M.2.1 66 27 = Int32.ofNat a := by rw [d5 27 (by omega) (by omega) (by omega) (by omega), C 27 (by omega) (by omega) (by omega) (by omega), ea]
          refine gw_gRa 66 (c.tc bm) (c.r1 bm) ?_
          refine gw_aIw 27 ((c.S bm).t (r := 66) rfl) ((c.S bm).l (r := 66) rfl) (by omega) (by omega) ?_
          refine gw_sIw 27 ((c.S bm).t (r := 66) rfl) ((c.S bm).l (r := 66) rfl) (by omega) (by omega) ?_
          refine gw_gRa 66 (show [17].contains (gm_tag M 65) = true from c.tc bm) (show M.2.2 65 1 = 66 from c.r1 bm) ?_
          refine gw_gIw (show [17].contains (gm_tag M 65) = true from c.tc bm) ?_
          rw [wI_o _ _ _ _ (show (65 : Nat) ≠ 66 by decide), c.e5 bm]
          refine gw_sIw 32 ((c.S bm).t (r := 66) rfl) ((c.S bm).l (r := 66) rfl) (by omega) (by omega) ?_
          refine gw_gIw (show [17].contains (gm_tag M 65) = true from c.tc bm) ?_
          rw [wI_o _ _ _ _ (show (65 : Nat) ≠ 66 by decide), wI_o _ _ _ _ (show (65 : Nat) ≠ 66 by decide), c.e5 bm, e27]
          have rd : ∀ k : Nat, k ≠ 27 → k ≠ 32 → (wI (wI M 66 27 (Int32.ofNat a + 1)) 66 32 (Int32.ofNat a)).2.1 66 k = M.2.1 66 k := fun k k1 k2 => by rw [wI_n _ _ _ _ k2, wI_n _ _ _ _ k1]
          refine gw_some (gs_inr (gq_I (Or.inr ⟨by rw [ea, oa]; omega, fun k k1 k2 => ?_, d2.trans B2, fun k k1 k2 k3 k4 k5 k6 k7 => ?_, ?_, Or.inl ⟨by rw [e]; exact r1, by rw [ea], ?_, ?_, ?_⟩⟩)))
          · rw [wI_o _ _ _ _ k2, wI_o _ _ _ _ k2]; exact (d3 k k1 k2).trans (Bo k k1 k2)
          · rw [rd k k1 k3]; exact (d5 k k4 k5 k6 k7).trans (C k k2 k4 k5 k6)
          · rw [rd 31 (by decide) (by decide)]; exact (d5 31 (by omega) (by omega) (by omega) (by omega)).trans C31
          · rw [wI_n _ _ _ _ (by decide), wI_e, ea]
          · rw [wI_e, ea]
          · rw [e]
            unfold AFR
            rw [rd (210 + a) (by omega) (by omega), rd (215 + a) (by omega) (by omega), rd (220 + a) (by omega) (by omega)]
            refine ⟨⟨d6, d7⟩, c11.1, fun i hi => ?_⟩
            rw [rd _ (by omega) (by omega)]; exact c11.2 i hi
        · rcases hM with h | ⟨h, e⟩
          · exact absurd h hend
          · exact bad r.2.1 _ _ _ false M (Or.inr h) (by rw [e]) d
      · rw [if_neg (by decide)]
        refine gw_le (fun g => ?_) (fun g => ?_)
        · replace g : (10 : Int32).toInt ≤ (Int32.ofNat i).toInt := g
          refine hj28 _ ⟨rfl, ?_⟩
          by_cases hend : n ≤ r.2.1
          · exact Or.inl hend
          · exact Or.inr ⟨by omega, by rw [eA, show 10 - i = 0 by omega, pR, if_neg hend]⟩
        · replace g : (Int32.ofNat i).toInt < (10 : Int32).toInt := g
          refine gw_if (c.t bm) ?_
          refine gw_bI (w_here bm c) (fun x m' ⟨ex, em⟩ => ?_)
          subst em
          refine gw_ite (fun g2 => hj28 _ ⟨rfl, ?_⟩) (fun g2 => ?_)
          · by_cases hend : n ≤ r.2.1
            · exact Or.inl hend
            · exact Or.inr ⟨by omega, by rw [eA, show 10 - i = (9 - i) + 1 by omega, pR, if_neg hend, if_neg (by rw [← ex]; exact g2)]⟩
          · have e59 : pd tx n r.2.1 = 59 := by rw [← ex]; exact Decidable.not_not.mp g2
            have q : r.2.1 < n := pd_lt (tx := tx) (by rw [e59]; decide)
            rw [show 10 - i = (9 - i) + 1 by omega, pR, if_neg (by omega), if_pos e59] at eA
            refine gw_gIw (c.tc bm) ?_
            refine gw_pIw (c.tc bm) ?_
            rw [c.e6, ofn1 (by omega)]
            have d2 := d.on ha5 (c.at (q := r.2.1 + 1) (by omega) (by have := c.2.1.2.2; omega))
            refine gw_if (d2.c.t (d2.b br)) ?_
            refine gw_bV (m_clause br d2) (fun m46 h46 => ?_)
            refine gw_some (gs_inl ?_ ?_ ?_)
            · rw [← hI]
              exact ⟨i + 1, ofn1 (by omega), by omega, by omega, _, h46, by rw [eA, show 10 - (i + 1) = 9 - i by omega]⟩
            · show 10 - (Int32.ofNat i + 1).toInt < 10 - (Int32.ofNat i).toInt
              rw [ofn1 (by omega), ofn (k := i + 1) (by omega)]; omega
            · show 0 ≤ 10 - (Int32.ofNat i + 1).toInt
              rw [ofn1 (by omega), ofn (k := i + 1) (by omega)]; omega
    · rw [r1] at h; cases h
end
