/-! the reference's reader: all that it writes -/
def BR (a n : Nat) (tx : Nat → Int32) (μ : gm_M) : Prop := gS μ ∧ a < 5 ∧ μ.2.1 65 5 = Int32.ofNat a ∧ μ.2.1 65 7 = Int32.ofNat n ∧ n ≤ 100 ∧ (∀ i : Nat, i < n → μ.2.1 66 (110 + i) = tx i) ∧ ∀ i : Nat, 0 ≤ (tx i).toInt ∧ (tx i).toInt ≤ 127
def bw (w : Bool) : Int32 := if w = true then 1 else 0
theorem bw_z (v : Bool) : (bw v).toInt = 0 ∨ (bw v).toInt = 1 := by cases v <;> decide
def rst (a n : Nat) (μ : gm_M) (w : Bool) (p o : Nat) (L : List Int32) (m : gm_M) : Prop := (m.1 = μ.1 ∧ m.2.2 = μ.2.2 ∧ (∀ r : Nat, r ≠ 65 → r ≠ 66 → m.2.1 r = μ.2.1 r) ∧ (∀ j : Nat, j ≠ 6 → j ≠ 8 → j ≠ 9 → m.2.1 65 j = μ.2.1 65 j) ∧ ∀ k : Nat, k ≠ 220 + a → ¬ (225 + 140 * a ≤ k ∧ k < 365 + 140 * a) → m.2.1 66 k = μ.2.1 66 k) ∧ (p ≤ n ∧ o ≤ 100 ∧ L.length ≤ p) ∧ m.2.1 65 6 = Int32.ofNat p ∧ m.2.1 65 8 = bw w ∧ m.2.1 65 9 = Int32.ofNat o ∧ m.2.1 66 (220 + a) = Int32.ofNat L.length ∧ ∀ i : Nat, i < L.length → L[i]? = some (m.2.1 66 (225 + 140 * a + i))
section
variable {a n p o : Nat} {tx : Nat → Int32} {μ m : gm_M} {w : Bool} {L : List Int32}
theorem rst.S (b : BR a n tx μ) (c : rst a n μ w p o L m) : gS m := b.1.same c.1.1 c.1.2.1
theorem rst.t (b : BR a n tx μ) (c : rst a n μ w p o L m) : gm_tag m 65 = 17 := (c.S b).t (r := 65) rfl
theorem rst.tc (b : BR a n tx μ) (c : rst a n μ w p o L m) : [17].contains (gm_tag m 65) = true := (c.S b).c (r := 65) rfl
theorem rst.r1 (b : BR a n tx μ) (c : rst a n μ w p o L m) : m.2.2 65 1 = 66 := (c.S b).r (by decide)
theorem rst.e5 (b : BR a n tx μ) (c : rst a n μ w p o L m) : m.2.1 65 5 = Int32.ofNat a := by rw [c.1.2.2.2.1 5 (by decide) (by decide) (by decide)]; exact b.2.2.1
theorem rst.e7 (b : BR a n tx μ) (c : rst a n μ w p o L m) : m.2.1 65 7 = Int32.ofNat n := by rw [c.1.2.2.2.1 7 (by decide) (by decide) (by decide)]; exact b.2.2.2.1
theorem rst.e6 (c : rst a n μ w p o L m) : m.2.1 65 6 = Int32.ofNat p := c.2.2.1
theorem rst.e8 (c : rst a n μ w p o L m) : m.2.1 65 8 = bw w := c.2.2.2.1
theorem rst.e9 (c : rst a n μ w p o L m) : m.2.1 65 9 = Int32.ofNat o := c.2.2.2.2.1
theorem rst.eL (c : rst a n μ w p o L m) : m.2.1 66 (220 + a) = Int32.ofNat L.length := c.2.2.2.2.2.1
theorem rst.txt (b : BR a n tx μ) (c : rst a n μ w p o L m) {i : Nat} (h : i < n) : m.2.1 66 (110 + i) = tx i := by
  have := b.2.2.2.2.1
  rw [c.1.2.2.2.2 (110 + i) (by omega) (by omega)]; exact b.2.2.2.2.2.1 i h
theorem rst.at (c : rst a n μ w p o L m) {q : Nat} (h : q ≤ n) (hL : L.length ≤ q) : rst a n μ w q o L (wI m 65 6 (Int32.ofNat q)) := by
  obtain ⟨⟨c1, c2, c3, c4, c5⟩, c6, c7, c8, c9, c10, c11⟩ := c
  exact ⟨⟨c1, c2, fun r r1 r2 => (wI_o _ _ _ _ r1).trans (c3 r r1 r2), fun j j1 j2 j3 => (wI_n _ _ _ _ j1).trans (c4 j j1 j2 j3), c5⟩, ⟨h, c6.2.1, hL⟩, wI_e _ _ _ _, (wI_n _ _ _ _ (by decide)).trans c8, (wI_n _ _ _ _ (by decide)).trans c9, c10, c11⟩
theorem rst.fl (c : rst a n μ w p o L m) (v : Bool) : rst a n μ v p o L (wI m 65 8 (bw v)) := by
  obtain ⟨⟨c1, c2, c3, c4, c5⟩, c6, c7, c8, c9, c10, c11⟩ := c
  exact ⟨⟨c1, c2, fun r r1 r2 => (wI_o _ _ _ _ r1).trans (c3 r r1 r2), fun j j1 j2 j3 => (wI_n _ _ _ _ j2).trans (c4 j j1 j2 j3), c5⟩, c6, (wI_n _ _ _ _ (by decide)).trans c7, wI_e _ _ _ _, (wI_n _ _ _ _ (by decide)).trans c9, c10, c11⟩
theorem rst.op (c : rst a n μ w p o L m) {q : Nat} (h : q ≤ 100) : rst a n μ w p q L (wI m 65 9 (Int32.ofNat q)) := by
  obtain ⟨⟨c1, c2, c3, c4, c5⟩, c6, c7, c8, c9, c10, c11⟩ := c
  exact ⟨⟨c1, c2, fun r r1 r2 => (wI_o _ _ _ _ r1).trans (c3 r r1 r2), fun j j1 j2 j3 => (wI_n _ _ _ _ j3).trans (c4 j j1 j2 j3), c5⟩, ⟨c6.1, h, c6.2.2⟩, (wI_n _ _ _ _ (by decide)).trans c7, (wI_n _ _ _ _ (by decide)).trans c8, wI_e _ _ _ _, c10, c11⟩
theorem rst.push (c : rst a n μ w p o L m) (h : L.length + 1 ≤ p) (hn : n ≤ 100) (x : Int32) : rst a n μ w p o (L ++ [x]) (wI (wI m 66 (225 + 140 * a + L.length) x) 66 (220 + a) (Int32.ofNat (L.length + 1))) := by
  obtain ⟨⟨c1, c2, c3, c4, c5⟩, c6, c7, c8, c9, c10, c11⟩ := c
  have e65 : (wI (wI m 66 (225 + 140 * a + L.length) x) 66 (220 + a) (Int32.ofNat (L.length + 1))).2.1 65 = m.2.1 65 := by rw [wI_o _ _ _ _ (by decide), wI_o _ _ _ _ (by decide)]
  refine ⟨⟨c1, c2, fun r r1 r2 => ?_, fun j j1 j2 j3 => ?_, fun k k1 k2 => ?_⟩, ⟨c6.1, c6.2.1, by rw [List.length_append, List.length_singleton]; exact h⟩, by rw [e65]; exact c7, by rw [e65]; exact c8, by rw [e65]; exact c9, ?_, fun i hi => ?_⟩
  · rw [wI_o _ _ _ _ r2, wI_o _ _ _ _ r2]; exact c3 r r1 r2
  · rw [e65]; exact c4 j j1 j2 j3
  · rw [wI_n _ _ _ _ k1, wI_n _ _ _ _ (by omega)]; exact c5 k k1 k2
  · rw [wI_e, List.length_append, List.length_singleton]
  · rw [List.length_append, List.length_singleton] at hi
    rw [wI_n _ _ _ _ (show 225 + 140 * a + i ≠ 220 + a by omega)]
    by_cases e : i = L.length
    · subst e
      rw [wI_e, List.getElem?_append_right (Nat.le_refl _), Nat.sub_self]; rfl
    · rw [wI_n _ _ _ _ (by omega), List.getElem?_append_left (by omega)]
      exact c11 i (by omega)
theorem w_here (b : BR a n tx μ) (c : rst a n μ w p o L m) : gwI (f_X12_here 65 m) (fun x m' => x = pd tx n p ∧ m' = m) := by
  refine gwI_of ?_
  unfold f_X12_here
  have hp := c.2.1.1
  have hn := b.2.2.2.2.1
  have op : (Int32.ofNat p).toInt = p := ofn (by omega)
  have on : (Int32.ofNat n).toInt = n := ofn (by omega)
  have l110 : (110 : Int32).toInt = 110 := rfl
  refine gw_gIw (c.tc b) ?_
  refine gw_gIw (c.tc b) ?_
  rw [c.e6, c.e7 b]
  refine gw_le (fun g => gw_some (gq_I ⟨?_, rfl⟩)) (fun g => ?_)
  · unfold pd; rw [if_neg (by omega)]
  · refine gw_gRa 66 (c.tc b) (c.r1 b) ?_
    refine gw_gIw (c.tc b) ?_
    rw [c.e6]
    have nn : ((110 : Int32) + Int32.ofNat p).toInt = (110 : Int32).toInt + (Int32.ofNat p).toInt := gx_add (by omega) (by omega)
    refine gw_aIw (110 + p) ((c.S b).t (r := 66) rfl) ((c.S b).l (r := 66) rfl) (by omega) (by omega) ?_
    rw [c.txt b (by omega)]
    refine gw_some (gq_I ⟨?_, rfl⟩)
    unfold pd
    rw [if_pos (by omega)]
theorem w_must (b : BR a n tx μ) (c : rst a n μ w p o L m) {x : Int32} (hx : x ≠ -1) : gwV (f_X12_must 65 x m) (fun m' => (w = false ∧ pd tx n p = x ∧ rst a n μ false (p + 1) o L m') ∨ (¬ (w = false ∧ pd tx n p = x) ∧ rst a n μ true p o L m')) := by
  refine gwV_of ?_
  unfold f_X12_must
  have hp := c.2.1
  have hn := b.2.2.2.2.1
  refine gw_gIw (c.tc b) ?_
  rw [c.e8]
  refine gw_j (fun s => s.2 = m ∧ ∃ v : Bool, s.1 = bw v ∧ ((v = false ∧ w = false ∧ pd tx n p = x) ∨ (v = true ∧ ¬ (w = false ∧ pd tx n p = x)))) (fun s ⟨es, v, ev, hv⟩ => ?_) (fun j hj => ?_)
  · obtain ⟨s1, s2⟩ := s
    replace es : s2 = m := es
    replace ev : s1 = bw v := ev
    subst es
    subst ev
    have c1 := c.fl v
    refine gw_pZw (c.tc b) (bw_z v) ?_
    refine gw_gIw (c1.tc b) ?_
    refine gw_gIw (c1.tc b) ?_
    show gw (gm_j _ (fun j8 => if (wI s2 65 8 (bw v)).2.1 65 8 = 0 then _ else _)) _
    rw [c1.e6, c1.e8]
    refine gw_ji ?_
    rcases hv with ⟨ev, h1, h2⟩ | ⟨ev, h1⟩
    · subst ev
      have q : p < n := pd_lt (tx := tx) (by rw [h2]; exact hx)
      rw [if_pos (show bw false = 0 from rfl)]
      refine gw_pIw (c1.tc b) ?_
      rw [ofn1 (by omega)]
      exact gw_some (gq_V (Or.inl ⟨h1, h2, c1.at (by omega) (by omega)⟩))
    · subst ev
      rw [if_neg (by decide)]
      refine gw_pIw (c1.tc b) ?_
      rw [Int32.add_zero]
      exact gw_some (gq_V (Or.inr ⟨h1, c1.at hp.1 hp.2.2⟩))
  · refine gw_j (fun M => M = m ∧ ¬ (w = false ∧ pd tx n p = x)) (fun M ⟨e, h⟩ => hj _ ⟨e, true, rfl, Or.inr ⟨rfl, h⟩⟩) (fun j2 hj2 => ?_)
    cases w with
    | true => rw [if_pos (by decide)]; exact hj2 _ ⟨rfl, fun h => by cases h.1⟩
    | false =>
      rw [if_neg (by decide)]
      refine gw_if (c.t b) ?_
      refine gw_bI (w_here b c) (fun y m' ⟨e1, e2⟩ => ?_)
      subst e2
      refine gw_ite (fun g => hj _ ⟨rfl, false, rfl, Or.inl ⟨rfl, rfl, by rw [← e1]; exact g⟩⟩) (fun g => hj2 _ ⟨rfl, fun h => g (by rw [e1]; exact h.2)⟩)
theorem w_emits (b : BR a n tx μ) (c : rst a n μ w p o L m) (x : Int32) (h : w = false → L.length + 1 ≤ p) : gwV (f_X12_emits 65 x m) (fun m' => (w = false ∧ rst a n μ false p o (L ++ [x]) m') ∨ (w = true ∧ m' = m)) := by
  refine gwV_of ?_
  unfold f_X12_emits
  have hn := b.2.2.2.2.1
  have ha := b.2.1
  have hp := c.2.1
  refine gw_gIw (c.tc b) ?_
  rw [c.e8]
  cases w with
  | true => rw [if_pos (by decide)]; exact gw_some (gq_V (Or.inr ⟨rfl, rfl⟩))
  | false =>
    rw [if_neg (by decide)]
    have hl := h rfl
    have l140 : (140 : Int32).toInt = 140 := rfl
    have l220 : (220 : Int32).toInt = 220 := rfl
    have l225 : (225 : Int32).toInt = 225 := rfl
    have oa : (Int32.ofNat a).toInt = a := ofn (by omega)
    have oL : (Int32.ofNat L.length).toInt = L.length := ofn (by omega)
    have n1 : ((220 : Int32) + Int32.ofNat a).toInt = (220 : Int32).toInt + (Int32.ofNat a).toInt := gx_add (by omega) (by omega)
    have n2 : ((140 : Int32) * Int32.ofNat a).toInt = 140 * (Int32.ofNat a).toInt := gx_mul 140 rfl (by omega) (by omega)
    have n3 : ((225 : Int32) + (140 : Int32) * Int32.ofNat a).toInt = (225 : Int32).toInt + ((140 : Int32) * Int32.ofNat a).toInt := gx_add (by omega) (by omega)
    have n4 : ((225 : Int32) + (140 : Int32) * Int32.ofNat a + Int32.ofNat L.length).toInt = ((225 : Int32) + (140 : Int32) * Int32.ofNat a).toInt + (Int32.ofNat L.length).toInt := gx_add (by omega) (by omega)
    have t66 := (c.S b).t (r := 66) rfl
    have l66 := (c.S b).l (r := 66) rfl
    refine gw_gRa 66 (c.tc b) (c.r1 b) ?_
    refine gw_gIw (c.tc b) ?_
    refine gw_gRa 66 (c.tc b) (c.r1 b) ?_
    refine gw_gIw (c.tc b) ?_
    rw [c.e5 b]
    refine gw_aIw (220 + a) t66 l66 (by omega) (by omega) ?_
    rw [c.eL]
    refine gw_sIw (225 + 140 * a + L.length) t66 l66 (by omega) (by omega) ?_
    have tc2 : [17].contains (gm_tag (wI m 66 (225 + 140 * a + L.length) x) 65) = true := (show [17].contains (gm_tag m 65) = true from c.tc b)
    refine gw_gRa 66 tc2 (show m.2.2 65 1 = 66 from c.r1 b) ?_
    refine gw_gIw tc2 ?_
    rw [wI_o _ _ _ _ (by decide), c.e5 b]
    refine gw_aIw (220 + a) t66 l66 (by omega) (by omega) ?_
    rw [wI_n _ _ _ _ (by omega), c.eL, ofn1 (by omega)]
    refine gw_sIw (220 + a) t66 l66 (by omega) (by omega) ?_
    exact gw_some (gq_V (Or.inl ⟨rfl, c.push hl hn x⟩))
theorem w_among (b : BR a n tx μ) (c : rst a n μ w p o L m) {u : UInt32} (hu : gm_isS u) : gwI (f_X12_among 65 u m) (fun x m' => x = pO u (pd tx n p) ∧ rst a n μ w (if pO u (pd tx n p) = -1 then p else p + 1) o L m') := by
  refine gwI_of ?_
  unfold f_X12_among
  have hp := c.2.1
  have hn := b.2.2.2.2.1
  have l0 : (0 : Int32).toInt = 0 := rfl
  have six := (tx_len (μ := μ) hu).2
  have oL := ofn (k := gm_bn (u + 6)) (by omega)
  refine gw_loop (fun s => s.2 = m ∧ ∃ k : Nat, s.1 = Int32.ofNat k ∧ k ≤ gm_bn (u + 6) ∧ pOi u (pd tx n p) (gm_bn (u + 6) - k) k = pO u (pd tx n p)) (fun s => 6 - s.1.toInt) (fun s hs => ?_) 5000 ((0 : Int32), m) ⟨rfl, 0, rfl, Nat.zero_le _, rfl⟩ (by show 6 - (0 : Int32).toInt < ((5000 : Nat) : Int); omega) (by show 0 ≤ 6 - (0 : Int32).toInt; omega)
  obtain ⟨s1, s2⟩ := s
  obtain ⟨es, k, ek, hk, hO⟩ := hs
  replace es : s2 = m := es
  replace ek : s1 = Int32.ofNat k := ek
  subst es
  subst ek
  have ok := ofn (k := k) (by omega)
  refine gw_if hu ?_
  refine gw_bI (R := fun x m' => m' = s2 ∧ x = Int32.ofNat (gm_bn (u + 6))) ⟨_, _, (tx_len hu).1, rfl, rfl⟩ (fun x m' ⟨z, ex⟩ => ?_)
  subst z
  subst ex
  refine gw_le (fun g => ?_) (fun g => ?_)
  · replace g : (Int32.ofNat (gm_bn (u + 6))).toInt ≤ (Int32.ofNat k).toInt := g
    rw [show gm_bn (u + 6) - k = 0 by omega] at hO
    have e : pO u (pd tx n p) = -1 := hO.symm
    rw [e, if_pos rfl]
    exact gw_some (gs_inr (gq_I ⟨rfl, c⟩))
  · replace g : (Int32.ofNat k).toInt < (Int32.ofNat (gm_bn (u + 6))).toInt := g
    refine gw_if (c.t b) ?_
    refine gw_bI (w_here b c) (fun y m2 ⟨ey, z⟩ => ?_)
    subst z
    refine gw_if hu ?_
    have tc := tx_char (μ := m2) hu (i := Int32.ofNat k) (by omega) (by omega)
    rw [ok, Int.toNat_natCast] at tc
    refine gw_bI (R := fun x m3 => m3 = m2 ∧ x = gm_bb (u + 6) k) ⟨_, _, tc.1, rfl, rfl⟩ (fun x m3 ⟨z, ex⟩ => ?_)
    subst z
    subst ex
    rw [show gm_bn (u + 6) - k = (gm_bn (u + 6) - (k + 1)) + 1 by omega] at hO
    unfold pOi at hO
    refine gw_ite (fun g2 => ?_) (fun g2 => ?_)
    · rw [if_neg (by rw [← ey]; exact g2)] at hO
      refine gw_some (gs_inl ⟨rfl, k + 1, ofn1 (by omega), by omega, hO⟩ ?_ ?_)
      · show 6 - (Int32.ofNat k + 1).toInt < 6 - (Int32.ofNat k).toInt
        rw [ofn1 (by omega), ofn (k := k + 1) (by omega)]; omega
      · show 0 ≤ 6 - (Int32.ofNat k + 1).toInt
        rw [ofn1 (by omega), ofn (k := k + 1) (by omega)]; omega
    · have e2 := Decidable.not_not.mp g2
      rw [if_pos (by rw [← ey]; exact e2)] at hO
      have q : p < n := pd_lt (tx := tx) (fun h => by
        have t2 := tc.2
        rw [← e2, ey, h] at t2
        exact absurd t2 (by decide))
      rw [← hO, if_neg (fun h => by rw [h] at ok; have : (-1 : Int32).toInt = -1 := rfl; omega)]
      refine gw_gIw (c.tc b) ?_
      refine gw_pIw (c.tc b) ?_
      rw [c.e6, ofn1 (by omega)]
      exact gw_some (gs_inr (gq_I ⟨rfl, c.at (by omega) (by omega)⟩))
theorem w_spells (b : BR a n tx μ) (c : rst a n μ w p o L m) {u : UInt32} (hu : gm_isS u) : gwV (f_X12_spells 65 u m) (fun m' => (w = false ∧ rst a n μ (!(pW tx n u (gm_bn (u + 6)) p).1) (pW tx n u (gm_bn (u + 6)) p).2 o L m') ∨ (w = true ∧ rst a n μ true p o L m')) := by
  refine gwV_of ?_
  unfold f_X12_spells
  have hp := c.2.1
  have hn := b.2.2.2.2.1
  have l0 : (0 : Int32).toInt = 0 := rfl
  have six := (tx_len (μ := μ) hu).2
  have oL := ofn (k := gm_bn (u + 6)) (by omega)
  refine gw_loop (fun s => ∃ k q : Nat, ∃ v : Bool, s.1 = Int32.ofNat k ∧ k ≤ gm_bn (u + 6) ∧ rst a n μ v q o L s.2 ∧ ((w = true ∧ v = true ∧ q = p) ∨ (w = false ∧ v = false ∧ pW tx n u (gm_bn (u + 6) - k) q = pW tx n u (gm_bn (u + 6)) p) ∨ (w = false ∧ v = true ∧ pW tx n u (gm_bn (u + 6)) p = (false, q)))) (fun s => 6 - s.1.toInt) (fun s hs => ?_) 5000 ((0 : Int32), m) ⟨0, p, w, rfl, Nat.zero_le _, c, by cases w with | true => exact Or.inl ⟨rfl, rfl, rfl⟩ | false => exact Or.inr (Or.inl ⟨rfl, rfl, rfl⟩)⟩ (by show 6 - (0 : Int32).toInt < ((5000 : Nat) : Int); omega) (by show 0 ≤ 6 - (0 : Int32).toInt; omega)
  obtain ⟨s1, s2⟩ := s
  obtain ⟨k, q, v, ek, hk, c', hv⟩ := hs
  replace ek : s1 = Int32.ofNat k := ek
  replace c' : rst a n μ v q o L s2 := c'
  subst ek
  have ok := ofn (k := k) (by omega)
  refine gw_if hu ?_
  refine gw_bI (R := fun x m' => m' = s2 ∧ x = Int32.ofNat (gm_bn (u + 6))) ⟨_, _, (tx_len hu).1, rfl, rfl⟩ (fun x m' ⟨z, ex⟩ => ?_)
  subst z
  subst ex
  refine gw_le (fun g => ?_) (fun g => ?_)
  · replace g : (Int32.ofNat (gm_bn (u + 6))).toInt ≤ (Int32.ofNat k).toInt := g
    refine gw_some (gs_inr (gq_V ?_))
    rcases hv with ⟨h1, h2, h3⟩ | ⟨h1, h2, h3⟩ | ⟨h1, h2, h3⟩
    · subst h2; subst h3; exact Or.inr ⟨h1, c'⟩
    · rw [show gm_bn (u + 6) - k = 0 by omega] at h3
      rw [← h3]
      subst h2
      exact Or.inl ⟨h1, c'⟩
    · rw [h3]
      subst h2
      exact Or.inl ⟨h1, c'⟩
  · replace g : (Int32.ofNat k).toInt < (Int32.ofNat (gm_bn (u + 6))).toInt := g
    refine gw_if hu ?_
    have tc := tx_char (μ := m') hu (i := Int32.ofNat k) (by omega) (by omega)
    rw [ok, Int.toNat_natCast] at tc
    refine gw_bI (R := fun x m3 => m3 = m' ∧ x = gm_bb (u + 6) k) ⟨_, _, tc.1, rfl, rfl⟩ (fun x m3 ⟨z, ex⟩ => ?_)
    subst z
    subst ex
    refine gw_if (c'.t b) ?_
    have hms : (6 - (Int32.ofNat k + 1).toInt < 6 - (Int32.ofNat k).toInt) ∧ 0 ≤ 6 - (Int32.ofNat k + 1).toInt := by
      rw [ofn1 (by omega), ofn (k := k + 1) (by omega)]; omega
    refine gw_bV (w_must b c' (x := gm_bb (u + 6) k) (fun h => by have t2 := tc.2; rw [h] at t2; exact absurd t2 (by decide))) (fun m4 h4 => ?_)
    rcases h4 with ⟨e1, e2, c4⟩ | ⟨e1, c4⟩
    · subst e1
      rcases hv with ⟨h1, h2, h3⟩ | ⟨h1, h2, h3⟩ | ⟨h1, h2, h3⟩
      · cases h2
      · refine gw_some (gs_inl ⟨k + 1, q + 1, false, ofn1 (by omega), by omega, c4, Or.inr (Or.inl ⟨h1, rfl, ?_⟩)⟩ hms.1 hms.2)
        rw [show gm_bn (u + 6) - k = (gm_bn (u + 6) - (k + 1)) + 1 by omega, pW, show gm_bn (u + 6) - (gm_bn (u + 6) - (k + 1) + 1) = k by omega, if_pos e2] at h3
        exact h3
      · cases h2
    · refine gw_some (gs_inl ⟨k + 1, q, true, ofn1 (by omega), by omega, c4, ?_⟩ hms.1 hms.2)
      rcases hv with ⟨h1, h2, h3⟩ | ⟨h1, h2, h3⟩ | ⟨h1, h2, h3⟩
      · exact Or.inl ⟨h1, rfl, h3⟩
      · refine Or.inr (Or.inr ⟨h1, rfl, ?_⟩)
        rw [show gm_bn (u + 6) - k = (gm_bn (u + 6) - (k + 1)) + 1 by omega, pW, show gm_bn (u + 6) - (gm_bn (u + 6) - (k + 1) + 1) = k by omega, if_neg (fun h => e1 ⟨h2, h⟩)] at h3
        exact h3.symm
      · exact Or.inr (Or.inr ⟨h1, rfl, h3⟩)
end
