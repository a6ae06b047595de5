/-! minutes: agreed behind them -/
theorem itn_at {x : Int32} (h : 0 ≤ x.toInt ∧ x.toInt ≤ 100000) : ∀ n : Nat, n ≤ 1000 → itn n x = x + Int32.ofNat n
  | 0, _ => by
    apply Int32.toInt_inj.mp
    rw [mi_add h (by omega)]
    show x.toInt = _
    omega
  | n + 1, hn => by
    apply Int32.toInt_inj.mp
    have l1 : (1 : Int32).toInt = 1 := rfl
    have m0 := mi_add (n := n) h (by omega)
    rw [mi_add h (by omega)]
    show (itn n x + 1).toInt = _
    rw [itn_at h n (by omega), gx_add (by omega) (by omega)]
    omega
def gN (cnt i : Nat) (mi : Int32) (k : Nat) (K : Nat → Int32) : Nat → Int32 := if k < cnt then cGoN i K mi else K
theorem gN_0 {cnt : Nat} {mi : Int32} {k : Nat} {K : Nat → Int32} : gN cnt 0 mi k K = K := by unfold gN; split <;> rfl
theorem gN_s {cnt i : Nat} {mi : Int32} {k : Nat} {K : Nat → Int32} (h : k < cnt) : gN cnt (i + 1) mi k K = cGo (gN cnt i mi k K) (mi + Int32.ofNat i) := by
  unfold gN; rw [if_pos h, if_pos h]; rfl
theorem gN_o {cnt i j : Nat} {mi : Int32} {k : Nat} {K : Nat → Int32} (h : ¬ k < cnt) : gN cnt i mi k K = gN cnt j mi k K := by
  unfold gN; rw [if_neg h, if_neg h]
theorem RK.gn {cnt i : Nat} {mi : Int32} {k : Nat} {K : Nat → Int32} (h : RK K) (hm : 0 ≤ mi.toInt ∧ mi.toInt ≤ 100000) (hi : i ≤ 1000) : RK (gN cnt i mi k K) := by
  unfold gN
  split
  · exact h.goN hm i hi
  · exact h
theorem cps.cw {w : Int32} {P : List (List Int32 × Int32)} {i : Nat} {μ m : gm_M} (g : cps i μ m) (h : CW w P μ) : CW w P m := by
  have p0 := h.aw.1
  obtain ⟨h1, h2, h3, sw, h4⟩ := h
  have c := g.ci h1
  obtain ⟨-, g2, g3, -⟩ := g
  refine ⟨c, fun i hi => by rw [g3 _ (by omega) (by unfold isch; omega)]; exact h2 i hi, h3, sw, ?_⟩
  rw [g2]
  unfold AFC at h4 ⊢
  have z : ∀ x : Nat, x < 4 → m.2.1 (μ.2.2 15 6 + x) = μ.2.1 (μ.2.2 15 6 + x) := fun x hx => g3 _ (by omega) (by unfold isch; omega)
  have z0 := z 0 (by omega)
  rw [Nat.add_zero] at z0
  rw [z0, z 1 (by omega), z 2 (by omega), z 3 (by omega)]
  exact h4
theorem chg.kC {v : Nat} {μ m : gm_M} (g : chg v μ m) {k j : Nat} (hk : k < 5) (hv : v = 29 + 2 * j) (hkj : k ≠ j) : kC m (29 + 2 * k) = kC μ (29 + 2 * k) := by
  subst hv
  obtain ⟨-, g2, g3, -⟩ := g
  exact kC_o (by rw [g2]) (g3 _ (by omega)) (fun i _ => by rw [g3 _ (by omega)])
section
variable {w sw : Int32} {P : List (List Int32 × Int32)} {μ : gm_M}
set_option maxHeartbeats 4000000 in
theorem v_pass2 (h : CW w P μ) (hr : ∀ k : Nat, k < 5 → RK (kC μ (29 + 2 * k))) (hm : 0 ≤ (μ.2.1 15 0).toInt ∧ (μ.2.1 15 0).toInt ≤ 9999) {a : Int32} : gwI (f_X11_pass 1 a μ) (fun _ m => (0 ≤ a.toInt ∧ a.toInt ≤ 60) → (μ.2.1 15 0 + a).toInt ≤ 9999 → ∀ k : Nat, k < 5 → kC m (29 + 2 * k) = gN (μ.2.1 15 1).toInt.toNat a.toInt.toNat (μ.2.1 15 0) k (kC μ (29 + 2 * k))) := by
  refine gwI_of ?_
  unfold f_X11_pass
  have l0 : (0 : Int32).toInt = 0 := rfl
  have l1 : (1 : Int32).toInt = 1 := rfl
  have l60 : (60 : Int32).toInt = 60 := rfl
  have l9 : (9999 : Int32).toInt = 9999 := rfl
  have hg := h.1.1
  have N1 := h.1.n1
  refine gw_bI s_X11_isOutside (fun x2 m2 ⟨z2, f2⟩ => ?_)
  replace z2 := z2.symm
  subst z2
  refine gw_eq (fun g2 => ?_) (fun g2 => gw_some (gq_I (fun q _ => by exfalso; omega)))
  refine gw_gRa 15 (hg.c (r := 1) rfl) (hg.r (by decide)) ?_
  refine gw_gIw (hg.c (r := 15) rfl) ?_
  refine gw_le (fun g4 => ?_) (fun g4 => gw_some (gq_I (fun _ q => by exfalso; omega)))
  obtain ⟨cnt, hcnt⟩ : ∃ cnt : Nat, (μ.2.1 15 1).toInt = cnt := ⟨(μ.2.1 15 1).toInt.toNat, by omega⟩
  rw [show (μ.2.1 15 1).toInt.toNat = cnt by omega]
  refine gw_loop (fun s => (0 ≤ s.1.toInt ∧ s.1.toInt ≤ a.toInt) ∧ cps s.1.toInt.toNat μ s.2 ∧ ∀ k : Nat, k < 5 → kC s.2 (29 + 2 * k) = gN cnt s.1.toInt.toNat (μ.2.1 15 0) k (kC μ (29 + 2 * k))) (fun s => 60 - s.1.toInt) (fun s ⟨q1, q2, q3⟩ => ?_) 5000 ((0 : Int32), μ) ⟨⟨by show 0 ≤ (0 : Int32).toInt; omega, by show (0 : Int32).toInt ≤ a.toInt; omega⟩, cps.refl μ, fun k _ => gN_0.symm⟩ (by show 60 - (0 : Int32).toInt < ((5000 : Nat) : Int); omega) (by show 0 ≤ 60 - (0 : Int32).toInt; omega)
  have hs := (q2.ci h.1).1
  obtain ⟨i, hi⟩ : ∃ i : Nat, s.1.toInt = i := ⟨s.1.toInt.toNat, by omega⟩
  refine gw_le (fun g => ?_) (fun g => ?_)
  · refine gw_gRa 15 (hs.c (r := 1) rfl) (hs.r (by decide)) ?_
    refine gw_gIw (hs.c (r := 15) rfl) ?_
    refine gw_some (gs_inr (gq_I (fun _ _ => ?_)))
    rw [show a.toInt.toNat = s.1.toInt.toNat by omega]
    exact q3
  · rw [show s.1.toInt.toNat = i by omega] at q2 q3
    refine gw_loop (fun t => (0 ≤ t.1.toInt ∧ t.1.toInt ≤ 5) ∧ cps i μ t.2 ∧ ∀ k : Nat, k < 5 → kC t.2 (29 + 2 * k) = gN cnt (if (k : Int) < t.1.toInt then i + 1 else i) (μ.2.1 15 0) k (kC μ (29 + 2 * k))) (fun t => 5 - t.1.toInt) (fun t ⟨p1, p2, p3⟩ => ?_) 5000 ((0 : Int32), s.2) ⟨⟨by show 0 ≤ (0 : Int32).toInt; omega, by show (0 : Int32).toInt ≤ 5; omega⟩, q2, fun k hk => by rw [if_neg (by show ¬ (k : Int) < (0 : Int32).toInt; omega)]; exact q3 k hk⟩ (by show 5 - (0 : Int32).toInt < ((5000 : Nat) : Int); omega) (by show 0 ≤ 5 - (0 : Int32).toInt; omega)
    have ht := p2.ci h.1
    have htg := ht.1
    have b1 := ht.n1
    have c1 : t.2.2.1 15 1 = μ.2.1 15 1 := p2.2.2.2.1 1 (by decide)
    have c0 : t.2.2.1 15 0 = μ.2.1 15 0 + Int32.ofNat i := p2.2.2.2.2.1.trans (itn_at ⟨hm.1, by omega⟩ i (by omega))
    have m0 := mi_add (mi := μ.2.1 15 0) (n := i) ⟨hm.1, by omega⟩ (by omega)
    refine gw_gRa 15 (htg.c (r := 1) rfl) (htg.r (by decide)) ?_
    refine gw_gIw (htg.c (r := 15) rfl) ?_
    rw [c1]
    refine gw_le (fun gg => ?_) (fun gg => ?_)
    · refine gw_gRa 15 (htg.c (r := 1) rfl) (htg.r (by decide)) ?_
      refine gw_gIw (htg.c (r := 15) rfl) ?_
      refine gw_pIw (htg.c (r := 15) rfl) ?_
      have n : (s.1 + (1 : Int32)).toInt = s.1.toInt + (1 : Int32).toInt := gx_add (by omega) (by omega)
      refine gw_some (gs_inr (gs_inl ⟨⟨by show 0 ≤ (s.1 + (1 : Int32)).toInt; omega, by show (s.1 + (1 : Int32)).toInt ≤ a.toInt; omega⟩, ?_, fun k hk => ?_⟩ (by show 60 - (s.1 + (1 : Int32)).toInt < 60 - s.1.toInt; omega) (by show 0 ≤ 60 - (s.1 + (1 : Int32)).toInt; omega)))
      · show cps (s.1 + (1 : Int32)).toInt.toNat μ _
        rw [show (s.1 + (1 : Int32)).toInt.toNat = i + 1 by omega]
        exact p2.mi
      · show kC (wI t.2 15 0 (t.2.2.1 15 0 + 1)) (29 + 2 * k) = gN cnt (s.1 + (1 : Int32)).toInt.toNat _ k _
        rw [show (s.1 + (1 : Int32)).toInt.toNat = i + 1 by omega, kC_o (μ := t.2) (m := wI t.2 15 0 (t.2.2.1 15 0 + 1)) (t := 29 + 2 * k) rfl (wI_o _ _ _ _ (by omega)) (fun j _ => by rw [wI_o _ _ _ _ (by omega)]), p3 k hk]
        by_cases q : (k : Int) < t.1.toInt
        · rw [if_pos q]
        · rw [if_neg q]; exact gN_o (by omega)
    · refine gw_gRa 15 (htg.c (r := 1) rfl) (htg.r (by decide)) ?_
      refine gw_gRa 16 (htg.c (r := 15) rfl) (htg.r (by decide)) ?_
      obtain ⟨j, hj⟩ : ∃ j : Nat, t.1.toInt = j := ⟨t.1.toInt.toNat, by omega⟩
      refine gw_aR (i := t.1) (htg.t (r := 16) rfl) (htg.l (r := 16) rfl) (by omega) (by omega) (fun v ev => ?_)
      rw [show t.1.toInt.toNat = j by omega, isch.at htg (by omega)] at ev
      subst ev
      have cv : isch (29 + 2 * j) := isch_c (by omega)
      refine gw_gRa 15 (htg.c (r := 1) rfl) (htg.r (by decide)) ?_
      refine gw_gIw (htg.c (r := 15) rfl) ?_
      refine gw_if (isch.t htg cv) ?_
      have e3 := p3 j (by omega)
      rw [if_neg (by omega)] at e3
      refine gw_bV (v_pass (p2.cw h) (Or.inl cv) (by rw [c0]; omega) (by rw [e3]; exact (hr j (by omega)).gn ⟨hm.1, by omega⟩ (by omega))) (fun m19 ⟨g19, k19, _⟩ => ?_)
      have n : (t.1 + (1 : Int32)).toInt = t.1.toInt + (1 : Int32).toInt := gx_add (by omega) (by omega)
      refine gw_some (gs_inl ⟨⟨by show 0 ≤ (t.1 + (1 : Int32)).toInt; omega, by show (t.1 + (1 : Int32)).toInt ≤ 5; omega⟩, p2.ch cv g19, fun k hk => ?_⟩ (by show 5 - (t.1 + (1 : Int32)).toInt < 5 - t.1.toInt; omega) (by show 0 ≤ 5 - (t.1 + (1 : Int32)).toInt; omega))
      show kC m19 (29 + 2 * k) = gN cnt (if (k : Int) < (t.1 + (1 : Int32)).toInt then i + 1 else i) _ k _
      by_cases q : k = j
      · rw [q, if_pos (by omega), k19, e3, c0]
        exact (gN_s (by omega)).symm
      · rw [g19.kC hk rfl q, p3 k hk]
        by_cases q2 : (k : Int) < t.1.toInt
        · rw [if_pos q2, if_pos (by omega)]
        · rw [if_neg q2, if_neg (by omega)]
/-! the reference -/
set_option maxHeartbeats 4000000 in
theorem w_goes (h : MW w sw P μ) (hm : 0 ≤ (μ.2.1 66 0).toInt) : gwV (f_X12_goes 65 μ) (fun m => (km A1 μ m ∧ m.2.1 66 0 = μ.2.1 66 0 + 1) ∧ ∀ k : Nat, k < 5 → kR (m.2.1 66) k = if (k : Int) < (μ.2.1 66 26).toInt then cGo (kR (μ.2.1 66) k) (μ.2.1 66 0) else kR (μ.2.1 66) k) := by
  refine gwV_of ?_
  unfold f_X12_goes
  have l0 : (0 : Int32).toInt = 0 := rfl
  have l1 : (1 : Int32).toInt = 1 := rfl
  have l26 : (26 : Int32).toInt = 26 := rfl
  have N := h.1.n26
  refine gw_loop (fun s => km A1 μ s.2 ∧ (0 ≤ s.1.toInt ∧ s.1.toInt ≤ 5) ∧ s.2.2.1 66 0 = μ.2.1 66 0 ∧ ∀ k : Nat, k < 5 → kR (s.2.2.1 66) k = if (k : Int) < s.1.toInt ∧ (k : Int) < (μ.2.1 66 26).toInt then cGo (kR (μ.2.1 66) k) (μ.2.1 66 0) else kR (μ.2.1 66) k) (fun s => 5 - s.1.toInt) (fun s ⟨k2, p1, p2, p3⟩ => ?_) 5000 ((0 : Int32), μ) ⟨km.refl A1 μ, ⟨by show 0 ≤ (0 : Int32).toInt; omega, by show (0 : Int32).toInt ≤ 5; omega⟩, rfl, fun k _ => by rw [if_neg (by show ¬ ((k : Int) < (0 : Int32).toInt ∧ _); omega)]⟩ (by show 5 - (0 : Int32).toInt < ((5000 : Nat) : Int); omega) (by show 0 ≤ 5 - (0 : Int32).toInt; omega)
  have hM := h.1.of1 k2
  have e26 : s.2.2.1 66 26 = μ.2.1 66 26 := k2.2.2.2.1 26 (by unfold A1; omega)
  refine gw_gRa 66 (hM.1.c (r := 65) rfl) (hM.1.r (by decide)) ?_
  refine gw_aIw 26 (hM.1.t (r := 66) rfl) (hM.1.l (r := 66) rfl) l26 (by omega) ?_
  rw [e26]
  refine gw_le (fun g => ?_) (fun g => ?_)
  · refine gw_gRa 66 (hM.1.c (r := 65) rfl) (hM.1.r (by decide)) ?_
    refine gw_aIw 0 (hM.1.t (r := 66) rfl) (hM.1.l (r := 66) rfl) l0 (by omega) ?_
    refine gw_sIw 0 (hM.1.t (r := 66) rfl) (hM.1.l (r := 66) rfl) l0 (by omega) ?_
    refine gw_some (gs_inr (gq_V ⟨⟨k2.ws rfl (by unfold A1; omega), by rw [wI_e, p2]⟩, fun k hk => ?_⟩))
    rw [kR_x (σ := s.2.2.1 66) hk (fun i hi => wI_n _ _ _ _ (by omega)), p3 k hk]
    by_cases q : (k : Int) < (μ.2.1 66 26).toInt
    · rw [if_pos ⟨by omega, q⟩, if_pos q]
    · rw [if_neg (fun z => q z.2), if_neg q]
  · obtain ⟨j, hj, ej⟩ : ∃ j : Nat, j < 5 ∧ s.1 = Int32.ofNat j := ⟨s.1.toInt.toNat, by omega, (gx_of p1.1).symm⟩
    have oj := ofn (k := j) (by omega)
    have e1 : s.1.toInt = j := by rw [ej]; exact oj
    refine gw_if (hM.1.t (r := 65) rfl) ?_
    rw [ej]
    refine gw_bV (w_goesFor (h.k1 k2) hj (by rw [p2]; exact hm)) (fun m8 ⟨g8, k8, o8⟩ => ?_)
    have n9 : (s.1 + (1 : Int32)).toInt = s.1.toInt + (1 : Int32).toInt := gx_add (by omega) (by omega)
    rw [← ej]
    refine gw_some (gs_inl ⟨k2.trans g8.w31, ⟨by show 0 ≤ (s.1 + (1 : Int32)).toInt; omega, by show (s.1 + (1 : Int32)).toInt ≤ 5; omega⟩, (g8.2.2.2.1 0 (by unfold A3; omega)).trans p2, fun k hk => ?_⟩ (by show 5 - (s.1 + (1 : Int32)).toInt < 5 - s.1.toInt; omega) (by show 0 ≤ 5 - (s.1 + (1 : Int32)).toInt; omega))
    show kR (m8.2.1 66) k = if (k : Int) < (s.1 + (1 : Int32)).toInt ∧ _ then _ else _
    by_cases q : k = j
    · subst q
      rw [k8, p3 k hk, p2, if_neg (by omega), if_pos ⟨by omega, by omega⟩]
    · rw [o8 k hk q, p3 k hk]
      by_cases q2 : (k : Int) < s.1.toInt ∧ (k : Int) < (μ.2.1 66 26).toInt
      · rw [if_pos q2, if_pos ⟨by omega, q2.2⟩]
      · rw [if_neg q2, if_neg (by omega)]
set_option maxHeartbeats 4000000 in
theorem w_goesOn (h : MW w sw P μ) (hm : 0 ≤ (μ.2.1 66 0).toInt ∧ (μ.2.1 66 0).toInt ≤ 9999) {a : Int32} (ha : 0 ≤ a.toInt ∧ a.toInt ≤ 100) : gwV (f_X12_goesOn 65 a μ) (fun m => (km A1 μ m ∧ m.2.1 66 0 = μ.2.1 66 0 + Int32.ofNat a.toInt.toNat) ∧ ∀ k : Nat, k < 5 → kR (m.2.1 66) k = gN (μ.2.1 66 26).toInt.toNat a.toInt.toNat (μ.2.1 66 0) k (kR (μ.2.1 66) k)) := by
  refine gwV_of ?_
  unfold f_X12_goesOn
  have l0 : (0 : Int32).toInt = 0 := rfl
  have l1 : (1 : Int32).toInt = 1 := rfl
  have N := h.1.n26
  obtain ⟨cnt, hcnt⟩ : ∃ cnt : Nat, (μ.2.1 66 26).toInt = cnt := ⟨(μ.2.1 66 26).toInt.toNat, by omega⟩
  rw [show (μ.2.1 66 26).toInt.toNat = cnt by omega]
  refine gw_loop (fun s => km A1 μ s.2 ∧ (0 ≤ s.1.toInt ∧ s.1.toInt ≤ a.toInt) ∧ s.2.2.1 66 0 = μ.2.1 66 0 + Int32.ofNat s.1.toInt.toNat ∧ ∀ k : Nat, k < 5 → kR (s.2.2.1 66) k = gN cnt s.1.toInt.toNat (μ.2.1 66 0) k (kR (μ.2.1 66) k)) (fun s => 100 - s.1.toInt) (fun s ⟨k2, p1, p2, p3⟩ => ?_) 5000 ((0 : Int32), μ) ⟨km.refl A1 μ, ⟨by show 0 ≤ (0 : Int32).toInt; omega, by show (0 : Int32).toInt ≤ a.toInt; omega⟩, itn_at (n := 0) ⟨hm.1, by omega⟩ (by omega), fun k _ => gN_0.symm⟩ (by show 100 - (0 : Int32).toInt < ((5000 : Nat) : Int); omega) (by show 0 ≤ 100 - (0 : Int32).toInt; omega)
  obtain ⟨i, hi⟩ : ∃ i : Nat, s.1.toInt = i := ⟨s.1.toInt.toNat, by omega⟩
  have m0 := mi_add (mi := μ.2.1 66 0) (n := i) ⟨hm.1, by omega⟩ (by omega)
  have hM := h.1.of1 k2
  have e26 : s.2.2.1 66 26 = μ.2.1 66 26 := k2.2.2.2.1 26 (by unfold A1; omega)
  rw [show s.1.toInt.toNat = i by omega] at p2 p3
  refine gw_le (fun g => ?_) (fun g => ?_)
  · rw [show a.toInt.toNat = i by omega]
    exact gw_some (gs_inr (gq_V ⟨⟨k2, p2⟩, p3⟩))
  · refine gw_if (hM.1.t (r := 65) rfl) ?_
    refine gw_bV (w_goes (h.k1 k2) (by rw [p2]; omega)) (fun m5 ⟨⟨g5, f5⟩, k5⟩ => ?_)
    have n6 : (s.1 + (1 : Int32)).toInt = s.1.toInt + (1 : Int32).toInt := gx_add (by omega) (by omega)
    refine gw_some (gs_inl ⟨k2.trans g5.w11, ⟨by show 0 ≤ (s.1 + (1 : Int32)).toInt; omega, by show (s.1 + (1 : Int32)).toInt ≤ a.toInt; omega⟩, ?_, fun k hk => ?_⟩ (by show 100 - (s.1 + (1 : Int32)).toInt < 100 - s.1.toInt; omega) (by show 0 ≤ 100 - (s.1 + (1 : Int32)).toInt; omega))
    · show m5.2.1 66 0 = μ.2.1 66 0 + Int32.ofNat (s.1 + (1 : Int32)).toInt.toNat
      rw [show (s.1 + (1 : Int32)).toInt.toNat = i + 1 by omega, f5, p2, ← itn_at ⟨hm.1, by omega⟩ i (by omega), ← itn_at ⟨hm.1, by omega⟩ (i + 1) (by omega)]
      rfl
    · show kR (m5.2.1 66) k = gN cnt (s.1 + (1 : Int32)).toInt.toNat _ k _
      rw [show (s.1 + (1 : Int32)).toInt.toNat = i + 1 by omega, k5 k hk, p3 k hk, e26, p2]
      by_cases q : k < cnt
      · rw [if_pos (by omega), gN_s q]
      · rw [if_neg (by omega)]; exact gN_o q
theorem w_pass2 (h : MW w sw P μ) (hm : 0 ≤ (μ.2.1 66 0).toInt ∧ (μ.2.1 66 0).toInt ≤ 9999) {a : Int32} : gwI (f_X12_pass 65 a μ) (fun _ m => (0 ≤ a.toInt ∧ a.toInt ≤ 60) → (μ.2.1 66 0 + a).toInt ≤ 9999 → (km A1 μ m ∧ m.2.1 66 0 = μ.2.1 66 0 + Int32.ofNat a.toInt.toNat) ∧ ∀ k : Nat, k < 5 → kR (m.2.1 66) k = gN (μ.2.1 66 26).toInt.toNat a.toInt.toNat (μ.2.1 66 0) k (kR (μ.2.1 66) k)) := by
  refine gwI_of ?_
  unfold f_X12_pass
  have l0 : (0 : Int32).toInt = 0 := rfl
  have l60 : (60 : Int32).toInt = 60 := rfl
  have l9 : (9999 : Int32).toInt = 9999 := rfl
  have hg := h.1.1
  refine gw_inn (fun g2 => ?_) (fun g2 => ?_)
  · rw [if_pos (by decide)]
    refine gw_gRa 66 (hg.c (r := 65) rfl) (hg.r (by decide)) ?_
    refine gw_aIw 0 (hg.t (r := 66) rfl) (hg.l (r := 66) rfl) l0 (by omega) ?_
    refine gw_le (fun g4 => ?_) (fun g4 => gw_some (gq_I (fun _ q => by exfalso; omega)))
    refine gw_if (hg.t (r := 65) rfl) ?_
    refine gw_bV (w_goesOn h hm (a := a) (by omega)) (fun m5 ⟨⟨k5, f5⟩, r5⟩ => ?_)
    have h5 := (h.1.of1 k5).1
    refine gw_gRa 66 (h5.c (r := 65) rfl) (h5.r (by decide)) ?_
    refine gw_aIw 0 (h5.t (r := 66) rfl) (h5.l (r := 66) rfl) l0 (by omega) ?_
    exact gw_some (gq_I (fun _ _ => ⟨⟨k5, f5⟩, r5⟩))
  · rw [if_neg (by decide)]
    exact gw_some (gq_I (fun q _ => by exfalso; omega))
theorem REL.row (h : REL μ) {k : Nat} (hk : k < 5) : RK (kC μ (29 + 2 * k)) := by rw [(h.kk hk).1]; exact (h.kk hk).2
/-- the class's side of what a pass leaves -/
theorem N_pass (h : REL μ) {a : Int32} : PR (f_X11_pass 1 a μ) (f_X12_pass 65 a) := by
  refine PR.mk2 (L_pass h.1) ?_
  have E0 := h.mn
  have E26 := h.sz
  obtain ⟨w, sw, P, ⟨hc, hw, -, -⟩, -⟩ := h.ex
  have v2 := h.vs.2.1
  have l0 : (0 : Int32).toInt = 0 := rfl
  have l60 : (60 : Int32).toInt = 60 := rfl
  refine gwI_mono (gwI_and (c_pass h.ci) (v_pass2 hc (fun k hk => h.row hk) (by rw [E0]; exact v2) (a := a))) (fun x m ⟨hx, kx⟩ => ?_)
  rcases hx with ⟨rfl, hx, q⟩ | ⟨rfl, hx, q1, q2⟩ | ⟨q1, q2, hx, g⟩
  · refine gwI_mono (m_pass h.mi) (fun y m2 hy => ?_)
    rcases hy with ⟨rfl, hy, p⟩ | ⟨rfl, hy, p1, p2⟩ | ⟨p1, p2, hy, hm, hm2⟩
    · exact fun _ => h
    all_goals (exfalso; omega)
  · refine gwI_mono (m_pass h.mi) (fun y m2 hy => ?_)
    rw [← E0] at hy
    rcases hy with ⟨rfl, hy, p⟩ | ⟨rfl, hy, p1, p2⟩ | ⟨p1, p2, hy, hm, hm2⟩
    · exfalso; omega
    · exact fun _ => h
    · exfalso; omega
  · have r66 : m.2.1 66 = μ.2.1 66 := g.2.2.1 66 (by omega) (by unfold isch; omega)
    have hM : MW w sw P m := ⟨⟨(g.ci h.ci).1, by rw [r66]; exact h.mi.2⟩, by rw [r66]; exact hw.2⟩
    refine gwI_mono (w_pass2 hM (by rw [r66]; exact v2) (a := a)) (fun y m2 hy hB => ?_)
    rw [r66, ← E0, ← E26] at hy
    obtain ⟨⟨k2, k0⟩, kr⟩ := hy q1 q2
    have kx := kx q1 q2
    have ri : m2.2.1 15 = m.2.1 15 := k2.2.2.1 15 (by decide) (by decide) (by decide) (by decide) (by decide) (by decide) (by decide)
    have row : ∀ r : Nat, (r ≠ 65 ∧ r ≠ 66 ∧ r ≠ 69 ∧ r ≠ 70 ∧ r ≠ 71 ∧ r ≠ 72 ∧ r ≠ 73) → m2.2.1 r = m.2.1 r := fun r q => k2.2.2.1 r q.1 q.2.1 q.2.2.1 q.2.2.2.1 q.2.2.2.2.1 q.2.2.2.2.2.1 q.2.2.2.2.2.2
    have ro : ∀ r : Nat, (r ≠ 65 ∧ r ≠ 66 ∧ r ≠ 69 ∧ r ≠ 70 ∧ r ≠ 71 ∧ r ≠ 72 ∧ r ≠ 73) → r ≠ 15 → ¬ isch r → m2.2.1 r = μ.2.1 r := fun r q q1 q2 => (row r q).trans (g.2.2.1 r q1 q2)
    have e2 : m2.2.2 = μ.2.2 := k2.2.1.trans g.2.1
    have ce : ∀ i : Nat, 26 ≤ i → m2.2.1 66 i = μ.2.1 66 i := fun i hi => by rw [k2.2.2.2.1 i (by unfold A1; omega), r66]
    obtain ⟨v1, -, v3, v4, -⟩ := h.vs
    have a0 := ofn (k := a.toInt.toNat) (by omega)
    have m0 := mi_add (mi := μ.2.1 15 0) (n := a.toInt.toNat) ⟨by rw [E0]; exact v2.1, by rw [E0]; omega⟩ (by omega)
    have ea : μ.2.1 15 0 + a = μ.2.1 15 0 + Int32.ofNat a.toInt.toNat := by rw [gx_of q1.1]
    rw [ea] at q2
    have v2' := v2
    rw [← E0] at v2'
    refine h.of hB (fun r hr => ro r (by unfold Qr at hr; omega) (by unfold Qr at hr; omega) (by unfold Qr at hr; unfold isch; omega)) (by rw [ro 1 (by omega) (by omega) (by unfold isch; omega)]) (fun r _ => by rw [e2]) ⟨fun k hk => ?_, by rw [k0]; omega, v3.fr ⟨by rw [ri, g.2.2.2.1 4 (by decide)], by rw [ri, g.2.2.2.1 5 (by decide)]⟩ (ro 17 (by omega) (by omega) (by unfold isch; omega)) (fun i hi => ce i (by omega)), v4.fr (ro 24 (by omega) (by omega) (by unfold isch; omega)) (ro 28 (by omega) (by omega) (by unfold isch; omega)) (fun i hi => ce i (by omega)) (by rw [ce 26 (by omega)]; exact Int.le_refl _), h.va (fun r hr => ro r (by unfold Qr at hr; omega) (by unfold Qr at hr; omega) (by unfold Qr at hr; unfold isch; omega)) (by rw [e2]) (fun i hi => ce i (by omega))⟩
    have c2 : kC m2 (29 + 2 * k) = kC m (29 + 2 * k) := kC_o (by rw [k2.2.1]) (row _ (by omega)) (fun j _ => by rw [row _ (by omega)])
    rw [c2, kx k hk, kr k hk, (v1 k hk).1]
    exact ⟨rfl, ((v1 k hk).2).gn ⟨v2'.1, by omega⟩ (by omega)⟩
end
