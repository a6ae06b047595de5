/-! a letter, an afternoon: agreed behind them -/
def rg (w sw : Int32) : Prop := (0 ≤ w.toInt ∧ w.toInt ≤ 99) ∧ 0 ≤ sw.toInt ∧ sw.toInt ≤ 99
theorem pM_rg {tx : Nat → Int32} {n : Nat} {u : UInt32} {kd : Int32} {p : Nat} {w sw : Int32} {L : List Int32} : (pM tx n u kd p w sw L).2.2.1 = w ∧ (pM tx n u kd p w sw L).2.2.2.1 = sw := by
  unfold pM
  split
  · split <;> exact ⟨rfl, rfl⟩
  · exact ⟨rfl, rfl⟩
theorem pK_rg {tx : Nat → Int32} {n p : Nat} {w sw : Int32} {L : List Int32} (h : rg w sw) (h1 : (pK tx n p w sw L).1 = true) : rg (pK tx n p w sw L).2.2.1 (pK tx n p w sw L).2.2.2.1 := by
  unfold pK at h1 ⊢
  by_cases e1 : pd tx n p = 119
  · rw [if_pos e1] at h1 ⊢
    have q : p < n := pd_lt (tx := tx) (by rw [e1]; decide)
    exact ⟨((pWN_g (tx := tx) (n := n) (u := 1) (p := p) (by decide) (by omega)).2.2 h1).2, h.2⟩
  · rw [if_neg e1] at h1 ⊢
    by_cases e2 : pd tx n p = 115
    · rw [if_pos e2] at h1 ⊢
      by_cases e3 : pd tx n (p + 1) = 119
      · rw [if_pos e3] at h1 ⊢
        have q : p + 1 < n := pd_lt (tx := tx) (by rw [e3]; decide)
        exact ⟨h.1, ((pWN_g (tx := tx) (n := n) (u := 2) (p := p + 1) (by decide) (by omega)).2.2 h1).2⟩
      · rw [if_neg e3] at h1 ⊢
        by_cases e4 : pd tx n (p + 1) = 116
        · rw [if_pos e4]
          by_cases e5 : pd tx n (p + 2) = 114
          · rw [if_pos e5, pM_rg.1, pM_rg.2]; exact h
          · rw [if_neg e5, pM_rg.1, pM_rg.2]; exact h
        · rw [if_neg e4] at h1; cases h1
    · rw [if_neg e2] at h1; cases h1
theorem pR_rg {tx : Nat → Int32} {n : Nat} : ∀ (k : Nat) (r : pB), rg r.2.2.1 r.2.2.2.1 → (pR tx n k r).1 = true → rg (pR tx n k r).2.2.1 (pR tx n k r).2.2.2.1
  | 0, r, h, h1 => by
    unfold pR at h1 ⊢
    split at h1
    · rename_i g; rw [if_pos g]; exact h
    · cases h1
  | k + 1, r, h, h1 => by
    unfold pR at h1 ⊢
    split at h1
    · rename_i g; rw [if_pos g]; exact h
    · rename_i g
      rw [if_neg g]
      split at h1
      · rename_i g2
        rw [if_pos g2]
        split at h1
        · rename_i g3
          rw [if_pos g3]
          exact pR_rg k _ (pK_rg h g3) h1
        · rename_i g3; exact absurd h1 g3
      · cases h1
theorem pAft_rg {tx : Nat → Int32} {n : Nat} (h : (pAft tx n).1 = true) : rg (pAft tx n).2.2.1 (pAft tx n).2.2.2.1 := by
  have h0 : rg (0 : Int32) 20 := ⟨⟨by decide, by decide⟩, by decide, by decide⟩
  unfold pAft at h ⊢
  split at h
  · rename_i g; rw [if_pos g]; exact pR_rg 9 _ (pK_rg h0 g) h
  · rename_i g; exact absurd h g
theorem AfW.lt {μ : gm_M} {q : Nat} (p : AfW μ q) : q + 3 < μ.1.length := (List.getElem?_eq_some_iff.mp p.2.1.2.2.2).1
section
variable {μ : gm_M}
theorem REL.of2 {m : gm_M} (h : REL μ) (ha : ALL m) (hq : ∀ r : Nat, Qr r → r < μ.1.length → m.2.1 r = μ.2.1 r) (hf : m.2.1 1 3 = μ.2.1 1 3) (h2 : ∀ r : Nat, (39 ≤ r ∧ r < 63) → m.2.2 r = μ.2.2 r) (v : VS 15 29 m (m.2.1 66)) : REL m := by
  have p0 := h.aw2.1
  have p1 := h.aw2.lt
  have hL := h.ci.1.len
  refine ⟨ha, fun i hi => by rw [hq _ (by unfold Qr; omega) (by omega)]; exact h.2.1 i hi, v, fun q => ?_⟩
  rw [hf] at q
  obtain ⟨v1, v2, v3, v4, v5⟩ := h.2.2.2 q
  have e67 := hq 67 (by unfold Qr; omega) (by omega)
  rw [e67]
  exact ⟨v1.fr (fun k hk => kC_o (by rw [h2 _ (by omega)]) (hq _ (by unfold Qr; omega) (by omega)) (fun j _ => by rw [hq _ (by unfold Qr; omega) (by omega)])) (fun _ _ => rfl), v2, v3.fr ⟨by rw [hq 39 (by unfold Qr; omega) (by omega)], by rw [hq 39 (by unfold Qr; omega) (by omega)]⟩ (hq _ (by unfold Qr; omega) (by omega)) (fun _ _ => rfl), v4.fr (hq _ (by unfold Qr; omega) (by omega)) (hq _ (by unfold Qr; omega) (by omega)) (fun _ _ => rfl) (Int.le_refl _), v5.fr (by rw [h2 39 (by omega)]) (fun d hd => hq _ (by unfold Qr; omega) (by omega)) (fun _ _ => rfl)⟩
set_option maxHeartbeats 4000000 in
theorem N_feed (h : REL μ) {a : Int32} : PR (f_X11_feed 1 a μ) (f_X12_feed 65 a) := by
  refine PR.mk (c_feed h.1) (fun m k => m_feed k) ?_
  have hg := h.ci.1
  have n4 := h.ci.n4
  obtain ⟨v1, v2, ⟨t1, t2, t3⟩, v4, v5⟩ := h.vs
  obtain ⟨n, en, hn⟩ : ∃ n : Nat, μ.2.1 15 4 = Int32.ofNat n ∧ n ≤ 100 := ⟨(μ.2.1 15 4).toInt.toNat, (gx_of n4.1).symm, by omega⟩
  have on := ofn (k := n) (by omega)
  have en2 : μ.2.1 66 31 = Int32.ofNat n := by rw [← t1]; exact en
  have l0 : (0 : Int32).toInt = 0 := rfl
  have l31 : (31 : Int32).toInt = 31 := rfl
  have l100 : (100 : Int32).toInt = 100 := rfl
  have l110 : (110 : Int32).toInt = 110 := rfl
  have l127 : (127 : Int32).toInt = 127 := rfl
  have lo4 : (Int32.ofNat 100).toInt = 100 := rfl
  refine gwI_of ?_
  unfold f_X11_feed
  refine gw_out (fun hb => ?_) (fun nb => ?_)
  · rw [if_pos rfl]
    refine gw_gRa 15 (hg.c (r := 1) rfl) (hg.r (by decide)) ?_
    refine gw_gIw (hg.c (r := 15) rfl) ?_
    refine gw_gRa 15 (hg.c (r := 1) rfl) (hg.r (by decide)) ?_
    refine gw_gRa 17 (hg.c (r := 15) rfl) (hg.r (by decide)) ?_
    refine gw_al (hg.t (r := 17) rfl) (hg.l (r := 17) rfl) ?_
    rw [en]
    refine gw_lt (fun g => ?_) (fun g => ?_)
    · refine gw_gRa 15 (hg.c (r := 1) rfl) (hg.r (by decide)) ?_
      refine gw_gRa 17 (hg.c (r := 15) rfl) (hg.r (by decide)) ?_
      refine gw_gRa 15 (hg.c (r := 1) rfl) (hg.r (by decide)) ?_
      refine gw_gIw (hg.c (r := 15) rfl) ?_
      refine gw_sIw n (hg.t (r := 17) rfl) (hg.l (r := 17) rfl) (by rw [en]; exact on) (by omega) ?_
      refine gw_gRa 15 (hg.c (r := 1) rfl) (hg.r (by decide)) ?_
      refine gw_gIw (hg.c (r := 15) rfl) ?_
      refine gw_pIw (hg.c (r := 15) rfl) ?_
      refine gw_gRa 15 (hg.c (r := 1) rfl) (hg.r (by decide)) ?_
      refine gw_gIw (hg.c (r := 15) rfl) ?_
      rw [wI_e, wI_o _ _ _ _ (show (15 : Nat) ≠ 17 by decide), en, ofn1 (by omega)]
      refine gw_some (gq_I (fun hA => gwI_of ?_))
      have r66 : (wI (wI μ 17 n a) 15 4 (Int32.ofNat (n + 1))).2.1 66 = μ.2.1 66 := by rw [wI_o _ _ _ _ (by decide), wI_o _ _ _ _ (by decide)]
      have row : ∀ r : Nat, r ≠ 15 → r ≠ 17 → (wI (wI μ 17 n a) 15 4 (Int32.ofNat (n + 1))).2.1 r = μ.2.1 r := fun r r1 r2 => by rw [wI_o _ _ _ _ r1, wI_o _ _ _ _ r2]
      have c4 : (wI (wI μ 17 n a) 15 4 (Int32.ofNat (n + 1))).2.1 15 4 = Int32.ofNat (n + 1) := wI_e _ _ _ _
      have c5 : (wI (wI μ 17 n a) 15 4 (Int32.ofNat (n + 1))).2.1 15 5 = μ.2.1 15 5 := by rw [wI_n _ _ _ _ (by decide), wI_o _ _ _ _ (by decide)]
      have c17 : ∀ i : Nat, i ≠ n → (wI (wI μ 17 n a) 15 4 (Int32.ofNat (n + 1))).2.1 17 i = μ.2.1 17 i := fun i hi => by rw [wI_o _ _ _ _ (by decide), wI_n _ _ _ _ hi]
      have c17n : (wI (wI μ 17 n a) 15 4 (Int32.ofNat (n + 1))).2.1 17 n = a := by rw [wI_o _ _ _ _ (by decide), wI_e]
      have rf : (wI (wI μ 17 n a) 15 4 (Int32.ofNat (n + 1))).2.2 = μ.2.2 := rfl
      generalize wI (wI μ 17 n a) 15 4 (Int32.ofNat (n + 1)) = m at *
      have hm := hA.1.1
      unfold f_X12_feed
      refine gw_inn (fun _ => ?_) (fun q => absurd hb q)
      rw [if_pos (by decide)]
      refine gw_gRa 66 (hm.c (r := 65) rfl) (hm.r (by decide)) ?_
      refine gw_aIw 31 (hm.t (r := 66) rfl) (hm.l (r := 66) rfl) l31 (by omega) ?_
      rw [r66, en2]
      refine gw_if (fun e => by have := congrArg Int32.toInt e; omega) ?_
      refine gw_gRa 66 (hm.c (r := 65) rfl) (hm.r (by decide)) ?_
      refine gw_gRa 66 (hm.c (r := 65) rfl) (hm.r (by decide)) ?_
      refine gw_aIw 31 (hm.t (r := 66) rfl) (hm.l (r := 66) rfl) l31 (by omega) ?_
      rw [r66, en2]
      have n1 : ((110 : Int32) + Int32.ofNat n).toInt = (110 : Int32).toInt + (Int32.ofNat n).toInt := gx_add (by omega) (by omega)
      refine gw_sIw (110 + n) (hm.t (r := 66) rfl) (hm.l (r := 66) rfl) (by omega) (by omega) ?_
      refine gw_gRa 66 (hm.c (r := 65) rfl) (hm.r (by decide)) ?_
      refine gw_aIw 31 (hm.t (r := 66) rfl) (hm.l (r := 66) rfl) l31 (by omega) ?_
      rw [wI_n _ _ _ _ (show (31 : Nat) ≠ 110 + n by omega), r66, en2, ofn1 (by omega)]
      refine gw_sIw 31 (hm.t (r := 66) rfl) (hm.l (r := 66) rfl) l31 (by omega) ?_
      refine gw_gRa 66 (hm.c (r := 65) rfl) (hm.r (by decide)) ?_
      refine gw_aIw 31 (hm.t (r := 66) rfl) (hm.l (r := 66) rfl) l31 (by omega) ?_
      rw [wI_e]
      refine gw_some (gq_I ⟨rfl, fun hB => ?_⟩)
      have C31 : (wI (wI m 66 (110 + n) a) 66 31 (Int32.ofNat (n + 1))).2.1 66 31 = Int32.ofNat (n + 1) := wI_e _ _ _ _
      have Cn : (wI (wI m 66 (110 + n) a) 66 31 (Int32.ofNat (n + 1))).2.1 66 (110 + n) = a := by rw [wI_n _ _ _ _ (by omega), wI_e]
      have Ck : ∀ k : Nat, k ≠ 31 → k ≠ 110 + n → (wI (wI m 66 (110 + n) a) 66 31 (Int32.ofNat (n + 1))).2.1 66 k = μ.2.1 66 k := fun k k1 k2 => by rw [wI_n _ _ _ _ k1, wI_n _ _ _ _ k2, r66]
      have Ro : ∀ r : Nat, r ≠ 66 → (wI (wI m 66 (110 + n) a) 66 31 (Int32.ofNat (n + 1))).2.1 r = m.2.1 r := fun r r1 => by rw [wI_o _ _ _ _ r1, wI_o _ _ _ _ r1]
      have Rf : (wI (wI m 66 (110 + n) a) 66 31 (Int32.ofNat (n + 1))).2.2 = μ.2.2 := rf
      generalize wI (wI m 66 (110 + n) a) 66 31 (Int32.ofNat (n + 1)) = M at *
      have Row : ∀ r : Nat, r ≠ 15 → r ≠ 17 → r ≠ 66 → M.2.1 r = μ.2.1 r := fun r r1 r2 r3 => (Ro r r3).trans (row r r1 r2)
      have o1 := ofn (k := n + 1) (by omega)
      refine h.of hB (fun r hr => Row r (by unfold Qr at hr; omega) (by unfold Qr at hr; omega) (by unfold Qr at hr; omega)) (by rw [Row 1 (by omega) (by omega) (by omega)]) (fun r _ => by rw [Rf]) ⟨v1.fr (fun k hk => kC_o (by rw [Rf]) (Row _ (by omega) (by omega) (by omega)) (fun j _ => by rw [Row _ (by omega) (by omega) (by omega)])) (fun i hi => Ck i (by omega) (by omega)), by rw [Ck 0 (by omega) (by omega)]; exact v2, ⟨by rw [Ro 15 (by omega), c4, C31], by rw [Ro 15 (by omega), c5, Ck 27 (by omega) (by omega)]; exact t2, fun i hi => ?_⟩, v4.fr (Row 24 (by omega) (by omega) (by omega)) (Row 28 (by omega) (by omega) (by omega)) (fun i hi => Ck i (by omega) (by omega)) (by rw [Ck 26 (by omega) (by omega)]; exact Int.le_refl _), h.va (fun r hr => Row r (by unfold Qr at hr; omega) (by unfold Qr at hr; omega) (by unfold Qr at hr; omega)) (by rw [Rf]) (fun i hi => Ck i (by omega) (by omega))⟩
      rw [C31, o1] at hi
      rw [Ro 17 (by omega)]
      by_cases q : i = n
      · rw [q, c17n, Cn]; exact ⟨rfl, by omega, by omega⟩
      · rw [c17 i q, Ck _ (by omega) (by omega)]
        exact t3 i (by rw [en2, on]; omega)
    · refine gw_some (gq_I (fun hA => gwI_of ?_))
      unfold f_X12_feed
      refine gw_inn (fun _ => ?_) (fun q => absurd hb q)
      rw [if_pos (by decide)]
      refine gw_gRa 66 (hg.c (r := 65) rfl) (hg.r (by decide)) ?_
      refine gw_aIw 31 (hg.t (r := 66) rfl) (hg.l (r := 66) rfl) l31 (by omega) ?_
      rw [en2, show n = 100 by omega, if_neg (by decide)]
      exact gw_some (gq_I ⟨rfl, fun _ => h⟩)
  · rw [if_neg (by decide)]
    refine gw_some (gq_I (fun hA => gwI_of ?_))
    unfold f_X12_feed
    refine gw_inn (fun q => absurd q nb) (fun _ => ?_)
    rw [if_neg (by decide)]
    exact gw_some (gq_I ⟨rfl, fun _ => h⟩)
set_option maxHeartbeats 4000000 in
theorem N_afternoon (h : REL μ) : PR (f_X11_afternoon 1 μ) (f_X12_afternoon 65) := by
  refine PR.mk (c_afternoon h.1) (fun m k => m_afternoon k) ?_
  have hg := h.ci.1
  have hL := hg.len
  have n4 := h.ci.n4
  have n5 := h.ci.n5
  obtain ⟨v1, v2, ⟨t1, t2, t3⟩, v4, v5⟩ := h.vs
  obtain ⟨n, en, hn⟩ : ∃ n : Nat, μ.2.1 15 4 = Int32.ofNat n ∧ n ≤ 100 := ⟨(μ.2.1 15 4).toInt.toNat, (gx_of n4.1).symm, by omega⟩
  obtain ⟨a, ea, ha⟩ : ∃ a : Nat, μ.2.1 15 5 = Int32.ofNat a ∧ a ≤ 5 := ⟨(μ.2.1 15 5).toInt.toNat, (gx_of n5.1).symm, by omega⟩
  have on := ofn (k := n) (by omega)
  have oa := ofn (k := a) (by omega)
  have en2 : μ.2.1 66 31 = Int32.ofNat n := by rw [← t1]; exact en
  have ea2 : μ.2.1 66 27 = Int32.ofNat a := by rw [← t2]; exact ea
  obtain ⟨tx, ht, hr⟩ : ∃ tx : Nat → Int32, (∀ i : Nat, i < n → μ.2.1 17 i = tx i ∧ μ.2.1 66 (110 + i) = tx i) ∧ ∀ i : Nat, 0 ≤ (tx i).toInt ∧ (tx i).toInt ≤ 127 := by
    refine ⟨fun i => if i < n then μ.2.1 66 (110 + i) else 0, fun i hi => ?_, fun i => ?_⟩
    · have := t3 i (by rw [en2, on]; omega)
      dsimp only
      rw [if_pos hi]
      exact ⟨this.1, rfl⟩
    · dsimp only
      by_cases hi : i < n
      · rw [if_pos hi]; exact (t3 i (by rw [en2, on]; omega)).2
      · rw [if_neg hi]; decide
  refine gwI_mono (v_afternoon h.1 hn en (fun i hi => (ht i hi).1) hr) (fun x m hc hA => ?_)
  have rc : ∀ q : Nat, q < μ.1.length → q ≠ 15 → m.2.1 q = μ.2.1 q := by
    rcases hc with ⟨-, -, e⟩ | ⟨-, c, -⟩
    · intro q _ _; rw [e]
    · exact c
  have e66 := rc 66 (by omega) (by omega)
  refine gwI_mono (m_aft hA hn ha (by rw [e66]; exact en2) (by rw [e66]; exact ea2) (fun i hi => by rw [e66]; exact (ht i hi).2) hr) (fun y m2 hm => ?_)
  rw [e66, ea2, oa] at hm
  rw [ea, oa] at hc
  rcases hc with ⟨c1, c2, c3⟩ | ⟨c1, c2, c3, c4, c5, c6⟩
  · rcases hm with ⟨g1, g2, g3⟩ | ⟨g1, -⟩
    · exact ⟨by rw [g2, c2], fun _ => by rw [g3, c3]; exact h⟩
    · omega
  · rcases hm with ⟨g1, -⟩ | ⟨g1, d1, d2, d3, d4, d5⟩
    · omega
    · have a5 : a < 5 := by omega
      have row : ∀ r : Nat, r < μ.1.length → r ≠ 15 → r ≠ 65 → r ≠ 66 → m2.2.1 r = μ.2.1 r := fun r r1 r2 r3 r4 => (d1 r r3 r4).trans (c2 r r1 r2)
      have rf : ∀ q j : Nat, q < μ.1.length → ¬ (q = 15 ∧ j = 6) → m2.2.2 q j = μ.2.2 q j := fun q j q1 q2 => by rw [d2]; exact c5 q j q1 q2
      have r66 : ∀ k : Nat, (k ≠ 27 ∧ k ≠ 31 ∧ k ≠ 32 ∧ k ≠ 210 + a ∧ k ≠ 215 + a ∧ k ≠ 220 + a ∧ ¬ (225 + 140 * a ≤ k ∧ k < 365 + 140 * a)) → m2.2.1 66 k = μ.2.1 66 k := fun k q => by rw [d3 k q.1 q.2.1 q.2.2.1 q.2.2.2.1 q.2.2.2.2.1 q.2.2.2.2.2.1 q.2.2.2.2.2.2, e66]
      have r15 : m2.2.1 15 = m.2.1 15 := d1 15 (by omega) (by omega)
      have fin : ALL m2 → VA 15 m2 (m2.2.1 66) → m2.2.1 15 5 = m2.2.1 66 27 → REL m2 := fun hB u1 u2 => by
        refine h.of2 hB (fun r hr hl => row r hl (by unfold Qr at hr; omega) (by unfold Qr at hr; omega) (by unfold Qr at hr; omega)) (by rw [row 1 (by omega) (by omega) (by omega) (by omega)]) (fun r hr => funext fun j => rf r j (by omega) (by omega)) ⟨v1.fr (fun k hk => kC_o (rf _ 1 (by omega) (by omega)) (row _ (by omega) (by omega) (by omega) (by omega)) (fun j _ => by rw [row _ (by omega) (by omega) (by omega) (by omega)])) (fun i hi => r66 i (by omega)), by rw [r66 0 (by omega)]; exact v2, ⟨by rw [r15, c4, d4], u2, fun i hi => ?_⟩, v4.fr (row 24 (by omega) (by omega) (by omega) (by omega)) (row 28 (by omega) (by omega) (by omega) (by omega)) (fun i hi => r66 i (by omega)) (by rw [r66 26 (by omega)]; exact Int.le_refl _), u1⟩
        rw [d4] at hi
        have l0 : (0 : Int32).toInt = 0 := rfl
        omega
      rcases c6 with ⟨s1, s2, s3, s4, s5, s6⟩ | ⟨s1, s2, s3, s4⟩
      · rcases d5 with ⟨q1, q2, q3, q4, q5⟩ | ⟨q1, -⟩
        · refine ⟨by rw [q2, s2, e66]; exact t2.symm, fun hB => fin hB ?_ (by rw [r15, s3, q3, e66, t2])⟩
          obtain ⟨P, e, p1, p2⟩ := pAft_wf s1
          refine ⟨⟨(pAft tx n).2.2.1, (pAft tx n).2.2.2.1, P, ⟨⟨p1, p2, by rw [← e]; exact s6⟩, Or.inr ⟨a, a5, by rw [q4, e66]; exact ea2, by rw [← e]; exact q5⟩⟩, ?_, pAft_rg s1⟩, ?_⟩
          · rw [d2, s4, ← e]
            unfold AFC at s5 ⊢
            rw [d1 μ.1.length (by omega) (by omega), d1 (μ.1.length + 1) (by omega) (by omega), d1 (μ.1.length + 2) (by omega) (by omega), d1 (μ.1.length + 3) (by omega) (by omega)]
            exact s5
          · rw [q4, q3, e66, ea2, ofn1 (by omega), oa, ofn (k := a + 1) (by omega)]; omega
        · rw [s1] at q1; cases q1
      · rcases d5 with ⟨q1, -⟩ | ⟨q1, q2, q3, q4⟩
        · rw [s1] at q1; cases q1
        · refine ⟨by rw [q2, s2], fun hB => fin hB ?_ (by rw [r15, s3, q3, e66, t2])⟩
          obtain ⟨⟨w, sw, P, ⟨o1, o2⟩, o3, o4⟩, o5⟩ := v5
          have pl := h.aw.lt
          have p0 := h.aw.1
          refine ⟨⟨w, sw, P, ⟨o1, ?_⟩, ?_, o4⟩, by rw [q4, q3, e66]; exact o5⟩
          · rcases o2 with ⟨b1, b2⟩ | ⟨b, hb, b1, ⟨b2, b3⟩, b4, b5⟩
            · exact Or.inl ⟨by rw [q4, e66]; exact b1, b2⟩
            · have hba : b < a := by rw [b1, ea2, oa, ofn (k := b) (by omega)] at o5; omega
              have hl := o1.2.2
              exact Or.inr ⟨b, hb, by rw [q4, e66]; exact b1, ⟨by rw [r66 (210 + b) (by omega)]; exact b2, by rw [r66 (215 + b) (by omega)]; exact b3⟩, by rw [r66 (220 + b) (by omega)]; exact b4, fun i hi => by rw [r66 (225 + 140 * b + i) (by omega)]; exact b5 i hi⟩
          · rw [d2, s4]
            unfold AFC at o3 ⊢
            rw [row _ (by omega) (by omega) (by omega) (by omega), row _ (by omega) (by omega) (by omega) (by omega), row _ (by omega) (by omega) (by omega) (by omega), row _ (by omega) (by omega) (by omega) (by omega)]
            exact o3
end
