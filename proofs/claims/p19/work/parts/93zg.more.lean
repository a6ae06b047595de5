section
/-! the child on trial; sums -/
theorem gwV_mono2 {z : Option (Option Value × gm_M)} {R S : gm_M → Prop} (h : gwV z R) (k : ∀ m, R m → S m) : gwV z S := by
  obtain ⟨m, e, a⟩ := h
  exact ⟨m, e, k m a⟩
theorem add0 (x : Int32) : x + Int32.ofNat 0 = x := by
  apply Int32.toInt_inj.mp
  have l : (Int32.ofNat 0).toInt = 0 := rfl
  rcases gx_addw x (Int32.ofNat 0) with h | h | h
  · omega
  · have := gx_hi (x + Int32.ofNat 0); have := gx_lo x; omega
  · have := gx_lo (x + Int32.ofNat 0); have := gx_hi x; omega
def sm (H : Nat → Int32) : Nat → Int32
  | 0 => 0
  | k + 1 => sm H k + H k
def ff (H : Nat → Int32) : Nat → Int32 × Int32
  | 0 => (-5, -1)
  | k + 1 => if H k ≤ (ff H k).2 then ff H k else (Int32.ofNat k, H k)
theorem sm_eq {H G : Nat → Int32} : ∀ n : Nat, (∀ k : Nat, k < n → H k = G k) → sm H n = sm G n
  | 0, _ => rfl
  | n + 1, h => by
    show sm H n + H n = sm G n + G n
    rw [sm_eq n (fun k hk => h k (by omega)), h n (by omega)]
theorem ff_eq {H G : Nat → Int32} : ∀ n : Nat, (∀ k : Nat, k < n → H k = G k) → ff H n = ff G n
  | 0, _ => rfl
  | n + 1, h => by
    show (if H n ≤ (ff H n).2 then ff H n else (Int32.ofNat n, H n)) = if G n ≤ (ff G n).2 then ff G n else (Int32.ofNat n, G n)
    rw [ff_eq n (fun k hk => h k (by omega)), h n (by omega)]
section
variable {w sw : Int32} {Q : List (List Int32 × Int32)} {μ : gm_M} {c : Nat}
theorem kc.K {m : gm_M} (g : kc μ m) {k : Nat} (hk : k < 5) : kC m (29 + 2 * k) = kC μ (29 + 2 * k) :=
  kC_o (by rw [g.ref (show (29 + 2 * k : Nat) ≠ 63 by omega)]) (g.row (by omega)) (fun j _ => by rw [g.row (by omega)])
theorem v_copy (h : CW w Q μ) (hc : c < 5) : gwV (f_X2_copy 63 (29 + 2 * c) μ) (fun m => kc μ m ∧ kC m 63 = kC μ (29 + 2 * c)) :=
  gwV_mono2 (gwV_and (s_X2_copy_63 h.1 (isch_c hc)) (s_ccopy h.1.1 (Or.inl (Or.inr rfl)) (Or.inl (ict_c hc)) (by omega))) (fun m ⟨a, b⟩ => ⟨a, kC_cp b⟩)
set_option maxHeartbeats 2000000 in
theorem v_trial (h : CW w Q μ) (hr : RK (kC μ 63)) (hm : 0 ≤ (μ.2.1 15 0).toInt ∧ (μ.2.1 15 0).toInt ≤ 9999) {n : Nat} (hn : n ≤ 100) : gwI (f_X11_trialBehind 1 (Int32.ofNat n) μ) (fun x m => kc μ m ∧ x = cHold w Q (cGoN n (kC μ 63) (μ.2.1 15 0)) (μ.2.1 15 0 + Int32.ofNat n) ∧ kC m 63 = cGoN n (kC μ 63) (μ.2.1 15 0)) := by
  have on := ofn (k := n) (by omega)
  have l0 : (0 : Int32).toInt = 0 := rfl
  have l1 : (1 : Int32).toInt = 1 := rfl
  refine gwI_of ?_
  unfold f_X11_trialBehind
  refine gw_loop (fun s => kc μ s.2 ∧ (0 ≤ s.1.toInt ∧ s.1.toInt ≤ (n : Int)) ∧ kC s.2 63 = cGoN s.1.toInt.toNat (kC μ 63) (μ.2.1 15 0)) (fun s => 100 - s.1.toInt) (fun s ⟨k2, p1, p2⟩ => ?_) 5000 ((0 : Int32), μ) ⟨kc.refl μ, ⟨by show 0 ≤ (0 : Int32).toInt; omega, by show (0 : Int32).toInt ≤ (n : Int); omega⟩, rfl⟩ (by show 100 - (0 : Int32).toInt < ((5000 : Nat) : Int); omega) (by show 0 ≤ 100 - (0 : Int32).toInt; omega)
  obtain ⟨i, hi, ei⟩ : ∃ i : Nat, i ≤ n ∧ s.1 = Int32.ofNat i := ⟨s.1.toInt.toNat, by omega, (gx_of p1.1).symm⟩
  have oi := ofn (k := i) (by omega)
  have hw := h.kc k2
  have hg := hw.1.1
  have e0 : s.2.2.1 15 0 = μ.2.1 15 0 := by rw [k2.row (show (15 : Nat) ≠ 1 ∧ 15 ≠ 5 ∧ 15 ≠ 6 ∧ 15 ≠ 7 ∧ 15 ≠ 63 ∧ 15 ≠ 64 by decide)]
  have hS : s.1.toInt = i := by rw [ei]; exact oi
  rw [show s.1.toInt.toNat = i by omega] at p2
  have mi := mi_add (mi := μ.2.1 15 0) (n := i) ⟨hm.1, by omega⟩ (by omega)
  refine gw_le (fun g => ?_) (fun g => ?_)
  · have en : i = n := by omega
    refine gw_gRa 63 (hg.c (r := 1) rfl) (hg.r (by decide)) ?_
    refine gw_gRa 15 (hg.c (r := 1) rfl) (hg.r (by decide)) ?_
    refine gw_gR (hg.c (r := 15) rfl) (fun q eq => ?_)
    subst eq
    refine gw_gRa 15 (hg.c (r := 1) rfl) (hg.r (by decide)) ?_
    refine gw_gIw (hg.c (r := 15) rfl) ?_
    refine gw_if (ict.t hg (Or.inr rfl)) ?_
    refine gw_bI (v_holds hw (Or.inr rfl) _) (fun x m ⟨ex, em⟩ => ?_)
    subst em
    refine gw_some (gs_inr (gq_I ⟨k2, ?_, by rw [p2, en]⟩))
    rw [ex, p2, e0, en]
  · refine gw_gRa 63 (hg.c (r := 1) rfl) (hg.r (by decide)) ?_
    refine gw_gRa 15 (hg.c (r := 1) rfl) (hg.r (by decide)) ?_
    refine gw_gIw (hg.c (r := 15) rfl) ?_
    refine gw_if (ict.t hg (Or.inr rfl)) ?_
    refine gw_bV (v_pass hw (Or.inr rfl) (by rw [e0, ei]; omega) (by rw [p2]; exact hr.goN ⟨hm.1, by omega⟩ i (by omega))) (fun m12 ⟨g12, k12, _⟩ => ?_)
    have nx : (s.1 + (1 : Int32)).toInt = s.1.toInt + (1 : Int32).toInt := gx_add (by omega) (by omega)
    refine gw_some (gs_inl ⟨k2.ch g12, ⟨by show 0 ≤ (s.1 + (1 : Int32)).toInt; omega, by show (s.1 + (1 : Int32)).toInt ≤ (n : Int); omega⟩, ?_⟩ (by show 100 - (s.1 + (1 : Int32)).toInt < 100 - s.1.toInt; omega) (by show 0 ≤ 100 - (s.1 + (1 : Int32)).toInt; omega))
    show kC m12 63 = cGoN (s.1 + (1 : Int32)).toInt.toNat _ _
    rw [show (s.1 + (1 : Int32)).toInt.toNat = i + 1 by omega, k12, p2, e0, ei]
    rfl
theorem v_behind (h : CW w Q μ) (hc : c < 5) (hr : RK (kC μ (29 + 2 * c))) (hm : 0 ≤ (μ.2.1 15 0).toInt ∧ (μ.2.1 15 0).toInt ≤ 9999) {n : Nat} (hn : n ≤ 100) : gwI (f_X11_holdsBehind 1 (Int32.ofNat c) (Int32.ofNat n) μ) (fun x m => kc μ m ∧ x = cHold w Q (cGoN n (kC μ (29 + 2 * c)) (μ.2.1 15 0)) (μ.2.1 15 0 + Int32.ofNat n) ∧ kC m 63 = cGoN n (kC μ (29 + 2 * c)) (μ.2.1 15 0)) := by
  have hg := h.1.1
  refine gwI_of ?_
  unfold f_X11_holdsBehind
  refine gw_gRa 63 (hg.c (r := 1) rfl) (hg.r (by decide)) ?_
  refine gw_kid hg hc ?_
  refine gw_if (ict.t hg (Or.inr rfl)) ?_
  refine gw_bV (v_copy h hc) (fun m5 ⟨k5, e5⟩ => ?_)
  have e0 : m5.2.1 15 0 = μ.2.1 15 0 := by rw [k5.row (show (15 : Nat) ≠ 1 ∧ 15 ≠ 5 ∧ 15 ≠ 6 ∧ 15 ≠ 7 ∧ 15 ≠ 63 ∧ 15 ≠ 64 by decide)]
  refine gw_if ((h.kc k5).1.1.t (r := 1) rfl) ?_
  refine gw_bI (v_trial (h.kc k5) (by rw [e5]; exact hr) (by rw [e0]; exact hm) hn) (fun x m ⟨k6, ex, ek⟩ => ?_)
  rw [e5, e0] at ex ek
  exact gw_some (gq_I ⟨k5.trans k6, ex, ek⟩)
set_option maxHeartbeats 2000000 in
theorem v_sum (h : CW w Q μ) (hr : ∀ k : Nat, k < 5 → RK (kC μ (29 + 2 * k))) (hm : 0 ≤ (μ.2.1 15 0).toInt ∧ (μ.2.1 15 0).toInt ≤ 9999) {n : Nat} (hn : n ≤ 100) : gwI (f_X11_sumBehind 1 (Int32.ofNat n) μ) (fun x m => kc μ m ∧ x = sm (fun k => cHold w Q (cGoN n (kC μ (29 + 2 * k)) (μ.2.1 15 0)) (μ.2.1 15 0 + Int32.ofNat n)) (μ.2.1 15 1).toInt.toNat) := by
  have l0 : (0 : Int32).toInt = 0 := rfl
  have l1 : (1 : Int32).toInt = 1 := rfl
  have n1 := h.1.n1
  refine gwI_of ?_
  unfold f_X11_sumBehind
  generalize hH : (fun k => cHold w Q (cGoN n (kC μ (29 + 2 * k)) (μ.2.1 15 0)) (μ.2.1 15 0 + Int32.ofNat n)) = H
  refine gw_loop (fun s => kc μ s.2.2 ∧ (0 ≤ s.2.1.toInt ∧ s.2.1.toInt ≤ (μ.2.1 15 1).toInt) ∧ s.1 = sm H s.2.1.toInt.toNat) (fun s => 100 - s.2.1.toInt) (fun s ⟨k2, p1, p2⟩ => ?_) 5000 ((0 : Int32), (0 : Int32), μ) ⟨kc.refl μ, ⟨by show 0 ≤ (0 : Int32).toInt; omega, by show (0 : Int32).toInt ≤ _; omega⟩, rfl⟩ (by show 100 - (0 : Int32).toInt < ((5000 : Nat) : Int); omega) (by show 0 ≤ 100 - (0 : Int32).toInt; omega)
  obtain ⟨i, hi, ei⟩ : ∃ i : Nat, i ≤ 5 ∧ s.2.1 = Int32.ofNat i := ⟨s.2.1.toInt.toNat, by omega, (gx_of p1.1).symm⟩
  have oi := ofn (k := i) (by omega)
  have hS : s.2.1.toInt = i := by rw [ei]; exact oi
  rw [show s.2.1.toInt.toNat = i by omega] at p2
  have hw := h.kc k2
  have hg := hw.1.1
  have r15 := k2.row (show (15 : Nat) ≠ 1 ∧ 15 ≠ 5 ∧ 15 ≠ 6 ∧ 15 ≠ 7 ∧ 15 ≠ 63 ∧ 15 ≠ 64 by decide)
  refine gw_gRa 15 (hg.c (r := 1) rfl) (hg.r (by decide)) ?_
  refine gw_gIw (hg.c (r := 15) rfl) ?_
  rw [r15]
  refine gw_le (fun g => ?_) (fun g => ?_)
  · refine gw_some (gs_inr (gq_I ⟨k2, ?_⟩))
    rw [p2, show (μ.2.1 15 1).toInt.toNat = i by omega]
  · refine gw_if (hg.t (r := 1) rfl) ?_
    rw [ei]
    refine gw_bI (v_behind hw (c := i) (by omega) (by rw [k2.K (by omega)]; exact hr i (by omega)) (by rw [r15]; exact hm) hn) (fun x m ⟨k6, ex, _⟩ => ?_)
    rw [k2.K (by omega), r15] at ex
    rw [← ei]
    have nx : (s.2.1 + (1 : Int32)).toInt = s.2.1.toInt + (1 : Int32).toInt := gx_add (by omega) (by omega)
    refine gw_some (gs_inl ⟨k2.trans k6, ⟨by show 0 ≤ (s.2.1 + (1 : Int32)).toInt; omega, by show (s.2.1 + (1 : Int32)).toInt ≤ _; omega⟩, ?_⟩ (by show 100 - (s.2.1 + (1 : Int32)).toInt < 100 - s.2.1.toInt; omega) (by show 0 ≤ 100 - (s.2.1 + (1 : Int32)).toInt; omega))
    show s.1 + x = sm H (s.2.1 + (1 : Int32)).toInt.toNat
    rw [show (s.2.1 + (1 : Int32)).toInt.toNat = i + 1 by omega, p2, ex, ← hH]
    rfl
set_option maxHeartbeats 2000000 in
theorem w_allHold (h : MW w sw Q μ) : gwI (f_X12_allHold 65 μ) (fun x m => km A0 μ m ∧ x = sm (fun k => cHold w Q (kR (μ.2.1 66) k) (μ.2.1 66 0)) (μ.2.1 66 26).toInt.toNat) := by
  have l0 : (0 : Int32).toInt = 0 := rfl
  have l1 : (1 : Int32).toInt = 1 := rfl
  have l26 : (26 : Int32).toInt = 26 := rfl
  have n1 := h.1.n26
  refine gwI_of ?_
  unfold f_X12_allHold
  generalize hH : (fun k => cHold w Q (kR (μ.2.1 66) k) (μ.2.1 66 0)) = H
  refine gw_loop (fun s => km A0 μ s.2.2 ∧ (0 ≤ s.2.1.toInt ∧ s.2.1.toInt ≤ (μ.2.1 66 26).toInt) ∧ s.1 = sm H s.2.1.toInt.toNat) (fun s => 100 - s.2.1.toInt) (fun s ⟨k2, p1, p2⟩ => ?_) 5000 ((0 : Int32), (0 : Int32), μ) ⟨km.refl A0 μ, ⟨by show 0 ≤ (0 : Int32).toInt; omega, by show (0 : Int32).toInt ≤ _; omega⟩, rfl⟩ (by show 100 - (0 : Int32).toInt < ((5000 : Nat) : Int); omega) (by show 0 ≤ 100 - (0 : Int32).toInt; omega)
  obtain ⟨i, hi, ei⟩ : ∃ i : Nat, i ≤ 5 ∧ s.2.1 = Int32.ofNat i := ⟨s.2.1.toInt.toNat, by omega, (gx_of p1.1).symm⟩
  have oi := ofn (k := i) (by omega)
  have hS : s.2.1.toInt = i := by rw [ei]; exact oi
  rw [show s.2.1.toInt.toNat = i by omega] at p2
  have hw := h.k0 k2
  have hg := hw.1.1
  have r66 := k2.row
  refine gw_gRa 66 (hg.c (r := 65) rfl) (hg.r (by decide)) ?_
  refine gw_aIw 26 (hg.t (r := 66) rfl) (hg.l (r := 66) rfl) l26 (by omega) ?_
  rw [r66]
  refine gw_le (fun g => ?_) (fun g => ?_)
  · refine gw_some (gs_inr (gq_I ⟨k2, ?_⟩))
    rw [p2, show (μ.2.1 66 26).toInt.toNat = i by omega]
  · refine gw_if (hg.t (r := 65) rfl) ?_
    rw [ei]
    refine gw_bI (w_holds hw (c := i) (by omega)) (fun x m ⟨k6, ex⟩ => ?_)
    rw [r66] at ex
    rw [← ei]
    have nx : (s.2.1 + (1 : Int32)).toInt = s.2.1.toInt + (1 : Int32).toInt := gx_add (by omega) (by omega)
    refine gw_some (gs_inl ⟨k2.trans k6, ⟨by show 0 ≤ (s.2.1 + (1 : Int32)).toInt; omega, by show (s.2.1 + (1 : Int32)).toInt ≤ _; omega⟩, ?_⟩ (by show 100 - (s.2.1 + (1 : Int32)).toInt < 100 - s.2.1.toInt; omega) (by show 0 ≤ 100 - (s.2.1 + (1 : Int32)).toInt; omega))
    show s.1 + x = sm H (s.2.1 + (1 : Int32)).toInt.toNat
    rw [show (s.2.1 + (1 : Int32)).toInt.toNat = i + 1 by omega, p2, ex, ← hH]
    rfl
/-! first -/
set_option maxHeartbeats 2000000 in
theorem v_first (h : CW w Q μ) : gwI (f_X11_first 1 μ) (fun x m => m = μ ∧ x = (ff (fun k => cHold w Q (kC μ (29 + 2 * k)) (μ.2.1 15 0)) (μ.2.1 15 1).toInt.toNat).1) := by
  have l0 : (0 : Int32).toInt = 0 := rfl
  have l1 : (1 : Int32).toInt = 1 := rfl
  have n1 := h.1.n1
  have hg := h.1.1
  refine gwI_of ?_
  unfold f_X11_first
  generalize hH : (fun k => cHold w Q (kC μ (29 + 2 * k)) (μ.2.1 15 0)) = H
  refine gw_loop (fun s => s.2.2.2 = μ ∧ (0 ≤ s.2.2.1.toInt ∧ s.2.2.1.toInt ≤ (μ.2.1 15 1).toInt) ∧ (s.1, s.2.1) = ff H s.2.2.1.toInt.toNat) (fun s => 100 - s.2.2.1.toInt) (fun s ⟨k2, p1, p2⟩ => ?_) 5000 ((-5 : Int32), (-1 : Int32), (0 : Int32), μ) ⟨rfl, ⟨by show 0 ≤ (0 : Int32).toInt; omega, by show (0 : Int32).toInt ≤ _; omega⟩, rfl⟩ (by show 100 - (0 : Int32).toInt < ((5000 : Nat) : Int); omega) (by show 0 ≤ 100 - (0 : Int32).toInt; omega)
  obtain ⟨i, hi, ei⟩ : ∃ i : Nat, i ≤ 5 ∧ s.2.2.1 = Int32.ofNat i := ⟨s.2.2.1.toInt.toNat, by omega, (gx_of p1.1).symm⟩
  have oi := ofn (k := i) (by omega)
  have hS : s.2.2.1.toInt = i := by rw [ei]; exact oi
  rw [show s.2.2.1.toInt.toNat = i by omega] at p2
  rw [k2]
  refine gw_gRa 15 (hg.c (r := 1) rfl) (hg.r (by decide)) ?_
  refine gw_gIw (hg.c (r := 15) rfl) ?_
  refine gw_le (fun g => ?_) (fun g => ?_)
  · refine gw_some (gs_inr (gq_I ⟨rfl, ?_⟩))
    rw [show (μ.2.1 15 1).toInt.toNat = i by omega, ← p2]
  · refine gw_if (hg.t (r := 1) rfl) ?_
    rw [ei]
    refine gw_bI (v_holdsNow h (c := i) (by omega)) (fun x m ⟨ex, em⟩ => ?_)
    have nx : (Int32.ofNat i + (1 : Int32)).toInt = (Int32.ofNat i).toInt + (1 : Int32).toInt := gx_add (by omega) (by omega)
    have hx : x = H i := by rw [ex, ← hH]
    have q2 : ff H i = (s.1, s.2.1) := p2.symm
    refine gw_j (fun q => q = ff H (i + 1)) (fun q eq => ?_) (fun j hj => ?_)
    · refine gw_some (gs_inl ⟨em, ⟨by show 0 ≤ (Int32.ofNat i + (1 : Int32)).toInt; omega, by show (Int32.ofNat i + (1 : Int32)).toInt ≤ _; omega⟩, ?_⟩ (by show 100 - (Int32.ofNat i + (1 : Int32)).toInt < 100 - s.2.2.1.toInt; omega) (by show 0 ≤ 100 - (Int32.ofNat i + (1 : Int32)).toInt; omega))
      show (q.1, q.2) = ff H (Int32.ofNat i + (1 : Int32)).toInt.toNat
      rw [show (Int32.ofNat i + (1 : Int32)).toInt.toNat = i + 1 by omega]
      exact eq
    · have st : ff H (i + 1) = if H i ≤ (ff H i).2 then ff H i else (Int32.ofNat i, H i) := rfl
      rw [q2, ← hx] at st
      refine gw_ite (fun g2 => hj _ ?_) (fun g2 => hj _ ?_)
      · rw [st, if_pos g2]
      · rw [st, if_neg g2]
set_option maxHeartbeats 2000000 in
theorem w_first (h : MW w sw Q μ) : gwI (f_X12_first 65 μ) (fun x m => km A0 μ m ∧ x = (ff (fun k => cHold w Q (kR (μ.2.1 66) k) (μ.2.1 66 0)) (μ.2.1 66 26).toInt.toNat).1) := by
  have l0 : (0 : Int32).toInt = 0 := rfl
  have l1 : (1 : Int32).toInt = 1 := rfl
  have l26 : (26 : Int32).toInt = 26 := rfl
  have n1 := h.1.n26
  refine gwI_of ?_
  unfold f_X12_first
  generalize hH : (fun k => cHold w Q (kR (μ.2.1 66) k) (μ.2.1 66 0)) = H
  refine gw_loop (fun s => km A0 μ s.2.2.2 ∧ (0 ≤ s.2.2.1.toInt ∧ s.2.2.1.toInt ≤ (μ.2.1 66 26).toInt) ∧ (s.1, s.2.1) = ff H s.2.2.1.toInt.toNat) (fun s => 100 - s.2.2.1.toInt) (fun s ⟨k2, p1, p2⟩ => ?_) 5000 ((-5 : Int32), (-1 : Int32), (0 : Int32), μ) ⟨km.refl A0 μ, ⟨by show 0 ≤ (0 : Int32).toInt; omega, by show (0 : Int32).toInt ≤ _; omega⟩, rfl⟩ (by show 100 - (0 : Int32).toInt < ((5000 : Nat) : Int); omega) (by show 0 ≤ 100 - (0 : Int32).toInt; omega)
  obtain ⟨i, hi, ei⟩ : ∃ i : Nat, i ≤ 5 ∧ s.2.2.1 = Int32.ofNat i := ⟨s.2.2.1.toInt.toNat, by omega, (gx_of p1.1).symm⟩
  have oi := ofn (k := i) (by omega)
  have hS : s.2.2.1.toInt = i := by rw [ei]; exact oi
  rw [show s.2.2.1.toInt.toNat = i by omega] at p2
  have hw := h.k0 k2
  have hg := hw.1.1
  have r66 := k2.row
  refine gw_gRa 66 (hg.c (r := 65) rfl) (hg.r (by decide)) ?_
  refine gw_aIw 26 (hg.t (r := 66) rfl) (hg.l (r := 66) rfl) l26 (by omega) ?_
  rw [r66]
  refine gw_le (fun g => ?_) (fun g => ?_)
  · refine gw_some (gs_inr (gq_I ⟨k2, ?_⟩))
    rw [show (μ.2.1 66 26).toInt.toNat = i by omega, ← p2]
  · refine gw_if (hg.t (r := 65) rfl) ?_
    rw [ei]
    refine gw_bI (w_holds hw (c := i) (by omega)) (fun x m ⟨k6, ex⟩ => ?_)
    rw [r66] at ex
    have nx : (Int32.ofNat i + (1 : Int32)).toInt = (Int32.ofNat i).toInt + (1 : Int32).toInt := gx_add (by omega) (by omega)
    have hx : x = H i := by rw [ex, ← hH]
    have q2 : ff H i = (s.1, s.2.1) := p2.symm
    have st : ff H (i + 1) = if H i ≤ (ff H i).2 then ff H i else (Int32.ofNat i, H i) := rfl
    rw [q2, ← hx] at st
    refine gw_j (fun a => a = (ff H (i + 1)).1) (fun a ea => ?_) (fun j hj => ?_)
    · refine gw_j (fun b => b = (ff H (i + 1)).2) (fun b eb => ?_) (fun j hj => ?_)
      · refine gw_some (gs_inl ⟨k2.trans k6, ⟨by show 0 ≤ (Int32.ofNat i + (1 : Int32)).toInt; omega, by show (Int32.ofNat i + (1 : Int32)).toInt ≤ _; omega⟩, ?_⟩ (by show 100 - (Int32.ofNat i + (1 : Int32)).toInt < 100 - s.2.2.1.toInt; omega) (by show 0 ≤ 100 - (Int32.ofNat i + (1 : Int32)).toInt; omega))
        show (a, b) = ff H (Int32.ofNat i + (1 : Int32)).toInt.toNat
        rw [show (Int32.ofNat i + (1 : Int32)).toInt.toNat = i + 1 by omega, ea, eb]
      · refine gw_ite (fun g2 => hj _ ?_) (fun g2 => hj _ ?_)
        · rw [st, if_pos g2]
        · rw [st, if_neg g2]
    · refine gw_ite (fun g2 => hj _ ?_) (fun g2 => hj _ ?_)
      · rw [st, if_pos g2]
      · rw [st, if_neg g2]
end
section
variable {μ : gm_M}
theorem N_first (h : REL μ) : PR (f_X11_first 1 μ) (f_X12_first 65) := by
  obtain ⟨w, sw, Q, ⟨hcw, hmw, -, -⟩, -⟩ := h.ex
  have n1 := h.ci.n1
  refine PR.u h _ (v_first hcw) (gwI_mono (w_first hmw) (fun y m2 ⟨a, b⟩ => ⟨qm.of0 a, b.trans ?_⟩))
  rw [← h.mn, ← h.sz]
  exact congrArg Prod.fst (ff_eq _ (fun k hk => by show cHold w Q (kR (μ.2.1 66) k) _ = cHold w Q (kC μ (29 + 2 * k)) _; rw [(h.kk (show k < 5 by omega)).1]))
end
end
