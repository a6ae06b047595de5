section
/-! the child on trial; sums -/
theorem gwV_mono2 {z : Option (Option Value × gm_M)} {R S : gm_M → Prop} (h : gwV z R) (k : ∀ m, R m → S m) : gwV z S := by
  obtain ⟨m, e, a⟩ := h
  exact ⟨m, e, k m a⟩
theorem add0 (x : Int32) : x + Int32.ofNat 0 = x := by
  apply Int32.toInt_inj.mp
  have l : (Int32.ofNat 0).toInt = 0 := rfl
  rcases gx_addw x (Int32.ofNat 0) with h | h | h
  · omega
  · have := gx_hi (x + Int32.ofNat 0); have := gx_lo x; omega
  · have := gx_lo (x + Int32.ofNat 0); have := gx_hi x; omega
def sm (H : Nat → Int32) : Nat → Int32
  | 0 => 0
  | k + 1 => sm H k + H k
def ff (H : Nat → Int32) : Nat → Int32 × Int32
  | 0 => (-5, -1)
  | k + 1 => if H k ≤ (ff H k).2 then ff H k else (Int32.ofNat k, H k)
theorem sm_eq {H G : Nat → Int32} : ∀ n : Nat, (∀ k : Nat, k < n → H k = G k) → sm H n = sm G n
  | 0, _ => rfl
  | n + 1, h => by
    show sm H n + H n = sm G n + G n
    rw [sm_eq n (fun k hk => h k (by omega)), h n (by omega)]
theorem ff_eq {H G : Nat → Int32} : ∀ n : Nat, (∀ k : Nat, k < n → H k = G k) → ff H n = ff G n
  | 0, _ => rfl
  | n + 1, h => by
    show (if H n ≤ (ff H n).2 then ff H n else (Int32.ofNat n, H n)) = if G n ≤ (ff G n).2 then ff G n else (Int32.ofNat n, G n)
    rw [ff_eq n (fun k hk => h k (by omega)), h n (by omega)]
section
variable {w sw : Int32} {Q : List (List Int32 × Int32)} {μ : gm_M} {c : Nat}
theorem kc.K {m : gm_M} (g : kc μ m) {k : Nat} (hk : k < 5) : kC m (29 + 2 * k) = kC μ (29 + 2 * k) :=
  kC_o (by rw [g.ref (show (29 + 2 * k : Nat) ≠ 63 by omega)]) (g.row (by omega)) (fun j _ => by rw [g.row (by omega)])
theorem v_copy (h : CW w Q μ) (hc : c < 5) : gwV (f_X2_copy 63 (29 + 2 * c) μ) (fun m => kc μ m ∧ kC m 63 = kC μ (29 + 2 * c)) :=
  gwV_mono2 (gwV_and (s_X2_copy_63 h.1 (isch_c hc)) (s_ccopy h.1.1 (Or.inl (Or.inr rfl)) (Or.inl (ict_c hc)) (by omega))) (fun m ⟨a, b⟩ => ⟨a, kC_cp b⟩)
set_option maxHeartbeats 2000000 in
theorem v_trial (h : CW w Q μ) (hr : RK (kC μ 63)) (hm : 0 ≤ (μ.2.1 15 0).toInt ∧ (μ.2.1 15 0).toInt ≤ 9999) {n : Nat} (hn : n ≤ 100) : gwI (f_X11_trialBehind 1 (Int32.ofNat n) μ) (fun x m => kc μ m ∧ x = cHold w Q (cGoN n (kC μ 63) (μ.2.1 15 0)) (μ.2.1 15 0 + Int32.ofNat n) ∧ kC m 63 = cGoN n (kC μ 63) (μ.2.1 15 0)) := by
  have on := ofn (k := n) (by omega)
  have l0 : (0 : Int32).toInt = 0 := rfl
  have l1 : (1 : Int32).toInt = 1 := rfl
  refine gwI_of ?_
  unfold f_X11_trialBehind
  refine gw_loop (fun s => kc μ s.2 ∧ (0 ≤ s.1.toInt ∧ s.1.toInt ≤ (n : Int)) ∧ kC s.2 63 = cGoN s.1.toInt.toNat (kC μ 63) (μ.2.1 15 0)) (fun s => 100 - s.1.toInt) (fun s ⟨k2, p1, p2⟩ => ?_) 5000 ((0 : Int32), μ) ⟨kc.refl μ, ⟨by show 0 ≤ (0 : Int32).toInt; omega, by show (0 : Int32).toInt ≤ (n : Int); omega⟩, rfl⟩ (by show 100 - (0 : Int32).toInt < ((5000 : Nat) : Int); omega) (by show 0 ≤ 100 - (0 : Int32).toInt; omega)
  obtain ⟨i, hi, ei⟩ : ∃ i : Nat, i ≤ n ∧ s.1 = Int32.ofNat i := ⟨s.1.toInt.toNat, by omega, (gx_of p1.1).symm⟩
  have oi := ofn (k := i) (by omega)
  have hw := h.kc k2
  have hg := hw.1.1
  have e0 : s.2.2.1 15 0 = μ.2.1 15 0 := by rw [k2.row (show (15 : Nat) ≠ 1 ∧ 15 ≠ 5 ∧ 15 ≠ 6 ∧ 15 ≠ 7 ∧ 15 ≠ 63 ∧ 15 ≠ 64 by decide)]
  have hS : s.1.toInt = i := by rw [ei]; exact oi
  rw [show s.1.toInt.toNat = i by omega] at p2
  have mi := mi_add (mi := μ.2.1 15 0) (n := i) ⟨hm.1, by omega⟩ (by omega)
  refine gw_le (fun g => ?_) (fun g => ?_)
  · have en : i = n := by omega
    refine gw_gRa 63 (hg.c (r := 1) rfl) (hg.r (by decide)) ?_
    refine gw_gRa 15 (hg.c (r := 1) rfl) (hg.r (by decide)) ?_
    refine gw_gR (hg.c (r := 15) rfl) (fun q eq => ?_)
    subst eq
    refine gw_gRa 15 (hg.c (r := 1) rfl) (hg.r (by decide)) ?_
    refine gw_gIw (hg.c (r := 15) rfl) ?_
    refine gw_if (ict.t hg (Or.inr rfl)) ?_
    refine gw_bI (v_holds hw (Or.inr rfl) _) (fun x m ⟨ex, em⟩ => ?_)
    subst em
    refine gw_some (gs_inr (gq_I ⟨k2, ?_, by rw [p2, en]⟩))
    rw [ex, p2, e0, en]
  · refine gw_gRa 63 (hg.c (r := 1) rfl) (hg.r (by decide)) ?_
    refine gw_gRa 15 (hg.c (r := 1) rfl) (hg.r (by decide)) ?_
    refine gw_gIw (hg.c (r := 15) rfl) ?_
    refine gw_if (ict.t hg (Or.inr rfl)) ?_
    refine gw_bV (v_pass hw (Or.inr rfl) (by rw [e0, ei]; omega) (by rw [p2]; exact hr.goN ⟨hm.1, by omega⟩ i (by omega))) (fun m12 ⟨g12, k12, _⟩ => ?_)
    have nx : (s.1 + (1 : Int32)).toInt = s.1.toInt + (1 : Int32).toInt := gx_add (by omega) (by omega)
    refine gw_some (gs_inl ⟨k2.ch g12, ⟨by show 0 ≤ (s.1 + (1 : Int32)).toInt; omega, by show (s.1 + (1 : Int32)).toInt ≤ (n : Int); omega⟩, ?_⟩ (by show 100 - (s.1 + (1 : Int32)).toInt < 100 - s.1.toInt; omega) (by show 0 ≤ 100 - (s.1 + (1 : Int32)).toInt; omega))
    show kC m12 63 = cGoN (s.1 + (1 : Int32)).toInt.toNat _ _
    rw [show (s.1 + (1 : Int32)).toInt.toNat = i + 1 by omega, k12, p2, e0, ei]
    rfl
theorem v_behind (h : CW w Q μ) (hc : c < 5) (hr : RK (kC μ (29 + 2 * c))) (hm : 0 ≤ (μ.2.1 15 0).toInt ∧ (μ.2.1 15 0).toInt ≤ 9999) {n : Nat} (hn : n ≤ 100) : gwI (f_X11_holdsBehind 1 (Int32.ofNat c) (Int32.ofNat n) μ) (fun x m => kc μ m ∧ x = cHold w Q (cGoN n (kC μ (29 + 2 * c)) (μ.2.1 15 0)) (μ.2.1 15 0 + Int32.ofNat n) ∧ kC m 63 = cGoN n (kC μ (29 + 2 * c)) (μ.2.1 15 0)) := by
  have hg := h.1.1
  refine gwI_of ?_
  unfold f_X11_holdsBehind
  refine gw_gRa 63 (hg.c (r := 1) rfl) (hg.r (by decide)) ?_
  refine gw_kid hg hc ?_
  refine gw_if (ict.t hg (Or.inr rfl)) ?_
  refine gw_bV (v_copy h hc) (fun m5 ⟨k5, e5⟩ => ?_)
  have e0 : m5.2.1 15 0 = μ.2.1 15 0 := by rw [k5.row (show (15 : Nat) ≠ 1 ∧ 15 ≠ 5 ∧ 15 ≠ 6 ∧ 15 ≠ 7 ∧ 15 ≠ 63 ∧ 15 ≠ 64 by decide)]
  refine gw_if ((h.kc k5).1.1.t (r := 1) rfl) ?_
  refine gw_bI (v_trial (h.kc k5) (by rw [e5]; exact hr) (by rw [e0]; exact hm) hn) (fun x m ⟨k6, ex, ek⟩ => ?_)
  rw [e5, e0] at ex ek
  exact gw_some (gq_I ⟨k5.trans k6, ex, ek⟩)
set_option maxHeartbeats 2000000 in
theorem v_sum (h : CW w Q μ) (hr : ∀ k : Nat, k < 5 → RK (kC μ (29 + 2 * k))) (hm : 0 ≤ (μ.2.1 15 0).toInt ∧ (μ.2.1 15 0).toInt ≤ 9999) {n : Nat} (hn : n ≤ 100) : gwI (f_X11_sumBehind 1 (Int32.ofNat n) μ) (fun x m => kc μ m ∧ x = sm (fun k => cHold w Q (cGoN n (kC μ (29 + 2 * k)) (μ.2.1 15 0)) (μ.2.1 15 0 + Int32.ofNat n)) (μ.2.1 15 1).toInt.toNat) := by
  have l0 : (0 : Int32).toInt = 0 := rfl
  have l1 : (1 : Int32).toInt = 1 := rfl
  have n1 := h.1.n1
  refine gwI_of ?_
  unfold f_X11_sumBehind
  generalize hH : (fun k => cHold w Q (cGoN n (kC μ (29 + 2 * k)) (μ.2.1 15 0)) (μ.2.1 15 0 + Int32.ofNat n)) = H
  refine gw_loop (fun s => kc μ s.2.2 ∧ (0 ≤ s.2.1.toInt ∧ s.2.1.toInt ≤ (μ.2.1 15 1).toInt) ∧ s.1 = sm H s.2.1.toInt.toNat) (fun s => 100 - s.2.1.toInt) (fun s ⟨k2, p1, p2⟩ => ?_) 5000 ((0 : Int32), (0 : Int32), μ) ⟨kc.refl μ, ⟨by show 0 ≤ (0 : Int32).toInt; omega, by show (0 : Int32).toInt ≤ _; omega⟩, rfl⟩ (by show 100 - (0 : Int32).toInt < ((5000 : Nat) : Int); omega) (by show 0 ≤ 100 - (0 : Int32).toInt; omega)
  obtain ⟨i, hi, ei⟩ : ∃ i : Nat, i ≤ 5 ∧ s.2.1 = Int32.ofNat i := ⟨s.2.1.toInt.toNat, by omega, (gx_of p1.1).symm⟩
  have oi := ofn (k := i) (by omega)
  have hS : s.2.1.toInt = i := by rw [ei]; exact oi
  rw [show s.2.1.toInt.toNat = i by omega] at p2
  have hw := h.kc k2
  have hg := hw.1.1
  have r15 := k2.row (show (15 : Nat) ≠ 1 ∧ 15 ≠ 5 ∧ 15 ≠ 6 ∧ 15 ≠ 7 ∧ 15 ≠ 63 ∧ 15 ≠ 64 by decide)
  refine gw_gRa 15 (hg.c (r := 1) rfl) (hg.r (by decide)) ?_
  refine gw_gIw (hg.c (r := 15) rfl) ?_
  rw [r15]
  refine gw_le (fun g => ?_) (fun g => ?_)
  · refine gw_some (gs_inr (gq_I ⟨k2, ?_⟩))
    rw [p2, show (μ.2.1 15 1).toInt.toNat = i by omega]
  · refine gw_if (hg.t (r := 1) rfl) ?_
    rw [ei]
    refine gw_bI (v_behind hw (c := i) (by omega) (by rw [k2.K (by omega)]; exact hr i (by omega)) (by rw [r15]; exact hm) hn) (fun x m ⟨k6, ex, _⟩ => ?_)
    rw [k2.K (by omega), r15] at ex
    rw [← ei]
    have nx : (s.2.1 + (1 : Int32)).toInt = s.2.1.toInt + (1 : Int32).toInt := gx_add (by omega) (by omega)
    refine gw_some (gs_inl ⟨k2.trans k6, ⟨by show 0 ≤ (s.2.1 + (1 : Int32)).toInt; omega, by show (s.2.1 + (1 : Int32)).toInt ≤ _; omega⟩, ?_⟩ (by show 100 - (s.2.1 + (1 : Int32)).toInt < 100 - s.2.1.toInt; omega) (by show 0 ≤ 100 - (s.2.1 + (1 : Int32)).toInt; omega))
    show s.1 + x = sm H (s.2.1 + (1 : Int32)).toInt.toNat
    rw [show (s.2.1 + (1 : Int32)).toInt.toNat = i + 1 by omega, p2, ex, ← hH]
    rfl
set_option maxHeartbeats 2000000 in
theorem w_allHold (h : MW w sw Q μ) : gwI (f_X12_allHold 65 μ) (fun x m => km A0 μ m ∧ x = sm (fun k => cHold w Q (kR (μ.2.1 66) k) (μ.2.1 66 0)) (μ.2.1 66 26).toInt.toNat) := by
  have l0 : (0 : Int32).toInt = 0 := rfl
  have l1 : (1 : Int32).toInt = 1 := rfl
  have l26 : (26 : Int32).toInt = 26 := rfl
  have n1 := h.1.n26
  refine gwI_of ?_
  unfold f_X12_allHold
  generalize hH : (fun k => cHold w Q (kR (μ.2.1 66) k) (μ.2.1 66 0)) = H
  refine gw_loop (fun s => km A0 μ s.2.2 ∧ (0 ≤ s.2.1.toInt ∧ s.2.1.toInt ≤ (μ.2.1 66 26).toInt) ∧ s.1 = sm H s.2.1.toInt.toNat) (fun s => 100 - s.2.1.toInt) (fun s ⟨k2, p1, p2⟩ => ?_) 5000 ((0 : Int32), (0 : Int32), μ) ⟨km.refl A0 μ, ⟨by show 0 ≤ (0 : Int32).toInt; omega, by show (0 : Int32).toInt ≤ _; omega⟩, rfl⟩ (by show 100 - (0 : Int32).toInt < ((5000 : Nat) : Int); omega) (by show 0 ≤ 100 - (0 : Int32).toInt; omega)
  obtain ⟨i, hi, ei⟩ : ∃ i : Nat, i ≤ 5 ∧ s.2.1 = Int32.ofNat i := ⟨s.2.1.toInt.toNat, by omega, (gx_of p1.1).symm⟩
  have oi := ofn (k := i) (by omega)
  have hS : s.2.1.toInt = i := by rw [ei]; exact oi
  rw [show s.2.1.toInt.toNat = i by omega] at p2
  have hw := h.k0 k2
  have hg := hw.1.1
  have r66 := k2.row
  refine gw_gRa 66 (hg.c (r := 65) rfl) (hg.r (by decide)) ?_
  refine gw_aIw 26 (hg.t (r := 66) rfl) (hg.l (r := 66) rfl) l26 (by omega) ?_
  rw [r66]
  refine gw_le (fun g => ?_) (fun g => ?_)
  · refine gw_some (gs_inr (gq_I ⟨k2, ?_⟩))
    rw [p2, show (μ.2.1 66 26).toInt.toNat = i by omega]
  · refine gw_if (hg.t (r := 65) rfl) ?_
    rw [ei]
    refine gw_bI (w_holds hw (c := i) (by omega)) (fun x m ⟨k6, ex⟩ => ?_)
    rw [r66] at ex
    rw [← ei]
    have nx : (s.2.1 + (1 : Int32)).toInt = s.2.1.toInt + (1 : Int32).toInt := gx_add (by omega) (by omega)
    refine gw_some (gs_inl ⟨k2.trans k6, ⟨by show 0 ≤ (s.2.1 + (1 : Int32)).toInt; omega, by show (s.2.1 + (1 : Int32)).toInt ≤ _; omega⟩, ?_⟩ (by show 100 - (s.2.1 + (1 : Int32)).toInt < 100 - s.2.1.toInt; omega) (by show 0 ≤ 100 - (s.2.1 + (1 : Int32)).toInt; omega))
    show s.1 + x = sm H (s.2.1 + (1 : Int32)).toInt.toNat
    rw [show (s.2.1 + (1 : Int32)).toInt.toNat = i + 1 by omega, p2, ex, ← hH]
    rfl
/-! first -/
set_option maxHeartbeats 2000000 in
theorem v_first (h : CW w Q μ) : gwI (f_X11_first 1 μ) (fun x m => m = μ ∧ x = (ff (fun k => cHold w Q (kC μ (29 + 2 * k)) (μ.2.1 15 0)) (μ.2.1 15 1).toInt.toNat).1) := by
  have l0 : (0 : Int32).toInt = 0 := rfl
  have l1 : (1 : Int32).toInt = 1 := rfl
  have n1 := h.1.n1
  have hg := h.1.1
  refine gwI_of ?_
  unfold f_X11_first
  generalize hH : (fun k => cHold w Q (kC μ (29 + 2 * k)) (μ.2.1 15 0)) = H
  refine gw_loop (fun s => s.2.2.2 = μ ∧ (0 ≤ s.2.2.1.toInt ∧ s.2.2.1.toInt ≤ (μ.2.1 15 1).toInt) ∧ (s.1, s.2.1) = ff H s.2.2.1.toInt.toNat) (fun s => 100 - s.2.2.1.toInt) (fun s ⟨k2, p1, p2⟩ => ?_) 5000 ((-5 : Int32), (-1 : Int32), (0 : Int32), μ) ⟨rfl, ⟨by show 0 ≤ (0 : Int32).toInt; omega, by show (0 : Int32).toInt ≤ _; omega⟩, rfl⟩ (by show 100 - (0 : Int32).toInt < ((5000 : Nat) : Int); omega) (by show 0 ≤ 100 - (0 : Int32).toInt; omega)
  obtain ⟨i, hi, ei⟩ : ∃ i : Nat, i ≤ 5 ∧ s.2.2.1 = Int32.ofNat i := ⟨s.2.2.1.toInt.toNat, by omega, (gx_of p1.1).symm⟩
  have oi := ofn (k := i) (by omega)
  have hS : s.2.2.1.toInt = i := by rw [ei]; exact oi
  rw [show s.2.2.1.toInt.toNat = i by omega] at p2
  rw [k2]
  refine gw_gRa 15 (hg.c (r := 1) rfl) (hg.r (by decide)) ?_
  refine gw_gIw (hg.c (r := 15) rfl) ?_
  refine gw_le (fun g => ?_) (fun g => ?_)
  · refine gw_some (gs_inr (gq_I ⟨rfl, ?_⟩))
    rw [show (μ.2.1 15 1).toInt.toNat = i by omega, ← p2]
  · refine gw_if (hg.t (r := 1) rfl) ?_
    rw [ei]
    refine gw_bI (v_holdsNow h (c := i) (by omega)) (fun x m ⟨ex, em⟩ => ?_)
    have nx : (Int32.ofNat i + (1 : Int32)).toInt = (Int32.ofNat i).toInt + (1 : Int32).toInt := gx_add (by omega) (by omega)
    have hx : x = H i := by rw [ex, ← hH]
    have q2 : ff H i = (s.1, s.2.1) := p2.symm
    refine gw_j (fun q => q = ff H (i + 1)) (fun q eq => ?_) (fun j hj => ?_)
    · refine gw_some (gs_inl ⟨em, ⟨by show 0 ≤ (Int32.ofNat i + (1 : Int32)).toInt; omega, by show (Int32.ofNat i + (1 : Int32)).toInt ≤ _; omega⟩, ?_⟩ (by show 100 - (Int32.ofNat i + (1 : Int32)).toInt < 100 - s.2.2.1.toInt; omega) (by show 0 ≤ 100 - (Int32.ofNat i + (1 : Int32)).toInt; omega))
      show (q.1, q.2) = ff H (Int32.ofNat i + (1 : Int32)).toInt.toNat
      rw [show (Int32.ofNat i + (1 : Int32)).toInt.toNat = i + 1 by omega]
      exact eq
    · have st : ff H (i + 1) = if H i ≤ (ff H i).2 then ff H i else (Int32.ofNat i, H i) := rfl
      rw [q2, ← hx] at st
      refine gw_ite (fun g2 => hj _ ?_) (fun g2 => hj _ ?_)
      · rw [st, if_pos g2]
      · rw [st, if_neg g2]
set_option maxHeartbeats 2000000 in
theorem w_first (h : MW w sw Q μ) : gwI (f_X12_first 65 μ) (fun x m => km A0 μ m ∧ x = (ff (fun k => cHold w Q (kR (μ.2.1 66) k) (μ.2.1 66 0)) (μ.2.1 66 26).toInt.toNat).1) := by
  have l0 : (0 : Int32).toInt = 0 := rfl
  have l1 : (1 : Int32).toInt = 1 := rfl
  have l26 : (26 : Int32).toInt = 26 := rfl
  have n1 := h.1.n26
  refine gwI_of ?_
  unfold f_X12_first
  generalize hH : (fun k => cHold w Q (kR (μ.2.1 66) k) (μ.2.1 66 0)) = H
  refine gw_loop (fun s => km A0 μ s.2.2.2 ∧ (0 ≤ s.2.2.1.toInt ∧ s.2.2.1.toInt ≤ (μ.2.1 66 26).toInt) ∧ (s.1, s.2.1) = ff H s.2.2.1.toInt.toNat) (fun s => 100 - s.2.2.1.toInt) (fun s ⟨k2, p1, p2⟩ => ?_) 5000 ((-5 : Int32), (-1 : Int32), (0 : Int32), μ) ⟨km.refl A0 μ, ⟨by show 0 ≤ (0 : Int32).toInt; omega, by show (0 : Int32).toInt ≤ _; omega⟩, rfl⟩ (by show 100 - (0 : Int32).toInt < ((5000 : Nat) : Int); omega) (by show 0 ≤ 100 - (0 : Int32).toInt; omega)
  obtain ⟨i, hi, ei⟩ : ∃ i : Nat, i ≤ 5 ∧ s.2.2.1 = Int32.ofNat i := ⟨s.2.2.1.toInt.toNat, by omega, (gx_of p1.1).symm⟩
  have oi := ofn (k := i) (by omega)
  have hS : s.2.2.1.toInt = i := by rw [ei]; exact oi
  rw [show s.2.2.1.toInt.toNat = i by omega] at p2
  have hw := h.k0 k2
  have hg := hw.1.1
  have r66 := k2.row
  refine gw_gRa 66 (hg.c (r := 65) rfl) (hg.r (by decide)) ?_
  refine gw_aIw 26 (hg.t (r := 66) rfl) (hg.l (r := 66) rfl) l26 (by omega) ?_
  rw [r66]
  refine gw_le (fun g => ?_) (fun g => ?_)
  · refine gw_some (gs_inr (gq_I ⟨k2, ?_⟩))
    rw [show (μ.2.1 66 26).toInt.toNat = i by omega, ← p2]
  · refine gw_if (hg.t (r := 65) rfl) ?_
    rw [ei]
    refine gw_bI (w_holds hw (c := i) (by omega)) (fun x m ⟨k6, ex⟩ => ?_)
    rw [r66] at ex
    have nx : (Int32.ofNat i + (1 : Int32)).toInt = (Int32.ofNat i).toInt + (1 : Int32).toInt := gx_add (by omega) (by omega)
    have hx : x = H i := by rw [ex, ← hH]
    have q2 : ff H i = (s.1, s.2.1) := p2.symm
    have st : ff H (i + 1) = if H i ≤ (ff H i).2 then ff H i else (Int32.ofNat i, H i) := rfl
    rw [q2, ← hx] at st
    refine gw_j (fun a => a = (ff H (i + 1)).1) (fun a ea => ?_) (fun j hj => ?_)
    · refine gw_j (fun b => b = (ff H (i + 1)).2) (fun b eb => ?_) (fun j hj => ?_)
      · refine gw_some (gs_inl ⟨k2.trans k6, ⟨by show 0 ≤ (Int32.ofNat i + (1 : Int32)).toInt; omega, by show (Int32.ofNat i + (1 : Int32)).toInt ≤ _; omega⟩, ?_⟩ (by show 100 - (Int32.ofNat i + (1 : Int32)).toInt < 100 - s.2.2.1.toInt; omega) (by show 0 ≤ 100 - (Int32.ofNat i + (1 : Int32)).toInt; omega))
        show (a, b) = ff H (Int32.ofNat i + (1 : Int32)).toInt.toNat
        rw [show (Int32.ofNat i + (1 : Int32)).toInt.toNat = i + 1 by omega, ea, eb]
      · refine gw_ite (fun g2 => hj _ ?_) (fun g2 => hj _ ?_)
        · rw [st, if_pos g2]
        · rw [st, if_neg g2]
    · refine gw_ite (fun g2 => hj _ ?_) (fun g2 => hj _ ?_)
      · rw [st, if_pos g2]
      · rw [st, if_neg g2]
end
section
variable {μ : gm_M}
theorem N_first (h : REL μ) : PR (f_X11_first 1 μ) (f_X12_first 65) := by
  obtain ⟨w, sw, Q, ⟨hcw, hmw, -, -⟩, -⟩ := h.ex
  have n1 := h.ci.n1
  refine PR.u h _ (v_first hcw) (gwI_mono (w_first hmw) (fun y m2 ⟨a, b⟩ => ⟨qm.of0 a, b.trans ?_⟩))
  rw [← h.mn, ← h.sz]
  exact congrArg Prod.fst (ff_eq _ (fun k hk => by show cHold w Q (kR (μ.2.1 66) k) _ = cHold w Q (kC μ (29 + 2 * k)) _; rw [(h.kk (show k < 5 by omega)).1]))
end
end
section
/-! told, looked, on -/
def bt (f : Nat → Int32) : Nat → Int32
  | 0 => 0
  | k + 1 => bt f k ||| (if f k ≤ 0 then 0 else (1 : Int32) <<< (Int32.ofNat k &&& 31))
theorem bt_eq {H G : Nat → Int32} : ∀ n : Nat, (∀ k : Nat, k < n → H k = G k) → bt H n = bt G n
  | 0, _ => rfl
  | n + 1, h => by
    show (bt H n ||| (if H n ≤ 0 then 0 else (1 : Int32) <<< (Int32.ofNat n &&& 31))) = (bt G n ||| (if G n ≤ 0 then 0 else (1 : Int32) <<< (Int32.ofNat n &&& 31)))
    rw [bt_eq n (fun k hk => h k (by omega)), h n (by omega)]
theorem or0 (x : Int32) : x ||| 0 = x := by
  first
  | exact Int32.or_zero
  | simp
/-- the first that isn't so, of n -/
def gl (f : Nat → Bool) (n : Nat) : Nat → Int32
  | 0 => -5
  | k + 1 => if f (n - (k + 1)) = true then gl f n k else Int32.ofNat (n - (k + 1))
theorem gl_s {f : Nat → Bool} {n i : Nat} (h : i < n) : gl f n (n - i) = if f i = true then gl f n (n - (i + 1)) else Int32.ofNat i := by
  obtain ⟨k, rfl⟩ : ∃ k : Nat, n = i + (k + 1) := ⟨n - i - 1, by omega⟩
  rw [show i + (k + 1) - i = k + 1 by omega, show i + (k + 1) - (i + 1) = k by omega]
  show (if f (i + (k + 1) - (k + 1)) = true then _ else Int32.ofNat (i + (k + 1) - (k + 1))) = _
  rw [show i + (k + 1) - (k + 1) = i by omega]
section
variable {μ : gm_M}
theorem v_cell {r n : Nat} (ht : gm_tag μ r = 12) (t1 : gm_tag μ (r + 1) = 1) (l1 : gm_len μ (r + 1) = n) (hr : μ.2.2 r 1 = r + 1) {i j : Int32} (hi : 0 ≤ i.toInt ∧ i.toInt < (μ.2.1 r 2).toInt ∧ i.toInt < (μ.2.1 r 0).toInt) (hj : 0 ≤ j.toInt ∧ j.toInt < 3) (hn : 3 * i.toInt + 2 < n) (h9 : n ≤ 1000) : gwI (f_X7_cell r i j μ) (fun x m => m = μ ∧ x = μ.2.1 (r + 1) (3 * i.toInt.toNat + j.toInt.toNat)) := by
  have c12 : [12].contains (gm_tag μ r) = true := by rw [ht]; rfl
  have l0 : (0 : Int32).toInt = 0 := rfl
  have l3 : (3 : Int32).toInt = 3 := rfl
  refine gwI_of ?_
  unfold f_X7_cell
  refine gw_if ht ?_
  refine gw_bI (R := fun x m => x = 1 ∧ m = μ) (gwI_of ?_) (fun x m ⟨ex, em⟩ => ?_)
  · unfold f_X7_isKept
    refine gw_lt (fun g => by exfalso; omega) (fun g => ?_)
    refine gw_gIw c12 ?_
    refine gw_le (fun g => by exfalso; omega) (fun g => ?_)
    refine gw_gIw c12 ?_
    refine gw_le (fun g => by exfalso; omega) (fun g => ?_)
    refine gw_if (Or.inr rfl) ?_
    exact gw_some (gq_I ⟨rfl, rfl⟩)
  · subst ex
    subst em
    rw [if_neg (by decide)]
    refine gw_lt (fun g => by exfalso; omega) (fun g => ?_)
    refine gw_lt (fun g => ?_) (fun g => by exfalso; omega)
    refine gw_gRa (r + 1) c12 hr ?_
    have n1 : (i * (3 : Int32)).toInt = 3 * i.toInt := gx_mulr 3 rfl (by omega) (by omega)
    have n2 : (i * (3 : Int32) + j).toInt = (i * (3 : Int32)).toInt + j.toInt := gx_add (by omega) (by omega)
    refine gw_aIw (3 * i.toInt.toNat + j.toInt.toNat) t1 l1 (by omega) (by omega) ?_
    exact gw_some (gq_I ⟨rfl, rfl⟩)
set_option maxHeartbeats 2000000 in
theorem v_bits (h : CI μ) : gwI (f_X11_bubbleBits 1 μ) (fun x m => m = μ ∧ x = bt (fun k => kC μ (29 + 2 * k) 6) (μ.2.1 15 1).toInt.toNat) := by
  have l0 : (0 : Int32).toInt = 0 := rfl
  have l1 : (1 : Int32).toInt = 1 := rfl
  have n1 := h.n1
  have hg := h.1
  refine gwI_of ?_
  unfold f_X11_bubbleBits
  generalize hH : (fun k => kC μ (29 + 2 * k) 6) = H
  refine gw_loop (fun s => (0 ≤ s.2.toInt ∧ s.2.toInt ≤ (μ.2.1 15 1).toInt) ∧ s.1 = bt H s.2.toInt.toNat) (fun s => 100 - s.2.toInt) (fun s ⟨p1, p2⟩ => ?_) 5000 ((0 : Int32), (0 : Int32)) ⟨⟨by show 0 ≤ (0 : Int32).toInt; omega, by show (0 : Int32).toInt ≤ _; omega⟩, rfl⟩ (by show 100 - (0 : Int32).toInt < ((5000 : Nat) : Int); omega) (by show 0 ≤ 100 - (0 : Int32).toInt; omega)
  obtain ⟨i, hi, ei⟩ : ∃ i : Nat, i ≤ 5 ∧ s.2 = Int32.ofNat i := ⟨s.2.toInt.toNat, by omega, (gx_of p1.1).symm⟩
  have oi := ofn (k := i) (by omega)
  have hS : s.2.toInt = i := by rw [ei]; exact oi
  rw [show s.2.toInt.toNat = i by omega] at p2
  refine gw_gRa 15 (hg.c (r := 1) rfl) (hg.r (by decide)) ?_
  refine gw_gIw (hg.c (r := 15) rfl) ?_
  refine gw_le (fun g => ?_) (fun g => ?_)
  · refine gw_some (gs_inr (gq_I ⟨rfl, ?_⟩))
    rw [p2, show (μ.2.1 15 1).toInt.toNat = i by omega]
  · rw [ei]
    have hc : i < 5 := by omega
    refine gw_kid hg hc ?_
    refine gw_gIw (ict.c hg (ict_c hc)) ?_
    have nx : (Int32.ofNat i + (1 : Int32)).toInt = (Int32.ofNat i).toInt + (1 : Int32).toInt := gx_add (by omega) (by omega)
    have hx : μ.2.1 (29 + 2 * i) 6 = H i := by rw [← hH]; rfl
    have st : bt H (i + 1) = (bt H i ||| (if H i ≤ 0 then 0 else (1 : Int32) <<< (Int32.ofNat i &&& 31))) := rfl
    rw [← p2, ← hx] at st
    refine gw_j (fun q => q = bt H (i + 1)) (fun q eq => ?_) (fun j hj => ?_)
    · refine gw_some (gs_inl ⟨⟨by show 0 ≤ (Int32.ofNat i + (1 : Int32)).toInt; omega, by show (Int32.ofNat i + (1 : Int32)).toInt ≤ _; omega⟩, ?_⟩ (by show 100 - (Int32.ofNat i + (1 : Int32)).toInt < 100 - s.2.toInt; omega) (by show 0 ≤ 100 - (Int32.ofNat i + (1 : Int32)).toInt; omega))
      show q = bt H (Int32.ofNat i + (1 : Int32)).toInt.toNat
      rw [show (Int32.ofNat i + (1 : Int32)).toInt.toNat = i + 1 by omega]
      exact eq
    · refine gw_ite (fun g2 => hj _ ?_) (fun g2 => hj _ ?_)
      · rw [st, if_pos g2, or0]
      · rw [st, if_neg g2]
set_option maxHeartbeats 2000000 in
theorem w_bits (h : MI μ) : gwI (f_X12_bubbles 65 μ) (fun x m => m = μ ∧ x = bt (fun k => kR (μ.2.1 66) k 6) (μ.2.1 66 26).toInt.toNat) := by
  have l0 : (0 : Int32).toInt = 0 := rfl
  have l1 : (1 : Int32).toInt = 1 := rfl
  have l26 : (26 : Int32).toInt = 26 := rfl
  have n1 := h.n26
  have hg := h.1
  refine gwI_of ?_
  unfold f_X12_bubbles
  generalize hH : (fun k => kR (μ.2.1 66) k 6) = H
  refine gw_loop (fun s => (0 ≤ s.2.toInt ∧ s.2.toInt ≤ (μ.2.1 66 26).toInt) ∧ s.1 = bt H s.2.toInt.toNat) (fun s => 100 - s.2.toInt) (fun s ⟨p1, p2⟩ => ?_) 5000 ((0 : Int32), (0 : Int32)) ⟨⟨by show 0 ≤ (0 : Int32).toInt; omega, by show (0 : Int32).toInt ≤ _; omega⟩, rfl⟩ (by show 100 - (0 : Int32).toInt < ((5000 : Nat) : Int); omega) (by show 0 ≤ 100 - (0 : Int32).toInt; omega)
  obtain ⟨i, hi, ei⟩ : ∃ i : Nat, i ≤ 5 ∧ s.2 = Int32.ofNat i := ⟨s.2.toInt.toNat, by omega, (gx_of p1.1).symm⟩
  have oi := ofn (k := i) (by omega)
  have hS : s.2.toInt = i := by rw [ei]; exact oi
  rw [show s.2.toInt.toNat = i by omega] at p2
  refine gw_gRa 66 (hg.c (r := 65) rfl) (hg.r (by decide)) ?_
  refine gw_aIw 26 (hg.t (r := 66) rfl) (hg.l (r := 66) rfl) l26 (by omega) ?_
  refine gw_le (fun g => ?_) (fun g => ?_)
  · refine gw_some (gs_inr (gq_I ⟨rfl, ?_⟩))
    rw [p2, show (μ.2.1 66 26).toInt.toNat = i by omega]
  · rw [ei]
    have hc : i < 5 := by omega
    refine gw_rd h hc 16 rfl (by decide) ?_
    have nx : (Int32.ofNat i + (1 : Int32)).toInt = (Int32.ofNat i).toInt + (1 : Int32).toInt := gx_add (by omega) (by omega)
    have hx : μ.2.1 66 (16 + i) = H i := by rw [← hH]; rfl
    have st : bt H (i + 1) = (bt H i ||| (if H i ≤ 0 then 0 else (1 : Int32) <<< (Int32.ofNat i &&& 31))) := rfl
    rw [← p2, ← hx] at st
    refine gw_j (fun q => s.1 ||| q = bt H (i + 1)) (fun q eq => ?_) (fun j hj => ?_)
    · refine gw_some (gs_inl ⟨⟨by show 0 ≤ (Int32.ofNat i + (1 : Int32)).toInt; omega, by show (Int32.ofNat i + (1 : Int32)).toInt ≤ _; omega⟩, ?_⟩ (by show 100 - (Int32.ofNat i + (1 : Int32)).toInt < 100 - s.2.toInt; omega) (by show 0 ≤ 100 - (Int32.ofNat i + (1 : Int32)).toInt; omega))
      show s.1 ||| q = bt H (Int32.ofNat i + (1 : Int32)).toInt.toNat
      rw [show (Int32.ofNat i + (1 : Int32)).toInt.toNat = i + 1 by omega]
      exact eq
    · refine gw_ite (fun g2 => hj _ ?_) (fun g2 => hj _ ?_)
      · rw [st, if_pos g2]
      · rw [st, if_neg g2]
set_option maxHeartbeats 4000000 in
theorem N_told (h : REL μ) {a : Int32} : PR (f_X11_told 1 a μ) (f_X12_told 65 a) := by
  have hg := h.ci.1
  obtain ⟨w, sw, Q, ⟨hcw, hmw, ew, esw⟩, -⟩ := h.ex
  have n1 := h.ci.n1
  have v2 := h.vs.2.1
  have mn := h.mn
  have l0 : (0 : Int32).toInt = 0 := rfl
  refine gwI_of ?_
  unfold f_X11_told
  refine gw_ite (fun e => ?_) (fun e0 => ?_)
  · subst e
    refine gw_gRa 15 (hg.c (r := 1) rfl) (hg.r (by decide)) ?_
    refine gw_gIw (hg.c (r := 15) rfl) ?_
    refine leaf h (gwI_of ?_)
    unfold f_X12_told
    rw [if_pos rfl]
    refine gw_gRa 66 (hg.c (r := 65) rfl) (hg.r (by decide)) ?_
    refine gw_aIw 0 (hg.t (r := 66) rfl) (hg.l (r := 66) rfl) l0 (by omega) ?_
    exact gw_some (gq_I ⟨qm.refl μ, mn.symm⟩)
  refine gw_ite (fun e => ?_) (fun e1 => ?_)
  · subst e
    refine gw_gRa 15 (hg.c (r := 1) rfl) (hg.r (by decide)) ?_
    refine gw_gR (hg.c (r := 15) rfl) (fun q eq => ?_)
    subst eq
    refine gw_gIw hcw.aw.tc ?_
    rw [ew]
    refine leaf h (gwI_of ?_)
    unfold f_X12_told
    rw [if_neg (by decide), if_pos rfl]
    refine gw_if h.1.t65 ?_
    refine gw_bI (w_wind hmw) (fun x m ⟨em, ex⟩ => ?_)
    subst em
    exact gw_some (gq_I ⟨qm.refl _, ex⟩)
  refine gw_ite (fun e => ?_) (fun e2 => ?_)
  · subst e
    refine gw_gRa 15 (hg.c (r := 1) rfl) (hg.r (by decide)) ?_
    refine gw_gR (hg.c (r := 15) rfl) (fun q eq => ?_)
    subst eq
    refine gw_gIw hcw.aw.tc ?_
    rw [esw]
    refine leaf h (gwI_of ?_)
    unfold f_X12_told
    rw [if_neg (by decide), if_neg (by decide), if_pos rfl]
    refine gw_if h.1.t65 ?_
    refine gw_bI (w_sweet hmw) (fun x m ⟨em, ex⟩ => ?_)
    subst em
    exact gw_some (gq_I ⟨qm.refl _, ex⟩)
  refine gw_ite (fun e => ?_) (fun e3 => ?_)
  · subst e
    refine gw_if (hg.t (r := 1) rfl) ?_
    refine gw_bI (v_sum hcw (fun k hk => h.row hk) (by rw [mn]; exact v2) (n := 0) (by omega)) (fun x m ⟨k, ex⟩ => ?_)
    have r66 := k.row (show (66 : Nat) ≠ 1 ∧ 66 ≠ 5 ∧ 66 ≠ 6 ∧ 66 ≠ 7 ∧ 66 ≠ 63 ∧ 66 ≠ 64 by decide)
    have hm := h.kc k
    refine leaf hm (gwI_of ?_)
    unfold f_X12_told
    rw [if_neg (by decide), if_neg (by decide), if_neg (by decide), if_pos rfl]
    refine gw_if hm.1.t65 ?_
    refine gw_bI (w_allHold (show MW w sw Q m from ⟨hm.mi, by rw [r66]; exact hmw.2⟩)) (fun y m2 ⟨k2, ey⟩ => ?_)
    refine gw_some (gq_I ⟨qm.of0 k2, ?_⟩)
    rw [r66, ← h.sz, ← mn] at ey
    rw [ey, ex]
    refine sm_eq _ (fun j hj => ?_)
    show cHold w Q (kR (μ.2.1 66) j) _ = cHold w Q (cGoN 0 (kC μ (29 + 2 * j)) _) (_ + Int32.ofNat 0)
    rw [add0, ← (h.kk (show j < 5 by omega)).1]
    rfl
  refine gw_ite (fun e => ?_) (fun e4 => ?_)
  · subst e
    refine gw_if (hg.t (r := 1) rfl) ?_
    refine gw_bI (v_bits h.ci) (fun x m ⟨em, ex⟩ => ?_)
    subst em
    refine leaf h (gwI_of ?_)
    unfold f_X12_told
    rw [if_neg (by decide), if_neg (by decide), if_neg (by decide), if_neg (by decide), if_pos rfl]
    refine gw_if h.1.t65 ?_
    refine gw_bI (w_bits h.mi) (fun y m2 ⟨em, ey⟩ => ?_)
    subst em
    refine gw_some (gq_I ⟨qm.refl _, ?_⟩)
    rw [ey, ex, ← h.sz]
    refine bt_eq _ (fun j hj => ?_)
    show kR (m2.2.1 66) j 6 = kC m2 (29 + 2 * j) 6
    rw [(h.kk (show j < 5 by omega)).1]
  · refine leaf h (gwI_of ?_)
    unfold f_X12_told
    rw [if_neg e0, if_neg e1, if_neg e2, if_neg e3, if_neg e4]
    exact gw_some (gq_I ⟨qm.refl μ, rfl⟩)
set_option maxHeartbeats 4000000 in
theorem N_looked (h : REL μ) : PR (f_X11_looked 1 μ) (f_X12_looked 65) := by
  have hc := h.ci
  have hg := hc.1
  have l0 : (0 : Int32).toInt = 0 := rfl
  have l1 : (1 : Int32).toInt = 1 := rfl
  have l30 : (30 : Int32).toInt = 30 := rfl
  have l94 : (94 : Int32).toInt = 94 := rfl
  have l102 : (102 : Int32).toInt = 102 := rfl
  have l16 : (16 : Int32).toInt = 16 := rfl
  have n27 := hc.n27
  have e27 := hc.l27
  have E30 : μ.2.1 27 2 = μ.2.1 66 30 := h.1.2.2.2.1.1.2.2.2.2
  obtain ⟨n, hn⟩ : ∃ n : Nat, (μ.2.1 27 2).toInt = n := ⟨(μ.2.1 27 2).toInt.toNat, by omega⟩
  have hn2 : (μ.2.1 66 30).toInt = n := by rw [← E30]; exact hn
  have book : ∀ i : Nat, i < n → (μ.2.1 28 (3 * i) = μ.2.1 66 (94 + i) ∧ μ.2.1 28 (3 * i + 1) = μ.2.1 66 (102 + i)) ∧ isC μ (μ.2.1 66 (94 + i)) := fun i hi => by
    obtain ⟨b1, b2, b3⟩ := h.vs.2.2.2.1.2 i (by omega) (by omega)
    have b4 := h.mi.2.2.2.2.2.2.2.2.2.2.1 i (by omega)
    exact ⟨⟨b1, b2⟩, b4.1, by rw [h.sz]; exact b3, by omega⟩
  obtain ⟨f, hf⟩ : ∃ f : Nat → Bool, f = fun i => decide (μ.2.1 66 (16 + (μ.2.1 66 (94 + i)).toInt.toNat) = μ.2.1 66 (102 + i)) := ⟨_, rfl⟩
  refine PR.u h (gl f n n) (gwI_of ?_) (gwI_of ?_)
  · unfold f_X11_looked
    refine gw_loop (fun s => s.2 = μ ∧ (0 ≤ s.1.toInt ∧ s.1.toInt ≤ (n : Int)) ∧ gl f n n = gl f n (n - s.1.toInt.toNat)) (fun s => 100 - s.1.toInt) (fun s ⟨k2, p1, p2⟩ => ?_) 5000 ((0 : Int32), μ) ⟨rfl, ⟨by show 0 ≤ (0 : Int32).toInt; omega, by show (0 : Int32).toInt ≤ (n : Int); omega⟩, rfl⟩ (by show 100 - (0 : Int32).toInt < ((5000 : Nat) : Int); omega) (by show 0 ≤ 100 - (0 : Int32).toInt; omega)
    obtain ⟨i, hi, ei⟩ : ∃ i : Nat, i ≤ n ∧ s.1 = Int32.ofNat i := ⟨s.1.toInt.toNat, by omega, (gx_of p1.1).symm⟩
    have oi := ofn (k := i) (by omega)
    have hS : s.1.toInt = i := by rw [ei]; exact oi
    rw [show s.1.toInt.toNat = i by omega] at p2
    rw [k2]
    refine gw_gRa 15 (hg.c (r := 1) rfl) (hg.r (by decide)) ?_
    refine gw_gRa 27 (hg.c (r := 15) rfl) (hg.r (by decide)) ?_
    refine gw_gIw (hg.c (r := 27) rfl) ?_
    refine gw_le (fun g => ?_) (fun g => ?_)
    · refine gw_some (gs_inr (gq_I ⟨rfl, ?_⟩))
      rw [p2, show n - i = 0 by omega]
      rfl
    · obtain ⟨⟨b1, b2⟩, b3⟩ := book i (by omega)
      rw [gl_s (show i < n by omega)] at p2
      rw [ei]
      refine gw_gRa 15 (hg.c (r := 1) rfl) (hg.r (by decide)) ?_
      refine gw_gRa 27 (hg.c (r := 15) rfl) (hg.r (by decide)) ?_
      refine gw_if (hg.t (r := 27) rfl) ?_
      refine gw_bI (v_cell (hg.t (r := 27) rfl) (hg.t (r := 28) rfl) (hg.l (r := 28) rfl) (hg.r (by decide)) (i := Int32.ofNat i) (j := 0) ⟨by omega, by omega, by omega⟩ ⟨by omega, by omega⟩ (by omega) (by omega)) (fun x m ⟨em, ex⟩ => ?_)
      subst em
      rw [show (Int32.ofNat i).toInt.toNat = i by omega] at ex
      replace ex : x = m.2.1 28 (3 * i) := ex
      rw [b1] at ex
      refine gw_if (hg.t (r := 1) rfl) ?_
      refine gw_nob h (fun hC => ?_) (fun nC => absurd (by rw [ex]; exact b3) nC)
      refine gw_j (fun q => q = m ∧ gl f n n = gl f n (n - (i + 1))) (fun q ⟨eq, gq⟩ => ?_) (fun jj hj => ?_)
      · have nx : (Int32.ofNat i + (1 : Int32)).toInt = (Int32.ofNat i).toInt + (1 : Int32).toInt := gx_add (by omega) (by omega)
        refine gw_some (gs_inl ⟨eq, ⟨by show 0 ≤ (Int32.ofNat i + (1 : Int32)).toInt; omega, by show (Int32.ofNat i + (1 : Int32)).toInt ≤ (n : Int); omega⟩, ?_⟩ (by show 100 - (Int32.ofNat i + (1 : Int32)).toInt < 100 - s.1.toInt; omega) (by show 0 ≤ 100 - (Int32.ofNat i + (1 : Int32)).toInt; omega))
        show gl f n n = gl f n (n - (Int32.ofNat i + (1 : Int32)).toInt.toNat)
        rw [show (Int32.ofNat i + (1 : Int32)).toInt.toNat = i + 1 by omega]
        exact gq
      · rw [if_neg (by decide)]
        obtain ⟨c, hcc, ec, oc⟩ := hC.at
        have hfi : f i = decide (m.2.1 66 (16 + c) = m.2.1 66 (102 + i)) := by
          rw [hf]
          show decide (m.2.1 66 (16 + (m.2.1 66 (94 + i)).toInt.toNat) = _) = _
          rw [← ex, ec, oc, Int.toNat_natCast]
        rw [ec]
        refine gw_kid hg hcc ?_
        refine gw_gIw (ict.c hg (ict_c hcc)) ?_
        refine gw_gRa 15 (hg.c (r := 1) rfl) (hg.r (by decide)) ?_
        refine gw_gRa 27 (hg.c (r := 15) rfl) (hg.r (by decide)) ?_
        refine gw_if (hg.t (r := 27) rfl) ?_
        refine gw_bI (v_cell (hg.t (r := 27) rfl) (hg.t (r := 28) rfl) (hg.l (r := 28) rfl) (hg.r (by decide)) (i := Int32.ofNat i) (j := 1) ⟨by omega, by omega, by omega⟩ ⟨by omega, by omega⟩ (by omega) (by omega)) (fun y m' ⟨em, ey⟩ => ?_)
        subst em
        rw [show (Int32.ofNat i).toInt.toNat = i by omega] at ey
        replace ey : y = m'.2.1 28 (3 * i + 1) := ey
        rw [b2] at ey
        have e6 : m'.2.1 (29 + 2 * c) 6 = m'.2.1 66 (16 + c) := (show kC m' (29 + 2 * c) 6 = kR (m'.2.1 66) c 6 by rw [(h.kk hcc).1])
        rw [e6, ey]
        refine gw_ite (fun g2 => hj _ ⟨rfl, ?_⟩) (fun g2 => ?_)
        · rw [p2, if_pos (by rw [hfi]; exact decide_eq_true g2)]
        · refine gw_some (gs_inr (gq_I ⟨rfl, ?_⟩))
          rw [p2, if_neg (by rw [hfi]; exact fun z => g2 (of_decide_eq_true z))]
  · unfold f_X12_looked
    refine gw_loop (fun s => (0 ≤ s.toInt ∧ s.toInt ≤ (n : Int)) ∧ gl f n n = gl f n (n - s.toInt.toNat)) (fun s => 100 - s.toInt) (fun s ⟨p1, p2⟩ => ?_) 5000 (0 : Int32) ⟨⟨by show 0 ≤ (0 : Int32).toInt; omega, by show (0 : Int32).toInt ≤ (n : Int); omega⟩, rfl⟩ (by show 100 - (0 : Int32).toInt < ((5000 : Nat) : Int); omega) (by show 0 ≤ 100 - (0 : Int32).toInt; omega)
    obtain ⟨i, hi, ei⟩ : ∃ i : Nat, i ≤ n ∧ s = Int32.ofNat i := ⟨s.toInt.toNat, by omega, (gx_of p1.1).symm⟩
    have oi := ofn (k := i) (by omega)
    have hS : s.toInt = i := by rw [ei]; exact oi
    rw [show s.toInt.toNat = i by omega] at p2
    refine gw_gRa 66 (hg.c (r := 65) rfl) (hg.r (by decide)) ?_
    refine gw_aIw 30 (hg.t (r := 66) rfl) (hg.l (r := 66) rfl) l30 (by omega) ?_
    refine gw_le (fun g => ?_) (fun g => ?_)
    · refine gw_some (gs_inr (gq_I ⟨qm.refl μ, ?_⟩))
      rw [p2, show n - i = 0 by omega]
      rfl
    · obtain ⟨-, b3⟩ := book i (by omega)
      obtain ⟨c, hcc, ec, oc⟩ := b3.at
      rw [gl_s (show i < n by omega)] at p2
      have hfi : f i = decide (μ.2.1 66 (16 + c) = μ.2.1 66 (102 + i)) := by
        rw [hf]
        show decide (μ.2.1 66 (16 + (μ.2.1 66 (94 + i)).toInt.toNat) = _) = _
        rw [ec, oc, Int.toNat_natCast]
      have a1 : ((94 : Int32) + s).toInt = (94 : Int32).toInt + s.toInt := gx_add (by omega) (by omega)
      have a2 : ((102 : Int32) + s).toInt = (102 : Int32).toInt + s.toInt := gx_add (by omega) (by omega)
      refine gw_gRa 66 (hg.c (r := 65) rfl) (hg.r (by decide)) ?_
      refine gw_gRa 66 (hg.c (r := 65) rfl) (hg.r (by decide)) ?_
      refine gw_aIw (94 + i) (hg.t (r := 66) rfl) (hg.l (r := 66) rfl) (by omega) (by omega) ?_
      rw [ec]
      refine gw_aIw (16 + c) (hg.t (r := 66) rfl) (hg.l (r := 66) rfl) (ixc hcc 16 16 rfl (by decide)) (by omega) ?_
      refine gw_gRa 66 (hg.c (r := 65) rfl) (hg.r (by decide)) ?_
      refine gw_aIw (102 + i) (hg.t (r := 66) rfl) (hg.l (r := 66) rfl) (by omega) (by omega) ?_
      have nx : (s + (1 : Int32)).toInt = s.toInt + (1 : Int32).toInt := gx_add (by omega) (by omega)
      refine gw_ite (fun g2 => ?_) (fun g2 => ?_)
      · refine gw_some (gs_inl ⟨⟨by show 0 ≤ (s + (1 : Int32)).toInt; omega, by show (s + (1 : Int32)).toInt ≤ (n : Int); omega⟩, ?_⟩ (by show 100 - (s + (1 : Int32)).toInt < 100 - s.toInt; omega) (by show 0 ≤ 100 - (s + (1 : Int32)).toInt; omega))
        show gl f n n = gl f n (n - (s + (1 : Int32)).toInt.toNat)
        rw [show (s + (1 : Int32)).toInt.toNat = i + 1 by omega, p2, if_pos (by rw [hfi]; exact decide_eq_true g2)]
      · refine gw_some (gs_inr (gq_I ⟨qm.refl μ, ?_⟩))
        rw [p2, if_neg (by rw [hfi]; exact fun z => g2 (of_decide_eq_true z)), ei]
end
end
section
/-! on: all go on, and back -/
section
variable {μ : gm_M}
theorem kp.mw {w sw : Int32} {Q : List (List Int32 × Int32)} {m : gm_M} (g : kp μ m) (h : MW w sw Q μ) : MW w sw Q m := by
  have r66 : m.2.1 66 = μ.2.1 66 := g.2.2.1 66 (by decide)
  exact ⟨⟨h.1.1.same g.1 g.2.1, by rw [r66]; exact h.1.2⟩, by rw [r66]; exact h.2⟩
theorem gw_kept {β : Type} {Z : β → Prop} {w sw : Int32} {Q : List (List Int32 × Int32)} (h : MW w sw Q μ) (hm : 0 ≤ (μ.2.1 66 0).toInt ∧ (μ.2.1 66 0).toInt ≤ 9999) {n : Nat} (hn : n ≤ 100) {f : gm_M → Option β} (k : ∀ m5 m7, kp μ m5 → km A1 m5 m7 → MW w sw Q m7 → (∀ j : Nat, j < 5 → kR (m7.2.1 66) j = gN (μ.2.1 66 26).toInt.toNat n (μ.2.1 66 0) j (kR (μ.2.1 66) j)) → m7.2.1 66 0 = μ.2.1 66 0 + Int32.ofNat n → m7.2.1 66 26 = μ.2.1 66 26 → gw (f m7) Z) : gw (if gm_tag μ 65 = 17 then gm_bV (f_X12_keeps 65 μ) (fun m5 => if gm_tag m5 65 = 17 then gm_bV (f_X12_goesOn 65 (Int32.ofNat n) m5) f else none) else none) Z := by
  have on := ofn (k := n) (by omega)
  refine gw_if (h.1.1.t (r := 65) rfl) ?_
  refine gw_bV (s_X12_keeps h.1) (fun m5 g5 => ?_)
  have h5 := g5.mw h
  have r66 : m5.2.1 66 = μ.2.1 66 := g5.2.2.1 66 (by decide)
  refine gw_if (h5.1.1.t (r := 65) rfl) ?_
  refine gw_bV (w_goesOn h5 (by rw [r66]; exact hm) (a := Int32.ofNat n) (by omega)) (fun m7 ⟨⟨k7, f7⟩, r7⟩ => ?_)
  rw [r66, on, Int.toNat_natCast] at f7 r7
  exact k m5 m7 g5 k7 (h5.k1 k7) r7 f7 (by rw [k7.2.2.2.1 26 (by unfold A1; omega), r66])
theorem gw_back {β : Type} {Z : β → Prop} {m5 m : gm_M} (g5 : kp μ m5) (k : km A1 m5 m) (hM : MI m) {f : gm_M → Option β} (kk : ∀ m', qm μ m' → gw (f m') Z) : gw (if gm_tag m 65 = 17 then gm_bV (f_X12_goesBack 65 m) f else none) Z := by
  refine gw_if (hM.1.t (r := 65) rfl) ?_
  refine gw_bV (s_X12_goesBack hM) (fun m' ⟨k', r'⟩ => ?_)
  exact kk m' (qm.kp g5 (k.trans k') r')
theorem isC_sub {b d : Int32} {D : Nat} (hd : d.toInt = D) (h1 : D ≤ 100) (h : isC μ (b - d)) : ∃ c : Nat, c < 5 ∧ b = Int32.ofNat (D + c) ∧ b - d = Int32.ofNat c ∧ isC μ (Int32.ofNat c) := by
  obtain ⟨c, hc, ec, oc⟩ := h.at
  have e : (b - d).toInt = c := by rw [ec]; exact oc
  have o := ofn (k := D + c) (by omega)
  refine ⟨c, hc, ?_, ec, by rw [← ec]; exact h⟩
  apply Int32.toInt_inj.mp
  have b1 := gx_lo b
  have b2 := gx_hi b
  rcases gx_subw b d with q | q | q <;> omega
theorem ofn_sub {d : Int32} {D c : Nat} (hd : d.toInt = D) (h1 : D ≤ 100) (hc : c < 100) : Int32.ofNat (D + c) - d = Int32.ofNat c := by
  apply Int32.toInt_inj.mp
  have o := ofn (k := D + c) (by omega)
  have o2 := ofn (k := c) (by omega)
  rw [gx_sub (by omega) (by omega)]
  omega
theorem isC.cnt {c : Nat} (h : isC μ (Int32.ofNat c)) (hc : c < 5) : (c : Int) < (μ.2.1 15 1).toInt := by
  have o := ofn (k := c) (by omega)
  have := h.2.1
  omega
theorem gN_p {cnt i : Nat} {mi : Int32} {k : Nat} {K : Nat → Int32} (h : k < cnt) : gN cnt i mi k K = cGoN i K mi := if_pos h
set_option maxHeartbeats 8000000 in
theorem N_on (h : REL μ) {a b : Int32} : PR (f_X11_on 1 a b μ) (f_X12_on 65 a b) := by
  have hg := h.ci.1
  obtain ⟨w, sw, Q, ⟨hcw, hmw, -, -⟩, -⟩ := h.ex
  have v2 := h.vs.2.1
  have mn := h.mn
  have l0 : (0 : Int32).toInt = 0 := rfl
  have l10 : (10 : Int32).toInt = (10 : Nat) := rfl
  have l20 : (20 : Int32).toInt = (20 : Nat) := rfl
  have l60 : (60 : Int32).toInt = 60 := rfl
  have l6 : (6 : Int32).toInt = 6 := rfl
  have r66k : ∀ {m : gm_M}, kc μ m → m.2.1 66 = μ.2.1 66 := fun k => k.row (show (66 : Nat) ≠ 1 ∧ 66 ≠ 5 ∧ 66 ≠ 6 ∧ 66 ≠ 7 ∧ 66 ≠ 63 ∧ 66 ≠ 64 by decide)
  have hmk : ∀ {m : gm_M}, REL m → kc μ m → MW w sw Q m := fun hm k => ⟨hm.mi, by rw [r66k k]; exact hmw.2⟩
  have n1 := h.ci.n1
  have cnt : ∀ {c : Nat}, isC μ (Int32.ofNat c) → c < 5 → c < (μ.2.1 66 26).toInt.toNat := fun q hc => by
    have := q.cnt hc
    rw [h.sz] at this
    omega
  have out : ¬ ((0 : Int32).toInt ≤ a.toInt ∧ a.toInt ≤ (60 : Int32).toInt) ∨ ∃ n : Nat, n ≤ 60 ∧ a = Int32.ofNat n := by
    by_cases hn : (0 : Int32).toInt ≤ a.toInt ∧ a.toInt ≤ (60 : Int32).toInt
    · exact Or.inr ⟨a.toInt.toNat, by omega, (gx_of (by omega)).symm⟩
    · exact Or.inl hn
  by_cases b0 : b = 0
  · subst b0
    rcases out with hn | ⟨n, n60, rfl⟩
    · refine PR.u h (-2) (gwI_of ?_) (gwI_of ?_)
      · unfold f_X11_on
        refine gw_ji ?_
        refine gw_if (show (0 : Int32) < 20 by decide) ?_
        refine gw_ji ?_
        refine gw_if rfl ?_
        refine gw_out (fun q => absurd q hn) (fun _ => ?_)
        refine gw_ite (fun q => absurd q (by decide)) (fun _ => ?_)
        exact gw_some (gq_I ⟨rfl, rfl⟩)
      · unfold f_X12_on
        refine gw_ji ?_
        refine gw_if rfl ?_
        refine gw_inn (fun q => absurd q hn) (fun _ => ?_)
        refine gw_ite (fun q => absurd rfl q) (fun _ => ?_)
        exact gw_some (gq_I ⟨qm.refl μ, rfl⟩)
    · have on := ofn (k := n) (by omega)
      have hn : (0 : Int32).toInt ≤ (Int32.ofNat n).toInt ∧ (Int32.ofNat n).toInt ≤ (60 : Int32).toInt := by omega
      refine PR.v h (sm (fun k => cHold w Q (cGoN n (kC μ (29 + 2 * k)) (μ.2.1 15 0)) (μ.2.1 15 0 + Int32.ofNat n)) (μ.2.1 15 1).toInt.toNat) (gwI_of ?_) (fun m hm k => gwI_of ?_)
      · unfold f_X11_on
        refine gw_ji ?_
        refine gw_if (show (0 : Int32) < 20 by decide) ?_
        refine gw_ji ?_
        refine gw_if rfl ?_
        refine gw_out (fun _ => ?_) (fun q => absurd hn q)
        refine gw_if rfl ?_
        refine gw_ite (fun q => absurd rfl q) (fun _ => ?_)
        refine gw_if (hg.t (r := 1) rfl) ?_
        refine gw_bI (v_sum hcw (fun k hk => h.row hk) (by rw [mn]; exact v2) (n := n) (by omega)) (fun x m ⟨k, ex⟩ => ?_)
        exact gw_some (gq_I ⟨k, ex⟩)
      · have hw := hmk hm k
        unfold f_X12_on
        refine gw_ji ?_
        refine gw_if rfl ?_
        refine gw_inn (fun _ => ?_) (fun q => absurd hn q)
        refine gw_if (by decide) ?_
        refine gw_kept hw (by rw [r66k k]; exact v2) (n := n) (by omega) (fun m5 m7 g5 k7 h7 kr f7 c7 => ?_)
        rw [r66k k] at kr f7 c7
        refine gw_ji ?_
        refine gw_ite (fun q => absurd rfl q) (fun _ => ?_)
        refine gw_if (h7.1.1.t (r := 65) rfl) ?_
        refine gw_bI (w_allHold h7) (fun y m17 ⟨k17, ey⟩ => ?_)
        refine gw_back (m := m17) g5 (k7.trans k17.w01) (h7.k0 k17).1 (fun m' q => ?_)
        refine gw_some (gq_I ⟨q, ?_⟩)
        show y = _
        rw [ey, c7, f7, ← h.sz, ← mn]
        refine sm_eq _ (fun j hj => ?_)
        show cHold w Q (kR (m7.2.1 66) j) _ = cHold w Q (cGoN n (kC μ (29 + 2 * j)) _) _
        rw [kr j (by omega), gN_p (by rw [← h.sz]; exact hj), (h.kk (show j < 5 by omega)).1, mn]
  · by_cases h10 : ∃ c : Nat, c < 5 ∧ b = Int32.ofNat (10 + c) ∧ b - 10 = Int32.ofNat c ∧ isC μ (Int32.ofNat c)
    · obtain ⟨c, hc, eb, es, hC⟩ := h10
      have bt : b.toInt = 10 + c := by rw [eb, ofn (k := 10 + c) (by omega)]; omega
      rcases out with hn | ⟨n, n60, rfl⟩
      · refine PR.u h (-2) (gwI_of ?_) (gwI_of ?_)
        · unfold f_X11_on
          refine gw_ji ?_
          refine gw_lt (fun _ => ?_) (fun q => by exfalso; omega)
          refine gw_ji ?_
          refine gw_ite (fun q => absurd q b0) (fun _ => ?_)
          refine gw_if (hg.t (r := 1) rfl) ?_
          rw [es]
          refine gw_nob h (fun _ => ?_) (fun q => absurd hC q)
          refine gw_if rfl ?_
          refine gw_out (fun q => absurd q hn) (fun _ => ?_)
          refine gw_ite (fun q => absurd q (by decide)) (fun _ => ?_)
          exact gw_some (gq_I ⟨rfl, rfl⟩)
        · unfold f_X12_on
          refine gw_ji ?_
          refine gw_ite (fun q => absurd q b0) (fun _ => ?_)
          refine gw_if h.1.t65 ?_
          rw [es]
          refine gw_isc h.mi h.sz.symm (fun _ => ?_) (fun q => absurd hC q)
          refine gw_if (by decide) ?_
          refine gw_inn (fun q => absurd q hn) (fun _ => ?_)
          refine gw_ite (fun q => absurd rfl q) (fun _ => ?_)
          exact gw_some (gq_I ⟨qm.refl μ, rfl⟩)
      · have on := ofn (k := n) (by omega)
        have hn : (0 : Int32).toInt ≤ (Int32.ofNat n).toInt ∧ (Int32.ofNat n).toInt ≤ (60 : Int32).toInt := by omega
        refine PR.v h (cHold w Q (cGoN n (kC μ (29 + 2 * c)) (μ.2.1 15 0)) (μ.2.1 15 0 + Int32.ofNat n)) (gwI_of ?_) (fun m hm k => gwI_of ?_)
        · unfold f_X11_on
          refine gw_ji ?_
          refine gw_lt (fun _ => ?_) (fun q => by exfalso; omega)
          refine gw_ji ?_
          refine gw_ite (fun q => absurd q b0) (fun _ => ?_)
          refine gw_if (hg.t (r := 1) rfl) ?_
          rw [es]
          refine gw_nob h (fun _ => ?_) (fun q => absurd hC q)
          refine gw_if rfl ?_
          refine gw_out (fun _ => ?_) (fun q => absurd hn q)
          refine gw_if rfl ?_
          refine gw_if b0 ?_
          refine gw_if (hg.t (r := 1) rfl) ?_
          refine gw_bI (v_behind hcw hc (h.row hc) (by rw [mn]; exact v2) (n := n) (by omega)) (fun x m ⟨k, ex, _⟩ => ?_)
          refine gw_lt (fun _ => ?_) (fun q => by exfalso; omega)
          exact gw_some (gq_I ⟨k, ex⟩)
        · have hw := hmk hm k
          unfold f_X12_on
          refine gw_ji ?_
          refine gw_ite (fun q => absurd q b0) (fun _ => ?_)
          refine gw_if hm.1.t65 ?_
          rw [es]
          refine gw_isc (μ := μ) hm.mi (by rw [r66k k]; exact h.sz.symm) (fun _ => ?_) (fun q => absurd hC q)
          refine gw_if (by decide) ?_
          refine gw_inn (fun _ => ?_) (fun q => absurd hn q)
          refine gw_if (by decide) ?_
          refine gw_kept hw (by rw [r66k k]; exact v2) (n := n) (by omega) (fun m5 m7 g5 k7 h7 kr f7 c7 => ?_)
          rw [r66k k] at kr f7 c7
          refine gw_ji ?_
          refine gw_if b0 ?_
          refine gw_le (fun q => by exfalso; omega) (fun _ => ?_)
          refine gw_if (h7.1.1.t (r := 65) rfl) ?_
          refine gw_bI (w_holds h7 hc) (fun y m15 ⟨k15, ey⟩ => ?_)
          refine gw_back (m := m15) g5 (k7.trans k15.w01) (h7.k0 k15).1 (fun m' q => ?_)
          refine gw_some (gq_I ⟨q, ?_⟩)
          show y = _
          rw [ey, kr c hc, gN_p (cnt hC hc), f7, ← (h.kk hc).1, mn]
    · by_cases h20 : ∃ c : Nat, c < 5 ∧ b = Int32.ofNat (20 + c) ∧ b - 20 = Int32.ofNat c ∧ isC μ (Int32.ofNat c)
      · obtain ⟨c, hc, eb, es, hC⟩ := h20
        have bt : b.toInt = 20 + c := by rw [eb, ofn (k := 20 + c) (by omega)]; omega
        have nb : ¬ isC μ (b - 10) := fun q => h10 (isC_sub l10 (by omega) q)
        rcases out with hn | ⟨n, n60, rfl⟩
        · refine PR.u h (-2) (gwI_of ?_) (gwI_of ?_)
          · unfold f_X11_on
            refine gw_ji ?_
            refine gw_lt (fun q => by exfalso; omega) (fun _ => ?_)
            refine gw_ji ?_
            refine gw_ite (fun q => absurd q b0) (fun _ => ?_)
            refine gw_if (hg.t (r := 1) rfl) ?_
            rw [es]
            refine gw_nob h (fun _ => ?_) (fun q => absurd hC q)
            refine gw_if rfl ?_
            refine gw_out (fun q => absurd q hn) (fun _ => ?_)
            refine gw_ite (fun q => absurd q (by decide)) (fun _ => ?_)
            exact gw_some (gq_I ⟨rfl, rfl⟩)
          · unfold f_X12_on
            refine gw_ji ?_
            refine gw_ite (fun q => absurd q b0) (fun _ => ?_)
            refine gw_if h.1.t65 ?_
            refine gw_isc h.mi h.sz.symm (fun q => absurd q nb) (fun _ => ?_)
            refine gw_ite (fun q => absurd rfl q) (fun _ => ?_)
            refine gw_if h.1.t65 ?_
            rw [es]
            refine gw_isc h.mi h.sz.symm (fun _ => ?_) (fun q => absurd hC q)
            refine gw_if (by decide) ?_
            refine gw_inn (fun q => absurd q hn) (fun _ => ?_)
            refine gw_ite (fun q => absurd rfl q) (fun _ => ?_)
            exact gw_some (gq_I ⟨qm.refl μ, rfl⟩)
        · have on := ofn (k := n) (by omega)
          have hn : (0 : Int32).toInt ≤ (Int32.ofNat n).toInt ∧ (Int32.ofNat n).toInt ≤ (60 : Int32).toInt := by omega
          refine PR.v h (cGoN n (kC μ (29 + 2 * c)) (μ.2.1 15 0) 4) (gwI_of ?_) (fun m hm k => gwI_of ?_)
          · unfold f_X11_on
            refine gw_ji ?_
            refine gw_lt (fun q => by exfalso; omega) (fun _ => ?_)
            refine gw_ji ?_
            refine gw_ite (fun q => absurd q b0) (fun _ => ?_)
            refine gw_if (hg.t (r := 1) rfl) ?_
            rw [es]
            refine gw_nob h (fun _ => ?_) (fun q => absurd hC q)
            refine gw_if rfl ?_
            refine gw_out (fun _ => ?_) (fun q => absurd hn q)
            refine gw_if rfl ?_
            refine gw_if b0 ?_
            refine gw_if (hg.t (r := 1) rfl) ?_
            refine gw_bI (v_behind hcw hc (h.row hc) (by rw [mn]; exact v2) (n := n) (by omega)) (fun x m ⟨k, _, ek⟩ => ?_)
            refine gw_lt (fun q => by exfalso; omega) (fun _ => ?_)
            have hgm := (h.kc k).ci.1
            refine gw_gRa 63 (hgm.c (r := 1) rfl) (hgm.r (by decide)) ?_
            refine gw_gIw (ict.c hgm (Or.inr rfl)) ?_
            refine gw_some (gq_I ⟨k, ?_⟩)
            have e4 : m.2.1 63 4 = kC m 63 4 := rfl
            rw [e4, ek]
          · have hw := hmk hm k
            unfold f_X12_on
            refine gw_ji ?_
            refine gw_ite (fun q => absurd q b0) (fun _ => ?_)
            refine gw_if hm.1.t65 ?_
            refine gw_isc (μ := μ) hm.mi (by rw [r66k k]; exact h.sz.symm) (fun q => absurd q nb) (fun _ => ?_)
            refine gw_ite (fun q => absurd rfl q) (fun _ => ?_)
            refine gw_if hm.1.t65 ?_
            rw [es]
            refine gw_isc (μ := μ) hm.mi (by rw [r66k k]; exact h.sz.symm) (fun _ => ?_) (fun q => absurd hC q)
            refine gw_if (by decide) ?_
            refine gw_inn (fun _ => ?_) (fun q => absurd hn q)
            refine gw_if (by decide) ?_
            refine gw_kept hw (by rw [r66k k]; exact v2) (n := n) (by omega) (fun m5 m7 g5 k7 h7 kr f7 c7 => ?_)
            rw [r66k k] at kr f7 c7
            refine gw_ji ?_
            refine gw_if b0 ?_
            refine gw_le (fun _ => ?_) (fun q => by exfalso; omega)
            have a1 : ((6 : Int32) + b).toInt = (6 : Int32).toInt + b.toInt := gx_add (by omega) (by omega)
            have a2 : ((6 : Int32) + b - (20 : Int32)).toInt = ((6 : Int32) + b).toInt - (20 : Int32).toInt := gx_sub (by omega) (by omega)
            refine gw_gRa 66 (h7.1.1.c (r := 65) rfl) (h7.1.1.r (by decide)) ?_
            refine gw_aIw (6 + c) (h7.1.1.t (r := 66) rfl) (h7.1.1.l (r := 66) rfl) (by omega) (by omega) ?_
            refine gw_back (m := m7) g5 k7 h7.1 (fun m' q => ?_)
            refine gw_some (gq_I ⟨q, ?_⟩)
            have e4 : m7.2.1 66 (6 + c) = kR (m7.2.1 66) c 4 := rfl
            show m7.2.1 66 (6 + c) = _
            rw [e4, kr c hc, gN_p (cnt hC hc), ← (h.kk hc).1, mn]
      · refine PR.u h (-1) (gwI_of ?_) (gwI_of ?_)
        · unfold f_X11_on
          refine gw_ji ?_
          refine gw_lt (fun _ => ?_) (fun _ => ?_)
          · refine gw_ji ?_
            refine gw_ite (fun q => absurd q b0) (fun _ => ?_)
            refine gw_if (hg.t (r := 1) rfl) ?_
            refine gw_nob h (fun q => absurd (isC_sub l10 (by omega) q) h10) (fun _ => ?_)
            refine gw_ite (fun q => absurd q (by decide)) (fun _ => ?_)
            exact gw_some (gq_I ⟨rfl, rfl⟩)
          · refine gw_ji ?_
            refine gw_ite (fun q => absurd q b0) (fun _ => ?_)
            refine gw_if (hg.t (r := 1) rfl) ?_
            refine gw_nob h (fun q => absurd (isC_sub l20 (by omega) q) h20) (fun _ => ?_)
            refine gw_ite (fun q => absurd q (by decide)) (fun _ => ?_)
            exact gw_some (gq_I ⟨rfl, rfl⟩)
        · unfold f_X12_on
          refine gw_ji ?_
          refine gw_ite (fun q => absurd q b0) (fun _ => ?_)
          refine gw_if h.1.t65 ?_
          refine gw_isc h.mi h.sz.symm (fun q => absurd (isC_sub l10 (by omega) q) h10) (fun _ => ?_)
          refine gw_ite (fun q => absurd rfl q) (fun _ => ?_)
          refine gw_if h.1.t65 ?_
          refine gw_isc h.mi h.sz.symm (fun q => absurd (isC_sub l20 (by omega) q) h20) (fun _ => ?_)
          refine gw_ite (fun q => absurd rfl q) (fun _ => ?_)
          exact gw_some (gq_I ⟨qm.refl μ, rfl⟩)
end
end
section
/-! fractions in their lowest terms -/
theorem gx_div64 {x y : Int64} (h : y.toInt ≠ -1) : (x / y).toInt = x.toInt.tdiv y.toInt := by
  rw [Int64.toInt_div_of_ne_right]
  intro e
  exact h (by rw [e]; rfl)
theorem gcd_st (a b : Nat) : Nat.gcd b (a % b) = Nat.gcd a b := by
  rw [Nat.gcd_comm a b, Nat.gcd_rec b a, Nat.gcd_comm]
theorem tmod_n (p q : Nat) : Int.tmod (p : Int) (q : Int) = ((p % q : Nat) : Int) := rfl
def fr (A B : Int) (d : Int32) : Int := (if d ≠ 0 then B else A).tdiv (Nat.gcd A.toNat B.toNat : Int)
section
variable {μ : gm_M}
theorem v_gcd {a b : Int32} (ha : 0 ≤ a.toInt) (hb : 0 ≤ b.toInt ∧ b.toInt ≤ 100) : gwI (f_X11_greatestCommon a b μ) (fun x m => m = μ ∧ x.toInt = (Nat.gcd a.toInt.toNat b.toInt.toNat : Int)) := by
  have l0 : (0 : Int32).toInt = 0 := rfl
  have l1 : (1 : Int32).toInt = 1 := rfl
  have l100 : (100 : Int32).toInt = 100 := rfl
  refine gwI_of ?_
  unfold f_X11_greatestCommon
  refine gw_loop (fun s => (0 ≤ s.2.2.toInt ∧ s.2.2.toInt ≤ 100) ∧ 0 ≤ s.1.toInt ∧ (0 ≤ s.2.1.toInt ∧ s.2.1.toInt ≤ 100 - s.2.2.toInt) ∧ Nat.gcd s.1.toInt.toNat s.2.1.toInt.toNat = Nat.gcd a.toInt.toNat b.toInt.toNat) (fun s => 100 - s.2.2.toInt) (fun s ⟨p1, p2, p3, p4⟩ => ?_) 5000 (a, b, (0 : Int32)) ⟨⟨by show 0 ≤ (0 : Int32).toInt; omega, by show (0 : Int32).toInt ≤ 100; omega⟩, ha, ⟨hb.1, by show b.toInt ≤ 100 - (0 : Int32).toInt; omega⟩, rfl⟩ (by show 100 - (0 : Int32).toInt < ((5000 : Nat) : Int); omega) (by show 0 ≤ 100 - (0 : Int32).toInt; omega)
  have done : s.2.1.toInt = 0 → s.1.toInt = (Nat.gcd a.toInt.toNat b.toInt.toNat : Int) := fun e => by
    rw [e, show (0 : Int).toNat = 0 from rfl, Nat.gcd_zero_right] at p4
    omega
  refine gw_le (fun g => gw_some (gs_inr (gq_I ⟨rfl, done (by omega)⟩))) (fun g => ?_)
  refine gw_eq (fun g2 => gw_some (gs_inr (gq_I ⟨rfl, done (by omega)⟩))) (fun g2 => ?_)
  refine gw_dv (by omega) ?_
  rw [gx_mod]
  have nx : (s.2.2 + (1 : Int32)).toInt = s.2.2.toInt + (1 : Int32).toInt := gx_add (by omega) (by omega)
  obtain ⟨p, hp⟩ : ∃ p : Nat, s.1.toInt = p := ⟨s.1.toInt.toNat, by omega⟩
  obtain ⟨q, hq⟩ : ∃ q : Nat, s.2.1.toInt = q := ⟨s.2.1.toInt.toNat, by omega⟩
  have e : (s.1 % s.2.1).toInt = ((p % q : Nat) : Int) := by rw [Int32.toInt_mod, hp, hq, tmod_n]
  have lt : p % q < q := Nat.mod_lt _ (by omega)
  rw [hp, hq, Int.toNat_natCast, Int.toNat_natCast] at p4
  refine gw_some (gs_inl ⟨⟨by show 0 ≤ (s.2.2 + (1 : Int32)).toInt; omega, by show (s.2.2 + (1 : Int32)).toInt ≤ 100; omega⟩, p3.1, ⟨by show 0 ≤ (s.1 % s.2.1).toInt; omega, by show (s.1 % s.2.1).toInt ≤ 100 - (s.2.2 + (1 : Int32)).toInt; omega⟩, ?_⟩ (by show 100 - (s.2.2 + (1 : Int32)).toInt < 100 - s.2.2.toInt; omega) (by show 0 ≤ 100 - (s.2.2 + (1 : Int32)).toInt; omega))
  show Nat.gcd s.2.1.toInt.toNat (s.1 % s.2.1).toInt.toNat = _
  rw [hq, e, Int.toNat_natCast, Int.toNat_natCast, gcd_st]
  exact p4
theorem v_fraction {a b d : Int32} (ha : 0 ≤ a.toInt) (hb : 1 ≤ b.toInt ∧ b.toInt ≤ 100) : gwL (f_X11_fraction a b d μ) (fun x m => m = μ ∧ x.toInt = fr a.toInt b.toInt d) := by
  have l0 : (0 : Int32).toInt = 0 := rfl
  refine gwL_of ?_
  unfold f_X11_fraction
  have gp : 0 < Nat.gcd a.toInt.toNat b.toInt.toNat := Nat.gcd_pos_of_pos_right _ (by omega)
  refine gw_bI (v_gcd ha ⟨by omega, hb.2⟩) (fun x m ⟨em, ex⟩ => ?_)
  subst em
  have x0 : x.toInt ≠ 0 := by omega
  have xm : x.toInt ≠ -1 := by omega
  refine gw_ne (fun _ => ?_) (fun q => by exfalso; omega)
  refine gw_j (fun s => s.toInt = fr a.toInt b.toInt d) (fun s hs => gw_some (gq_L ⟨rfl, hs⟩)) (fun j hj => ?_)
  refine gw_ite (fun g => ?_) (fun g => ?_)
  · refine gw_dv x0 (hj _ ?_)
    rw [Int32.toInt_toInt64, gx_div xm, ex, fr, if_pos g]
  · refine gw_dv x0 (hj _ ?_)
    rw [Int32.toInt_toInt64, gx_div xm, ex, fr, if_neg g]
theorem w_lowest {a b : Int64} {d : Int32} (ha : 0 ≤ a.toInt) (hb : 1 ≤ b.toInt ∧ b.toInt ≤ 1000) : gwL (f_X12_lowest a b d μ) (fun x m => m = μ ∧ x.toInt = fr a.toInt b.toInt d) := by
  refine gwL_of ?_
  unfold f_X12_lowest
  have gp : 0 < Nat.gcd a.toInt.toNat b.toInt.toNat := Nat.gcd_pos_of_pos_right _ (by omega)
  refine gw_loop (fun s => 0 ≤ s.1.toInt ∧ (0 ≤ s.2.toInt ∧ s.2.toInt ≤ 1000) ∧ Nat.gcd s.1.toInt.toNat s.2.toInt.toNat = Nat.gcd a.toInt.toNat b.toInt.toNat) (fun s => s.2.toInt) (fun s ⟨p2, p3, p4⟩ => ?_) 5000 (a, b) ⟨ha, ⟨by show 0 ≤ b.toInt; omega, hb.2⟩, rfl⟩ (by show b.toInt < ((5000 : Nat) : Int); omega) (by show 0 ≤ b.toInt; omega)
  refine gw_ite (fun g => ?_) (fun g => ?_)
  · rw [gx_lcmp] at g
    have e1 : s.1.toInt = (Nat.gcd a.toInt.toNat b.toInt.toNat : Int) := by
      rw [g, show (0 : Int).toNat = 0 from rfl, Nat.gcd_zero_right] at p4
      omega
    have n0 : ¬ s.1 = 0 := fun e => by rw [gx_l0] at e; omega
    have nm : s.1.toInt ≠ -1 := by omega
    refine gw_j (fun q => q.toInt = if d ≠ 0 then b.toInt else a.toInt) (fun q hq => ?_) (fun j hj => ?_)
    · rw [if_neg n0]
      refine gw_some (gs_inr (gq_L ⟨rfl, ?_⟩))
      rw [gx_div64 nm, hq, e1, fr]
    · refine gw_ite (fun q => hj _ ?_) (fun q => hj _ ?_)
      · rw [if_pos q]
      · rw [if_neg q]
  · rw [gx_lcmp] at g
    have hne : ¬ s.2 = 0 := fun e => g (gx_l0.mp e)
    rw [if_neg hne, gx_mod64]
    obtain ⟨p, hp⟩ : ∃ p : Nat, s.1.toInt = p := ⟨s.1.toInt.toNat, by omega⟩
    obtain ⟨q, hq⟩ : ∃ q : Nat, s.2.toInt = q := ⟨s.2.toInt.toNat, by omega⟩
    have e : (s.1 % s.2).toInt = ((p % q : Nat) : Int) := by rw [Int64.toInt_mod, hp, hq, tmod_n]
    have lt : p % q < q := Nat.mod_lt _ (by omega)
    rw [hp, hq, Int.toNat_natCast, Int.toNat_natCast] at p4
    refine gw_some (gs_inl ⟨p3.1, ⟨by show 0 ≤ (s.1 % s.2).toInt; omega, by show (s.1 % s.2).toInt ≤ 1000; omega⟩, ?_⟩ (by show (s.1 % s.2).toInt < s.2.toInt; omega) (by show 0 ≤ (s.1 % s.2).toInt; omega))
    show Nat.gcd s.2.toInt.toNat (s.1 % s.2).toInt.toNat = _
    rw [hq, e, Int.toNat_natCast, Int.toNat_natCast, gcd_st]
    exact p4
theorem sm_b {H : Nat → Int32} : ∀ n : Nat, n ≤ 5 → (∀ k : Nat, k < n → 0 ≤ (H k).toInt ∧ (H k).toInt ≤ 59400) → 0 ≤ (sm H n).toInt ∧ (sm H n).toInt ≤ 59400 * n
  | 0, _, _ => ⟨by show 0 ≤ (0 : Int32).toInt; decide, by show (0 : Int32).toInt ≤ _; decide⟩
  | n + 1, hn, h => by
    have a := sm_b n (by omega) (fun k hk => h k (by omega))
    have b := h n (by omega)
    have e : (sm H (n + 1)).toInt = (sm H n).toInt + (H n).toInt := by
      show (sm H n + H n).toInt = _
      exact gx_add (by omega) (by omega)
    rw [e]
    omega
/-- leaves of askings that answer longs -/
theorem PRL.u {z : Option (Option Value × gm_M)} {g : gm_M → Option (Option Value × gm_M)} (h : REL μ) (v : Int64) (h1 : gwL z (fun x m => m = μ ∧ x = v)) (h2 : gwL (g μ) (fun y m2 => qm μ m2 ∧ y = v)) : PRL z g := by
  obtain ⟨x, m, e, em, ex⟩ := h1
  subst em
  obtain ⟨y, m2, e2, q, ey⟩ := h2
  exact ⟨x, m, e, h.1.t65, y, m2, e2, ey.trans ex.symm, h.qm q⟩
theorem PRL.v {z : Option (Option Value × gm_M)} {g : gm_M → Option (Option Value × gm_M)} (h : REL μ) (v : Int) (h1 : gwL z (fun x m => kc μ m ∧ x.toInt = v)) (h2 : ∀ m, REL m → kc μ m → gwL (g m) (fun y m2 => qm m m2 ∧ y.toInt = v)) : PRL z g := by
  obtain ⟨x, m, e, k, ex⟩ := h1
  have hm := h.kc k
  obtain ⟨y, m2, e2, q, ey⟩ := h2 m hm k
  exact ⟨x, m, e, hm.1.t65, y, m2, e2, Int64.toInt_inj.mp (ey.trans ex.symm), hm.qm q⟩
set_option maxHeartbeats 4000000 in
theorem N_mean (h : REL μ) {a b : Int32} : PRL (f_X11_mean 1 a b μ) (f_X12_mean 65 a b) := by
  have hg := h.ci.1
  obtain ⟨w, sw, Q, ⟨hcw, hmw, -, -⟩, hwr, -⟩ := h.ex
  have v2 := h.vs.2.1
  have mn := h.mn
  have sz := h.sz
  have n1 := h.ci.n1
  have l0 : (0 : Int32).toInt = 0 := rfl
  have l26 : (26 : Int32).toInt = 26 := rfl
  have l60 : (60 : Int32).toInt = 60 := rfl
  by_cases hn : (0 : Int32).toInt ≤ a.toInt ∧ a.toInt ≤ (60 : Int32).toInt
  · by_cases hb : (0 : Int32).toInt ≤ b.toInt ∧ b.toInt ≤ (1 : Int32).toInt
    · by_cases hc : μ.2.1 15 1 = 0
      · refine PRL.u h (-9223372036854775808) (gwL_of ?_) (gwL_of ?_)
        · unfold f_X11_mean
          refine gw_out (fun _ => ?_) (fun q => absurd hn q)
          refine gw_j (fun m => m = μ) (fun m em => by rw [em]; exact gw_some (gq_L ⟨rfl, rfl⟩)) (fun j hj => ?_)
          refine gw_ite (fun q => absurd rfl q) (fun _ => ?_)
          refine gw_out (fun _ => ?_) (fun q => absurd hb q)
          refine gw_ite (fun q => absurd rfl q) (fun _ => ?_)
          refine gw_gRa 15 (hg.c (r := 1) rfl) (hg.r (by decide)) ?_
          refine gw_gIw (hg.c (r := 15) rfl) ?_
          exact gw_ite (fun q => absurd hc q) (fun _ => hj _ rfl)
        · unfold f_X12_mean
          refine gw_inn (fun _ => ?_) (fun q => absurd hn q)
          refine gw_j (fun m => m = μ) (fun m em => by rw [em]; exact gw_some (gq_L ⟨qm.refl μ, rfl⟩)) (fun j hj => ?_)
          refine gw_ite (fun q => absurd q (by decide)) (fun _ => ?_)
          refine gw_inn (fun _ => ?_) (fun q => absurd hb q)
          refine gw_ite (fun q => absurd q (by decide)) (fun _ => ?_)
          refine gw_gRa 66 (hg.c (r := 65) rfl) (hg.r (by decide)) ?_
          refine gw_aIw 26 (hg.t (r := 66) rfl) (hg.l (r := 66) rfl) l26 (by omega) ?_
          exact gw_ite (fun q => absurd (by rw [← sz]; exact hc) q) (fun _ => hj _ rfl)
      · obtain ⟨n, n60, rfl⟩ : ∃ n : Nat, n ≤ 60 ∧ a = Int32.ofNat n := ⟨a.toInt.toNat, by omega, (gx_of (by omega)).symm⟩
        have c0 : (μ.2.1 15 1).toInt ≠ 0 := fun e => hc (Int32.toInt_inj.mp (by omega))
        have mi := mi_add (mi := μ.2.1 15 0) (n := n) ⟨by rw [mn]; exact v2.1, by rw [mn]; omega⟩ (by omega)
        have mr : 0 ≤ (μ.2.1 15 0).toInt ∧ (μ.2.1 15 0).toInt ≤ 9999 := by rw [mn]; exact v2
        obtain ⟨S, hS⟩ : ∃ S : Int32, S = sm (fun k => cHold w Q (cGoN n (kC μ (29 + 2 * k)) (μ.2.1 15 0)) (μ.2.1 15 0 + Int32.ofNat n)) (μ.2.1 15 1).toInt.toNat := ⟨_, rfl⟩
        have Sb : 0 ≤ S.toInt := by
          rw [hS]
          exact (sm_b _ (by omega) (fun k hk => cHold_b ((h.row (show k < 5 by omega)).goN ⟨mr.1, by omega⟩ n (by omega)) hcw.2.2.1.1 hcw.2.2.1.2.1 hwr _)).1
        refine PRL.v h (fr S.toInt (μ.2.1 15 1).toInt b) (gwL_of ?_) (fun m hm k => gwL_of ?_)
        · unfold f_X11_mean
          refine gw_out (fun _ => ?_) (fun q => absurd hn q)
          refine gw_ji ?_
          refine gw_ite (fun q => absurd rfl q) (fun _ => ?_)
          refine gw_out (fun _ => ?_) (fun q => absurd hb q)
          refine gw_ite (fun q => absurd rfl q) (fun _ => ?_)
          refine gw_gRa 15 (hg.c (r := 1) rfl) (hg.r (by decide)) ?_
          refine gw_gIw (hg.c (r := 15) rfl) ?_
          refine gw_if hc ?_
          refine gw_if (hg.t (r := 1) rfl) ?_
          refine gw_bI (v_sum hcw (fun k hk => h.row hk) mr (n := n) (by omega)) (fun x m ⟨k, ex⟩ => ?_)
          rw [← hS] at ex
          subst ex
          have hgm := (h.kc k).ci.1
          have r15 := k.row (show (15 : Nat) ≠ 1 ∧ 15 ≠ 5 ∧ 15 ≠ 6 ∧ 15 ≠ 7 ∧ 15 ≠ 63 ∧ 15 ≠ 64 by decide)
          refine gw_gRa 15 (hgm.c (r := 1) rfl) (hgm.r (by decide)) ?_
          refine gw_gIw (hgm.c (r := 15) rfl) ?_
          rw [r15]
          refine gw_bL (v_fraction Sb ⟨by omega, by omega⟩) (fun y m' ⟨em, ey⟩ => ?_)
          subst em
          exact gw_some (gq_L ⟨k, ey⟩)
        · have r66 := k.row (show (66 : Nat) ≠ 1 ∧ 66 ≠ 5 ∧ 66 ≠ 6 ∧ 66 ≠ 7 ∧ 66 ≠ 63 ∧ 66 ≠ 64 by decide)
          have hw : MW w sw Q m := ⟨hm.mi, by rw [r66]; exact hmw.2⟩
          have hgm := hm.ci.1
          unfold f_X12_mean
          refine gw_inn (fun _ => ?_) (fun q => absurd hn q)
          refine gw_ji ?_
          refine gw_ite (fun q => absurd q (by decide)) (fun _ => ?_)
          refine gw_inn (fun _ => ?_) (fun q => absurd hb q)
          refine gw_ite (fun q => absurd q (by decide)) (fun _ => ?_)
          refine gw_gRa 66 (hgm.c (r := 65) rfl) (hgm.r (by decide)) ?_
          refine gw_aIw 26 (hgm.t (r := 66) rfl) (hgm.l (r := 66) rfl) l26 (by omega) ?_
          rw [r66, ← sz]
          refine gw_if hc ?_
          refine gw_kept hw (by rw [r66]; exact v2) (n := n) (by omega) (fun m5 m7 g5 k7 h7 kr f7 c7 => ?_)
          rw [r66] at kr f7 c7
          refine gw_if (h7.1.1.t (r := 65) rfl) ?_
          refine gw_bI (w_allHold h7) (fun y m17 ⟨k17, ey⟩ => ?_)
          have h17 := h7.k0 k17
          refine gw_back (m := m17) g5 (k7.trans k17.w01) h17.1 (fun m' q => ?_)
          have hq := hm.qm q
          have e26 : m'.2.1 66 26 = μ.2.1 15 1 := by rw [q.2.2.1 66 (by decide) (by decide) (by decide) (by decide) (by decide) (by decide) (by decide), r66, sz]
          have eS : y = S := by
            rw [ey, hS, c7, f7, ← sz, ← mn]
            refine sm_eq _ (fun j hj => ?_)
            show cHold w Q (kR (m7.2.1 66) j) _ = cHold w Q (cGoN n (kC μ (29 + 2 * j)) _) _
            rw [kr j (by omega), gN_p (by rw [← sz]; exact hj), (h.kk (show j < 5 by omega)).1, mn]
          subst eS
          refine gw_gRa 66 (hq.mi.1.c (r := 65) rfl) (hq.mi.1.r (by decide)) ?_
          refine gw_aIw 26 (hq.mi.1.t (r := 66) rfl) (hq.mi.1.l (r := 66) rfl) l26 (by omega) ?_
          rw [e26]
          refine gw_bL (w_lowest (by rw [Int32.toInt_toInt64]; exact Sb) (by rw [Int32.toInt_toInt64]; omega)) (fun x m'' ⟨em, ex⟩ => ?_)
          subst em
          rw [Int32.toInt_toInt64, Int32.toInt_toInt64] at ex
          exact gw_some (gq_L ⟨q, ex⟩)
    · refine PRL.u h (-9223372036854775808) (gwL_of ?_) (gwL_of ?_)
      · unfold f_X11_mean
        refine gw_out (fun _ => ?_) (fun q => absurd hn q)
        refine gw_j (fun m => m = μ) (fun m em => by rw [em]; exact gw_some (gq_L ⟨rfl, rfl⟩)) (fun j hj => ?_)
        refine gw_ite (fun q => absurd rfl q) (fun _ => ?_)
        refine gw_out (fun q => absurd q hb) (fun _ => ?_)
        exact gw_ite (fun _ => hj _ rfl) (fun q => absurd (by decide) q)
      · unfold f_X12_mean
        refine gw_inn (fun _ => ?_) (fun q => absurd hn q)
        refine gw_j (fun m => m = μ) (fun m em => by rw [em]; exact gw_some (gq_L ⟨qm.refl μ, rfl⟩)) (fun j hj => ?_)
        refine gw_ite (fun q => absurd q (by decide)) (fun _ => ?_)
        refine gw_inn (fun q => absurd q hb) (fun _ => ?_)
        exact gw_ite (fun _ => hj _ rfl) (fun q => absurd rfl q)
  · refine PRL.u h (-9223372036854775808) (gwL_of ?_) (gwL_of ?_)
    · unfold f_X11_mean
      refine gw_out (fun q => absurd q hn) (fun _ => ?_)
      refine gw_j (fun m => m = μ) (fun m em => by rw [em]; exact gw_some (gq_L ⟨rfl, rfl⟩)) (fun j hj => ?_)
      exact gw_ite (fun _ => hj _ rfl) (fun q => absurd (by decide) q)
    · unfold f_X12_mean
      refine gw_inn (fun q => absurd q hn) (fun _ => ?_)
      refine gw_j (fun m => m = μ) (fun m em => by rw [em]; exact gw_some (gq_L ⟨qm.refl μ, rfl⟩)) (fun j hj => ?_)
      exact gw_ite (fun _ => hj _ rfl) (fun q => absurd rfl q)
end
theorem PRL.q {z : Option (Option Value × gm_M)} {g : gm_M → Option (Option Value × gm_M)} (h : PRL z g) : QRL z g := by
  obtain ⟨x, m, e, t, y, m2, e2, _, r⟩ := h
  exact ⟨x, m, e, t, y, m2, e2, r⟩
end
section
/-! swap: one's gum in the other's mouth -/
def gk (K L : Nat → Int32) : Nat → Int32 := kud (kud K 3 (L 3)) 4 (L 4)
theorem kR_sw2 {σ : Nat → Int32} {i j k : Nat} (hi : i < 5) (hj : j < 5) (hk : k < 5) : kR (sw2 i j σ) k = if k = i then gk (kR σ i) (kR σ j) else if k = j then gk (kR σ j) (kR σ i) else kR σ k := by
  have lo : ∀ q : Nat, ¬ (1 ≤ q ∧ q < 11) → sw2 i j σ q = σ q := fun q hq => by
    unfold sw2 sw
    rw [if_neg (by omega), if_neg (by omega), if_neg (by omega), if_neg (by omega)]
  have a3 : sw2 i j σ (1 + k) = if k = i then σ (1 + j) else if k = j then σ (1 + i) else σ (1 + k) := by
    unfold sw2 sw
    rw [if_neg (by omega), if_neg (by omega)]
    by_cases q1 : k = i
    · rw [if_pos (by omega), if_pos q1]
    · rw [if_neg (by omega), if_neg q1]
      by_cases q2 : k = j
      · rw [if_pos (by omega), if_pos q2]
      · rw [if_neg (by omega), if_neg q2]
  have a4 : sw2 i j σ (6 + k) = if k = i then σ (6 + j) else if k = j then σ (6 + i) else σ (6 + k) := by
    unfold sw2 sw
    by_cases q1 : k = i
    · rw [if_pos (by omega), if_pos q1, if_neg (by omega), if_neg (by omega)]
    · rw [if_neg (by omega), if_neg q1]
      by_cases q2 : k = j
      · rw [if_pos (by omega), if_pos q2, if_neg (by omega), if_neg (by omega)]
      · rw [if_neg (by omega), if_neg q2, if_neg (by omega), if_neg (by omega)]
  have r3 : ∀ (τ : Nat → Int32) (c : Nat), kR τ c 3 = τ (1 + c) := fun τ c => by
    unfold kR
    rw [if_neg (by omega), if_neg (by omega), if_neg (by omega), if_pos (by omega)]
  have r4 : ∀ (τ : Nat → Int32) (c : Nat), kR τ c 4 = τ (6 + c) := fun τ c => by
    unfold kR
    rw [if_neg (by omega), if_neg (by omega), if_neg (by omega), if_pos (by omega)]
  have ro : ∀ n : Nat, n ≠ 3 → n ≠ 4 → kR (sw2 i j σ) k n = kR σ k n := fun n n3 n4 => by
    unfold kR
    by_cases h0 : n = 0
    · rw [if_pos h0, if_pos h0]
    · rw [if_neg h0, if_neg h0]
      by_cases h1 : n = 1
      · rw [if_pos h1, if_pos h1, lo _ (by omega)]
      · rw [if_neg h1, if_neg h1]
        by_cases h2 : n = 2
        · rw [if_pos h2, if_pos h2, lo _ (by omega)]
        · rw [if_neg h2, if_neg h2]
          by_cases h8 : n < 8
          · rw [if_pos h8, if_pos h8, lo _ (by omega)]
          · rw [if_neg h8, if_neg h8]
            by_cases h12 : n < 12
            · rw [if_pos h12, if_pos h12, lo _ (by omega)]
            · rw [if_neg h12, if_neg h12]
  funext n
  by_cases h3 : n = 3
  · rw [h3, r3, a3]
    by_cases q1 : k = i
    · rw [if_pos q1, if_pos q1]
      show _ = kR σ j 3
      rw [r3]
    · rw [if_neg q1, if_neg q1]
      by_cases q2 : k = j
      · rw [if_pos q2, if_pos q2]
        show _ = kR σ i 3
        rw [r3]
      · rw [if_neg q2, if_neg q2, r3]
  · by_cases h4 : n = 4
    · rw [h4, r4, a4]
      by_cases q1 : k = i
      · rw [if_pos q1, if_pos q1]
        show _ = kR σ j 4
        rw [r4]
      · rw [if_neg q1, if_neg q1]
        by_cases q2 : k = j
        · rw [if_pos q2, if_pos q2]
          show _ = kR σ i 4
          rw [r4]
        · rw [if_neg q2, if_neg q2, r4]
    · rw [ro n h3 h4]
      have g : ∀ K L : Nat → Int32, gk K L n = K n := fun K L => by
        unfold gk kud
        rw [if_neg h4, if_neg h3]
      by_cases q1 : k = i
      · rw [if_pos q1, g, q1]
      · rw [if_neg q1]
        by_cases q2 : k = j
        · rw [if_pos q2, g, q2]
        · rw [if_neg q2]
section
variable {w : Int32} {Q : List (List Int32 × Int32)} {μ : gm_M} {i j : Nat}
set_option maxHeartbeats 4000000 in
theorem v_gum (h : CW w Q μ) (hi : i < 5) (hj : j < 5) (hr : ∀ k : Nat, k < 5 → RK (kC μ (29 + 2 * k))) (hm : 0 ≤ (μ.2.1 15 0).toInt ∧ (μ.2.1 15 0).toInt ≤ 9999) : gwI (f_X11_holdsWithGumOf 1 (Int32.ofNat i) (Int32.ofNat j) μ) (fun x m => kc μ m ∧ x = cHold w Q (gk (kC μ (29 + 2 * i)) (kC μ (29 + 2 * j))) (μ.2.1 15 0)) := by
  have hg := h.1.1
  refine gwI_of ?_
  unfold f_X11_holdsWithGumOf
  refine gw_gRa 63 (hg.c (r := 1) rfl) (hg.r (by decide)) ?_
  refine gw_kid hg hi ?_
  refine gw_if (ict.t hg (Or.inr rfl)) ?_
  refine gw_bV (v_copy h hi) (fun m5 ⟨k5, e5⟩ => ?_)
  have h5 := h.kc k5
  have g5 := h5.1.1
  have t5 := ict.c g5 (Or.inr rfl)
  have tj := ict.c g5 (ict_c hj)
  have ej : kC m5 (29 + 2 * j) = kC μ (29 + 2 * j) := k5.K hj
  have e3 : m5.2.1 (29 + 2 * j) 3 = kC μ (29 + 2 * j) 3 := (show kC m5 (29 + 2 * j) 3 = _ by rw [ej])
  have e4 : m5.2.1 (29 + 2 * j) 4 = kC μ (29 + 2 * j) 4 := (show kC m5 (29 + 2 * j) 4 = _ by rw [ej])
  have r15 : m5.2.1 15 = μ.2.1 15 := k5.row (show (15 : Nat) ≠ 1 ∧ 15 ≠ 5 ∧ 15 ≠ 6 ∧ 15 ≠ 7 ∧ 15 ≠ 63 ∧ 15 ≠ 64 by decide)
  refine gw_gRa 63 (g5.c (r := 1) rfl) (g5.r (by decide)) ?_
  refine gw_kid g5 hj ?_
  refine gw_gIw tj ?_
  refine gw_pIw t5 ?_
  rw [e3]
  have h12 := h5.ch (Or.inr rfl) (j := 3) (by decide) (kC μ (29 + 2 * j) 3)
  have k12 : kc μ (wI m5 63 3 (kC μ (29 + 2 * j) 3)) := k5.ch ((chg.refl 63 m5).w rfl (by decide))
  have c12 : kC (wI m5 63 3 (kC μ (29 + 2 * j) 3)) 63 = kud (kC μ (29 + 2 * i)) 3 (kC μ (29 + 2 * j) 3) := by rw [kC_w (by decide) (by decide), e5]
  have f4 : (wI m5 63 3 (kC μ (29 + 2 * j) 3)).2.1 (29 + 2 * j) 4 = kC μ (29 + 2 * j) 4 := by rw [wI_o _ _ _ _ (by omega)]; exact e4
  have z12 : (wI m5 63 3 (kC μ (29 + 2 * j) 3)).2.1 15 = μ.2.1 15 := by rw [wI_o _ _ _ _ (by decide), r15]
  generalize wI m5 63 3 (kC μ (29 + 2 * j) 3) = m12 at *
  have g12 := h12.1.1
  refine gw_gRa 63 (g12.c (r := 1) rfl) (g12.r (by decide)) ?_
  refine gw_kid g12 hj ?_
  refine gw_gIw (ict.c g12 (ict_c hj)) ?_
  rw [f4]
  refine gw_pIw (ict.c g12 (Or.inr rfl)) ?_
  have h18 := h12.ch (Or.inr rfl) (j := 4) (by decide) (kC μ (29 + 2 * j) 4)
  have k18 : kc μ (wI m12 63 4 (kC μ (29 + 2 * j) 4)) := k12.ch ((chg.refl 63 m12).w rfl (by decide))
  have c18 : kC (wI m12 63 4 (kC μ (29 + 2 * j) 4)) 63 = gk (kC μ (29 + 2 * i)) (kC μ (29 + 2 * j)) := by rw [kC_w (by decide) (by decide), c12]; rfl
  have z18 : (wI m12 63 4 (kC μ (29 + 2 * j) 4)).2.1 15 = μ.2.1 15 := by rw [wI_o _ _ _ _ (by decide), z12]
  generalize wI m12 63 4 (kC μ (29 + 2 * j) 4) = m18 at *
  have hrj := hr j hj
  have rk : RK (gk (kC μ (29 + 2 * i)) (kC μ (29 + 2 * j))) := by
    unfold gk
    exact ((hr i hi).u (j := 3) (Or.inr (Or.inl ⟨rfl, hrj.1.2.2⟩))).u (j := 4) (Or.inr (Or.inr (Or.inl ⟨rfl, hrj.2.1.1⟩)))
  refine gw_if (h18.1.1.t (r := 1) rfl) ?_
  refine gw_bI (v_trial h18 (by rw [c18]; exact rk) (by rw [z18]; exact hm) (n := 0) (by omega)) (fun x m ⟨k, ex, _⟩ => ?_)
  rw [c18, z18, add0] at ex
  exact gw_some (gq_I ⟨k18.trans k, ex⟩)
end
def si (H : Nat → Int32) : Nat → Int
  | 0 => 0
  | n + 1 => si H n + (H n).toInt
theorem sm_si {H : Nat → Int32} : ∀ n : Nat, n ≤ 5 → (∀ k : Nat, k < n → 0 ≤ (H k).toInt ∧ (H k).toInt ≤ 59400) → (sm H n).toInt = si H n
  | 0, _, _ => rfl
  | n + 1, hn, h => by
    have a := sm_b n (by omega) (fun k hk => h k (by omega))
    have b := h n (by omega)
    show (sm H n + H n).toInt = si H n + (H n).toInt
    rw [gx_add (by omega) (by omega), sm_si n (by omega) (fun k hk => h k (by omega))]
theorem si_up {H : Nat → Int32} {i : Nat} {X : Int32} : ∀ n : Nat, si (fun k => if k = i then X else H k) n = si H n + if i < n then X.toInt - (H i).toInt else 0
  | 0 => by rw [if_neg (Nat.not_lt_zero i)]; rfl
  | n + 1 => by
    show si (fun k => if k = i then X else H k) n + (if n = i then X else H n).toInt = (si H n + (H n).toInt) + _
    rw [si_up n]
    by_cases q : n = i
    · rw [if_pos q, if_neg (show ¬ i < n by omega), if_pos (show i < n + 1 by omega), q]; omega
    · rw [if_neg q]
      by_cases q2 : i < n
      · rw [if_pos q2, if_pos (show i < n + 1 by omega)]; omega
      · rw [if_neg q2, if_neg (show ¬ i < n + 1 by omega)]; omega
/-- pairs in their order; the best so far and which -/
def up (g : Nat → Nat → Int) (i j : Nat) (s : Int × Int32) : Int × Int32 := if g i j ≤ s.1 then s else (g i j, 10 * Int32.ofNat i + Int32.ofNat j)
def inn (g : Nat → Nat → Int) (i : Nat) : Nat → Int × Int32 → Int × Int32
  | 0, s => s
  | k + 1, s => up g i (i + 1 + k) (inn g i k s)
def ou (g : Nat → Nat → Int) (n : Nat) : Nat → Int × Int32
  | 0 => (0, -5)
  | i + 1 => inn g i (n - (i + 1)) (ou g n i)
theorem inn_s {g : Nat → Nat → Int} {i j : Nat} {s : Int × Int32} (h : i + 1 ≤ j) : inn g i (j + 1 - (i + 1)) s = up g i j (inn g i (j - (i + 1)) s) := by
  obtain ⟨k, rfl⟩ : ∃ k : Nat, j = i + 1 + k := ⟨j - (i + 1), by omega⟩
  rw [show i + 1 + k + 1 - (i + 1) = k + 1 by omega, show i + 1 + k - (i + 1) = k by omega]
  rfl
section
variable {w ss : Int32} {Q : List (List Int32 × Int32)} {μ : gm_M}
set_option maxHeartbeats 8000000 in
theorem v_swap (h : CW w Q μ) (hr : ∀ k : Nat, k < 5 → RK (kC μ (29 + 2 * k))) (hm : 0 ≤ (μ.2.1 15 0).toInt ∧ (μ.2.1 15 0).toInt ≤ 9999) (hw : 0 ≤ w.toInt ∧ w.toInt ≤ 99) {g : Nat → Nat → Int} (hG : g = fun i j => (cHold w Q (gk (kC μ (29 + 2 * i)) (kC μ (29 + 2 * j))) (μ.2.1 15 0)).toInt + (cHold w Q (gk (kC μ (29 + 2 * j)) (kC μ (29 + 2 * i))) (μ.2.1 15 0)).toInt - (cHold w Q (kC μ (29 + 2 * i)) (μ.2.1 15 0)).toInt - (cHold w Q (kC μ (29 + 2 * j)) (μ.2.1 15 0)).toInt) {n : Nat} (hn : (μ.2.1 15 1).toInt = n) : gwI (f_X11_swap 1 μ) (fun x m => kc μ m ∧ x = (ou g n n).2) := by
  have l0 : (0 : Int32).toInt = 0 := rfl
  have l1 : (1 : Int32).toInt = 1 := rfl
  have l10 : (10 : Int32).toInt = 10 := rfl
  have n1 := h.1.n1
  have hb : ∀ K : Nat → Int32, RK K → 0 ≤ (cHold w Q K (μ.2.1 15 0)).toInt ∧ (cHold w Q K (μ.2.1 15 0)).toInt ≤ 59400 := fun K hK => cHold_b hK h.2.2.1.1 h.2.2.1.2.1 hw _
  have rg : ∀ i j : Nat, i < 5 → j < 5 → RK (gk (kC μ (29 + 2 * i)) (kC μ (29 + 2 * j))) := fun i j hi hj => by
    have hrj := hr j hj
    unfold gk
    exact ((hr i hi).u (j := 3) (Or.inr (Or.inl ⟨rfl, hrj.1.2.2⟩))).u (j := 4) (Or.inr (Or.inr (Or.inl ⟨rfl, hrj.2.1.1⟩)))
  refine gwI_of ?_
  unfold f_X11_swap
  refine gw_loop (fun s => kc μ s.2.2.2 ∧ (0 ≤ s.2.2.1.toInt ∧ s.2.2.1.toInt ≤ (n : Int)) ∧ (s.1.toInt, s.2.1) = ou g n s.2.2.1.toInt.toNat) (fun s => 100 - s.2.2.1.toInt) (fun s ⟨k2, p1, p2⟩ => ?_) 5000 ((0 : Int32), (-5 : Int32), (0 : Int32), μ) ⟨kc.refl μ, ⟨by show 0 ≤ (0 : Int32).toInt; omega, by show (0 : Int32).toInt ≤ (n : Int); omega⟩, rfl⟩ (by show 100 - (0 : Int32).toInt < ((5000 : Nat) : Int); omega) (by show 0 ≤ 100 - (0 : Int32).toInt; omega)
  obtain ⟨i, hi, ei⟩ : ∃ i : Nat, i ≤ n ∧ s.2.2.1 = Int32.ofNat i := ⟨s.2.2.1.toInt.toNat, by omega, (gx_of p1.1).symm⟩
  have oi := ofn (k := i) (by omega)
  have hS : s.2.2.1.toInt = i := by rw [ei]; exact oi
  rw [show s.2.2.1.toInt.toNat = i by omega] at p2
  have hw2 := h.kc k2
  have hgs := hw2.1.1
  have r15 := k2.row (show (15 : Nat) ≠ 1 ∧ 15 ≠ 5 ∧ 15 ≠ 6 ∧ 15 ≠ 7 ∧ 15 ≠ 63 ∧ 15 ≠ 64 by decide)
  refine gw_gRa 15 (hgs.c (r := 1) rfl) (hgs.r (by decide)) ?_
  refine gw_gIw (hgs.c (r := 15) rfl) ?_
  rw [r15]
  refine gw_le (fun q => ?_) (fun q => ?_)
  · refine gw_some (gs_inr (gq_I ⟨k2, ?_⟩))
    have e : i = n := by omega
    subst e
    rw [← p2]
  · rw [ei]
    have ni : (Int32.ofNat i + (1 : Int32)).toInt = (Int32.ofNat i).toInt + (1 : Int32).toInt := gx_add (by omega) (by omega)
    refine gw_loop (fun t => kc μ t.2.2.2 ∧ ((i : Int) + 1 ≤ t.2.2.1.toInt ∧ t.2.2.1.toInt ≤ (n : Int)) ∧ (t.1.toInt, t.2.1) = inn g i (t.2.2.1.toInt.toNat - (i + 1)) (ou g n i)) (fun t => 100 - t.2.2.1.toInt) (fun t ⟨k4, p4, p5⟩ => ?_) 5000 (s.1, s.2.1, (Int32.ofNat i + (1 : Int32)), s.2.2.2) ⟨k2, ⟨by show (i : Int) + 1 ≤ (Int32.ofNat i + (1 : Int32)).toInt; omega, by show (Int32.ofNat i + (1 : Int32)).toInt ≤ (n : Int); omega⟩, by
      show (s.1.toInt, s.2.1) = inn g i ((Int32.ofNat i + (1 : Int32)).toInt.toNat - (i + 1)) (ou g n i)
      rw [show (Int32.ofNat i + (1 : Int32)).toInt.toNat - (i + 1) = 0 by omega]
      exact p2⟩ (by show 100 - (Int32.ofNat i + (1 : Int32)).toInt < ((5000 : Nat) : Int); omega) (by show 0 ≤ 100 - (Int32.ofNat i + (1 : Int32)).toInt; omega)
    obtain ⟨j, hj, ej⟩ : ∃ j : Nat, j ≤ n ∧ t.2.2.1 = Int32.ofNat j := ⟨t.2.2.1.toInt.toNat, by omega, (gx_of (by omega)).symm⟩
    have oj := ofn (k := j) (by omega)
    have hT : t.2.2.1.toInt = j := by rw [ej]; exact oj
    rw [show t.2.2.1.toInt.toNat = j by omega] at p5
    have hw4 := h.kc k4
    have hg4 := hw4.1.1
    have r15 := k4.row (show (15 : Nat) ≠ 1 ∧ 15 ≠ 5 ∧ 15 ≠ 6 ∧ 15 ≠ 7 ∧ 15 ≠ 63 ∧ 15 ≠ 64 by decide)
    refine gw_gRa 15 (hg4.c (r := 1) rfl) (hg4.r (by decide)) ?_
    refine gw_gIw (hg4.c (r := 15) rfl) ?_
    rw [r15]
    refine gw_le (fun q2 => ?_) (fun q2 => ?_)
    · refine gw_some (gs_inr (gs_inl ⟨k4, ⟨by show 0 ≤ (Int32.ofNat i + (1 : Int32)).toInt; omega, by show (Int32.ofNat i + (1 : Int32)).toInt ≤ (n : Int); omega⟩, ?_⟩ (by show 100 - (Int32.ofNat i + (1 : Int32)).toInt < 100 - s.2.2.1.toInt; omega) (by show 0 ≤ 100 - (Int32.ofNat i + (1 : Int32)).toInt; omega)))
      show (t.1.toInt, t.2.1) = ou g n (Int32.ofNat i + (1 : Int32)).toInt.toNat
      rw [show (Int32.ofNat i + (1 : Int32)).toInt.toNat = i + 1 by omega, p5, show j = n by omega]
      rfl
    · rw [ej]
      have i5 : i < 5 := by omega
      have j5 : j < 5 := by omega
      refine gw_if (hg4.t (r := 1) rfl) ?_
      refine gw_bI (v_gum hw4 i5 j5 (fun k hk => by rw [k4.K hk]; exact hr k hk) (by rw [r15]; exact hm)) (fun x8 m7 ⟨k7, e8⟩ => ?_)
      rw [k4.K i5, k4.K j5, r15] at e8
      have kk7 := k4.trans k7
      have h7 := h.kc kk7
      have s15 := kk7.row (show (15 : Nat) ≠ 1 ∧ 15 ≠ 5 ∧ 15 ≠ 6 ∧ 15 ≠ 7 ∧ 15 ≠ 63 ∧ 15 ≠ 64 by decide)
      refine gw_if (h7.1.1.t (r := 1) rfl) ?_
      refine gw_bI (v_gum h7 j5 i5 (fun k hk => by rw [kk7.K hk]; exact hr k hk) (by rw [s15]; exact hm)) (fun x10 m9 ⟨k9, e10⟩ => ?_)
      rw [kk7.K i5, kk7.K j5, s15] at e10
      have kk9 := kk7.trans k9
      have h9 := h.kc kk9
      have t15 := kk9.row (show (15 : Nat) ≠ 1 ∧ 15 ≠ 5 ∧ 15 ≠ 6 ∧ 15 ≠ 7 ∧ 15 ≠ 63 ∧ 15 ≠ 64 by decide)
      refine gw_if (h9.1.1.t (r := 1) rfl) ?_
      refine gw_bI (v_holdsNow h9 i5) (fun x12 m11 ⟨e12, em⟩ => ?_)
      rw [em]
      rw [kk9.K i5, t15] at e12
      refine gw_if (h9.1.1.t (r := 1) rfl) ?_
      refine gw_bI (v_holdsNow h9 j5) (fun x14 m13 ⟨e14, em'⟩ => ?_)
      rw [em']
      rw [kk9.K j5, t15] at e14
      have b8 := hb _ (rg i j i5 j5)
      have b10 := hb _ (rg j i j5 i5)
      have b12 := hb _ (hr i i5)
      have b14 := hb _ (hr j j5)
      rw [← e8] at b8
      rw [← e10] at b10
      rw [← e12] at b12
      rw [← e14] at b14
      have v1 : (x8 + x10).toInt = x8.toInt + x10.toInt := gx_add (by omega) (by omega)
      have v2 : (x8 + x10 - x12).toInt = (x8 + x10).toInt - x12.toInt := gx_sub (by omega) (by omega)
      have v3 : (x8 + x10 - x12 - x14).toInt = (x8 + x10 - x12).toInt - x14.toInt := gx_sub (by omega) (by omega)
      have gv : (x8 + x10 - x12 - x14).toInt = g i j := by
        rw [v3, v2, v1, hG, e8, e10, e12, e14]
      have st := inn_s (g := g) (s := ou g n i) (show i + 1 ≤ j by omega)
      rw [← p5] at st
      have nx : (Int32.ofNat j + (1 : Int32)).toInt = (Int32.ofNat j).toInt + (1 : Int32).toInt := gx_add (by omega) (by omega)
      refine gw_j (fun q => (q.1.toInt, q.2) = inn g i (j + 1 - (i + 1)) (ou g n i)) (fun q eq => ?_) (fun jj hjj => ?_)
      · refine gw_some (gs_inl ⟨kk9, ⟨by show (i : Int) + 1 ≤ (Int32.ofNat j + (1 : Int32)).toInt; omega, by show (Int32.ofNat j + (1 : Int32)).toInt ≤ (n : Int); omega⟩, ?_⟩ (by show 100 - (Int32.ofNat j + (1 : Int32)).toInt < 100 - t.2.2.1.toInt; omega) (by show 0 ≤ 100 - (Int32.ofNat j + (1 : Int32)).toInt; omega))
        show (q.1.toInt, q.2) = inn g i ((Int32.ofNat j + (1 : Int32)).toInt.toNat - (i + 1)) (ou g n i)
        rw [show (Int32.ofNat j + (1 : Int32)).toInt.toNat = j + 1 by omega]
        exact eq
      · refine gw_le (fun q3 => hjj _ ?_) (fun q3 => hjj _ ?_)
        · rw [st, up, if_pos (by rw [← gv]; exact q3)]
        · rw [st, up, if_neg (by rw [← gv]; omega), gv]
end
end
section
/-! swap: the reference's side -/
theorem sw2_lo {σ : Nat → Int32} {i j q : Nat} (hi : i < 5) (hj : j < 5) (hq : ¬ (1 ≤ q ∧ q < 11)) : sw2 i j σ q = σ q := by
  unfold sw2 sw
  rw [if_neg (by omega), if_neg (by omega), if_neg (by omega), if_neg (by omega)]
section
variable {w ss : Int32} {Q : List (List Int32 × Int32)} {μ : gm_M}
set_option maxHeartbeats 8000000 in
theorem w_swap (h : MW w ss Q μ) (hr : ∀ k : Nat, k < 5 → RK (kR (μ.2.1 66) k)) (hb : ∀ K : Nat → Int32, RK K → 0 ≤ (cHold w Q K (μ.2.1 66 0)).toInt ∧ (cHold w Q K (μ.2.1 66 0)).toInt ≤ 59400) {g : Nat → Nat → Int} (hG : g = fun i j => (cHold w Q (gk (kR (μ.2.1 66) i) (kR (μ.2.1 66) j)) (μ.2.1 66 0)).toInt + (cHold w Q (gk (kR (μ.2.1 66) j) (kR (μ.2.1 66) i)) (μ.2.1 66 0)).toInt - (cHold w Q (kR (μ.2.1 66) i) (μ.2.1 66 0)).toInt - (cHold w Q (kR (μ.2.1 66) j) (μ.2.1 66 0)).toInt) {n : Nat} (hn : (μ.2.1 66 26).toInt = n) : gwI (f_X12_swap 65 μ) (fun x m => qm μ m ∧ x = (ou g n n).2) := by
  have l0 : (0 : Int32).toInt = 0 := rfl
  have l1 : (1 : Int32).toInt = 1 := rfl
  have l26 : (26 : Int32).toInt = 26 := rfl
  have n1 := h.1.n26
  obtain ⟨H, hH⟩ : ∃ H : Nat → Int32, H = fun k => cHold w Q (kR (μ.2.1 66) k) (μ.2.1 66 0) := ⟨_, rfl⟩
  have Hb : ∀ k : Nat, k < 5 → 0 ≤ (H k).toInt ∧ (H k).toInt ≤ 59400 := fun k hk => by rw [hH]; exact hb _ (hr k hk)
  have toN : (μ.2.1 66 26).toInt.toNat = n := by omega
  have rg : ∀ i j : Nat, i < 5 → j < 5 → RK (gk (kR (μ.2.1 66) i) (kR (μ.2.1 66) j)) := fun i j hi hj => by
    have hrj := hr j hj
    unfold gk
    exact ((hr i hi).u (j := 3) (Or.inr (Or.inl ⟨rfl, hrj.1.2.2⟩))).u (j := 4) (Or.inr (Or.inr (Or.inl ⟨rfl, hrj.2.1.1⟩)))
  refine gwI_of ?_
  unfold f_X12_swap
  refine gw_if (h.1.1.t (r := 65) rfl) ?_
  refine gw_bI (w_allHold h) (fun x2 m1 ⟨k1, e1⟩ => ?_)
  rw [← hH, toN] at e1
  have S1 : x2.toInt = si H n := by rw [e1]; exact sm_si n (by omega) (fun k hk => Hb k (by omega))
  refine gw_loop (fun s => km A1 μ s.2.2.2 ∧ s.2.2.2.2.1 66 = μ.2.1 66 ∧ (0 ≤ s.2.2.1.toInt ∧ s.2.2.1.toInt ≤ (n : Int)) ∧ (s.2.1.toInt - si H n, s.1) = ou g n s.2.2.1.toInt.toNat) (fun s => 100 - s.2.2.1.toInt) (fun s ⟨k2, f2, p1, p2⟩ => ?_) 5000 ((-5 : Int32), x2, (0 : Int32), m1) ⟨k1.w01, k1.row, ⟨by show 0 ≤ (0 : Int32).toInt; omega, by show (0 : Int32).toInt ≤ (n : Int); omega⟩, by show (x2.toInt - si H n, (-5 : Int32)) = ou g n 0; rw [S1, Int.sub_self]; rfl⟩ (by show 100 - (0 : Int32).toInt < ((5000 : Nat) : Int); omega) (by show 0 ≤ 100 - (0 : Int32).toInt; omega)
  obtain ⟨i, hi, ei⟩ : ∃ i : Nat, i ≤ n ∧ s.2.2.1 = Int32.ofNat i := ⟨s.2.2.1.toInt.toNat, by omega, (gx_of p1.1).symm⟩
  have oi := ofn (k := i) (by omega)
  have hS : s.2.2.1.toInt = i := by rw [ei]; exact oi
  rw [show s.2.2.1.toInt.toNat = i by omega] at p2
  have hs := h.k1 k2
  have hgs := hs.1.1
  refine gw_gRa 66 (hgs.c (r := 65) rfl) (hgs.r (by decide)) ?_
  refine gw_aIw 26 (hgs.t (r := 66) rfl) (hgs.l (r := 66) rfl) l26 (by omega) ?_
  rw [f2]
  refine gw_le (fun q => ?_) (fun q => ?_)
  · refine gw_some (gs_inr (gq_I ⟨qm.of0 (km.s66 k2 f2), ?_⟩))
    have e : i = n := by omega
    subst e
    rw [← p2]
  · rw [ei]
    have ni : (Int32.ofNat i + (1 : Int32)).toInt = (Int32.ofNat i).toInt + (1 : Int32).toInt := gx_add (by omega) (by omega)
    refine gw_loop (fun t => km A1 μ t.2.2.2 ∧ t.2.2.2.2.1 66 = μ.2.1 66 ∧ ((i : Int) + 1 ≤ t.2.2.1.toInt ∧ t.2.2.1.toInt ≤ (n : Int)) ∧ (t.2.1.toInt - si H n, t.1) = inn g i (t.2.2.1.toInt.toNat - (i + 1)) (ou g n i)) (fun t => 100 - t.2.2.1.toInt) (fun t ⟨k4, f4, p4, p5⟩ => ?_) 5000 (s.1, s.2.1, (Int32.ofNat i + (1 : Int32)), s.2.2.2) ⟨k2, f2, ⟨by show (i : Int) + 1 ≤ (Int32.ofNat i + (1 : Int32)).toInt; omega, by show (Int32.ofNat i + (1 : Int32)).toInt ≤ (n : Int); omega⟩, by
      show (s.2.1.toInt - si H n, s.1) = inn g i ((Int32.ofNat i + (1 : Int32)).toInt.toNat - (i + 1)) (ou g n i)
      rw [show (Int32.ofNat i + (1 : Int32)).toInt.toNat - (i + 1) = 0 by omega]
      exact p2⟩ (by show 100 - (Int32.ofNat i + (1 : Int32)).toInt < ((5000 : Nat) : Int); omega) (by show 0 ≤ 100 - (Int32.ofNat i + (1 : Int32)).toInt; omega)
    obtain ⟨j, hj, ej⟩ : ∃ j : Nat, j ≤ n ∧ t.2.2.1 = Int32.ofNat j := ⟨t.2.2.1.toInt.toNat, by omega, (gx_of (by omega)).symm⟩
    have oj := ofn (k := j) (by omega)
    have hT : t.2.2.1.toInt = j := by rw [ej]; exact oj
    rw [show t.2.2.1.toInt.toNat = j by omega] at p5
    have h4 := h.k1 k4
    have hg4 := h4.1.1
    refine gw_gRa 66 (hg4.c (r := 65) rfl) (hg4.r (by decide)) ?_
    refine gw_aIw 26 (hg4.t (r := 66) rfl) (hg4.l (r := 66) rfl) l26 (by omega) ?_
    rw [f4]
    refine gw_le (fun q2 => ?_) (fun q2 => ?_)
    · refine gw_some (gs_inr (gs_inl ⟨k4, f4, ⟨by show 0 ≤ (Int32.ofNat i + (1 : Int32)).toInt; omega, by show (Int32.ofNat i + (1 : Int32)).toInt ≤ (n : Int); omega⟩, ?_⟩ (by show 100 - (Int32.ofNat i + (1 : Int32)).toInt < 100 - s.2.2.1.toInt; omega) (by show 0 ≤ 100 - (Int32.ofNat i + (1 : Int32)).toInt; omega)))
      show (t.2.1.toInt - si H n, t.1) = ou g n (Int32.ofNat i + (1 : Int32)).toInt.toNat
      rw [show (Int32.ofNat i + (1 : Int32)).toInt.toNat = i + 1 by omega, p5, show j = n by omega]
      rfl
    · rw [ej]
      have i5 : i < 5 := by omega
      have j5 : j < 5 := by omega
      have ti : (Int32.ofNat i).toInt.toNat = i := by omega
      have tj : (Int32.ofNat j).toInt.toNat = j := by omega
      have inv := sw2_sw2 (a := Int32.ofNat i) (b := Int32.ofNat j) (by omega) (by omega) (μ.2.1 66)
      rw [ti, tj] at inv
      refine gw_if (hg4.t (r := 65) rfl) ?_
      refine gw_bV (s_X12_swaps h4.1 (a1 := Int32.ofNat i) (a2 := Int32.ofNat j) (by omega) (by omega)) (fun m9 ⟨k9, e9⟩ => ?_)
      rw [ti, tj, f4] at e9
      have kk9 := k4.trans k9
      have h9 := h.k1 kk9
      have r26 : m9.2.1 66 26 = μ.2.1 66 26 := by rw [e9, sw2_lo i5 j5 (by omega)]
      have r0 : m9.2.1 66 0 = μ.2.1 66 0 := by rw [e9, sw2_lo i5 j5 (by omega)]
      refine gw_if (h9.1.1.t (r := 65) rfl) ?_
      refine gw_bI (w_allHold h9) (fun x12 m11 ⟨k11, e11⟩ => ?_)
      rw [r26, r0, toN] at e11
      obtain ⟨X, hX⟩ : ∃ X : Int32, X = cHold w Q (gk (kR (μ.2.1 66) i) (kR (μ.2.1 66) j)) (μ.2.1 66 0) := ⟨_, rfl⟩
      obtain ⟨Y, hY⟩ : ∃ Y : Int32, Y = cHold w Q (gk (kR (μ.2.1 66) j) (kR (μ.2.1 66) i)) (μ.2.1 66 0) := ⟨_, rfl⟩
      have bX : 0 ≤ X.toInt ∧ X.toInt ≤ 59400 := by rw [hX]; exact hb _ (rg i j i5 j5)
      have bY : 0 ≤ Y.toInt ∧ Y.toInt ≤ 59400 := by rw [hY]; exact hb _ (rg j i j5 i5)
      have Hi : cHold w Q (kR (μ.2.1 66) i) (μ.2.1 66 0) = H i := by rw [hH]
      have Hj : cHold w Q (kR (μ.2.1 66) j) (μ.2.1 66 0) = H j := by rw [hH]
      have e12 : x12 = sm (fun k => if k = i then X else if k = j then Y else H k) n := by
        rw [e11]
        refine sm_eq n (fun k hk => ?_)
        show cHold w Q (kR (m9.2.1 66) k) (μ.2.1 66 0) = if k = i then X else if k = j then Y else H k
        rw [e9, kR_sw2 i5 j5 (show k < 5 by omega)]
        by_cases q1 : k = i
        · rw [if_pos q1, if_pos q1, hX]
        · rw [if_neg q1, if_neg q1]
          by_cases q2 : k = j
          · rw [if_pos q2, if_pos q2, hY]
          · rw [if_neg q2, if_neg q2, hH]
      have sa : si (fun k => if k = i then X else if k = j then Y else H k) n = si (fun k => if k = j then Y else H k) n + (if i < n then X.toInt - (if i = j then Y else H i).toInt else 0) := si_up (H := fun k => if k = j then Y else H k) n
      have sb : si (fun k => if k = j then Y else H k) n = si H n + (if j < n then Y.toInt - (H j).toInt else 0) := si_up n
      rw [if_pos (show i < n by omega), if_neg (show ¬ i = j by omega)] at sa
      rw [if_pos (show j < n by omega)] at sb
      have S12 : x12.toInt = si H n + (Y.toInt - (H j).toInt) + (X.toInt - (H i).toInt) := by
        rw [e12, sm_si n (by omega) (fun k hk => ?_), sa, sb]
        show 0 ≤ (if k = i then X else if k = j then Y else H k).toInt ∧ (if k = i then X else if k = j then Y else H k).toInt ≤ 59400
        by_cases q1 : k = i
        · rw [if_pos q1]; exact bX
        · rw [if_neg q1]
          by_cases q2 : k = j
          · rw [if_pos q2]; exact bY
          · rw [if_neg q2]; exact Hb k (by omega)
      have gv : x12.toInt - si H n = g i j := by
        rw [hG]
        show _ = (cHold w Q (gk (kR (μ.2.1 66) i) (kR (μ.2.1 66) j)) (μ.2.1 66 0)).toInt + (cHold w Q (gk (kR (μ.2.1 66) j) (kR (μ.2.1 66) i)) (μ.2.1 66 0)).toInt - (cHold w Q (kR (μ.2.1 66) i) (μ.2.1 66 0)).toInt - (cHold w Q (kR (μ.2.1 66) j) (μ.2.1 66 0)).toInt
        rw [← hX, ← hY, Hi, Hj, S12]
        omega
      have kk11 := kk9.trans k11.w01
      have h11 := h.k1 kk11
      refine gw_if (h11.1.1.t (r := 65) rfl) ?_
      refine gw_bV (s_X12_swaps h11.1 (a1 := Int32.ofNat i) (a2 := Int32.ofNat j) (by omega) (by omega)) (fun m13 ⟨k13, e13⟩ => ?_)
      rw [ti, tj, k11.row, e9, inv] at e13
      have kk13 := kk11.trans k13
      have st := inn_s (g := g) (s := ou g n i) (show i + 1 ≤ j by omega)
      rw [← p5] at st
      have st2 : inn g i (j + 1 - (i + 1)) (ou g n i) = if g i j ≤ t.2.1.toInt - si H n then (t.2.1.toInt - si H n, t.1) else (g i j, 10 * Int32.ofNat i + Int32.ofNat j) := st
      have nx : (Int32.ofNat j + (1 : Int32)).toInt = (Int32.ofNat j).toInt + (1 : Int32).toInt := gx_add (by omega) (by omega)
      refine gw_j (fun q => q = (inn g i (j + 1 - (i + 1)) (ou g n i)).2) (fun q eq => ?_) (fun jj hjj => ?_)
      · refine gw_j (fun q => q.toInt - si H n = (inn g i (j + 1 - (i + 1)) (ou g n i)).1) (fun q1 eq1 => ?_) (fun jj hjj => ?_)
        · refine gw_some (gs_inl ⟨kk13, e13, ⟨by show (i : Int) + 1 ≤ (Int32.ofNat j + (1 : Int32)).toInt; omega, by show (Int32.ofNat j + (1 : Int32)).toInt ≤ (n : Int); omega⟩, ?_⟩ (by show 100 - (Int32.ofNat j + (1 : Int32)).toInt < 100 - t.2.2.1.toInt; omega) (by show 0 ≤ 100 - (Int32.ofNat j + (1 : Int32)).toInt; omega))
          show (q1.toInt - si H n, q) = inn g i ((Int32.ofNat j + (1 : Int32)).toInt.toNat - (i + 1)) (ou g n i)
          rw [show (Int32.ofNat j + (1 : Int32)).toInt.toNat = j + 1 by omega, eq1, eq]
        · refine gw_le (fun q3 => hjj _ ?_) (fun q3 => hjj _ ?_)
          · rw [st2, if_pos (by omega)]
          · rw [st2, if_neg (by omega)]; exact gv
      · refine gw_le (fun q3 => hjj _ ?_) (fun q3 => hjj _ ?_)
        · rw [st2, if_pos (by omega)]
        · rw [st2, if_neg (by omega)]
theorem N_swap (h : REL μ) : PR (f_X11_swap 1 μ) (f_X12_swap 65) := by
  obtain ⟨w, ss, Q, ⟨hcw, hmw, -, -⟩, hw, -⟩ := h.ex
  have v2 := h.vs.2.1
  have n1 := h.ci.n1
  have mn := h.mn
  obtain ⟨n, hn⟩ : ∃ n : Nat, (μ.2.1 15 1).toInt = n := ⟨(μ.2.1 15 1).toInt.toNat, by omega⟩
  have hb : ∀ K : Nat → Int32, RK K → 0 ≤ (cHold w Q K (μ.2.1 66 0)).toInt ∧ (cHold w Q K (μ.2.1 66 0)).toInt ≤ 59400 := fun K hK => cHold_b hK hcw.2.2.1.1 hcw.2.2.1.2.1 hw _
  obtain ⟨g, hG⟩ : ∃ g : Nat → Nat → Int, g = fun i j => (cHold w Q (gk (kR (μ.2.1 66) i) (kR (μ.2.1 66) j)) (μ.2.1 66 0)).toInt + (cHold w Q (gk (kR (μ.2.1 66) j) (kR (μ.2.1 66) i)) (μ.2.1 66 0)).toInt - (cHold w Q (kR (μ.2.1 66) i) (μ.2.1 66 0)).toInt - (cHold w Q (kR (μ.2.1 66) j) (μ.2.1 66 0)).toInt := ⟨_, rfl⟩
  obtain ⟨G, hC⟩ : ∃ g : Nat → Nat → Int, g = fun i j => (cHold w Q (gk (kC μ (29 + 2 * i)) (kC μ (29 + 2 * j))) (μ.2.1 15 0)).toInt + (cHold w Q (gk (kC μ (29 + 2 * j)) (kC μ (29 + 2 * i))) (μ.2.1 15 0)).toInt - (cHold w Q (kC μ (29 + 2 * i)) (μ.2.1 15 0)).toInt - (cHold w Q (kC μ (29 + 2 * j)) (μ.2.1 15 0)).toInt := ⟨_, rfl⟩
  have gg : ∀ i j : Nat, i < 5 → j < 5 → G i j = g i j := fun i j hi hj => by
    rw [hC, hG]
    show (cHold w Q (gk (kC μ (29 + 2 * i)) (kC μ (29 + 2 * j))) (μ.2.1 15 0)).toInt + (cHold w Q (gk (kC μ (29 + 2 * j)) (kC μ (29 + 2 * i))) (μ.2.1 15 0)).toInt - (cHold w Q (kC μ (29 + 2 * i)) (μ.2.1 15 0)).toInt - (cHold w Q (kC μ (29 + 2 * j)) (μ.2.1 15 0)).toInt = _
    rw [(h.kk hi).1, (h.kk hj).1, mn]
  have ii : ∀ (i k : Nat) (s : Int × Int32), i + 1 + k ≤ 5 → inn G i k s = inn g i k s := fun i k => by
    induction k with
    | zero => exact fun s _ => rfl
    | succ k ih =>
      intro s hk
      show up G i (i + 1 + k) (inn G i k s) = up g i (i + 1 + k) (inn g i k s)
      rw [ih s (by omega)]
      unfold up
      rw [gg i (i + 1 + k) (by omega) (by omega)]
  have oo : ∀ i : Nat, i ≤ n → ou G n i = ou g n i := fun i => by
    induction i with
    | zero => exact fun _ => rfl
    | succ i ih =>
      intro hi
      show inn G i (n - (i + 1)) (ou G n i) = inn g i (n - (i + 1)) (ou g n i)
      rw [ih (by omega), ii i _ _ (by omega)]
  refine PR.v h (ou g n n).2 ?_ (fun m hm k => ?_)
  · refine gwI_mono (v_swap hcw (fun k hk => h.row hk) (by rw [mn]; exact v2) hw hC hn) (fun x m ⟨a, b⟩ => ⟨a, ?_⟩)
    rw [b, oo n (Nat.le_refl n)]
  · have r66 := k.row (show (66 : Nat) ≠ 1 ∧ 66 ≠ 5 ∧ 66 ≠ 6 ∧ 66 ≠ 7 ∧ 66 ≠ 63 ∧ 66 ≠ 64 by decide)
    have hm2 : MW w ss Q m := ⟨hm.mi, by rw [r66]; exact hmw.2⟩
    exact w_swap hm2 (fun k hk => by rw [r66]; exact (h.kk hk).2) (by rw [r66]; exact hb) (by rw [r66]; exact hG) (by rw [r66, ← h.sz]; exact hn)
end
end
