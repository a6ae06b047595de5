section
/-! the child on trial; sums -/
theorem gwV_mono2 {z : Option (Option Value × gm_M)} {R S : gm_M → Prop} (h : gwV z R) (k : ∀ m, R m → S m) : gwV z S := by
  obtain ⟨m, e, a⟩ := h
  exact ⟨m, e, k m a⟩
theorem add0 (x : Int32) : x + Int32.ofNat 0 = x := by
  apply Int32.toInt_inj.mp
  have l : (Int32.ofNat 0).toInt = 0 := rfl
  rcases gx_addw x (Int32.ofNat 0) with h | h | h
  · omega
  · have := gx_hi (x + Int32.ofNat 0); have := gx_lo x; omega
  · have := gx_lo (x + Int32.ofNat 0); have := gx_hi x; omega
def sm (H : Nat → Int32) : Nat → Int32
  | 0 => 0
  | k + 1 => sm H k + H k
def ff (H : Nat → Int32) : Nat → Int32 × Int32
  | 0 => (-5, -1)
  | k + 1 => if H k ≤ (ff H k).2 then ff H k else (Int32.ofNat k, H k)
theorem sm_eq {H G : Nat → Int32} : ∀ n : Nat, (∀ k : Nat, k < n → H k = G k) → sm H n = sm G n
  | 0, _ => rfl
  | n + 1, h => by
    show sm H n + H n = sm G n + G n
    rw [sm_eq n (fun k hk => h k (by omega)), h n (by omega)]
theorem ff_eq {H G : Nat → Int32} : ∀ n : Nat, (∀ k : Nat, k < n → H k = G k) → ff H n = ff G n
  | 0, _ => rfl
  | n + 1, h => by
    show (if H n ≤ (ff H n).2 then ff H n else (Int32.ofNat n, H n)) = if G n ≤ (ff G n).2 then ff G n else (Int32.ofNat n, G n)
    rw [ff_eq n (fun k hk => h k (by omega)), h n (by omega)]
section
variable {w sw : Int32} {Q : List (List Int32 × Int32)} {μ : gm_M} {c : Nat}
theorem kc.K {m : gm_M} (g : kc μ m) {k : Nat} (hk : k < 5) : kC m (29 + 2 * k) = kC μ (29 + 2 * k) :=
  kC_o (by rw [g.ref (show (29 + 2 * k : Nat) ≠ 63 by omega)]) (g.row (by omega)) (fun j _ => by rw [g.row (by omega)])
theorem v_copy (h : CW w Q μ) (hc : c < 5) : gwV (f_X2_copy 63 (29 + 2 * c) μ) (fun m => kc μ m ∧ kC m 63 = kC μ (29 + 2 * c)) :=
  gwV_mono2 (gwV_and (s_X2_copy_63 h.1 (isch_c hc)) (s_ccopy h.1.1 (Or.inl (Or.inr rfl)) (Or.inl (ict_c hc)) (by omega))) (fun m ⟨a, b⟩ => ⟨a, kC_cp b⟩)
set_option maxHeartbeats 2000000 in
theorem v_trial (h : CW w Q μ) (hr : RK (kC μ 63)) (hm : 0 ≤ (μ.2.1 15 0).toInt ∧ (μ.2.1 15 0).toInt ≤ 9999) {n : Nat} (hn : n ≤ 100) : gwI (f_X11_trialBehind 1 (Int32.ofNat n) μ) (fun x m => kc μ m ∧ x = cHold w Q (cGoN n (kC μ 63) (μ.2.1 15 0)) (μ.2.1 15 0 + Int32.ofNat n) ∧ kC m 63 = cGoN n (kC μ 63) (μ.2.1 15 0)) := by
  have on := ofn (k := n) (by omega)
  have l0 : (0 : Int32).toInt = 0 := rfl
  have l1 : (1 : Int32).toInt = 1 := rfl
  refine gwI_of ?_
  unfold f_X11_trialBehind
  refine gw_loop (fun s => kc μ s.2 ∧ (0 ≤ s.1.toInt ∧ s.1.toInt ≤ (n : Int)) ∧ kC s.2 63 = cGoN s.1.toInt.toNat (kC μ 63) (μ.2.1 15 0)) (fun s => 100 - s.1.toInt) (fun s ⟨k2, p1, p2⟩ => ?_) 5000 ((0 : Int32), μ) ⟨kc.refl μ, ⟨by show 0 ≤ (0 : Int32).toInt; omega, by show (0 : Int32).toInt ≤ (n : Int); omega⟩, rfl⟩ (by show 100 - (0 : Int32).toInt < ((5000 : Nat) : Int); omega) (by show 0 ≤ 100 - (0 : Int32).toInt; omega)
  obtain ⟨i, hi, ei⟩ : ∃ i : Nat, i ≤ n ∧ s.1 = Int32.ofNat i := ⟨s.1.toInt.toNat, by omega, (gx_of p1.1).symm⟩
  have oi := ofn (k := i) (by omega)
  have hw := h.kc k2
  have hg := hw.1.1
  have e0 : s.2.2.1 15 0 = μ.2.1 15 0 := by rw [k2.row (show (15 : Nat) ≠ 1 ∧ 15 ≠ 5 ∧ 15 ≠ 6 ∧ 15 ≠ 7 ∧ 15 ≠ 63 ∧ 15 ≠ 64 by decide)]
  have hS : s.1.toInt = i := by rw [ei]; exact oi
  rw [show s.1.toInt.toNat = i by omega] at p2
  have mi := mi_add (mi := μ.2.1 15 0) (n := i) ⟨hm.1, by omega⟩ (by omega)
  refine gw_le (fun g => ?_) (fun g => ?_)
  · have en : i = n := by omega
    refine gw_gRa 63 (hg.c (r := 1) rfl) (hg.r (by decide)) ?_
    refine gw_gRa 15 (hg.c (r := 1) rfl) (hg.r (by decide)) ?_
    refine gw_gR (hg.c (r := 15) rfl) (fun q eq => ?_)
    subst eq
    refine gw_gRa 15 (hg.c (r := 1) rfl) (hg.r (by decide)) ?_
    refine gw_gIw (hg.c (r := 15) rfl) ?_
    refine gw_if (ict.t hg (Or.inr rfl)) ?_
    refine gw_bI (v_holds hw (Or.inr rfl) _) (fun x m ⟨ex, em⟩ => ?_)
    subst em
    refine gw_some (gs_inr (gq_I ⟨k2, ?_, by rw [p2, en]⟩))
    rw [ex, p2, e0, en]
  · refine gw_gRa 63 (hg.c (r := 1) rfl) (hg.r (by decide)) ?_
    refine gw_gRa 15 (hg.c (r := 1) rfl) (hg.r (by decide)) ?_
    refine gw_gIw (hg.c (r := 15) rfl) ?_
    refine gw_if (ict.t hg (Or.inr rfl)) ?_
    refine gw_bV (v_pass hw (Or.inr rfl) (by rw [e0, ei]; omega) (by rw [p2]; exact hr.goN ⟨hm.1, by omega⟩ i (by omega))) (fun m12 ⟨g12, k12, _⟩ => ?_)
    have nx : (s.1 + (1 : Int32)).toInt = s.1.toInt + (1 : Int32).toInt := gx_add (by omega) (by omega)
    refine gw_some (gs_inl ⟨k2.ch g12, ⟨by show 0 ≤ (s.1 + (1 : Int32)).toInt; omega, by show (s.1 + (1 : Int32)).toInt ≤ (n : Int); omega⟩, ?_⟩ (by show 100 - (s.1 + (1 : Int32)).toInt < 100 - s.1.toInt; omega) (by show 0 ≤ 100 - (s.1 + (1 : Int32)).toInt; omega))
    show kC m12 63 = cGoN (s.1 + (1 : Int32)).toInt.toNat _ _
    rw [show (s.1 + (1 : Int32)).toInt.toNat = i + 1 by omega, k12, p2, e0, ei]
    rfl
theorem v_behind (h : CW w Q μ) (hc : c < 5) (hr : RK (kC μ (29 + 2 * c))) (hm : 0 ≤ (μ.2.1 15 0).toInt ∧ (μ.2.1 15 0).toInt ≤ 9999) {n : Nat} (hn : n ≤ 100) : gwI (f_X11_holdsBehind 1 (Int32.ofNat c) (Int32.ofNat n) μ) (fun x m => kc μ m ∧ x = cHold w Q (cGoN n (kC μ (29 + 2 * c)) (μ.2.1 15 0)) (μ.2.1 15 0 + Int32.ofNat n) ∧ kC m 63 = cGoN n (kC μ (29 + 2 * c)) (μ.2.1 15 0)) := by
  have hg := h.1.1
  refine gwI_of ?_
  unfold f_X11_holdsBehind
  refine gw_gRa 63 (hg.c (r := 1) rfl) (hg.r (by decide)) ?_
  refine gw_kid hg hc ?_
  refine gw_if (ict.t hg (Or.inr rfl)) ?_
  refine gw_bV (v_copy h hc) (fun m5 ⟨k5, e5⟩ => ?_)
  have e0 : m5.2.1 15 0 = μ.2.1 15 0 := by rw [k5.row (show (15 : Nat) ≠ 1 ∧ 15 ≠ 5 ∧ 15 ≠ 6 ∧ 15 ≠ 7 ∧ 15 ≠ 63 ∧ 15 ≠ 64 by decide)]
  refine gw_if ((h.kc k5).1.1.t (r := 1) rfl) ?_
  refine gw_bI (v_trial (h.kc k5) (by rw [e5]; exact hr) (by rw [e0]; exact hm) hn) (fun x m ⟨k6, ex, ek⟩ => ?_)
  rw [e5, e0] at ex ek
  exact gw_some (gq_I ⟨k5.trans k6, ex, ek⟩)
set_option maxHeartbeats 2000000 in
theorem v_sum (h : CW w Q μ) (hr : ∀ k : Nat, k < 5 → RK (kC μ (29 + 2 * k))) (hm : 0 ≤ (μ.2.1 15 0).toInt ∧ (μ.2.1 15 0).toInt ≤ 9999) {n : Nat} (hn : n ≤ 100) : gwI (f_X11_sumBehind 1 (Int32.ofNat n) μ) (fun x m => kc μ m ∧ x = sm (fun k => cHold w Q (cGoN n (kC μ (29 + 2 * k)) (μ.2.1 15 0)) (μ.2.1 15 0 + Int32.ofNat n)) (μ.2.1 15 1).toInt.toNat) := by
  have l0 : (0 : Int32).toInt = 0 := rfl
  have l1 : (1 : Int32).toInt = 1 := rfl
  have n1 := h.1.n1
  refine gwI_of ?_
  unfold f_X11_sumBehind
  generalize hH : (fun k => cHold w Q (cGoN n (kC μ (29 + 2 * k)) (μ.2.1 15 0)) (μ.2.1 15 0 + Int32.ofNat n)) = H
  refine gw_loop (fun s => kc μ s.2.2 ∧ (0 ≤ s.2.1.toInt ∧ s.2.1.toInt ≤ (μ.2.1 15 1).toInt) ∧ s.1 = sm H s.2.1.toInt.toNat) (fun s => 100 - s.2.1.toInt) (fun s ⟨k2, p1, p2⟩ => ?_) 5000 ((0 : Int32), (0 : Int32), μ) ⟨kc.refl μ, ⟨by show 0 ≤ (0 : Int32).toInt; omega, by show (0 : Int32).toInt ≤ _; omega⟩, rfl⟩ (by show 100 - (0 : Int32).toInt < ((5000 : Nat) : Int); omega) (by show 0 ≤ 100 - (0 : Int32).toInt; omega)
  obtain ⟨i, hi, ei⟩ : ∃ i : Nat, i ≤ 5 ∧ s.2.1 = Int32.ofNat i := ⟨s.2.1.toInt.toNat, by omega, (gx_of p1.1).symm⟩
  have oi := ofn (k := i) (by omega)
  have hS : s.2.1.toInt = i := by rw [ei]; exact oi
  rw [show s.2.1.toInt.toNat = i by omega] at p2
  have hw := h.kc k2
  have hg := hw.1.1
  have r15 := k2.row (show (15 : Nat) ≠ 1 ∧ 15 ≠ 5 ∧ 15 ≠ 6 ∧ 15 ≠ 7 ∧ 15 ≠ 63 ∧ 15 ≠ 64 by decide)
  refine gw_gRa 15 (hg.c (r := 1) rfl) (hg.r (by decide)) ?_
  refine gw_gIw (hg.c (r := 15) rfl) ?_
  rw [r15]
  refine gw_le (fun g => ?_) (fun g => ?_)
  · refine gw_some (gs_inr (gq_I ⟨k2, ?_⟩))
    rw [p2, show (μ.2.1 15 1).toInt.toNat = i by omega]
  · refine gw_if (hg.t (r := 1) rfl) ?_
    rw [ei]
    refine gw_bI (v_behind hw (c := i) (by omega) (by rw [k2.K (by omega)]; exact hr i (by omega)) (by rw [r15]; exact hm) hn) (fun x m ⟨k6, ex, _⟩ => ?_)
    rw [k2.K (by omega), r15] at ex
    rw [← ei]
    have nx : (s.2.1 + (1 : Int32)).toInt = s.2.1.toInt + (1 : Int32).toInt := gx_add (by omega) (by omega)
    refine gw_some (gs_inl ⟨k2.trans k6, ⟨by show 0 ≤ (s.2.1 + (1 : Int32)).toInt; omega, by show (s.2.1 + (1 : Int32)).toInt ≤ _; omega⟩, ?_⟩ (by show 100 - (s.2.1 + (1 : Int32)).toInt < 100 - s.2.1.toInt; omega) (by show 0 ≤ 100 - (s.2.1 + (1 : Int32)).toInt; omega))
    show s.1 + x = sm H (s.2.1 + (1 : Int32)).toInt.toNat
    rw [show (s.2.1 + (1 : Int32)).toInt.toNat = i + 1 by omega, p2, ex, ← hH]
    rfl
set_option maxHeartbeats 2000000 in
theorem w_allHold (h : MW w sw Q μ) : gwI (f_X12_allHold 65 μ) (fun x m => km A0 μ m ∧ x = sm (fun k => cHold w Q (kR (μ.2.1 66) k) (μ.2.1 66 0)) (μ.2.1 66 26).toInt.toNat) := by
  have l0 : (0 : Int32).toInt = 0 := rfl
  have l1 : (1 : Int32).toInt = 1 := rfl
  have l26 : (26 : Int32).toInt = 26 := rfl
  have n1 := h.1.n26
  refine gwI_of ?_
  unfold f_X12_allHold
  generalize hH : (fun k => cHold w Q (kR (μ.2.1 66) k) (μ.2.1 66 0)) = H
  refine gw_loop (fun s => km A0 μ s.2.2 ∧ (0 ≤ s.2.1.toInt ∧ s.2.1.toInt ≤ (μ.2.1 66 26).toInt) ∧ s.1 = sm H s.2.1.toInt.toNat) (fun s => 100 - s.2.1.toInt) (fun s ⟨k2, p1, p2⟩ => ?_) 5000 ((0 : Int32), (0 : Int32), μ) ⟨km.refl A0 μ, ⟨by show 0 ≤ (0 : Int32).toInt; omega, by show (0 : Int32).toInt ≤ _; omega⟩, rfl⟩ (by show 100 - (0 : Int32).toInt < ((5000 : Nat) : Int); omega) (by show 0 ≤ 100 - (0 : Int32).toInt; omega)
  obtain ⟨i, hi, ei⟩ : ∃ i : Nat, i ≤ 5 ∧ s.2.1 = Int32.ofNat i := ⟨s.2.1.toInt.toNat, by omega, (gx_of p1.1).symm⟩
  have oi := ofn (k := i) (by omega)
  have hS : s.2.1.toInt = i := by rw [ei]; exact oi
  rw [show s.2.1.toInt.toNat = i by omega] at p2
  have hw := h.k0 k2
  have hg := hw.1.1
  have r66 := k2.row
  refine gw_gRa 66 (hg.c (r := 65) rfl) (hg.r (by decide)) ?_
  refine gw_aIw 26 (hg.t (r := 66) rfl) (hg.l (r := 66) rfl) l26 (by omega) ?_
  rw [r66]
  refine gw_le (fun g => ?_) (fun g => ?_)
  · refine gw_some (gs_inr (gq_I ⟨k2, ?_⟩))
    rw [p2, show (μ.2.1 66 26).toInt.toNat = i by omega]
  · refine gw_if (hg.t (r := 65) rfl) ?_
    rw [ei]
    refine gw_bI (w_holds hw (c := i) (by omega)) (fun x m ⟨k6, ex⟩ => ?_)
    rw [r66] at ex
    rw [← ei]
    have nx : (s.2.1 + (1 : Int32)).toInt = s.2.1.toInt + (1 : Int32).toInt := gx_add (by omega) (by omega)
    refine gw_some (gs_inl ⟨k2.trans k6, ⟨by show 0 ≤ (s.2.1 + (1 : Int32)).toInt; omega, by show (s.2.1 + (1 : Int32)).toInt ≤ _; omega⟩, ?_⟩ (by show 100 - (s.2.1 + (1 : Int32)).toInt < 100 - s.2.1.toInt; omega) (by show 0 ≤ 100 - (s.2.1 + (1 : Int32)).toInt; omega))
    show s.1 + x = sm H (s.2.1 + (1 : Int32)).toInt.toNat
    rw [show (s.2.1 + (1 : Int32)).toInt.toNat = i + 1 by omega, p2, ex, ← hH]
    rfl
/-! first -/
set_option maxHeartbeats 2000000 in
theorem v_first (h : CW w Q μ) : gwI (f_X11_first 1 μ) (fun x m => m = μ ∧ x = (ff (fun k => cHold w Q (kC μ (29 + 2 * k)) (μ.2.1 15 0)) (μ.2.1 15 1).toInt.toNat).1) := by
  have l0 : (0 : Int32).toInt = 0 := rfl
  have l1 : (1 : Int32).toInt = 1 := rfl
  have n1 := h.1.n1
  have hg := h.1.1
  refine gwI_of ?_
  unfold f_X11_first
  generalize hH : (fun k => cHold w Q (kC μ (29 + 2 * k)) (μ.2.1 15 0)) = H
  refine gw_loop (fun s => s.2.2.2 = μ ∧ (0 ≤ s.2.2.1.toInt ∧ s.2.2.1.toInt ≤ (μ.2.1 15 1).toInt) ∧ (s.1, s.2.1) = ff H s.2.2.1.toInt.toNat) (fun s => 100 - s.2.2.1.toInt) (fun s ⟨k2, p1, p2⟩ => ?_) 5000 ((-5 : Int32), (-1 : Int32), (0 : Int32), μ) ⟨rfl, ⟨by show 0 ≤ (0 : Int32).toInt; omega, by show (0 : Int32).toInt ≤ _; omega⟩, rfl⟩ (by show 100 - (0 : Int32).toInt < ((5000 : Nat) : Int); omega) (by show 0 ≤ 100 - (0 : Int32).toInt; omega)
  obtain ⟨i, hi, ei⟩ : ∃ i : Nat, i ≤ 5 ∧ s.2.2.1 = Int32.ofNat i := ⟨s.2.2.1.toInt.toNat, by omega, (gx_of p1.1).symm⟩
  have oi := ofn (k := i) (by omega)
  have hS : s.2.2.1.toInt = i := by rw [ei]; exact oi
  rw [show s.2.2.1.toInt.toNat = i by omega] at p2
  rw [k2]
  refine gw_gRa 15 (hg.c (r := 1) rfl) (hg.r (by decide)) ?_
  refine gw_gIw (hg.c (r := 15) rfl) ?_
  refine gw_le (fun g => ?_) (fun g => ?_)
  · refine gw_some (gs_inr (gq_I ⟨rfl, ?_⟩))
    rw [show (μ.2.1 15 1).toInt.toNat = i by omega, ← p2]
  · refine gw_if (hg.t (r := 1) rfl) ?_
    rw [ei]
    refine gw_bI (v_holdsNow h (c := i) (by omega)) (fun x m ⟨ex, em⟩ => ?_)
    have nx : (Int32.ofNat i + (1 : Int32)).toInt = (Int32.ofNat i).toInt + (1 : Int32).toInt := gx_add (by omega) (by omega)
    have hx : x = H i := by rw [ex, ← hH]
    have q2 : ff H i = (s.1, s.2.1) := p2.symm
    refine gw_j (fun q => q = ff H (i + 1)) (fun q eq => ?_) (fun j hj => ?_)
    · refine gw_some (gs_inl ⟨em, ⟨by show 0 ≤ (Int32.ofNat i + (1 : Int32)).toInt; omega, by show (Int32.ofNat i + (1 : Int32)).toInt ≤ _; omega⟩, ?_⟩ (by show 100 - (Int32.ofNat i + (1 : Int32)).toInt < 100 - s.2.2.1.toInt; omega) (by show 0 ≤ 100 - (Int32.ofNat i + (1 : Int32)).toInt; omega))
      show (q.1, q.2) = ff H (Int32.ofNat i + (1 : Int32)).toInt.toNat
      rw [show (Int32.ofNat i + (1 : Int32)).toInt.toNat = i + 1 by omega]
      exact eq
    · have st : ff H (i + 1) = if H i ≤ (ff H i).2 then ff H i else (Int32.ofNat i, H i) := rfl
      rw [q2, ← hx] at st
      refine gw_ite (fun g2 => hj _ ?_) (fun g2 => hj _ ?_)
      · rw [st, if_pos g2]
      · rw [st, if_neg g2]
set_option maxHeartbeats 2000000 in
theorem w_first (h : MW w sw Q μ) : gwI (f_X12_first 65 μ) (fun x m => km A0 μ m ∧ x = (ff (fun k => cHold w Q (kR (μ.2.1 66) k) (μ.2.1 66 0)) (μ.2.1 66 26).toInt.toNat).1) := by
  have l0 : (0 : Int32).toInt = 0 := rfl
  have l1 : (1 : Int32).toInt = 1 := rfl
  have l26 : (26 : Int32).toInt = 26 := rfl
  have n1 := h.1.n26
  refine gwI_of ?_
  unfold f_X12_first
  generalize hH : (fun k => cHold w Q (kR (μ.2.1 66) k) (μ.2.1 66 0)) = H
  refine gw_loop (fun s => km A0 μ s.2.2.2 ∧ (0 ≤ s.2.2.1.toInt ∧ s.2.2.1.toInt ≤ (μ.2.1 66 26).toInt) ∧ (s.1, s.2.1) = ff H s.2.2.1.toInt.toNat) (fun s => 100 - s.2.2.1.toInt) (fun s ⟨k2, p1, p2⟩ => ?_) 5000 ((-5 : Int32), (-1 : Int32), (0 : Int32), μ) ⟨km.refl A0 μ, ⟨by show 0 ≤ (0 : Int32).toInt; omega, by show (0 : Int32).toInt ≤ _; omega⟩, rfl⟩ (by show 100 - (0 : Int32).toInt < ((5000 : Nat) : Int); omega) (by show 0 ≤ 100 - (0 : Int32).toInt; omega)
  obtain ⟨i, hi, ei⟩ : ∃ i : Nat, i ≤ 5 ∧ s.2.2.1 = Int32.ofNat i := ⟨s.2.2.1.toInt.toNat, by omega, (gx_of p1.1).symm⟩
  have oi := ofn (k := i) (by omega)
  have hS : s.2.2.1.toInt = i := by rw [ei]; exact oi
  rw [show s.2.2.1.toInt.toNat = i by omega] at p2
  have hw := h.k0 k2
  have hg := hw.1.1
  have r66 := k2.row
  refine gw_gRa 66 (hg.c (r := 65) rfl) (hg.r (by decide)) ?_
  refine gw_aIw 26 (hg.t (r := 66) rfl) (hg.l (r := 66) rfl) l26 (by omega) ?_
  rw [r66]
  refine gw_le (fun g => ?_) (fun g => ?_)
  · refine gw_some (gs_inr (gq_I ⟨k2, ?_⟩))
    rw [show (μ.2.1 66 26).toInt.toNat = i by omega, ← p2]
  · refine gw_if (hg.t (r := 65) rfl) ?_
    rw [ei]
    refine gw_bI (w_holds hw (c := i) (by omega)) (fun x m ⟨k6, ex⟩ => ?_)
    rw [r66] at ex
    have nx : (Int32.ofNat i + (1 : Int32)).toInt = (Int32.ofNat i).toInt + (1 : Int32).toInt := gx_add (by omega) (by omega)
    have hx : x = H i := by rw [ex, ← hH]
    have q2 : ff H i = (s.1, s.2.1) := p2.symm
    have st : ff H (i + 1) = if H i ≤ (ff H i).2 then ff H i else (Int32.ofNat i, H i) := rfl
    rw [q2, ← hx] at st
    refine gw_j (fun a => a = (ff H (i + 1)).1) (fun a ea => ?_) (fun j hj => ?_)
    · refine gw_j (fun b => b = (ff H (i + 1)).2) (fun b eb => ?_) (fun j hj => ?_)
      · refine gw_some (gs_inl ⟨k2.trans k6, ⟨by show 0 ≤ (Int32.ofNat i + (1 : Int32)).toInt; omega, by show (Int32.ofNat i + (1 : Int32)).toInt ≤ _; omega⟩, ?_⟩ (by show 100 - (Int32.ofNat i + (1 : Int32)).toInt < 100 - s.2.2.1.toInt; omega) (by show 0 ≤ 100 - (Int32.ofNat i + (1 : Int32)).toInt; omega))
        show (a, b) = ff H (Int32.ofNat i + (1 : Int32)).toInt.toNat
        rw [show (Int32.ofNat i + (1 : Int32)).toInt.toNat = i + 1 by omega, ea, eb]
      · refine gw_ite (fun g2 => hj _ ?_) (fun g2 => hj _ ?_)
        · rw [st, if_pos g2]
        · rw [st, if_neg g2]
    · refine gw_ite (fun g2 => hj _ ?_) (fun g2 => hj _ ?_)
      · rw [st, if_pos g2]
      · rw [st, if_neg g2]
end
section
variable {μ : gm_M}
theorem N_first (h : REL μ) : PR (f_X11_first 1 μ) (f_X12_first 65) := by
  obtain ⟨w, sw, Q, ⟨hcw, hmw, -, -⟩, -⟩ := h.ex
  have n1 := h.ci.n1
  refine PR.u h _ (v_first hcw) (gwI_mono (w_first hmw) (fun y m2 ⟨a, b⟩ => ⟨qm.of0 a, b.trans ?_⟩))
  rw [← h.mn, ← h.sz]
  exact congrArg Prod.fst (ff_eq _ (fun k hk => by show cHold w Q (kR (μ.2.1 66) k) _ = cHold w Q (kC μ (29 + 2 * k)) _; rw [(h.kk (show k < 5 by omega)).1]))
end
end
section
/-! told, looked, on -/
def bt (f : Nat → Int32) : Nat → Int32
  | 0 => 0
  | k + 1 => bt f k ||| (if f k ≤ 0 then 0 else (1 : Int32) <<< (Int32.ofNat k &&& 31))
theorem bt_eq {H G : Nat → Int32} : ∀ n : Nat, (∀ k : Nat, k < n → H k = G k) → bt H n = bt G n
  | 0, _ => rfl
  | n + 1, h => by
    show (bt H n ||| (if H n ≤ 0 then 0 else (1 : Int32) <<< (Int32.ofNat n &&& 31))) = (bt G n ||| (if G n ≤ 0 then 0 else (1 : Int32) <<< (Int32.ofNat n &&& 31)))
    rw [bt_eq n (fun k hk => h k (by omega)), h n (by omega)]
theorem or0 (x : Int32) : x ||| 0 = x := by
  first
  | exact Int32.or_zero
  | simp
/-- the first that isn't so, of n -/
def gl (f : Nat → Bool) (n : Nat) : Nat → Int32
  | 0 => -5
  | k + 1 => if f (n - (k + 1)) = true then gl f n k else Int32.ofNat (n - (k + 1))
theorem gl_s {f : Nat → Bool} {n i : Nat} (h : i < n) : gl f n (n - i) = if f i = true then gl f n (n - (i + 1)) else Int32.ofNat i := by
  obtain ⟨k, rfl⟩ : ∃ k : Nat, n = i + (k + 1) := ⟨n - i - 1, by omega⟩
  rw [show i + (k + 1) - i = k + 1 by omega, show i + (k + 1) - (i + 1) = k by omega]
  show (if f (i + (k + 1) - (k + 1)) = true then _ else Int32.ofNat (i + (k + 1) - (k + 1))) = _
  rw [show i + (k + 1) - (k + 1) = i by omega]
section
variable {μ : gm_M}
theorem v_cell {r n : Nat} (ht : gm_tag μ r = 12) (t1 : gm_tag μ (r + 1) = 1) (l1 : gm_len μ (r + 1) = n) (hr : μ.2.2 r 1 = r + 1) {i j : Int32} (hi : 0 ≤ i.toInt ∧ i.toInt < (μ.2.1 r 2).toInt ∧ i.toInt < (μ.2.1 r 0).toInt) (hj : 0 ≤ j.toInt ∧ j.toInt < 3) (hn : 3 * i.toInt + 2 < n) (h9 : n ≤ 1000) : gwI (f_X7_cell r i j μ) (fun x m => m = μ ∧ x = μ.2.1 (r + 1) (3 * i.toInt.toNat + j.toInt.toNat)) := by
  have c12 : [12].contains (gm_tag μ r) = true := by rw [ht]; rfl
  have l0 : (0 : Int32).toInt = 0 := rfl
  have l3 : (3 : Int32).toInt = 3 := rfl
  refine gwI_of ?_
  unfold f_X7_cell
  refine gw_if ht ?_
  refine gw_bI (R := fun x m => x = 1 ∧ m = μ) (gwI_of ?_) (fun x m ⟨ex, em⟩ => ?_)
  · unfold f_X7_isKept
    refine gw_lt (fun g => by exfalso; omega) (fun g => ?_)
    refine gw_gIw c12 ?_
    refine gw_le (fun g => by exfalso; omega) (fun g => ?_)
    refine gw_gIw c12 ?_
    refine gw_le (fun g => by exfalso; omega) (fun g => ?_)
    refine gw_if (Or.inr rfl) ?_
    exact gw_some (gq_I ⟨rfl, rfl⟩)
  · subst ex
    subst em
    rw [if_neg (by decide)]
    refine gw_lt (fun g => by exfalso; omega) (fun g => ?_)
    refine gw_lt (fun g => ?_) (fun g => by exfalso; omega)
    refine gw_gRa (r + 1) c12 hr ?_
    have n1 : (i * (3 : Int32)).toInt = 3 * i.toInt := gx_mulr 3 rfl (by omega) (by omega)
    have n2 : (i * (3 : Int32) + j).toInt = (i * (3 : Int32)).toInt + j.toInt := gx_add (by omega) (by omega)
    refine gw_aIw (3 * i.toInt.toNat + j.toInt.toNat) t1 l1 (by omega) (by omega) ?_
    exact gw_some (gq_I ⟨rfl, rfl⟩)
set_option maxHeartbeats 2000000 in
theorem v_bits (h : CI μ) : gwI (f_X11_bubbleBits 1 μ) (fun x m => m = μ ∧ x = bt (fun k => kC μ (29 + 2 * k) 6) (μ.2.1 15 1).toInt.toNat) := by
  have l0 : (0 : Int32).toInt = 0 := rfl
  have l1 : (1 : Int32).toInt = 1 := rfl
  have n1 := h.n1
  have hg := h.1
  refine gwI_of ?_
  unfold f_X11_bubbleBits
  generalize hH : (fun k => kC μ (29 + 2 * k) 6) = H
  refine gw_loop (fun s => (0 ≤ s.2.toInt ∧ s.2.toInt ≤ (μ.2.1 15 1).toInt) ∧ s.1 = bt H s.2.toInt.toNat) (fun s => 100 - s.2.toInt) (fun s ⟨p1, p2⟩ => ?_) 5000 ((0 : Int32), (0 : Int32)) ⟨⟨by show 0 ≤ (0 : Int32).toInt; omega, by show (0 : Int32).toInt ≤ _; omega⟩, rfl⟩ (by show 100 - (0 : Int32).toInt < ((5000 : Nat) : Int); omega) (by show 0 ≤ 100 - (0 : Int32).toInt; omega)
  obtain ⟨i, hi, ei⟩ : ∃ i : Nat, i ≤ 5 ∧ s.2 = Int32.ofNat i := ⟨s.2.toInt.toNat, by omega, (gx_of p1.1).symm⟩
  have oi := ofn (k := i) (by omega)
  have hS : s.2.toInt = i := by rw [ei]; exact oi
  rw [show s.2.toInt.toNat = i by omega] at p2
  refine gw_gRa 15 (hg.c (r := 1) rfl) (hg.r (by decide)) ?_
  refine gw_gIw (hg.c (r := 15) rfl) ?_
  refine gw_le (fun g => ?_) (fun g => ?_)
  · refine gw_some (gs_inr (gq_I ⟨rfl, ?_⟩))
    rw [p2, show (μ.2.1 15 1).toInt.toNat = i by omega]
  · rw [ei]
    have hc : i < 5 := by omega
    refine gw_kid hg hc ?_
    refine gw_gIw (ict.c hg (ict_c hc)) ?_
    have nx : (Int32.ofNat i + (1 : Int32)).toInt = (Int32.ofNat i).toInt + (1 : Int32).toInt := gx_add (by omega) (by omega)
    have hx : μ.2.1 (29 + 2 * i) 6 = H i := by rw [← hH]; rfl
    have st : bt H (i + 1) = (bt H i ||| (if H i ≤ 0 then 0 else (1 : Int32) <<< (Int32.ofNat i &&& 31))) := rfl
    rw [← p2, ← hx] at st
    refine gw_j (fun q => q = bt H (i + 1)) (fun q eq => ?_) (fun j hj => ?_)
    · refine gw_some (gs_inl ⟨⟨by show 0 ≤ (Int32.ofNat i + (1 : Int32)).toInt; omega, by show (Int32.ofNat i + (1 : Int32)).toInt ≤ _; omega⟩, ?_⟩ (by show 100 - (Int32.ofNat i + (1 : Int32)).toInt < 100 - s.2.toInt; omega) (by show 0 ≤ 100 - (Int32.ofNat i + (1 : Int32)).toInt; omega))
      show q = bt H (Int32.ofNat i + (1 : Int32)).toInt.toNat
      rw [show (Int32.ofNat i + (1 : Int32)).toInt.toNat = i + 1 by omega]
      exact eq
    · refine gw_ite (fun g2 => hj _ ?_) (fun g2 => hj _ ?_)
      · rw [st, if_pos g2, or0]
      · rw [st, if_neg g2]
set_option maxHeartbeats 2000000 in
theorem w_bits (h : MI μ) : gwI (f_X12_bubbles 65 μ) (fun x m => m = μ ∧ x = bt (fun k => kR (μ.2.1 66) k 6) (μ.2.1 66 26).toInt.toNat) := by
  have l0 : (0 : Int32).toInt = 0 := rfl
  have l1 : (1 : Int32).toInt = 1 := rfl
  have l26 : (26 : Int32).toInt = 26 := rfl
  have n1 := h.n26
  have hg := h.1
  refine gwI_of ?_
  unfold f_X12_bubbles
  generalize hH : (fun k => kR (μ.2.1 66) k 6) = H
  refine gw_loop (fun s => (0 ≤ s.2.toInt ∧ s.2.toInt ≤ (μ.2.1 66 26).toInt) ∧ s.1 = bt H s.2.toInt.toNat) (fun s => 100 - s.2.toInt) (fun s ⟨p1, p2⟩ => ?_) 5000 ((0 : Int32), (0 : Int32)) ⟨⟨by show 0 ≤ (0 : Int32).toInt; omega, by show (0 : Int32).toInt ≤ _; omega⟩, rfl⟩ (by show 100 - (0 : Int32).toInt < ((5000 : Nat) : Int); omega) (by show 0 ≤ 100 - (0 : Int32).toInt; omega)
  obtain ⟨i, hi, ei⟩ : ∃ i : Nat, i ≤ 5 ∧ s.2 = Int32.ofNat i := ⟨s.2.toInt.toNat, by omega, (gx_of p1.1).symm⟩
  have oi := ofn (k := i) (by omega)
  have hS : s.2.toInt = i := by rw [ei]; exact oi
  rw [show s.2.toInt.toNat = i by omega] at p2
  refine gw_gRa 66 (hg.c (r := 65) rfl) (hg.r (by decide)) ?_
  refine gw_aIw 26 (hg.t (r := 66) rfl) (hg.l (r := 66) rfl) l26 (by omega) ?_
  refine gw_le (fun g => ?_) (fun g => ?_)
  · refine gw_some (gs_inr (gq_I ⟨rfl, ?_⟩))
    rw [p2, show (μ.2.1 66 26).toInt.toNat = i by omega]
  · rw [ei]
    have hc : i < 5 := by omega
    refine gw_rd h hc 16 rfl (by decide) ?_
    have nx : (Int32.ofNat i + (1 : Int32)).toInt = (Int32.ofNat i).toInt + (1 : Int32).toInt := gx_add (by omega) (by omega)
    have hx : μ.2.1 66 (16 + i) = H i := by rw [← hH]; rfl
    have st : bt H (i + 1) = (bt H i ||| (if H i ≤ 0 then 0 else (1 : Int32) <<< (Int32.ofNat i &&& 31))) := rfl
    rw [← p2, ← hx] at st
    refine gw_j (fun q => s.1 ||| q = bt H (i + 1)) (fun q eq => ?_) (fun j hj => ?_)
    · refine gw_some (gs_inl ⟨⟨by show 0 ≤ (Int32.ofNat i + (1 : Int32)).toInt; omega, by show (Int32.ofNat i + (1 : Int32)).toInt ≤ _; omega⟩, ?_⟩ (by show 100 - (Int32.ofNat i + (1 : Int32)).toInt < 100 - s.2.toInt; omega) (by show 0 ≤ 100 - (Int32.ofNat i + (1 : Int32)).toInt; omega))
      show s.1 ||| q = bt H (Int32.ofNat i + (1 : Int32)).toInt.toNat
      rw [show (Int32.ofNat i + (1 : Int32)).toInt.toNat = i + 1 by omega]
      exact eq
    · refine gw_ite (fun g2 => hj _ ?_) (fun g2 => hj _ ?_)
      · rw [st, if_pos g2]
      · rw [st, if_neg g2]
set_option maxHeartbeats 4000000 in
theorem N_told (h : REL μ) {a : Int32} : PR (f_X11_told 1 a μ) (f_X12_told 65 a) := by
  have hg := h.ci.1
  obtain ⟨w, sw, Q, ⟨hcw, hmw, ew, esw⟩, -⟩ := h.ex
  have n1 := h.ci.n1
  have v2 := h.vs.2.1
  have mn := h.mn
  have l0 : (0 : Int32).toInt = 0 := rfl
  refine gwI_of ?_
  unfold f_X11_told
  refine gw_ite (fun e => ?_) (fun e0 => ?_)
  · subst e
    refine gw_gRa 15 (hg.c (r := 1) rfl) (hg.r (by decide)) ?_
    refine gw_gIw (hg.c (r := 15) rfl) ?_
    refine leaf h (gwI_of ?_)
    unfold f_X12_told
    rw [if_pos rfl]
    refine gw_gRa 66 (hg.c (r := 65) rfl) (hg.r (by decide)) ?_
    refine gw_aIw 0 (hg.t (r := 66) rfl) (hg.l (r := 66) rfl) l0 (by omega) ?_
    exact gw_some (gq_I ⟨qm.refl μ, mn.symm⟩)
  refine gw_ite (fun e => ?_) (fun e1 => ?_)
  · subst e
    refine gw_gRa 15 (hg.c (r := 1) rfl) (hg.r (by decide)) ?_
    refine gw_gR (hg.c (r := 15) rfl) (fun q eq => ?_)
    subst eq
    refine gw_gIw hcw.aw.tc ?_
    rw [ew]
    refine leaf h (gwI_of ?_)
    unfold f_X12_told
    rw [if_neg (by decide), if_pos rfl]
    refine gw_if h.1.t65 ?_
    refine gw_bI (w_wind hmw) (fun x m ⟨em, ex⟩ => ?_)
    subst em
    exact gw_some (gq_I ⟨qm.refl _, ex⟩)
  refine gw_ite (fun e => ?_) (fun e2 => ?_)
  · subst e
    refine gw_gRa 15 (hg.c (r := 1) rfl) (hg.r (by decide)) ?_
    refine gw_gR (hg.c (r := 15) rfl) (fun q eq => ?_)
    subst eq
    refine gw_gIw hcw.aw.tc ?_
    rw [esw]
    refine leaf h (gwI_of ?_)
    unfold f_X12_told
    rw [if_neg (by decide), if_neg (by decide), if_pos rfl]
    refine gw_if h.1.t65 ?_
    refine gw_bI (w_sweet hmw) (fun x m ⟨em, ex⟩ => ?_)
    subst em
    exact gw_some (gq_I ⟨qm.refl _, ex⟩)
  refine gw_ite (fun e => ?_) (fun e3 => ?_)
  · subst e
    refine gw_if (hg.t (r := 1) rfl) ?_
    refine gw_bI (v_sum hcw (fun k hk => h.row hk) (by rw [mn]; exact v2) (n := 0) (by omega)) (fun x m ⟨k, ex⟩ => ?_)
    have r66 := k.row (show (66 : Nat) ≠ 1 ∧ 66 ≠ 5 ∧ 66 ≠ 6 ∧ 66 ≠ 7 ∧ 66 ≠ 63 ∧ 66 ≠ 64 by decide)
    have hm := h.kc k
    refine leaf hm (gwI_of ?_)
    unfold f_X12_told
    rw [if_neg (by decide), if_neg (by decide), if_neg (by decide), if_pos rfl]
    refine gw_if hm.1.t65 ?_
    refine gw_bI (w_allHold (show MW w sw Q m from ⟨hm.mi, by rw [r66]; exact hmw.2⟩)) (fun y m2 ⟨k2, ey⟩ => ?_)
    refine gw_some (gq_I ⟨qm.of0 k2, ?_⟩)
    rw [r66, ← h.sz, ← mn] at ey
    rw [ey, ex]
    refine sm_eq _ (fun j hj => ?_)
    show cHold w Q (kR (μ.2.1 66) j) _ = cHold w Q (cGoN 0 (kC μ (29 + 2 * j)) _) (_ + Int32.ofNat 0)
    rw [add0, ← (h.kk (show j < 5 by omega)).1]
    rfl
  refine gw_ite (fun e => ?_) (fun e4 => ?_)
  · subst e
    refine gw_if (hg.t (r := 1) rfl) ?_
    refine gw_bI (v_bits h.ci) (fun x m ⟨em, ex⟩ => ?_)
    subst em
    refine leaf h (gwI_of ?_)
    unfold f_X12_told
    rw [if_neg (by decide), if_neg (by decide), if_neg (by decide), if_neg (by decide), if_pos rfl]
    refine gw_if h.1.t65 ?_
    refine gw_bI (w_bits h.mi) (fun y m2 ⟨em, ey⟩ => ?_)
    subst em
    refine gw_some (gq_I ⟨qm.refl _, ?_⟩)
    rw [ey, ex, ← h.sz]
    refine bt_eq _ (fun j hj => ?_)
    show kR (m2.2.1 66) j 6 = kC m2 (29 + 2 * j) 6
    rw [(h.kk (show j < 5 by omega)).1]
  · refine leaf h (gwI_of ?_)
    unfold f_X12_told
    rw [if_neg e0, if_neg e1, if_neg e2, if_neg e3, if_neg e4]
    exact gw_some (gq_I ⟨qm.refl μ, rfl⟩)
set_option maxHeartbeats 4000000 in
theorem N_looked (h : REL μ) : PR (f_X11_looked 1 μ) (f_X12_looked 65) := by
  have hc := h.ci
  have hg := hc.1
  have l0 : (0 : Int32).toInt = 0 := rfl
  have l1 : (1 : Int32).toInt = 1 := rfl
  have l30 : (30 : Int32).toInt = 30 := rfl
  have l94 : (94 : Int32).toInt = 94 := rfl
  have l102 : (102 : Int32).toInt = 102 := rfl
  have l16 : (16 : Int32).toInt = 16 := rfl
  have n27 := hc.n27
  have e27 := hc.l27
  have E30 : μ.2.1 27 2 = μ.2.1 66 30 := h.1.2.2.2.1.1.2.2.2.2
  obtain ⟨n, hn⟩ : ∃ n : Nat, (μ.2.1 27 2).toInt = n := ⟨(μ.2.1 27 2).toInt.toNat, by omega⟩
  have hn2 : (μ.2.1 66 30).toInt = n := by rw [← E30]; exact hn
  have book : ∀ i : Nat, i < n → (μ.2.1 28 (3 * i) = μ.2.1 66 (94 + i) ∧ μ.2.1 28 (3 * i + 1) = μ.2.1 66 (102 + i)) ∧ isC μ (μ.2.1 66 (94 + i)) := fun i hi => by
    obtain ⟨b1, b2, b3⟩ := h.vs.2.2.2.1.2 i (by omega) (by omega)
    have b4 := h.mi.2.2.2.2.2.2.2.2.2.2.1 i (by omega)
    exact ⟨⟨b1, b2⟩, b4.1, by rw [h.sz]; exact b3, by omega⟩
  obtain ⟨f, hf⟩ : ∃ f : Nat → Bool, f = fun i => decide (μ.2.1 66 (16 + (μ.2.1 66 (94 + i)).toInt.toNat) = μ.2.1 66 (102 + i)) := ⟨_, rfl⟩
  refine PR.u h (gl f n n) (gwI_of ?_) (gwI_of ?_)
  · unfold f_X11_looked
    refine gw_loop (fun s => s.2 = μ ∧ (0 ≤ s.1.toInt ∧ s.1.toInt ≤ (n : Int)) ∧ gl f n n = gl f n (n - s.1.toInt.toNat)) (fun s => 100 - s.1.toInt) (fun s ⟨k2, p1, p2⟩ => ?_) 5000 ((0 : Int32), μ) ⟨rfl, ⟨by show 0 ≤ (0 : Int32).toInt; omega, by show (0 : Int32).toInt ≤ (n : Int); omega⟩, rfl⟩ (by show 100 - (0 : Int32).toInt < ((5000 : Nat) : Int); omega) (by show 0 ≤ 100 - (0 : Int32).toInt; omega)
    obtain ⟨i, hi, ei⟩ : ∃ i : Nat, i ≤ n ∧ s.1 = Int32.ofNat i := ⟨s.1.toInt.toNat, by omega, (gx_of p1.1).symm⟩
    have oi := ofn (k := i) (by omega)
    have hS : s.1.toInt = i := by rw [ei]; exact oi
    rw [show s.1.toInt.toNat = i by omega] at p2
    rw [k2]
    refine gw_gRa 15 (hg.c (r := 1) rfl) (hg.r (by decide)) ?_
    refine gw_gRa 27 (hg.c (r := 15) rfl) (hg.r (by decide)) ?_
    refine gw_gIw (hg.c (r := 27) rfl) ?_
    refine gw_le (fun g => ?_) (fun g => ?_)
    · refine gw_some (gs_inr (gq_I ⟨rfl, ?_⟩))
      rw [p2, show n - i = 0 by omega]
      rfl
    · obtain ⟨⟨b1, b2⟩, b3⟩ := book i (by omega)
      rw [gl_s (show i < n by omega)] at p2
      rw [ei]
      refine gw_gRa 15 (hg.c (r := 1) rfl) (hg.r (by decide)) ?_
      refine gw_gRa 27 (hg.c (r := 15) rfl) (hg.r (by decide)) ?_
      refine gw_if (hg.t (r := 27) rfl) ?_
      refine gw_bI (v_cell (hg.t (r := 27) rfl) (hg.t (r := 28) rfl) (hg.l (r := 28) rfl) (hg.r (by decide)) (i := Int32.ofNat i) (j := 0) ⟨by omega, by omega, by omega⟩ ⟨by omega, by omega⟩ (by omega) (by omega)) (fun x m ⟨em, ex⟩ => ?_)
      subst em
      rw [show (Int32.ofNat i).toInt.toNat = i by omega] at ex
      replace ex : x = m.2.1 28 (3 * i) := ex
      rw [b1] at ex
      refine gw_if (hg.t (r := 1) rfl) ?_
      refine gw_nob h (fun hC => ?_) (fun nC => absurd (by rw [ex]; exact b3) nC)
      refine gw_j (fun q => q = m ∧ gl f n n = gl f n (n - (i + 1))) (fun q ⟨eq, gq⟩ => ?_) (fun jj hj => ?_)
      · have nx : (Int32.ofNat i + (1 : Int32)).toInt = (Int32.ofNat i).toInt + (1 : Int32).toInt := gx_add (by omega) (by omega)
        refine gw_some (gs_inl ⟨eq, ⟨by show 0 ≤ (Int32.ofNat i + (1 : Int32)).toInt; omega, by show (Int32.ofNat i + (1 : Int32)).toInt ≤ (n : Int); omega⟩, ?_⟩ (by show 100 - (Int32.ofNat i + (1 : Int32)).toInt < 100 - s.1.toInt; omega) (by show 0 ≤ 100 - (Int32.ofNat i + (1 : Int32)).toInt; omega))
        show gl f n n = gl f n (n - (Int32.ofNat i + (1 : Int32)).toInt.toNat)
        rw [show (Int32.ofNat i + (1 : Int32)).toInt.toNat = i + 1 by omega]
        exact gq
      · rw [if_neg (by decide)]
        obtain ⟨c, hcc, ec, oc⟩ := hC.at
        have hfi : f i = decide (m.2.1 66 (16 + c) = m.2.1 66 (102 + i)) := by
          rw [hf]
          show decide (m.2.1 66 (16 + (m.2.1 66 (94 + i)).toInt.toNat) = _) = _
          rw [← ex, ec, oc, Int.toNat_natCast]
        rw [ec]
        refine gw_kid hg hcc ?_
        refine gw_gIw (ict.c hg (ict_c hcc)) ?_
        refine gw_gRa 15 (hg.c (r := 1) rfl) (hg.r (by decide)) ?_
        refine gw_gRa 27 (hg.c (r := 15) rfl) (hg.r (by decide)) ?_
        refine gw_if (hg.t (r := 27) rfl) ?_
        refine gw_bI (v_cell (hg.t (r := 27) rfl) (hg.t (r := 28) rfl) (hg.l (r := 28) rfl) (hg.r (by decide)) (i := Int32.ofNat i) (j := 1) ⟨by omega, by omega, by omega⟩ ⟨by omega, by omega⟩ (by omega) (by omega)) (fun y m' ⟨em, ey⟩ => ?_)
        subst em
        rw [show (Int32.ofNat i).toInt.toNat = i by omega] at ey
        replace ey : y = m'.2.1 28 (3 * i + 1) := ey
        rw [b2] at ey
        have e6 : m'.2.1 (29 + 2 * c) 6 = m'.2.1 66 (16 + c) := (show kC m' (29 + 2 * c) 6 = kR (m'.2.1 66) c 6 by rw [(h.kk hcc).1])
        rw [e6, ey]
        refine gw_ite (fun g2 => hj _ ⟨rfl, ?_⟩) (fun g2 => ?_)
        · rw [p2, if_pos (by rw [hfi]; exact decide_eq_true g2)]
        · refine gw_some (gs_inr (gq_I ⟨rfl, ?_⟩))
          rw [p2, if_neg (by rw [hfi]; exact fun z => g2 (of_decide_eq_true z))]
  · unfold f_X12_looked
    refine gw_loop (fun s => (0 ≤ s.toInt ∧ s.toInt ≤ (n : Int)) ∧ gl f n n = gl f n (n - s.toInt.toNat)) (fun s => 100 - s.toInt) (fun s ⟨p1, p2⟩ => ?_) 5000 (0 : Int32) ⟨⟨by show 0 ≤ (0 : Int32).toInt; omega, by show (0 : Int32).toInt ≤ (n : Int); omega⟩, rfl⟩ (by show 100 - (0 : Int32).toInt < ((5000 : Nat) : Int); omega) (by show 0 ≤ 100 - (0 : Int32).toInt; omega)
    obtain ⟨i, hi, ei⟩ : ∃ i : Nat, i ≤ n ∧ s = Int32.ofNat i := ⟨s.toInt.toNat, by omega, (gx_of p1.1).symm⟩
    have oi := ofn (k := i) (by omega)
    have hS : s.toInt = i := by rw [ei]; exact oi
    rw [show s.toInt.toNat = i by omega] at p2
    refine gw_gRa 66 (hg.c (r := 65) rfl) (hg.r (by decide)) ?_
    refine gw_aIw 30 (hg.t (r := 66) rfl) (hg.l (r := 66) rfl) l30 (by omega) ?_
    refine gw_le (fun g => ?_) (fun g => ?_)
    · refine gw_some (gs_inr (gq_I ⟨qm.refl μ, ?_⟩))
      rw [p2, show n - i = 0 by omega]
      rfl
    · obtain ⟨-, b3⟩ := book i (by omega)
      obtain ⟨c, hcc, ec, oc⟩ := b3.at
      rw [gl_s (show i < n by omega)] at p2
      have hfi : f i = decide (μ.2.1 66 (16 + c) = μ.2.1 66 (102 + i)) := by
        rw [hf]
        show decide (μ.2.1 66 (16 + (μ.2.1 66 (94 + i)).toInt.toNat) = _) = _
        rw [ec, oc, Int.toNat_natCast]
      have a1 : ((94 : Int32) + s).toInt = (94 : Int32).toInt + s.toInt := gx_add (by omega) (by omega)
      have a2 : ((102 : Int32) + s).toInt = (102 : Int32).toInt + s.toInt := gx_add (by omega) (by omega)
      refine gw_gRa 66 (hg.c (r := 65) rfl) (hg.r (by decide)) ?_
      refine gw_gRa 66 (hg.c (r := 65) rfl) (hg.r (by decide)) ?_
      refine gw_aIw (94 + i) (hg.t (r := 66) rfl) (hg.l (r := 66) rfl) (by omega) (by omega) ?_
      rw [ec]
      refine gw_aIw (16 + c) (hg.t (r := 66) rfl) (hg.l (r := 66) rfl) (ixc hcc 16 16 rfl (by decide)) (by omega) ?_
      refine gw_gRa 66 (hg.c (r := 65) rfl) (hg.r (by decide)) ?_
      refine gw_aIw (102 + i) (hg.t (r := 66) rfl) (hg.l (r := 66) rfl) (by omega) (by omega) ?_
      have nx : (s + (1 : Int32)).toInt = s.toInt + (1 : Int32).toInt := gx_add (by omega) (by omega)
      refine gw_ite (fun g2 => ?_) (fun g2 => ?_)
      · refine gw_some (gs_inl ⟨⟨by show 0 ≤ (s + (1 : Int32)).toInt; omega, by show (s + (1 : Int32)).toInt ≤ (n : Int); omega⟩, ?_⟩ (by show 100 - (s + (1 : Int32)).toInt < 100 - s.toInt; omega) (by show 0 ≤ 100 - (s + (1 : Int32)).toInt; omega))
        show gl f n n = gl f n (n - (s + (1 : Int32)).toInt.toNat)
        rw [show (s + (1 : Int32)).toInt.toNat = i + 1 by omega, p2, if_pos (by rw [hfi]; exact decide_eq_true g2)]
      · refine gw_some (gs_inr (gq_I ⟨qm.refl μ, ?_⟩))
        rw [p2, if_neg (by rw [hfi]; exact fun z => g2 (of_decide_eq_true z)), ei]
end
end
section
/-! on: all go on, and back -/
section
variable {μ : gm_M}
theorem kp.mw {w sw : Int32} {Q : List (List Int32 × Int32)} {m : gm_M} (g : kp μ m) (h : MW w sw Q μ) : MW w sw Q m := by
  have r66 : m.2.1 66 = μ.2.1 66 := g.2.2.1 66 (by decide)
  exact ⟨⟨h.1.1.same g.1 g.2.1, by rw [r66]; exact h.1.2⟩, by rw [r66]; exact h.2⟩
theorem gw_kept {β : Type} {Z : β → Prop} {w sw : Int32} {Q : List (List Int32 × Int32)} (h : MW w sw Q μ) (hm : 0 ≤ (μ.2.1 66 0).toInt ∧ (μ.2.1 66 0).toInt ≤ 9999) {n : Nat} (hn : n ≤ 100) {f : gm_M → Option β} (k : ∀ m5 m7, kp μ m5 → km A1 m5 m7 → MW w sw Q m7 → (∀ j : Nat, j < 5 → kR (m7.2.1 66) j = gN (μ.2.1 66 26).toInt.toNat n (μ.2.1 66 0) j (kR (μ.2.1 66) j)) → m7.2.1 66 0 = μ.2.1 66 0 + Int32.ofNat n → m7.2.1 66 26 = μ.2.1 66 26 → gw (f m7) Z) : gw (if gm_tag μ 65 = 17 then gm_bV (f_X12_keeps 65 μ) (fun m5 => if gm_tag m5 65 = 17 then gm_bV (f_X12_goesOn 65 (Int32.ofNat n) m5) f else none) else none) Z := by
  have on := ofn (k := n) (by omega)
  refine gw_if (h.1.1.t (r := 65) rfl) ?_
  refine gw_bV (s_X12_keeps h.1) (fun m5 g5 => ?_)
  have h5 := g5.mw h
  have r66 : m5.2.1 66 = μ.2.1 66 := g5.2.2.1 66 (by decide)
  refine gw_if (h5.1.1.t (r := 65) rfl) ?_
  refine gw_bV (w_goesOn h5 (by rw [r66]; exact hm) (a := Int32.ofNat n) (by omega)) (fun m7 ⟨⟨k7, f7⟩, r7⟩ => ?_)
  rw [r66, on, Int.toNat_natCast] at f7 r7
  exact k m5 m7 g5 k7 (h5.k1 k7) r7 f7 (by rw [k7.2.2.2.1 26 (by unfold A1; omega), r66])
theorem gw_back {β : Type} {Z : β → Prop} {m5 m : gm_M} (g5 : kp μ m5) (k : km A1 m5 m) (hM : MI m) {f : gm_M → Option β} (kk : ∀ m', qm μ m' → gw (f m') Z) : gw (if gm_tag m 65 = 17 then gm_bV (f_X12_goesBack 65 m) f else none) Z := by
  refine gw_if (hM.1.t (r := 65) rfl) ?_
  refine gw_bV (s_X12_goesBack hM) (fun m' ⟨k', r'⟩ => ?_)
  exact kk m' (qm.kp g5 (k.trans k') r')
theorem isC_sub {b d : Int32} {D : Nat} (hd : d.toInt = D) (h1 : D ≤ 100) (h : isC μ (b - d)) : ∃ c : Nat, c < 5 ∧ b = Int32.ofNat (D + c) ∧ b - d = Int32.ofNat c ∧ isC μ (Int32.ofNat c) := by
  obtain ⟨c, hc, ec, oc⟩ := h.at
  have e : (b - d).toInt = c := by rw [ec]; exact oc
  have o := ofn (k := D + c) (by omega)
  refine ⟨c, hc, ?_, ec, by rw [← ec]; exact h⟩
  apply Int32.toInt_inj.mp
  have b1 := gx_lo b
  have b2 := gx_hi b
  rcases gx_subw b d with q | q | q <;> omega
theorem ofn_sub {d : Int32} {D c : Nat} (hd : d.toInt = D) (h1 : D ≤ 100) (hc : c < 100) : Int32.ofNat (D + c) - d = Int32.ofNat c := by
  apply Int32.toInt_inj.mp
  have o := ofn (k := D + c) (by omega)
  have o2 := ofn (k := c) (by omega)
  rw [gx_sub (by omega) (by omega)]
  omega
theorem isC.cnt {c : Nat} (h : isC μ (Int32.ofNat c)) (hc : c < 5) : (c : Int) < (μ.2.1 15 1).toInt := by
  have o := ofn (k := c) (by omega)
  have := h.2.1
  omega
theorem gN_p {cnt i : Nat} {mi : Int32} {k : Nat} {K : Nat → Int32} (h : k < cnt) : gN cnt i mi k K = cGoN i K mi := if_pos h
set_option maxHeartbeats 8000000 in
theorem N_on (h : REL μ) {a b : Int32} : PR (f_X11_on 1 a b μ) (f_X12_on 65 a b) := by
  have hg := h.ci.1
  obtain ⟨w, sw, Q, ⟨hcw, hmw, -, -⟩, -⟩ := h.ex
  have v2 := h.vs.2.1
  have mn := h.mn
  have l0 : (0 : Int32).toInt = 0 := rfl
  have l10 : (10 : Int32).toInt = (10 : Nat) := rfl
  have l20 : (20 : Int32).toInt = (20 : Nat) := rfl
  have l60 : (60 : Int32).toInt = 60 := rfl
  have l6 : (6 : Int32).toInt = 6 := rfl
  have r66k : ∀ {m : gm_M}, kc μ m → m.2.1 66 = μ.2.1 66 := fun k => k.row (show (66 : Nat) ≠ 1 ∧ 66 ≠ 5 ∧ 66 ≠ 6 ∧ 66 ≠ 7 ∧ 66 ≠ 63 ∧ 66 ≠ 64 by decide)
  have hmk : ∀ {m : gm_M}, REL m → kc μ m → MW w sw Q m := fun hm k => ⟨hm.mi, by rw [r66k k]; exact hmw.2⟩
  have n1 := h.ci.n1
  have cnt : ∀ {c : Nat}, isC μ (Int32.ofNat c) → c < 5 → c < (μ.2.1 66 26).toInt.toNat := fun q hc => by
    have := q.cnt hc
    rw [h.sz] at this
    omega
  have out : ¬ ((0 : Int32).toInt ≤ a.toInt ∧ a.toInt ≤ (60 : Int32).toInt) ∨ ∃ n : Nat, n ≤ 60 ∧ a = Int32.ofNat n := by
    by_cases hn : (0 : Int32).toInt ≤ a.toInt ∧ a.toInt ≤ (60 : Int32).toInt
    · exact Or.inr ⟨a.toInt.toNat, by omega, (gx_of (by omega)).symm⟩
    · exact Or.inl hn
  by_cases b0 : b = 0
  · subst b0
    rcases out with hn | ⟨n, n60, rfl⟩
    · refine PR.u h (-2) (gwI_of ?_) (gwI_of ?_)
      · unfold f_X11_on
        refine gw_ji ?_
        refine gw_if (show (0 : Int32) < 20 by decide) ?_
        refine gw_ji ?_
        refine gw_if rfl ?_
        refine gw_out (fun q => absurd q hn) (fun _ => ?_)
        refine gw_ite (fun q => absurd q (by decide)) (fun _ => ?_)
        exact gw_some (gq_I ⟨rfl, rfl⟩)
      · unfold f_X12_on
        refine gw_ji ?_
        refine gw_if rfl ?_
        refine gw_inn (fun q => absurd q hn) (fun _ => ?_)
        refine gw_ite (fun q => absurd rfl q) (fun _ => ?_)
        exact gw_some (gq_I ⟨qm.refl μ, rfl⟩)
    · have on := ofn (k := n) (by omega)
      have hn : (0 : Int32).toInt ≤ (Int32.ofNat n).toInt ∧ (Int32.ofNat n).toInt ≤ (60 : Int32).toInt := by omega
      refine PR.v h (sm (fun k => cHold w Q (cGoN n (kC μ (29 + 2 * k)) (μ.2.1 15 0)) (μ.2.1 15 0 + Int32.ofNat n)) (μ.2.1 15 1).toInt.toNat) (gwI_of ?_) (fun m hm k => gwI_of ?_)
      · unfold f_X11_on
        refine gw_ji ?_
        refine gw_if (show (0 : Int32) < 20 by decide) ?_
        refine gw_ji ?_
        refine gw_if rfl ?_
        refine gw_out (fun _ => ?_) (fun q => absurd hn q)
        refine gw_if rfl ?_
        refine gw_ite (fun q => absurd rfl q) (fun _ => ?_)
        refine gw_if (hg.t (r := 1) rfl) ?_
        refine gw_bI (v_sum hcw (fun k hk => h.row hk) (by rw [mn]; exact v2) (n := n) (by omega)) (fun x m ⟨k, ex⟩ => ?_)
        exact gw_some (gq_I ⟨k, ex⟩)
      · have hw := hmk hm k
        unfold f_X12_on
        refine gw_ji ?_
        refine gw_if rfl ?_
        refine gw_inn (fun _ => ?_) (fun q => absurd hn q)
        refine gw_if (by decide) ?_
        refine gw_kept hw (by rw [r66k k]; exact v2) (n := n) (by omega) (fun m5 m7 g5 k7 h7 kr f7 c7 => ?_)
        rw [r66k k] at kr f7 c7
        refine gw_ji ?_
        refine gw_ite (fun q => absurd rfl q) (fun _ => ?_)
        refine gw_if (h7.1.1.t (r := 65) rfl) ?_
        refine gw_bI (w_allHold h7) (fun y m17 ⟨k17, ey⟩ => ?_)
        refine gw_back (m := m17) g5 (k7.trans k17.w01) (h7.k0 k17).1 (fun m' q => ?_)
        refine gw_some (gq_I ⟨q, ?_⟩)
        show y = _
        rw [ey, c7, f7, ← h.sz, ← mn]
        refine sm_eq _ (fun j hj => ?_)
        show cHold w Q (kR (m7.2.1 66) j) _ = cHold w Q (cGoN n (kC μ (29 + 2 * j)) _) _
        rw [kr j (by omega), gN_p (by rw [← h.sz]; exact hj), (h.kk (show j < 5 by omega)).1, mn]
  · by_cases h10 : ∃ c : Nat, c < 5 ∧ b = Int32.ofNat (10 + c) ∧ b - 10 = Int32.ofNat c ∧ isC μ (Int32.ofNat c)
    · obtain ⟨c, hc, eb, es, hC⟩ := h10
      have bt : b.toInt = 10 + c := by rw [eb, ofn (k := 10 + c) (by omega)]; omega
      rcases out with hn | ⟨n, n60, rfl⟩
      · refine PR.u h (-2) (gwI_of ?_) (gwI_of ?_)
        · unfold f_X11_on
          refine gw_ji ?_
          refine gw_lt (fun _ => ?_) (fun q => by exfalso; omega)
          refine gw_ji ?_
          refine gw_ite (fun q => absurd q b0) (fun _ => ?_)
          refine gw_if (hg.t (r := 1) rfl) ?_
          rw [es]
          refine gw_nob h (fun _ => ?_) (fun q => absurd hC q)
          refine gw_if rfl ?_
          refine gw_out (fun q => absurd q hn) (fun _ => ?_)
          refine gw_ite (fun q => absurd q (by decide)) (fun _ => ?_)
          exact gw_some (gq_I ⟨rfl, rfl⟩)
        · unfold f_X12_on
          refine gw_ji ?_
          refine gw_ite (fun q => absurd q b0) (fun _ => ?_)
          refine gw_if h.1.t65 ?_
          rw [es]
          refine gw_isc h.mi h.sz.symm (fun _ => ?_) (fun q => absurd hC q)
          refine gw_if (by decide) ?_
          refine gw_inn (fun q => absurd q hn) (fun _ => ?_)
          refine gw_ite (fun q => absurd rfl q) (fun _ => ?_)
          exact gw_some (gq_I ⟨qm.refl μ, rfl⟩)
      · have on := ofn (k := n) (by omega)
        have hn : (0 : Int32).toInt ≤ (Int32.ofNat n).toInt ∧ (Int32.ofNat n).toInt ≤ (60 : Int32).toInt := by omega
        refine PR.v h (cHold w Q (cGoN n (kC μ (29 + 2 * c)) (μ.2.1 15 0)) (μ.2.1 15 0 + Int32.ofNat n)) (gwI_of ?_) (fun m hm k => gwI_of ?_)
        · unfold f_X11_on
          refine gw_ji ?_
          refine gw_lt (fun _ => ?_) (fun q => by exfalso; omega)
          refine gw_ji ?_
          refine gw_ite (fun q => absurd q b0) (fun _ => ?_)
          refine gw_if (hg.t (r := 1) rfl) ?_
          rw [es]
          refine gw_nob h (fun _ => ?_) (fun q => absurd hC q)
          refine gw_if rfl ?_
          refine gw_out (fun _ => ?_) (fun q => absurd hn q)
          refine gw_if rfl ?_
          refine gw_if b0 ?_
          refine gw_if (hg.t (r := 1) rfl) ?_
          refine gw_bI (v_behind hcw hc (h.row hc) (by rw [mn]; exact v2) (n := n) (by omega)) (fun x m ⟨k, ex, _⟩ => ?_)
          refine gw_lt (fun _ => ?_) (fun q => by exfalso; omega)
          exact gw_some (gq_I ⟨k, ex⟩)
        · have hw := hmk hm k
          unfold f_X12_on
          refine gw_ji ?_
          refine gw_ite (fun q => absurd q b0) (fun _ => ?_)
          refine gw_if hm.1.t65 ?_
          rw [es]
          refine gw_isc (μ := μ) hm.mi (by rw [r66k k]; exact h.sz.symm) (fun _ => ?_) (fun q => absurd hC q)
          refine gw_if (by decide) ?_
          refine gw_inn (fun _ => ?_) (fun q => absurd hn q)
          refine gw_if (by decide) ?_
          refine gw_kept hw (by rw [r66k k]; exact v2) (n := n) (by omega) (fun m5 m7 g5 k7 h7 kr f7 c7 => ?_)
          rw [r66k k] at kr f7 c7
          refine gw_ji ?_
          refine gw_if b0 ?_
          refine gw_le (fun q => by exfalso; omega) (fun _ => ?_)
          refine gw_if (h7.1.1.t (r := 65) rfl) ?_
          refine gw_bI (w_holds h7 hc) (fun y m15 ⟨k15, ey⟩ => ?_)
          refine gw_back (m := m15) g5 (k7.trans k15.w01) (h7.k0 k15).1 (fun m' q => ?_)
          refine gw_some (gq_I ⟨q, ?_⟩)
          show y = _
          rw [ey, kr c hc, gN_p (cnt hC hc), f7, ← (h.kk hc).1, mn]
    · by_cases h20 : ∃ c : Nat, c < 5 ∧ b = Int32.ofNat (20 + c) ∧ b - 20 = Int32.ofNat c ∧ isC μ (Int32.ofNat c)
      · obtain ⟨c, hc, eb, es, hC⟩ := h20
        have bt : b.toInt = 20 + c := by rw [eb, ofn (k := 20 + c) (by omega)]; omega
        have nb : ¬ isC μ (b - 10) := fun q => h10 (isC_sub l10 (by omega) q)
        rcases out with hn | ⟨n, n60, rfl⟩
        · refine PR.u h (-2) (gwI_of ?_) (gwI_of ?_)
          · unfold f_X11_on
            refine gw_ji ?_
            refine gw_lt (fun q => by exfalso; omega) (fun _ => ?_)
            refine gw_ji ?_
            refine gw_ite (fun q => absurd q b0) (fun _ => ?_)
            refine gw_if (hg.t (r := 1) rfl) ?_
            rw [es]
            refine gw_nob h (fun _ => ?_) (fun q => absurd hC q)
            refine gw_if rfl ?_
            refine gw_out (fun q => absurd q hn) (fun _ => ?_)
            refine gw_ite (fun q => absurd q (by decide)) (fun _ => ?_)
            exact gw_some (gq_I ⟨rfl, rfl⟩)
          · unfold f_X12_on
            refine gw_ji ?_
            refine gw_ite (fun q => absurd q b0) (fun _ => ?_)
            refine gw_if h.1.t65 ?_
            refine gw_isc h.mi h.sz.symm (fun q => absurd q nb) (fun _ => ?_)
            refine gw_ite (fun q => absurd rfl q) (fun _ => ?_)
            refine gw_if h.1.t65 ?_
            rw [es]
            refine gw_isc h.mi h.sz.symm (fun _ => ?_) (fun q => absurd hC q)
            refine gw_if (by decide) ?_
            refine gw_inn (fun q => absurd q hn) (fun _ => ?_)
            refine gw_ite (fun q => absurd rfl q) (fun _ => ?_)
            exact gw_some (gq_I ⟨qm.refl μ, rfl⟩)
        · have on := ofn (k := n) (by omega)
          have hn : (0 : Int32).toInt ≤ (Int32.ofNat n).toInt ∧ (Int32.ofNat n).toInt ≤ (60 : Int32).toInt := by omega
          refine PR.v h (cGoN n (kC μ (29 + 2 * c)) (μ.2.1 15 0) 4) (gwI_of ?_) (fun m hm k => gwI_of ?_)
          · unfold f_X11_on
            refine gw_ji ?_
            refine gw_lt (fun q => by exfalso; omega) (fun _ => ?_)
            refine gw_ji ?_
            refine gw_ite (fun q => absurd q b0) (fun _ => ?_)
            refine gw_if (hg.t (r := 1) rfl) ?_
            rw [es]
            refine gw_nob h (fun _ => ?_) (fun q => absurd hC q)
            refine gw_if rfl ?_
            refine gw_out (fun _ => ?_) (fun q => absurd hn q)
            refine gw_if rfl ?_
            refine gw_if b0 ?_
            refine gw_if (hg.t (r := 1) rfl) ?_
            refine gw_bI (v_behind hcw hc (h.row hc) (by rw [mn]; exact v2) (n := n) (by omega)) (fun x m ⟨k, _, ek⟩ => ?_)
            refine gw_lt (fun q => by exfalso; omega) (fun _ => ?_)
            have hgm := (h.kc k).ci.1
            refine gw_gRa 63 (hgm.c (r := 1) rfl) (hgm.r (by decide)) ?_
            refine gw_gIw (ict.c hgm (Or.inr rfl)) ?_
            refine gw_some (gq_I ⟨k, ?_⟩)
            have e4 : m.2.1 63 4 = kC m 63 4 := rfl
            rw [e4, ek]
          · have hw := hmk hm k
            unfold f_X12_on
            refine gw_ji ?_
            refine gw_ite (fun q => absurd q b0) (fun _ => ?_)
            refine gw_if hm.1.t65 ?_
            refine gw_isc (μ := μ) hm.mi (by rw [r66k k]; exact h.sz.symm) (fun q => absurd q nb) (fun _ => ?_)
            refine gw_ite (fun q => absurd rfl q) (fun _ => ?_)
            refine gw_if hm.1.t65 ?_
            rw [es]
            refine gw_isc (μ := μ) hm.mi (by rw [r66k k]; exact h.sz.symm) (fun _ => ?_) (fun q => absurd hC q)
            refine gw_if (by decide) ?_
            refine gw_inn (fun _ => ?_) (fun q => absurd hn q)
            refine gw_if (by decide) ?_
            refine gw_kept hw (by rw [r66k k]; exact v2) (n := n) (by omega) (fun m5 m7 g5 k7 h7 kr f7 c7 => ?_)
            rw [r66k k] at kr f7 c7
            refine gw_ji ?_
            refine gw_if b0 ?_
            refine gw_le (fun _ => ?_) (fun q => by exfalso; omega)
            have a1 : ((6 : Int32) + b).toInt = (6 : Int32).toInt + b.toInt := gx_add (by omega) (by omega)
            have a2 : ((6 : Int32) + b - (20 : Int32)).toInt = ((6 : Int32) + b).toInt - (20 : Int32).toInt := gx_sub (by omega) (by omega)
            refine gw_gRa 66 (h7.1.1.c (r := 65) rfl) (h7.1.1.r (by decide)) ?_
            refine gw_aIw (6 + c) (h7.1.1.t (r := 66) rfl) (h7.1.1.l (r := 66) rfl) (by omega) (by omega) ?_
            refine gw_back (m := m7) g5 k7 h7.1 (fun m' q => ?_)
            refine gw_some (gq_I ⟨q, ?_⟩)
            have e4 : m7.2.1 66 (6 + c) = kR (m7.2.1 66) c 4 := rfl
            show m7.2.1 66 (6 + c) = _
            rw [e4, kr c hc, gN_p (cnt hC hc), ← (h.kk hc).1, mn]
      · refine PR.u h (-1) (gwI_of ?_) (gwI_of ?_)
        · unfold f_X11_on
          refine gw_ji ?_
          refine gw_lt (fun _ => ?_) (fun _ => ?_)
          · refine gw_ji ?_
            refine gw_ite (fun q => absurd q b0) (fun _ => ?_)
            refine gw_if (hg.t (r := 1) rfl) ?_
            refine gw_nob h (fun q => absurd (isC_sub l10 (by omega) q) h10) (fun _ => ?_)
            refine gw_ite (fun q => absurd q (by decide)) (fun _ => ?_)
            exact gw_some (gq_I ⟨rfl, rfl⟩)
          · refine gw_ji ?_
            refine gw_ite (fun q => absurd q b0) (fun _ => ?_)
            refine gw_if (hg.t (r := 1) rfl) ?_
            refine gw_nob h (fun q => absurd (isC_sub l20 (by omega) q) h20) (fun _ => ?_)
            refine gw_ite (fun q => absurd q (by decide)) (fun _ => ?_)
            exact gw_some (gq_I ⟨rfl, rfl⟩)
        · unfold f_X12_on
          refine gw_ji ?_
          refine gw_ite (fun q => absurd q b0) (fun _ => ?_)
          refine gw_if h.1.t65 ?_
          refine gw_isc h.mi h.sz.symm (fun q => absurd (isC_sub l10 (by omega) q) h10) (fun _ => ?_)
          refine gw_ite (fun q => absurd rfl q) (fun _ => ?_)
          refine gw_if h.1.t65 ?_
          refine gw_isc h.mi h.sz.symm (fun q => absurd (isC_sub l20 (by omega) q) h20) (fun _ => ?_)
          refine gw_ite (fun q => absurd rfl q) (fun _ => ?_)
          exact gw_some (gq_I ⟨qm.refl μ, rfl⟩)
end
end
section
/-! what looks and goes leaves alone -/
def kn (A : Nat → Prop) (μ m : gm_M) : Prop := m.1 = μ.1 ∧ m.2.2 = μ.2.2 ∧ (∀ r : Nat, r ≠ 66 → r ≠ 69 → r ≠ 70 → m.2.1 r = μ.2.1 r) ∧ (∀ k : Nat, ¬ A k → m.2.1 66 k = μ.2.1 66 k) ∧ True
theorem kn.old {A : Nat → Prop} {μ m : gm_M} (h : kn A μ m) : km A μ m := ⟨h.1, h.2.1, fun r _ h1 h2 h3 _ _ _ => h.2.2.1 r h1 h2 h3, h.2.2.2.1, by rw [h.2.2.1 65 (by decide) (by decide) (by decide)], by rw [h.2.2.1 65 (by decide) (by decide) (by decide)], by rw [h.2.2.1 65 (by decide) (by decide) (by decide)]⟩
theorem kn.refl (A : Nat → Prop) (μ : gm_M) : kn A μ μ := ⟨rfl, rfl, fun _ _ _ _ => rfl, fun _ _ => rfl, trivial⟩
theorem kn.trans {A : Nat → Prop} {a b c : gm_M} (h : kn A a b) (g : kn A b c) : kn A a c := ⟨g.1.trans h.1, g.2.1.trans h.2.1, fun r h1 h2 h3 => (g.2.2.1 r h1 h2 h3).trans (h.2.2.1 r h1 h2 h3), fun k hk => (g.2.2.2.1 k hk).trans (h.2.2.2.1 k hk), trivial⟩
theorem kn.weak {A B : Nat → Prop} {a b : gm_M} (h : kn A a b) (w : ∀ k, A k → B k) : kn B a b := ⟨h.1, h.2.1, h.2.2.1, fun k hk => h.2.2.2.1 k (fun q => hk (w k q)), trivial⟩
theorem kn.w00 {a b : gm_M} (h : kn A0 a b) : kn A0 a b := h
theorem kn.w01 {a b : gm_M} (h : kn A0 a b) : kn A1 a b := h.weak (fun _ q => q.elim)
theorem kn.w03 {a b : gm_M} (h : kn A0 a b) : kn A3 a b := h.weak (fun _ q => q.elim)
theorem kn.w31 {a b : gm_M} (h : kn A3 a b) : kn A1 a b := h.weak (fun _ q => q.2)
theorem kn.w33 {a b : gm_M} (h : kn A3 a b) : kn A3 a b := h
theorem kn.w11 {a b : gm_M} (h : kn A1 a b) : kn A1 a b := h
theorem kn.ws {A : Nat → Prop} {a b m : gm_M} {j : Nat} {x : Int32} (h : kn A a b) (e : m = (b.1, gm_u b.2.1 66 j x, b.2.2)) (hj : A j) : kn A a m := by
  subst e
  refine ⟨h.1, h.2.1, fun r h1 h2 h3 => ?_, fun k hk => ?_, trivial⟩
  · show gm_u b.2.1 66 j x r = _
    rw [gu_row h1]; exact h.2.2.1 r h1 h2 h3
  · show gm_u b.2.1 66 j x 66 k = _
    rw [gu_ne (fun q => hk (by rw [q]; exact hj))]; exact h.2.2.2.1 k hk
theorem kn.wr {A : Nat → Prop} {a b m : gm_M} {r j : Nat} {x : Int32} (h : kn A a b) (e : m = (b.1, gm_u b.2.1 r j x, b.2.2)) (hr : r = 69 ∨ r = 70) : kn A a m := by
  subst e
  refine ⟨h.1, h.2.1, fun q h1 h2 h3 => ?_, fun k hk => ?_, trivial⟩
  · show gm_u b.2.1 r j x q = _
    rw [gu_row (by omega)]; exact h.2.2.1 q h1 h2 h3
  · show gm_u b.2.1 r j x 66 k = _
    rw [gu_row (by omega)]; exact h.2.2.2.1 k hk
theorem MI.on0 {μ m : gm_M} (h : MI μ) (g : kn A0 μ m) : MI m := MI.of0 h g.old
theorem MI.on1 {μ m : gm_M} (h : MI μ) (g : kn A1 μ m) : MI m := MI.of1 h g.old
theorem MI.on3 {μ m : gm_M} (h : MI μ) (g : kn A3 μ m) : MI m := MI.of3 h g.old
set_option maxHeartbeats 1000000 in
theorem n_X12_goesBack {μ : gm_M} (h : MI μ) : gwV (f_X12_goesBack 65 μ) (fun m => kn A1 μ m ∧ rs m) := by
  refine gwV_of ?_
  unfold f_X12_goesBack
  have l0 : (0 : Int32).toInt = 0 := rfl
  have l1 : (1 : Int32).toInt = 1 := rfl
  have l26 : (26 : Int32).toInt = 26 := rfl
  refine gw_loop (fun s => (0 ≤ s.1.toInt ∧ s.1.toInt ≤ 26) ∧ kn A1 μ s.2 ∧ ∀ k : Nat, (k : Int) < s.1.toInt → s.2.2.1 66 k = μ.2.1 68 k) (fun s => 26 - s.1.toInt) (fun s ⟨h1, h2, h3⟩ => ?_) 5000 ((0 : Int32), μ) ⟨⟨by show 0 ≤ (0 : Int32).toInt; omega, by show (0 : Int32).toInt ≤ 26; omega⟩, kn.refl A1 μ, fun k hk => by have : (k : Int) < (0 : Int32).toInt := hk; omega⟩ (by show 26 - (0 : Int32).toInt < ((5000 : Nat) : Int); omega) (by show 0 ≤ 26 - (0 : Int32).toInt; omega)
  have hS : gS s.2 := (h.on1 h2).1
  have e68 : s.2.2.1 68 = μ.2.1 68 := h2.2.2.1 68 (by decide) (by decide) (by decide)
  refine gw_le (fun g => ?_) (fun g => ?_)
  · exact gw_some (gs_inr (gq_V ⟨h2, fun k hk => by rw [h3 k (by omega), e68]⟩))
  · refine gw_gRa 66 (hS.c (r := 65) rfl) (hS.r (by decide)) ?_
    refine gw_gRa 68 (hS.c (r := 65) rfl) (hS.r (by decide)) ?_
    refine gw_aI (i := s.1) (hS.t (r := 68) rfl) (hS.l (r := 68) rfl) (by omega) (by omega) (fun v ev => ?_)
    refine gw_sI (i := s.1) (hS.t (r := 66) rfl) (hS.l (r := 66) rfl) (by omega) (by omega) (fun m em => ?_)
    have hk1 := h2.ws em (by unfold A1; omega)
    subst em
    have n : (s.1 + (1 : Int32)).toInt = s.1.toInt + (1 : Int32).toInt := gx_add (by omega) (by omega)
    refine gw_some (gs_inl ⟨⟨by show 0 ≤ (s.1 + (1 : Int32)).toInt; omega, by show (s.1 + (1 : Int32)).toInt ≤ 26; omega⟩, hk1, fun k hk => ?_⟩ (by show 26 - (s.1 + (1 : Int32)).toInt < 26 - s.1.toInt; omega) (by show 0 ≤ 26 - (s.1 + (1 : Int32)).toInt; omega))
    have hk : (k : Int) < (s.1 + (1 : Int32)).toInt := hk
    show gm_u s.2.2.1 66 s.1.toInt.toNat v 66 k = _
    by_cases e : k = s.1.toInt.toNat
    · subst e
      rw [gu_eq, ev, e68]
    · rw [gu_ne e]; exact h3 k (by omega)
set_option maxHeartbeats 1000000 in
theorem n_X12_looks {μ : gm_M} (h : MI μ) {a1 : Int32} (q0 : 0 ≤ a1.toInt ∧ a1.toInt < 5) : gwI (f_X12_looks 65 a1 μ) (fun x m => kn A0 μ m) := by
  refine gwI_of ?_
  unfold f_X12_looks
  have lm200 : (-200 : Int32).toInt = -200 := rfl
  have lm10 : (-10 : Int32).toInt = -10 := rfl
  have lm2 : (-2 : Int32).toInt = -2 := rfl
  have lm1 : (-1 : Int32).toInt = -1 := rfl
  have l0 : (0 : Int32).toInt = 0 := rfl
  have l1 : (1 : Int32).toInt = 1 := rfl
  have l2 : (2 : Int32).toInt = 2 := rfl
  have l3 : (3 : Int32).toInt = 3 := rfl
  have l4 : (4 : Int32).toInt = 4 := rfl
  have l5 : (5 : Int32).toInt = 5 := rfl
  have l6 : (6 : Int32).toInt = 6 := rfl
  have l8 : (8 : Int32).toInt = 8 := rfl
  have l10 : (10 : Int32).toInt = 10 := rfl
  have l32 : (32 : Int32).toInt = 32 := rfl
  have l33 : (33 : Int32).toInt = 33 := rfl
  have l38 : (38 : Int32).toInt = 38 := rfl
  have l140 : (140 : Int32).toInt = 140 := rfl
  have l220 : (220 : Int32).toInt = 220 := rfl
  have l225 : (225 : Int32).toInt = 225 := rfl
  have k0 := kn.refl A0 μ
  refine gw_gRa 69 ((h.on0 k0).1.c (r := 65) rfl) ((h.on0 k0).1.r (by decide)) ?_
  refine gw_sI (i := (0 : Int32)) ((h.on0 k0).1.t (r := 69) rfl) ((h.on0 k0).1.l (r := 69) rfl) (by omega) (by omega) (fun m1 em1 => ?_)
  have km1 := k0.wr em1 (by decide)
  refine gw_gRa 69 ((h.on0 km1).1.c (r := 65) rfl) ((h.on0 km1).1.r (by decide)) ?_
  refine gw_gRa 66 ((h.on0 km1).1.c (r := 65) rfl) ((h.on0 km1).1.r (by decide)) ?_
  have n2 : ((33 : Int32) + a1).toInt = (33 : Int32).toInt + a1.toInt := gx_add (by omega) (by omega)
  refine gw_aI (i := ((33 : Int32) + a1)) ((h.on0 km1).1.t (r := 66) rfl) ((h.on0 km1).1.l (r := 66) rfl) (by omega) (by omega) (fun v3 ev3 => ?_)
  refine gw_sI (i := (1 : Int32)) ((h.on0 km1).1.t (r := 69) rfl) ((h.on0 km1).1.l (r := 69) rfl) (by omega) (by omega) (fun m4 em4 => ?_)
  have km4 := km1.wr em4 (by decide)
  refine gw_gRa 69 ((h.on0 km4).1.c (r := 65) rfl) ((h.on0 km4).1.r (by decide)) ?_
  refine gw_gRa 66 ((h.on0 km4).1.c (r := 65) rfl) ((h.on0 km4).1.r (by decide)) ?_
  have n5 : ((38 : Int32) + a1).toInt = (38 : Int32).toInt + a1.toInt := gx_add (by omega) (by omega)
  refine gw_aI (i := ((38 : Int32) + a1)) ((h.on0 km4).1.t (r := 66) rfl) ((h.on0 km4).1.l (r := 66) rfl) (by omega) (by omega) (fun v6 ev6 => ?_)
  refine gw_sI (i := (2 : Int32)) ((h.on0 km4).1.t (r := 69) rfl) ((h.on0 km4).1.l (r := 69) rfl) (by omega) (by omega) (fun m7 em7 => ?_)
  have km7 := km4.wr em7 (by decide)
  refine gw_gRa 69 ((h.on0 km7).1.c (r := 65) rfl) ((h.on0 km7).1.r (by decide)) ?_
  refine gw_gRa 66 ((h.on0 km7).1.c (r := 65) rfl) ((h.on0 km7).1.r (by decide)) ?_
  have n8 : ((1 : Int32) + a1).toInt = (1 : Int32).toInt + a1.toInt := gx_add (by omega) (by omega)
  refine gw_aI (i := ((1 : Int32) + a1)) ((h.on0 km7).1.t (r := 66) rfl) ((h.on0 km7).1.l (r := 66) rfl) (by omega) (by omega) (fun v9 ev9 => ?_)
  refine gw_sI (i := (3 : Int32)) ((h.on0 km7).1.t (r := 69) rfl) ((h.on0 km7).1.l (r := 69) rfl) (by omega) (by omega) (fun m10 em10 => ?_)
  have km10 := km7.wr em10 (by decide)
  refine gw_gRa 69 ((h.on0 km10).1.c (r := 65) rfl) ((h.on0 km10).1.r (by decide)) ?_
  refine gw_gRa 66 ((h.on0 km10).1.c (r := 65) rfl) ((h.on0 km10).1.r (by decide)) ?_
  have n11 : ((6 : Int32) + a1).toInt = (6 : Int32).toInt + a1.toInt := gx_add (by omega) (by omega)
  refine gw_aI (i := ((6 : Int32) + a1)) ((h.on0 km10).1.t (r := 66) rfl) ((h.on0 km10).1.l (r := 66) rfl) (by omega) (by omega) (fun v12 ev12 => ?_)
  refine gw_dv (by omega) ?_
  refine gw_sI (i := (4 : Int32)) ((h.on0 km10).1.t (r := 69) rfl) ((h.on0 km10).1.l (r := 69) rfl) (by omega) (by omega) (fun m13 em13 => ?_)
  have km13 := km10.wr em13 (by decide)
  refine gw_gRa 69 ((h.on0 km13).1.c (r := 65) rfl) ((h.on0 km13).1.r (by decide)) ?_
  refine gw_gRa 66 ((h.on0 km13).1.c (r := 65) rfl) ((h.on0 km13).1.r (by decide)) ?_
  refine gw_aI (i := (0 : Int32)) ((h.on0 km13).1.t (r := 66) rfl) ((h.on0 km13).1.l (r := 66) rfl) (by omega) (by omega) (fun v14 ev14 => ?_)
  refine gw_dv (by omega) ?_
  refine gw_sI (i := (5 : Int32)) ((h.on0 km13).1.t (r := 69) rfl) ((h.on0 km13).1.l (r := 69) rfl) (by omega) (by omega) (fun m15 em15 => ?_)
  have km15 := km13.wr em15 (by decide)
  refine gw_if ((h.on0 km15).1.t (r := 65) rfl) ?_
  refine gw_bI (s_X12_tellsOf (h.on0 km15)  (by omega)) (fun x16 m16 ⟨z16, f16⟩ => ?_)
  replace z16 := z16.symm
  subst z16
  have ee : ∀ k : Nat, m15.2.1 66 k = μ.2.1 66 k := fun k => km15.2.2.2.1 k (fun q => q)
  obtain ⟨lx1, lx2, tp, lx3, lx4⟩ := (h.on0 km15).lk f16
  simp only [ee] at lx4
  clear f16
  refine gw_gRa 66 ((h.on0 km15).1.c (r := 65) rfl) ((h.on0 km15).1.r (by decide)) ?_
  refine gw_aI (i := (32 : Int32)) ((h.on0 km15).1.t (r := 66) rfl) ((h.on0 km15).1.l (r := 66) rfl) (by omega) (by omega) (fun v17 ev17 => ?_)
  have bv17 := (h.on0 km15).n32
  have cv17 : v17 = m15.2.1 66 32 := ev17
  have dv17 : v17.toInt = (m15.2.1 66 32).toInt := by rw [cv17]
  have yv17 : v17.toInt = (μ.2.1 66 32).toInt := by rw [dv17, km15.2.2.2.1 32 (by first | exact fun q => q | (unfold A0; omega))]
  have e32 : v17.toInt = (μ.2.1 66 32).toInt := by rw [ev17]; exact congrArg Int32.toInt (ee 32)
  have n19 : ((140 : Int32) * v17).toInt = 140 * v17.toInt := gx_mul 140 rfl (by omega) (by omega)
  have n20 : ((225 : Int32) + ((140 : Int32) * v17)).toInt = (225 : Int32).toInt + ((140 : Int32) * v17).toInt := gx_add (by omega) (by omega)
  refine gw_loop (fun s18 => kn A0 μ s18.2.2.2 ∧ ((225 + 140 * (μ.2.1 66 32).toInt) ≤ s18.2.2.1.toInt ∧ s18.2.2.1.toInt ≤ (225 + 140 * (μ.2.1 66 32).toInt) + x16.toInt ∧ s18.2.1.toInt = ((tp (s18.2.2.1.toInt - (225 + 140 * (μ.2.1 66 32).toInt)).toNat : Nat) : Int))) (fun s18 => ((225 + 140 * (μ.2.1 66 32).toInt) + x16.toInt - s18.2.2.1.toInt)) (fun s18 ⟨k21, u22⟩ => ?_) 5000 ((0 : Int32), (0 : Int32), ((225 : Int32) + ((140 : Int32) * v17)), m15) ⟨km15, (by show (225 + 140 * (μ.2.1 66 32).toInt) ≤ ((225 : Int32) + ((140 : Int32) * v17)).toInt ∧ ((225 : Int32) + ((140 : Int32) * v17)).toInt ≤ (225 + 140 * (μ.2.1 66 32).toInt) + x16.toInt ∧ (0 : Int32).toInt = ((tp (((225 : Int32) + ((140 : Int32) * v17)).toInt - (225 + 140 * (μ.2.1 66 32).toInt)).toNat : Nat) : Int); refine ⟨by omega, by omega, ?_⟩; rw [show (((225 : Int32) + ((140 : Int32) * v17)).toInt - (225 + 140 * (μ.2.1 66 32).toInt)).toNat = 0 from by omega, lx3]; rfl)⟩ (by show ((225 + 140 * (μ.2.1 66 32).toInt) + x16.toInt - ((225 : Int32) + ((140 : Int32) * v17)).toInt) < ((5000 : Nat) : Int); omega) (by show 0 ≤ ((225 + 140 * (μ.2.1 66 32).toInt) + x16.toInt - ((225 : Int32) + ((140 : Int32) * v17)).toInt); omega)
  have n23 : ((140 : Int32) * v17).toInt = 140 * v17.toInt := gx_mul 140 rfl (by omega) (by omega)
  have n24 : ((225 : Int32) + ((140 : Int32) * v17)).toInt = (225 : Int32).toInt + ((140 : Int32) * v17).toInt := gx_add (by omega) (by omega)
  have n25 : (((225 : Int32) + ((140 : Int32) * v17)) + x16).toInt = ((225 : Int32) + ((140 : Int32) * v17)).toInt + x16.toInt := gx_add (by omega) (by omega)
  refine gw_le (fun h125_26 => ?_) (fun h125_26 => ?_)
  ·
    exact gw_some (gs_inr (gq_I k21))
  ·
    refine gw_gRa 66 ((h.on0 k21).1.c (r := 65) rfl) ((h.on0 k21).1.r (by decide)) ?_
    refine gw_aI (i := s18.2.2.1) ((h.on0 k21).1.t (r := 66) rfl) ((h.on0 k21).1.l (r := 66) rfl) (by omega) (by omega) (fun v27 ev27 => ?_)
    have gv27 : v27 = μ.2.1 66 ((225 + 140 * (μ.2.1 66 32).toInt) + (((s18.2.2.1.toInt - (225 + 140 * (μ.2.1 66 32).toInt)).toNat : Nat) : Int)).toNat := by rw [ev27, show ((225 + 140 * (μ.2.1 66 32).toInt) + (((s18.2.2.1.toInt - (225 + 140 * (μ.2.1 66 32).toInt)).toNat : Nat) : Int)).toNat = s18.2.2.1.toInt.toNat from by omega]; exact k21.2.2.2.1 _ (fun q => q)
    have wv27 := lx4 (s18.2.2.1.toInt - (225 + 140 * (μ.2.1 66 32).toInt)).toNat (by omega)
    rw [← gv27] at wv27
    generalize hT1 : tp (s18.2.2.1.toInt - (225 + 140 * (μ.2.1 66 32).toInt)).toNat = t1 at *
    generalize hT2 : tp ((s18.2.2.1.toInt - (225 + 140 * (μ.2.1 66 32).toInt)).toNat + 1) = t2 at *
    have ww := wv27
    refine gw_j (fun s28 => kn A0 μ s28.2.2 ∧ (s28.2.1.toInt = (t2 : Int))) (fun s28 ⟨k30, u31⟩ => ?_) (fun j29 hj29 => ?_)
    ·
      have n32 : (s18.2.2.1 + (1 : Int32)).toInt = s18.2.2.1.toInt + (1 : Int32).toInt := gx_add (by omega) (by omega)
      exact gw_some (gs_inl ⟨k30, (by show (225 + 140 * (μ.2.1 66 32).toInt) ≤ (s18.2.2.1 + (1 : Int32)).toInt ∧ (s18.2.2.1 + (1 : Int32)).toInt ≤ (225 + 140 * (μ.2.1 66 32).toInt) + x16.toInt ∧ s28.2.1.toInt = ((tp ((s18.2.2.1 + (1 : Int32)).toInt - (225 + 140 * (μ.2.1 66 32).toInt)).toNat : Nat) : Int); refine ⟨by omega, by omega, ?_⟩; rw [show ((s18.2.2.1 + (1 : Int32)).toInt - (225 + 140 * (μ.2.1 66 32).toInt)).toNat = (s18.2.2.1.toInt - (225 + 140 * (μ.2.1 66 32).toInt)).toNat + 1 from by omega, hT2]; omega)⟩ (by show ((225 + 140 * (μ.2.1 66 32).toInt) + x16.toInt - (s18.2.2.1 + (1 : Int32)).toInt) < ((225 + 140 * (μ.2.1 66 32).toInt) + x16.toInt - s18.2.2.1.toInt); omega) (by show 0 ≤ ((225 + 140 * (μ.2.1 66 32).toInt) + x16.toInt - (s18.2.2.1 + (1 : Int32)).toInt); omega))
    ·
      refine gw_lt (fun h139_33 => ?_) (fun h139_33 => ?_)
      ·
        refine gw_ne (fun h239_34 => ?_) (fun h239_34 => ?_)
        ·
          refine gw_le (fun h275_35 => ?_) (fun h275_35 => ?_)
          ·
            have q1 := wst_D ww h275_35
            refine gw_gRa 70 ((h.on0 k21).1.c (r := 65) rfl) ((h.on0 k21).1.r (by decide)) ?_
            refine gw_aZ (i := (0 : Int32)) ((h.on0 k21).1.t (r := 70) rfl) ((h.on0 k21).1.l (r := 70) rfl) (by omega) (by omega) (fun v36 ev36 => ?_)
            refine gw_j (fun s37 => True) (fun s37 _ => ?_) (fun j38 hj38 => ?_)
            ·
              refine gw_j (fun s39 => True) (fun s39 _ => ?_) (fun j40 hj40 => ?_)
              ·
                exact hj29 _ ⟨k21, (by show (0 : Int32).toInt = (t2 : Int); omega)⟩
              ·
                refine gw_j (fun s41 => True) (fun s41 _ => ?_) (fun j42 hj42 => ?_)
                ·
                  exact hj40 _ trivial
                ·
                  refine gw_eq (fun _ => ?_) (fun _ => ?_)
                  ·
                    exact hj42 _ trivial
                  ·
                    refine gw_lt (fun _ => ?_) (fun _ => ?_)
                    ·
                      exact hj42 _ trivial
                    ·
                      exact hj40 _ trivial
            ·
              refine gw_j (fun s45 => True) (fun s45 _ => ?_) (fun j46 hj46 => ?_)
              ·
                exact hj38 _ trivial
              ·
                refine gw_eq (fun _ => ?_) (fun _ => ?_)
                ·
                  exact hj46 _ trivial
                ·
                  refine gw_le (fun _ => ?_) (fun _ => ?_)
                  ·
                    exact hj46 _ trivial
                  ·
                    exact hj38 _ trivial
          ·
            obtain ⟨q0, q1, q2⟩ := wst_C ww (by omega) (by omega)
            have n49 : (s18.2.1 + (-1 : Int32)).toInt = s18.2.1.toInt + (-1 : Int32).toInt := gx_add (by omega) (by omega)
            obtain ⟨w50, hw50⟩ : ∃ w : Int32, w = (s18.2.1 + (-1 : Int32)) := ⟨_, rfl⟩
            rw [← hw50]
            rw [← hw50] at n49
            refine gw_gRa 70 ((h.on0 k21).1.c (r := 65) rfl) ((h.on0 k21).1.r (by decide)) ?_
            refine gw_j (fun s51 => True) (fun s51 _ => ?_) (fun j52 hj52 => ?_)
            ·
              have n53 : (w50 - (1 : Int32)).toInt = w50.toInt - (1 : Int32).toInt := gx_sub (by omega) (by omega)
              refine gw_sZ (i := (w50 - (1 : Int32))) ((h.on0 k21).1.t (r := 70) rfl) ((h.on0 k21).1.l (r := 70) rfl) (by omega) (by omega) (fun m54 em54 => ?_)
              have km54 := k21.wr em54 (by decide)
              exact hj29 _ ⟨km54, (by show w50.toInt = (t2 : Int); omega)⟩
            ·
              refine gw_ne (fun _ => ?_) (fun _ => ?_)
              ·
                refine gw_gRa 70 ((h.on0 k21).1.c (r := 65) rfl) ((h.on0 k21).1.r (by decide)) ?_
                have n56 : (w50 - (1 : Int32)).toInt = w50.toInt - (1 : Int32).toInt := gx_sub (by omega) (by omega)
                refine gw_aZ (i := (w50 - (1 : Int32))) ((h.on0 k21).1.t (r := 70) rfl) ((h.on0 k21).1.l (r := 70) rfl) (by omega) (by omega) (fun v57 ev57 => ?_)
                refine gw_j (fun s58 => True) (fun s58 _ => ?_) (fun j59 hj59 => ?_)
                ·
                  exact hj52 _ trivial
                ·
                  refine gw_ne (fun _ => ?_) (fun _ => ?_)
                  ·
                    exact hj59 _ trivial
                  ·
                    refine gw_gRa 70 ((h.on0 k21).1.c (r := 65) rfl) ((h.on0 k21).1.r (by decide)) ?_
                    refine gw_aZ (i := w50) ((h.on0 k21).1.t (r := 70) rfl) ((h.on0 k21).1.l (r := 70) rfl) (by omega) (by omega) (fun v61 ev61 => ?_)
                    refine gw_eq (fun _ => ?_) (fun _ => ?_)
                    ·
                      exact hj52 _ trivial
                    ·
                      exact hj59 _ trivial
              ·
                refine gw_gRa 70 ((h.on0 k21).1.c (r := 65) rfl) ((h.on0 k21).1.r (by decide)) ?_
                have n63 : (w50 - (1 : Int32)).toInt = w50.toInt - (1 : Int32).toInt := gx_sub (by omega) (by omega)
                refine gw_aZ (i := (w50 - (1 : Int32))) ((h.on0 k21).1.t (r := 70) rfl) ((h.on0 k21).1.l (r := 70) rfl) (by omega) (by omega) (fun v64 ev64 => ?_)
                refine gw_j (fun s65 => True) (fun s65 _ => ?_) (fun j66 hj66 => ?_)
                ·
                  exact hj52 _ trivial
                ·
                  refine gw_eq (fun _ => ?_) (fun _ => ?_)
                  ·
                    exact hj66 _ trivial
                  ·
                    refine gw_gRa 70 ((h.on0 k21).1.c (r := 65) rfl) ((h.on0 k21).1.r (by decide)) ?_
                    refine gw_aZ (i := w50) ((h.on0 k21).1.t (r := 70) rfl) ((h.on0 k21).1.l (r := 70) rfl) (by omega) (by omega) (fun v68 ev68 => ?_)
                    refine gw_eq (fun _ => ?_) (fun _ => ?_)
                    ·
                      exact hj66 _ trivial
                    ·
                      exact hj52 _ trivial
        ·
          obtain ⟨q0, q1, q2⟩ := wst_B ww h239_34
          refine gw_gRa 70 ((h.on0 k21).1.c (r := 65) rfl) ((h.on0 k21).1.r (by decide)) ?_
          refine gw_gRa 70 ((h.on0 k21).1.c (r := 65) rfl) ((h.on0 k21).1.r (by decide)) ?_
          have n70 : (s18.2.1 - (1 : Int32)).toInt = s18.2.1.toInt - (1 : Int32).toInt := gx_sub (by omega) (by omega)
          refine gw_aZ (i := (s18.2.1 - (1 : Int32))) ((h.on0 k21).1.t (r := 70) rfl) ((h.on0 k21).1.l (r := 70) rfl) (by omega) (by omega) (fun v71 ev71 => ?_)
          refine gw_j (fun s72 => True) (fun s72 _ => ?_) (fun j73 hj73 => ?_)
          ·
            have n74 : (s18.2.1 - (1 : Int32)).toInt = s18.2.1.toInt - (1 : Int32).toInt := gx_sub (by omega) (by omega)
            refine gw_sZ (i := (s18.2.1 - (1 : Int32))) ((h.on0 k21).1.t (r := 70) rfl) ((h.on0 k21).1.l (r := 70) rfl) (by omega) (by omega) (fun m75 em75 => ?_)
            have km75 := k21.wr em75 (by decide)
            exact hj29 _ ⟨km75, (by show s18.2.1.toInt = (t2 : Int); omega)⟩
          ·
            refine gw_ne (fun _ => ?_) (fun _ => ?_)
            ·
              exact hj73 _ trivial
            ·
              exact hj73 _ trivial
      ·
        obtain ⟨q0, q1, q2, q3⟩ := wst_A ww h139_33
        refine gw_gRa 69 ((h.on0 k21).1.c (r := 65) rfl) ((h.on0 k21).1.r (by decide)) ?_
        refine gw_dv (by omega) ?_
        have n77 := gx_remk8 (x := v27) (by omega)
        refine gw_aI (i := (v27 - v27 / (8 : Int32) * (8 : Int32))) ((h.on0 k21).1.t (r := 69) rfl) ((h.on0 k21).1.l (r := 69) rfl) (by omega) (by omega) (fun v78 ev78 => ?_)
        refine gw_dv (by omega) ?_
        refine gw_dv (by omega) ?_
        refine gw_dv (by omega) ?_
        refine gw_gRa 70 ((h.on0 k21).1.c (r := 65) rfl) ((h.on0 k21).1.r (by decide)) ?_
        refine gw_j (fun s79 => True) (fun s79 _ => ?_) (fun j80 hj80 => ?_)
        ·
          refine gw_sZ (i := s18.2.1) ((h.on0 k21).1.t (r := 70) rfl) ((h.on0 k21).1.l (r := 70) rfl) (by omega) (by omega) (fun m81 em81 => ?_)
          have km81 := k21.wr em81 (by decide)
          have n82 : (s18.2.1 + (1 : Int32)).toInt = s18.2.1.toInt + (1 : Int32).toInt := gx_add (by omega) (by omega)
          exact hj29 _ ⟨km81, (by show (s18.2.1 + (1 : Int32)).toInt = (t2 : Int); omega)⟩
        ·
          refine gw_ne (fun _ => ?_) (fun _ => ?_)
          ·
            refine gw_ne (fun _ => ?_) (fun _ => ?_)
            ·
              refine gw_le (fun _ => ?_) (fun _ => ?_)
              ·
                exact hj80 _ trivial
              ·
                exact hj80 _ trivial
            ·
              refine gw_ne (fun _ => ?_) (fun _ => ?_)
              ·
                exact hj80 _ trivial
              ·
                exact hj80 _ trivial
          ·
            refine gw_le (fun _ => ?_) (fun _ => ?_)
            ·
              exact hj80 _ trivial
            ·
              exact hj80 _ trivial
set_option maxHeartbeats 1000000 in
theorem n_X12_stretchOf {μ : gm_M} (h : MI μ) {a1 : Int32} (q0 : 0 ≤ a1.toInt ∧ a1.toInt < 5) : gwI (f_X12_stretchOf 65 a1 μ) (fun x m => kn A0 μ m) := by
  refine gwI_of ?_
  unfold f_X12_stretchOf
  have l1 : (1 : Int32).toInt = 1 := rfl
  have l30 : (30 : Int32).toInt = 30 := rfl
  have l1000000 : (1000000 : Int32).toInt = 1000000 := rfl
  have k0 := kn.refl A0 μ
  refine gw_if ((h.on0 k0).1.t (r := 65) rfl) ?_
  refine gw_bI (n_X12_looks (h.on0 k0)  (by omega)) (fun x1 m1 g1 => ?_)
  have kk1 := k0.trans g1.w00
  refine gw_bI (s_X12_within  ) (fun x2 m2 z2 => ?_)
  replace z2 := z2.symm
  subst z2
  exact gw_some (gq_I kk1)
set_option maxHeartbeats 1000000 in
theorem n_X12_holdsOf {μ : gm_M} (h : MI μ) {a1 : Int32} (q0 : 0 ≤ a1.toInt ∧ a1.toInt < 5) : gwI (f_X12_holdsOf 65 a1 μ) (fun x m => kn A0 μ m) := by
  refine gwI_of ?_
  unfold f_X12_holdsOf
  have l0 : (0 : Int32).toInt = 0 := rfl
  have l1 : (1 : Int32).toInt = 1 := rfl
  have l2 : (2 : Int32).toInt = 2 := rfl
  have l5 : (5 : Int32).toInt = 5 := rfl
  have l6 : (6 : Int32).toInt = 6 := rfl
  have l10 : (10 : Int32).toInt = 10 := rfl
  have l11 : (11 : Int32).toInt = 11 := rfl
  have l33 : (33 : Int32).toInt = 33 := rfl
  have l210 : (210 : Int32).toInt = 210 := rfl
  have k0 := kn.refl A0 μ
  refine gw_gRa 66 ((h.on0 k0).1.c (r := 65) rfl) ((h.on0 k0).1.r (by decide)) ?_
  have n1 : ((1 : Int32) + a1).toInt = (1 : Int32).toInt + a1.toInt := gx_add (by omega) (by omega)
  refine gw_aI (i := ((1 : Int32) + a1)) ((h.on0 k0).1.t (r := 66) rfl) ((h.on0 k0).1.l (r := 66) rfl) (by omega) (by omega) (fun v2 ev2 => ?_)
  refine gw_if ((h.on0 k0).1.t (r := 65) rfl) ?_
  refine gw_bI (n_X12_stretchOf (h.on0 k0)  (by omega)) (fun x3 m3 g3 => ?_)
  have kk3 := k0.trans g3.w00
  refine gw_gRa 66 ((h.on0 kk3).1.c (r := 65) rfl) ((h.on0 kk3).1.r (by decide)) ?_
  have n4 : ((6 : Int32) + a1).toInt = (6 : Int32).toInt + a1.toInt := gx_add (by omega) (by omega)
  refine gw_aI (i := ((6 : Int32) + a1)) ((h.on0 kk3).1.t (r := 66) rfl) ((h.on0 kk3).1.l (r := 66) rfl) (by omega) (by omega) (fun v5 ev5 => ?_)
  refine gw_gRa 66 ((h.on0 kk3).1.c (r := 65) rfl) ((h.on0 kk3).1.r (by decide)) ?_
  have n6 : ((11 : Int32) + a1).toInt = (11 : Int32).toInt + a1.toInt := gx_add (by omega) (by omega)
  refine gw_aI (i := ((11 : Int32) + a1)) ((h.on0 kk3).1.t (r := 66) rfl) ((h.on0 kk3).1.l (r := 66) rfl) (by omega) (by omega) (fun v7 ev7 => ?_)
  refine gw_dv (by omega) ?_
  refine gw_if ((h.on0 kk3).1.t (r := 65) rfl) ?_
  refine gw_bI (s_X12_tellsOf (h.on0 kk3)  (by omega)) (fun x8 m8 ⟨z8, f8⟩ => ?_)
  replace z8 := z8.symm
  subst z8
  refine gw_bI (s_X12_above  ) (fun x9 m9 z9 => ?_)
  replace z9 := z9.symm
  subst z9
  refine gw_gRa 66 ((h.on0 kk3).1.c (r := 65) rfl) ((h.on0 kk3).1.r (by decide)) ?_
  have n10 : ((33 : Int32) + a1).toInt = (33 : Int32).toInt + a1.toInt := gx_add (by omega) (by omega)
  refine gw_aI (i := ((33 : Int32) + a1)) ((h.on0 kk3).1.t (r := 66) rfl) ((h.on0 kk3).1.l (r := 66) rfl) (by omega) (by omega) (fun v11 ev11 => ?_)
  refine gw_ne (fun h59_12 => ?_) (fun h59_12 => ?_)
  ·
    exact gw_some (gq_I kk3)
  ·
    refine gw_bI (s_X12_above  ) (fun x13 m13 z13 => ?_)
    replace z13 := z13.symm
    subst z13
    exact gw_some (gq_I kk3)
set_option maxHeartbeats 1000000 in
theorem n_X12_goesFor {μ : gm_M} (h : MI μ) {a1 : Int32} (q0 : 0 ≤ a1.toInt ∧ a1.toInt < 5) : gwV (f_X12_goesFor 65 a1 μ) (fun m => kn A3 μ m) := by
  refine gwV_of ?_
  unfold f_X12_goesFor
  have l0 : (0 : Int32).toInt = 0 := rfl
  have l1 : (1 : Int32).toInt = 1 := rfl
  have l5 : (5 : Int32).toInt = 5 := rfl
  have l6 : (6 : Int32).toInt = 6 := rfl
  have l11 : (11 : Int32).toInt = 11 := rfl
  have l16 : (16 : Int32).toInt = 16 := rfl
  have l38 : (38 : Int32).toInt = 38 := rfl
  have l99 : (99 : Int32).toInt = 99 := rfl
  have k0 := kn.refl A3 μ
  refine gw_gRa 66 ((h.on3 k0).1.c (r := 65) rfl) ((h.on3 k0).1.r (by decide)) ?_
  have n1 : ((16 : Int32) + a1).toInt = (16 : Int32).toInt + a1.toInt := gx_add (by omega) (by omega)
  refine gw_aI (i := ((16 : Int32) + a1)) ((h.on3 k0).1.t (r := 66) rfl) ((h.on3 k0).1.l (r := 66) rfl) (by omega) (by omega) (fun v2 ev2 => ?_)
  refine gw_le (fun h9_3 => ?_) (fun h9_3 => ?_)
  ·
    refine gw_gRa 66 ((h.on3 k0).1.c (r := 65) rfl) ((h.on3 k0).1.r (by decide)) ?_
    have n4 : ((1 : Int32) + a1).toInt = (1 : Int32).toInt + a1.toInt := gx_add (by omega) (by omega)
    refine gw_aI (i := ((1 : Int32) + a1)) ((h.on3 k0).1.t (r := 66) rfl) ((h.on3 k0).1.l (r := 66) rfl) (by omega) (by omega) (fun v5 ev5 => ?_)
    refine gw_le (fun h56_6 => ?_) (fun h56_6 => ?_)
    ·
      refine gw_gRa 66 ((h.on3 k0).1.c (r := 65) rfl) ((h.on3 k0).1.r (by decide)) ?_
      refine gw_gRa 66 ((h.on3 k0).1.c (r := 65) rfl) ((h.on3 k0).1.r (by decide)) ?_
      have n7 : ((11 : Int32) + a1).toInt = (11 : Int32).toInt + a1.toInt := gx_add (by omega) (by omega)
      refine gw_aI (i := ((11 : Int32) + a1)) ((h.on3 k0).1.t (r := 66) rfl) ((h.on3 k0).1.l (r := 66) rfl) (by omega) (by omega) (fun v8 ev8 => ?_)
      refine gw_bI (s_X12_above  ) (fun x9 m9 z9 => ?_)
      replace z9 := z9.symm
      subst z9
      have n10 : ((11 : Int32) + a1).toInt = (11 : Int32).toInt + a1.toInt := gx_add (by omega) (by omega)
      refine gw_sI (i := ((11 : Int32) + a1)) ((h.on3 k0).1.t (r := 66) rfl) ((h.on3 k0).1.l (r := 66) rfl) (by omega) (by omega) (fun m11 em11 => ?_)
      have km11 := k0.ws em11 (by unfold A3; omega)
      exact gw_some (gq_V km11)
    ·
      refine gw_if ((h.on3 k0).1.t (r := 65) rfl) ?_
      refine gw_bI (s_X12_chewsOf (h.on3 k0)  (by omega)) (fun x12 m12 z12 => ?_)
      replace z12 := z12.symm
      subst z12
      refine gw_gRa 66 ((h.on3 k0).1.c (r := 65) rfl) ((h.on3 k0).1.r (by decide)) ?_
      refine gw_gRa 66 ((h.on3 k0).1.c (r := 65) rfl) ((h.on3 k0).1.r (by decide)) ?_
      have n13 : ((11 : Int32) + a1).toInt = (11 : Int32).toInt + a1.toInt := gx_add (by omega) (by omega)
      refine gw_aI (i := ((11 : Int32) + a1)) ((h.on3 k0).1.t (r := 66) rfl) ((h.on3 k0).1.l (r := 66) rfl) (by omega) (by omega) (fun v14 ev14 => ?_)
      refine gw_if ((h.on3 k0).1.t (r := 65) rfl) ?_
      refine gw_bI (s_X12_tiresOf (h.on3 k0)  (by omega)) (fun x15 m15 z15 => ?_)
      replace z15 := z15.symm
      subst z15
      refine gw_bI (s_X12_within  ) (fun x16 m16 z16 => ?_)
      replace z16 := z16.symm
      subst z16
      have n17 : ((11 : Int32) + a1).toInt = (11 : Int32).toInt + a1.toInt := gx_add (by omega) (by omega)
      refine gw_sI (i := ((11 : Int32) + a1)) ((h.on3 k0).1.t (r := 66) rfl) ((h.on3 k0).1.l (r := 66) rfl) (by omega) (by omega) (fun m18 em18 => ?_)
      have km18 := k0.ws em18 (by unfold A3; omega)
      refine gw_gRa 66 ((h.on3 km18).1.c (r := 65) rfl) ((h.on3 km18).1.r (by decide)) ?_
      refine gw_gRa 66 ((h.on3 km18).1.c (r := 65) rfl) ((h.on3 km18).1.r (by decide)) ?_
      have n19 : ((6 : Int32) + a1).toInt = (6 : Int32).toInt + a1.toInt := gx_add (by omega) (by omega)
      refine gw_aI (i := ((6 : Int32) + a1)) ((h.on3 km18).1.t (r := 66) rfl) ((h.on3 km18).1.l (r := 66) rfl) (by omega) (by omega) (fun v20 ev20 => ?_)
      refine gw_bI (s_X12_above  ) (fun x21 m21 z21 => ?_)
      replace z21 := z21.symm
      subst z21
      have n22 : ((6 : Int32) + a1).toInt = (6 : Int32).toInt + a1.toInt := gx_add (by omega) (by omega)
      refine gw_sI (i := ((6 : Int32) + a1)) ((h.on3 km18).1.t (r := 66) rfl) ((h.on3 km18).1.l (r := 66) rfl) (by omega) (by omega) (fun m23 em23 => ?_)
      have km23 := km18.ws em23 (by unfold A3; omega)
      exact gw_some (gq_V km23)
  ·
    refine gw_gRa 66 ((h.on3 k0).1.c (r := 65) rfl) ((h.on3 k0).1.r (by decide)) ?_
    refine gw_gRa 66 ((h.on3 k0).1.c (r := 65) rfl) ((h.on3 k0).1.r (by decide)) ?_
    have n24 : ((16 : Int32) + a1).toInt = (16 : Int32).toInt + a1.toInt := gx_add (by omega) (by omega)
    refine gw_aI (i := ((16 : Int32) + a1)) ((h.on3 k0).1.t (r := 66) rfl) ((h.on3 k0).1.l (r := 66) rfl) (by omega) (by omega) (fun v25 ev25 => ?_)
    refine gw_gRa 66 ((h.on3 k0).1.c (r := 65) rfl) ((h.on3 k0).1.r (by decide)) ?_
    have n26 : ((38 : Int32) + a1).toInt = (38 : Int32).toInt + a1.toInt := gx_add (by omega) (by omega)
    refine gw_aI (i := ((38 : Int32) + a1)) ((h.on3 k0).1.t (r := 66) rfl) ((h.on3 k0).1.l (r := 66) rfl) (by omega) (by omega) (fun v27 ev27 => ?_)
    refine gw_bI (s_X12_above  ) (fun x28 m28 z28 => ?_)
    replace z28 := z28.symm
    subst z28
    have n29 : ((16 : Int32) + a1).toInt = (16 : Int32).toInt + a1.toInt := gx_add (by omega) (by omega)
    refine gw_sI (i := ((16 : Int32) + a1)) ((h.on3 k0).1.t (r := 66) rfl) ((h.on3 k0).1.l (r := 66) rfl) (by omega) (by omega) (fun m30 em30 => ?_)
    have km30 := k0.ws em30 (by unfold A3; omega)
    exact gw_some (gq_V km30)
set_option maxHeartbeats 1000000 in
theorem n_X12_goesAlone {μ : gm_M} (h : MI μ) {a1 : Int32} (q0 : 0 ≤ a1.toInt ∧ a1.toInt < 5) : gwV (f_X12_goesAlone 65 a1 μ) (fun m => kn A1 μ m) := by
  refine gwV_of ?_
  unfold f_X12_goesAlone
  have l0 : (0 : Int32).toInt = 0 := rfl
  have l1 : (1 : Int32).toInt = 1 := rfl
  have k0 := kn.refl A1 μ
  refine gw_if ((h.on1 k0).1.t (r := 65) rfl) ?_
  refine gw_bV (n_X12_goesFor (h.on1 k0)  (by omega)) (fun m1 g1 => ?_)
  have kk1 := k0.trans g1.w31
  refine gw_gRa 66 ((h.on1 kk1).1.c (r := 65) rfl) ((h.on1 kk1).1.r (by decide)) ?_
  refine gw_aI (i := (0 : Int32)) ((h.on1 kk1).1.t (r := 66) rfl) ((h.on1 kk1).1.l (r := 66) rfl) (by omega) (by omega) (fun v2 ev2 => ?_)
  refine gw_sI (i := (0 : Int32)) ((h.on1 kk1).1.t (r := 66) rfl) ((h.on1 kk1).1.l (r := 66) rfl) (by omega) (by omega) (fun m3 em3 => ?_)
  have km3 := kk1.ws em3 (by unfold A1; omega)
  exact gw_some (gq_V km3)
set_option maxHeartbeats 1000000 in
theorem n_X12_goes {μ : gm_M} (h : MI μ)   : gwV (f_X12_goes 65 μ) (fun m => kn A1 μ m ∧ m.2.1 66 0 = μ.2.1 66 0 + 1) := by
  refine gwV_of ?_
  unfold f_X12_goes
  have l0 : (0 : Int32).toInt = 0 := rfl
  have l1 : (1 : Int32).toInt = 1 := rfl
  have l26 : (26 : Int32).toInt = 26 := rfl
  have k0 := kn.refl A1 μ
  refine gw_loop (fun s1 => kn A1 μ s1.2 ∧ ((0 ≤ s1.1.toInt ∧ s1.1.toInt ≤ 5) ∧ s1.2.2.1 66 0 = μ.2.1 66 0)) (fun s1 => (5 - s1.1.toInt)) (fun s1 ⟨k2, u3⟩ => ?_) 5000 ((0 : Int32), μ) ⟨k0, (by show (0 ≤ (0 : Int32).toInt ∧ (0 : Int32).toInt ≤ 5) ∧ μ.2.1 66 0 = μ.2.1 66 0; exact ⟨by omega, rfl⟩)⟩ (by show (5 - (0 : Int32).toInt) < ((5000 : Nat) : Int); omega) (by show 0 ≤ (5 - (0 : Int32).toInt); omega)
  obtain ⟨uu1, uu2⟩ := u3
  refine gw_gRa 66 ((h.on1 k2).1.c (r := 65) rfl) ((h.on1 k2).1.r (by decide)) ?_
  refine gw_aI (i := (26 : Int32)) ((h.on1 k2).1.t (r := 66) rfl) ((h.on1 k2).1.l (r := 66) rfl) (by omega) (by omega) (fun v4 ev4 => ?_)
  have bv4 := (h.on1 k2).n26
  have cv4 : v4 = s1.2.2.1 66 26 := ev4
  have dv4 : v4.toInt = (s1.2.2.1 66 26).toInt := by rw [cv4]
  have yv4 : v4.toInt = (μ.2.1 66 26).toInt := by rw [dv4, k2.2.2.2.1 26 (by first | exact fun q => q | (unfold A1; omega))]
  refine gw_le (fun h10_5 => ?_) (fun h10_5 => ?_)
  ·
    refine gw_gRa 66 ((h.on1 k2).1.c (r := 65) rfl) ((h.on1 k2).1.r (by decide)) ?_
    refine gw_aI (i := (0 : Int32)) ((h.on1 k2).1.t (r := 66) rfl) ((h.on1 k2).1.l (r := 66) rfl) (by omega) (by omega) (fun v6 ev6 => ?_)
    have ev0 := ev6
    refine gw_sI (i := (0 : Int32)) ((h.on1 k2).1.t (r := 66) rfl) ((h.on1 k2).1.l (r := 66) rfl) (by omega) (by omega) (fun m7 em7 => ?_)
    have km7 := k2.ws em7 (by unfold A1; omega)
    have VAL : m7.2.1 66 0 = μ.2.1 66 0 + 1 := by
      have q : m7.2.1 66 0 = (v6 + (1 : Int32)) := by rw [em7]; show gm_u s1.2.2.1 66 0 (v6 + (1 : Int32)) 66 0 = (v6 + (1 : Int32)); exact gu_eq
      rw [q, ev0]; exact congrArg (· + (1 : Int32)) uu2
    exact gw_some (gs_inr (gq_V ⟨km7, by exact VAL⟩))
  ·
    refine gw_if ((h.on1 k2).1.t (r := 65) rfl) ?_
    refine gw_bV (n_X12_goesFor (h.on1 k2)  (by omega)) (fun m8 g8 => ?_)
    have kk8 := k2.trans g8.w31
    have z0 : m8.2.1 66 0 = μ.2.1 66 0 := (g8.2.2.2.1 0 (by unfold A3; omega)).trans uu2
    have n9 : (s1.1 + (1 : Int32)).toInt = s1.1.toInt + (1 : Int32).toInt := gx_add (by omega) (by omega)
    exact gw_some (gs_inl ⟨kk8, (by show (0 ≤ (s1.1 + (1 : Int32)).toInt ∧ (s1.1 + (1 : Int32)).toInt ≤ 5) ∧ m8.2.1 66 0 = μ.2.1 66 0; exact ⟨by omega, z0⟩)⟩ (by show (5 - (s1.1 + (1 : Int32)).toInt) < (5 - s1.1.toInt); omega) (by show 0 ≤ (5 - (s1.1 + (1 : Int32)).toInt); omega))
end
section
/-! when, soon, pieces -/
def wh (H : Nat → Int32) : Nat → Int32 × Int32
  | 0 => (-1, 0)
  | k + 1 => if H k ≤ (wh H k).1 then wh H k else (H k, Int32.ofNat k)
theorem wh_eq {H G : Nat → Int32} : ∀ n : Nat, (∀ k : Nat, k < n → H k = G k) → wh H n = wh G n
  | 0, _ => rfl
  | n + 1, h => by
    show (if H n ≤ (wh H n).1 then wh H n else (H n, Int32.ofNat n)) = if G n ≤ (wh G n).1 then wh G n else (G n, Int32.ofNat n)
    rw [wh_eq n (fun k hk => h k (by omega)), h n (by omega)]
section
variable {w sw : Int32} {Q : List (List Int32 × Int32)} {μ : gm_M} {c : Nat}
theorem w_holds2 (h : MW w sw Q μ) (hc : c < 5) : gwI (f_X12_holdsOf 65 (Int32.ofNat c) μ) (fun x m => kn A0 μ m ∧ x = cHold w Q (kR (μ.2.1 66) c) (μ.2.1 66 0)) := by
  have oc := ofn (k := c) (by omega)
  exact gwI_mono (gwI_and (w_holds h hc) (n_X12_holdsOf h.1 (a1 := Int32.ofNat c) ⟨by omega, by omega⟩)) (fun x m ⟨a, b⟩ => ⟨b, a.2⟩)
theorem w_alone (h : MW w sw Q μ) (hc : c < 5) (hm : 0 ≤ (μ.2.1 66 0).toInt) : gwV (f_X12_goesAlone 65 (Int32.ofNat c) μ) (fun m => kn A1 μ m ∧ kR (m.2.1 66) c = cGo (kR (μ.2.1 66) c) (μ.2.1 66 0) ∧ m.2.1 66 0 = μ.2.1 66 0 + 1) := by
  have oc := ofn (k := c) (by omega)
  have l0 : (0 : Int32).toInt = 0 := rfl
  refine gwV_of ?_
  unfold f_X12_goesAlone
  refine gw_if (h.1.1.t (r := 65) rfl) ?_
  refine gw_bV (gwV_and (w_goesFor h hc hm) (n_X12_goesFor h.1 (a1 := Int32.ofNat c) ⟨by omega, by omega⟩)) (fun m ⟨⟨_, k1, _⟩, g⟩ => ?_)
  have hM := MI.on3 h.1 g
  have e0 : m.2.1 66 0 = μ.2.1 66 0 := g.2.2.2.1 0 (by unfold A3; omega)
  refine gw_gRa 66 (hM.1.c (r := 65) rfl) (hM.1.r (by decide)) ?_
  refine gw_aIw 0 (hM.1.t (r := 66) rfl) (hM.1.l (r := 66) rfl) l0 (by omega) ?_
  refine gw_sIw 0 (hM.1.t (r := 66) rfl) (hM.1.l (r := 66) rfl) l0 (by omega) ?_
  refine gw_some (gq_V ⟨(g.w31).ws rfl (by unfold A1; omega), ?_, by rw [wI_e, e0]⟩)
  rw [kR_x (σ := m.2.1 66) hc (fun i hi => wI_n _ _ _ _ (by omega)), k1]
set_option maxHeartbeats 4000000 in
theorem v_when (h : CW w Q μ) (hr : RK (kC μ 63)) (hm : 0 ≤ (μ.2.1 15 0).toInt ∧ (μ.2.1 15 0).toInt ≤ 9999) {b : Int32} : gwI (f_X11_trialWhen 1 b μ) (fun x m => kc μ m ∧ x = if b ≠ 0 then (wh (fun i => cHold w Q (cGoN i (kC μ 63) (μ.2.1 15 0)) (μ.2.1 15 0 + Int32.ofNat i)) 61).1 else (wh (fun i => cHold w Q (cGoN i (kC μ 63) (μ.2.1 15 0)) (μ.2.1 15 0 + Int32.ofNat i)) 61).2) := by
  have l0 : (0 : Int32).toInt = 0 := rfl
  have l1 : (1 : Int32).toInt = 1 := rfl
  have l60 : (60 : Int32).toInt = 60 := rfl
  refine gwI_of ?_
  unfold f_X11_trialWhen
  generalize hH : (fun i => cHold w Q (cGoN i (kC μ 63) (μ.2.1 15 0)) (μ.2.1 15 0 + Int32.ofNat i)) = H
  refine gw_loop (fun s => kc μ s.2.2.2 ∧ (0 ≤ s.2.2.1.toInt ∧ s.2.2.1.toInt ≤ 61) ∧ kC s.2.2.2 63 = cGoN s.2.2.1.toInt.toNat (kC μ 63) (μ.2.1 15 0) ∧ (s.1, s.2.1) = wh H s.2.2.1.toInt.toNat) (fun s => 100 - s.2.2.1.toInt) (fun s ⟨k2, p1, p3, p2⟩ => ?_) 5000 ((-1 : Int32), (0 : Int32), (0 : Int32), μ) ⟨kc.refl μ, ⟨by show 0 ≤ (0 : Int32).toInt; omega, by show (0 : Int32).toInt ≤ 61; omega⟩, rfl, rfl⟩ (by show 100 - (0 : Int32).toInt < ((5000 : Nat) : Int); omega) (by show 0 ≤ 100 - (0 : Int32).toInt; omega)
  obtain ⟨i, hi, ei⟩ : ∃ i : Nat, i ≤ 61 ∧ s.2.2.1 = Int32.ofNat i := ⟨s.2.2.1.toInt.toNat, by omega, (gx_of p1.1).symm⟩
  have oi := ofn (k := i) (by omega)
  have hS : s.2.2.1.toInt = i := by rw [ei]; exact oi
  rw [show s.2.2.1.toInt.toNat = i by omega] at p2 p3
  have hw := h.kc k2
  have hg := hw.1.1
  have e0 : s.2.2.2.2.1 15 0 = μ.2.1 15 0 := by rw [k2.row (show (15 : Nat) ≠ 1 ∧ 15 ≠ 5 ∧ 15 ≠ 6 ∧ 15 ≠ 7 ∧ 15 ≠ 63 ∧ 15 ≠ 64 by decide)]
  have mi := mi_add (mi := μ.2.1 15 0) (n := i) ⟨hm.1, by omega⟩ (by omega)
  refine gw_lt (fun g => ?_) (fun g => ?_)
  · have e61 : i = 61 := by omega
    subst e61
    refine gw_ite (fun q => ?_) (fun q => ?_)
    · exact gw_some (gs_inr (gq_I ⟨k2, by rw [if_pos q, ← p2]⟩))
    · exact gw_some (gs_inr (gq_I ⟨k2, by rw [if_neg q, ← p2]⟩))
  · rw [ei]
    refine gw_gRa 63 (hg.c (r := 1) rfl) (hg.r (by decide)) ?_
    refine gw_gRa 15 (hg.c (r := 1) rfl) (hg.r (by decide)) ?_
    refine gw_gR (hg.c (r := 15) rfl) (fun q eq => ?_)
    subst eq
    refine gw_gRa 15 (hg.c (r := 1) rfl) (hg.r (by decide)) ?_
    refine gw_gIw (hg.c (r := 15) rfl) ?_
    refine gw_if (ict.t hg (Or.inr rfl)) ?_
    refine gw_bI (v_holds hw (Or.inr rfl) _) (fun x m ⟨ex, em⟩ => ?_)
    rw [p3, e0] at ex
    have hx : x = H i := by rw [ex, ← hH]
    have q2 : wh H i = (s.1, s.2.1) := p2.symm
    have st : wh H (i + 1) = if H i ≤ (wh H i).1 then wh H i else (H i, Int32.ofNat i) := rfl
    rw [q2, ← hx] at st
    have nx : (Int32.ofNat i + (1 : Int32)).toInt = (Int32.ofNat i).toInt + (1 : Int32).toInt := gx_add (by omega) (by omega)
    refine gw_j (fun q => q = wh H (i + 1)) (fun q eq => ?_) (fun j hj => ?_)
    · rw [em]
      refine gw_gRa 63 (hg.c (r := 1) rfl) (hg.r (by decide)) ?_
      refine gw_gRa 15 (hg.c (r := 1) rfl) (hg.r (by decide)) ?_
      refine gw_gIw (hg.c (r := 15) rfl) ?_
      refine gw_if (ict.t hg (Or.inr rfl)) ?_
      refine gw_bV (v_pass hw (Or.inr rfl) (by rw [e0]; omega) (by rw [p3]; exact hr.goN ⟨hm.1, by omega⟩ i (by omega))) (fun m14 ⟨g14, k14, _⟩ => ?_)
      rw [p3, e0] at k14
      refine gw_some (gs_inl ⟨k2.ch g14, ⟨by show 0 ≤ (Int32.ofNat i + (1 : Int32)).toInt; omega, by show (Int32.ofNat i + (1 : Int32)).toInt ≤ 61; omega⟩, ?_, ?_⟩ (by show 100 - (Int32.ofNat i + (1 : Int32)).toInt < 100 - s.2.2.1.toInt; omega) (by show 0 ≤ 100 - (Int32.ofNat i + (1 : Int32)).toInt; omega))
      · show kC m14 63 = cGoN (Int32.ofNat i + (1 : Int32)).toInt.toNat _ _
        rw [show (Int32.ofNat i + (1 : Int32)).toInt.toNat = i + 1 by omega, k14]
        rfl
      · show (q.1, q.2) = wh H (Int32.ofNat i + (1 : Int32)).toInt.toNat
        rw [show (Int32.ofNat i + (1 : Int32)).toInt.toNat = i + 1 by omega]
        exact eq
    · refine gw_ite (fun g2 => hj _ ?_) (fun g2 => hj _ ?_)
      · rw [st, if_pos g2]
      · rw [st, if_neg g2]
set_option maxHeartbeats 4000000 in
theorem w_when (h : MW w sw Q μ) (hc : c < 5) (hm : 0 ≤ (μ.2.1 66 0).toInt ∧ (μ.2.1 66 0).toInt ≤ 9999) : gwV (f_X12_looksForWhen 65 (Int32.ofNat c) μ) (fun m => (km A1 μ m ∧ rs m) ∧ m.2.1 65 12 = (wh (fun i => cHold w Q (cGoN i (kR (μ.2.1 66) c) (μ.2.1 66 0)) (μ.2.1 66 0 + Int32.ofNat i)) 61).2 ∧ m.2.1 65 13 = (wh (fun i => cHold w Q (cGoN i (kR (μ.2.1 66) c) (μ.2.1 66 0)) (μ.2.1 66 0 + Int32.ofNat i)) 61).1) := by
  have l0 : (0 : Int32).toInt = 0 := rfl
  have l1 : (1 : Int32).toInt = 1 := rfl
  have l60 : (60 : Int32).toInt = 60 := rfl
  have hg := h.1.1
  refine gwV_of ?_
  unfold f_X12_looksForWhen
  generalize hH : (fun i => cHold w Q (cGoN i (kR (μ.2.1 66) c) (μ.2.1 66 0)) (μ.2.1 66 0 + Int32.ofNat i)) = H
  refine gw_pIw (hg.c (r := 65) rfl) ?_
  refine gw_pIw (hg.c (r := 65) rfl) ?_
  have g0 : km A1 μ (wI (wI μ 65 12 0) 65 13 (-1)) := ((km.refl A1 μ).wf rfl (by decide)).wf rfl (by decide)
  have e12 : (wI (wI μ 65 12 0) 65 13 (-1)).2.1 65 12 = 0 := by rw [wI_n _ _ _ _ (by decide), wI_e]
  have e13 : (wI (wI μ 65 12 0) 65 13 (-1)).2.1 65 13 = -1 := wI_e _ _ _ _
  have r66 : (wI (wI μ 65 12 0) 65 13 (-1)).2.1 66 = μ.2.1 66 := by rw [wI_o _ _ _ _ (by decide), wI_o _ _ _ _ (by decide)]
  generalize wI (wI μ 65 12 0) 65 13 (-1) = M at *
  refine gw_loop (fun s => km A1 μ s.2 ∧ (0 ≤ s.1.toInt ∧ s.1.toInt ≤ 61) ∧ kR (s.2.2.1 66) c = cGoN s.1.toInt.toNat (kR (μ.2.1 66) c) (μ.2.1 66 0) ∧ s.2.2.1 66 0 = μ.2.1 66 0 + Int32.ofNat s.1.toInt.toNat ∧ (s.2.2.1 65 13, s.2.2.1 65 12) = wh H s.1.toInt.toNat) (fun s => 100 - s.1.toInt) (fun s ⟨k2, p1, p3, p4, p2⟩ => ?_) 5000 ((0 : Int32), M) ⟨g0, ⟨by show 0 ≤ (0 : Int32).toInt; omega, by show (0 : Int32).toInt ≤ 61; omega⟩, by show kR (M.2.1 66) c = _; rw [r66]; rfl, by show M.2.1 66 0 = _; rw [r66]; exact (add0 _).symm, by show (M.2.1 65 13, M.2.1 65 12) = _; rw [e12, e13]; rfl⟩ (by show 100 - (0 : Int32).toInt < ((5000 : Nat) : Int); omega) (by show 0 ≤ 100 - (0 : Int32).toInt; omega)
  obtain ⟨i, hi, ei⟩ : ∃ i : Nat, i ≤ 61 ∧ s.1 = Int32.ofNat i := ⟨s.1.toInt.toNat, by omega, (gx_of p1.1).symm⟩
  have oi := ofn (k := i) (by omega)
  have hS : s.1.toInt = i := by rw [ei]; exact oi
  rw [show s.1.toInt.toNat = i by omega] at p2 p3 p4
  have hw := h.k1 k2
  have hgs := hw.1.1
  have mi := mi_add (mi := μ.2.1 66 0) (n := i) ⟨hm.1, by omega⟩ (by omega)
  have mi1 := mi_add (mi := μ.2.1 66 0) (n := i + 1) ⟨hm.1, by omega⟩ (by omega)
  refine gw_lt (fun g => ?_) (fun g => ?_)
  · have e61 : i = 61 := by omega
    subst e61
    refine gw_if (hgs.t (r := 65) rfl) ?_
    refine gw_bV (n_X12_goesBack hw.1) (fun m4 ⟨k4, r4⟩ => ?_)
    have r65 : m4.2.1 65 = s.2.2.1 65 := k4.2.2.1 65 (by decide) (by decide) (by decide)
    exact gw_some (gs_inr (gq_V ⟨⟨k2.trans k4.old, r4⟩, by rw [r65, ← p2], by rw [r65, ← p2]⟩))
  · rw [ei]
    refine gw_if (hgs.t (r := 65) rfl) ?_
    refine gw_bI (w_holds2 hw hc) (fun x m6 ⟨k6, ex⟩ => ?_)
    rw [p3, p4] at ex
    have hx : x = H i := by rw [ex, ← hH]
    have st : wh H (i + 1) = if H i ≤ (wh H i).1 then wh H i else (H i, Int32.ofNat i) := rfl
    rw [← p2, ← hx] at st
    have r6 : m6.2.1 65 = s.2.2.1 65 := k6.2.2.1 65 (by decide) (by decide) (by decide)
    have c6 : m6.2.1 66 = s.2.2.1 66 := funext fun k => k6.2.2.2.1 k (fun q => q)
    have hw6 := hw.k0 k6.old
    have hg6 := hw6.1.1
    refine gw_gIw (hg6.c (r := 65) rfl) ?_
    rw [r6]
    refine gw_j (fun q => q = (wh H (i + 1)).2) (fun q eq => ?_) (fun j hj => ?_)
    · refine gw_pIw (hg6.c (r := 65) rfl) ?_
      refine gw_gIw (hg6.c (r := 65) rfl) ?_
      rw [wI_n _ _ _ _ (show (13 : Nat) ≠ 12 by decide), r6]
      refine gw_j (fun q => q = (wh H (i + 1)).1) (fun q1 eq1 => ?_) (fun j hj => ?_)
      · refine gw_pIw (hg6.c (r := 65) rfl) ?_
        have f15 : km A1 μ (wI (wI m6 65 12 q) 65 13 q1) := ((k2.trans k6.old.w01).wf rfl (by decide)).wf rfl (by decide)
        have a12 : (wI (wI m6 65 12 q) 65 13 q1).2.1 65 12 = q := by rw [wI_n _ _ _ _ (by decide), wI_e]
        have a13 : (wI (wI m6 65 12 q) 65 13 q1).2.1 65 13 = q1 := wI_e _ _ _ _
        have a66 : (wI (wI m6 65 12 q) 65 13 q1).2.1 66 = s.2.2.1 66 := by rw [wI_o _ _ _ _ (by decide), wI_o _ _ _ _ (by decide), c6]
        generalize wI (wI m6 65 12 q) 65 13 q1 = m15 at *
        have hw15 := h.k1 f15
        refine gw_if (hw15.1.1.t (r := 65) rfl) ?_
        refine gw_bV (w_alone hw15 hc (by rw [a66, p4]; omega)) (fun m16 ⟨k16, e16, z16⟩ => ?_)
        rw [a66, p3, p4] at e16
        rw [a66, p4] at z16
        have r16 : m16.2.1 65 = m15.2.1 65 := k16.2.2.1 65 (by decide) (by decide) (by decide)
        have nx : (Int32.ofNat i + (1 : Int32)).toInt = (Int32.ofNat i).toInt + (1 : Int32).toInt := gx_add (by omega) (by omega)
        refine gw_some (gs_inl ⟨f15.trans k16.old, ⟨by show 0 ≤ (Int32.ofNat i + (1 : Int32)).toInt; omega, by show (Int32.ofNat i + (1 : Int32)).toInt ≤ 61; omega⟩, ?_, ?_, ?_⟩ (by show 100 - (Int32.ofNat i + (1 : Int32)).toInt < 100 - s.1.toInt; omega) (by show 0 ≤ 100 - (Int32.ofNat i + (1 : Int32)).toInt; omega))
        · show kR (m16.2.1 66) c = cGoN (Int32.ofNat i + (1 : Int32)).toInt.toNat _ _
          rw [show (Int32.ofNat i + (1 : Int32)).toInt.toNat = i + 1 by omega, e16]
          rfl
        · show m16.2.1 66 0 = μ.2.1 66 0 + Int32.ofNat (Int32.ofNat i + (1 : Int32)).toInt.toNat
          rw [show (Int32.ofNat i + (1 : Int32)).toInt.toNat = i + 1 by omega, z16]
          apply Int32.toInt_inj.mp
          rw [gx_add (by omega) (by omega)]
          omega
        · show (m16.2.1 65 13, m16.2.1 65 12) = wh H (Int32.ofNat i + (1 : Int32)).toInt.toNat
          rw [show (Int32.ofNat i + (1 : Int32)).toInt.toNat = i + 1 by omega, r16, a12, a13, eq, eq1]
      · refine gw_ite (fun g2 => ?_) (fun g2 => hj _ ?_)
        · refine gw_gIw (hg6.c (r := 65) rfl) ?_
          rw [wI_n _ _ _ _ (show (13 : Nat) ≠ 12 by decide), r6]
          exact hj _ (by rw [st, if_pos g2])
        · rw [st, if_neg g2]
    · refine gw_ite (fun g2 => ?_) (fun g2 => hj _ ?_)
      · refine gw_gIw (hg6.c (r := 65) rfl) ?_
        rw [r6]
        exact hj _ (by rw [st, if_pos g2])
      · rw [st, if_neg g2]
end
section
variable {μ : gm_M}
set_option maxHeartbeats 4000000 in
theorem N_when (h : REL μ) {a b : Int32} : PR (f_X11_when 1 a b μ) (f_X12_when 65 a b) := by
  have hg := h.ci.1
  have e26 := h.sz.symm
  obtain ⟨w, sw, Q, ⟨hcw, hmw, -, -⟩, -⟩ := h.ex
  have v2 := h.vs.2.1
  have mn := h.mn
  by_cases hC : isC μ a
  · obtain ⟨c, hc, ea, oc⟩ := hC.at
    subst ea
    by_cases hb : (0 : Int32).toInt ≤ b.toInt ∧ b.toInt ≤ (1 : Int32).toInt
    · refine PR.v h (if b ≠ 0 then (wh (fun i => cHold w Q (cGoN i (kC μ (29 + 2 * c)) (μ.2.1 15 0)) (μ.2.1 15 0 + Int32.ofNat i)) 61).1 else (wh (fun i => cHold w Q (cGoN i (kC μ (29 + 2 * c)) (μ.2.1 15 0)) (μ.2.1 15 0 + Int32.ofNat i)) 61).2) (gwI_of ?_) (fun m hm k => gwI_of ?_)
      · unfold f_X11_when
        refine gw_if (hg.t (r := 1) rfl) ?_
        refine gw_nob h (fun _ => ?_) (fun q => absurd hC q)
        refine gw_ite (fun q => absurd rfl q) (fun _ => ?_)
        refine gw_out (fun _ => ?_) (fun q => absurd hb q)
        refine gw_if rfl ?_
        refine gw_gRa 63 (hg.c (r := 1) rfl) (hg.r (by decide)) ?_
        refine gw_kid hg hc ?_
        refine gw_if (ict.t hg (Or.inr rfl)) ?_
        refine gw_bV (v_copy hcw hc) (fun m9 ⟨k9, e9⟩ => ?_)
        have e0 : m9.2.1 15 0 = μ.2.1 15 0 := by rw [k9.row (show (15 : Nat) ≠ 1 ∧ 15 ≠ 5 ∧ 15 ≠ 6 ∧ 15 ≠ 7 ∧ 15 ≠ 63 ∧ 15 ≠ 64 by decide)]
        refine gw_if ((hcw.kc k9).1.1.t (r := 1) rfl) ?_
        refine gw_bI (v_when (hcw.kc k9) (by rw [e9]; exact h.row hc) (by rw [e0, mn]; exact v2)) (fun x m ⟨k, ex⟩ => ?_)
        rw [e9, e0] at ex
        exact gw_some (gq_I ⟨k9.trans k, ex⟩)
      · have r66 := k.row (show (66 : Nat) ≠ 1 ∧ 66 ≠ 5 ∧ 66 ≠ 6 ∧ 66 ≠ 7 ∧ 66 ≠ 63 ∧ 66 ≠ 64 by decide)
        have hw : MW w sw Q m := ⟨hm.mi, by rw [r66]; exact hmw.2⟩
        unfold f_X12_when
        refine gw_if hm.1.t65 ?_
        refine gw_isc (μ := μ) hm.mi (by rw [r66]; exact e26) (fun _ => ?_) (fun q => absurd hC q)
        refine gw_ite (fun q => absurd q (by decide)) (fun _ => ?_)
        refine gw_inn (fun _ => ?_) (fun q => absurd hb q)
        refine gw_if (by decide) ?_
        refine gw_if hm.1.t65 ?_
        refine gw_bV (s_X12_keeps hm.mi) (fun m5 g5 => ?_)
        have h5 := g5.mw hw
        have r65 : m5.2.1 66 = μ.2.1 66 := (g5.2.2.1 66 (by decide)).trans r66
        refine gw_if (h5.1.1.t (r := 65) rfl) ?_
        refine gw_bV (w_when h5 hc (by rw [r65]; exact v2)) (fun m7 ⟨⟨k7, r7⟩, e12, e13⟩ => ?_)
        rw [r65, ← (h.kk hc).1, ← mn] at e12 e13
        have h7 := h5.k1 k7
        have q7 : qm m m7 := qm.kp g5 k7 r7
        refine gw_ite (fun q => ?_) (fun q => ?_)
        · refine gw_gIw (h7.1.1.c (r := 65) rfl) ?_
          exact gw_some (gq_I ⟨q7, by rw [if_pos q, e13]⟩)
        · refine gw_gIw (h7.1.1.c (r := 65) rfl) ?_
          exact gw_some (gq_I ⟨q7, by rw [if_neg q, e12]⟩)
    · refine PR.u h (-1) (gwI_of ?_) (gwI_of ?_)
      · unfold f_X11_when
        refine gw_if (hg.t (r := 1) rfl) ?_
        refine gw_nob h (fun _ => ?_) (fun q => absurd hC q)
        refine gw_ite (fun q => absurd rfl q) (fun _ => ?_)
        refine gw_out (fun q => absurd q hb) (fun _ => ?_)
        refine gw_ite (fun q => absurd q (by decide)) (fun _ => ?_)
        exact gw_some (gq_I ⟨rfl, rfl⟩)
      · unfold f_X12_when
        refine gw_if h.1.t65 ?_
        refine gw_isc h.mi e26 (fun _ => ?_) (fun q => absurd hC q)
        refine gw_ite (fun q => absurd q (by decide)) (fun _ => ?_)
        refine gw_inn (fun q => absurd q hb) (fun _ => ?_)
        refine gw_ite (fun q => absurd rfl q) (fun _ => ?_)
        exact gw_some (gq_I ⟨qm.refl μ, rfl⟩)
  · refine PR.u h (-1) (gwI_of ?_) (gwI_of ?_)
    · unfold f_X11_when
      refine gw_if (hg.t (r := 1) rfl) ?_
      refine gw_nob h (fun q => absurd q hC) (fun _ => ?_)
      refine gw_if (by decide) ?_
      exact gw_some (gq_I ⟨rfl, rfl⟩)
    · unfold f_X12_when
      refine gw_if h.1.t65 ?_
      refine gw_isc h.mi e26 (fun q => absurd q hC) (fun _ => ?_)
      refine gw_if rfl ?_
      exact gw_some (gq_I ⟨qm.refl μ, rfl⟩)
end
end
section
/-! order: all rows of children are tried -/
abbrev oX := (Nat → Int32) × Int32 × (Nat → Int32)
def fu (f : Nat → Int32) (i : Nat) (v : Int32) : Nat → Int32 := fun j => if j = i then v else f j
def ol (f : Nat → oX → oX) : Nat → oX → oX
  | 0, X => X
  | c + 1, X => f c (ol f c X)
def oa (n : Nat) (H : Nat → Nat → Int32) : Nat → Nat → Int32 → Int32 → oX → oX
  | 0, _, _, _, X => X
  | d + 1, k, tk, su, X => if n ≤ k then (if su ≤ X.2.1 then X else (X.1, su, X.1)) else ol (fun c Y => if (tk >>> (Int32.ofNat c &&& 31)) &&& (1 : Int32) = 0 then oa n H d (k + 1) (tk ||| ((1 : Int32) <<< (Int32.ofNat c &&& 31))) (su + H c k) (fu Y.1 k (Int32.ofNat c), Y.2) else Y) n X
def rX (n k : Nat) (lr : Nat → Int32) (b : Int32) (br : Nat → Int32) (X : oX) : Prop := (∀ j : Nat, j < k → lr j = X.1 j) ∧ b = X.2.1 ∧ (X.2.1 = -1 ∨ ∀ j : Nat, j < n → br j = X.2.2 j)
theorem rX.le {n k l : Nat} {lr br : Nat → Int32} {b : Int32} {X : oX} (h : rX n l lr b br X) (hk : k ≤ l) : rX n k lr b br X := ⟨fun j hj => h.1 j (by omega), h.2⟩
theorem rX.set {n k : Nat} {lr lr' br : Nat → Int32} {b v : Int32} {X : oX} (h : rX n k lr b br X) (e : lr' k = v) (o : ∀ j : Nat, j ≠ k → lr' j = lr j) : rX n (k + 1) lr' b br (fu X.1 k v, X.2) := by
  refine ⟨fun j hj => ?_, h.2⟩
  show lr' j = if j = k then v else X.1 j
  by_cases q : j = k
  · rw [if_pos q, q]; exact e
  · rw [if_neg q, o j q]; exact h.1 j (by omega)
theorem ol_inv {P : oX → Prop} {f : Nat → oX → oX} (hf : ∀ (c : Nat) (Y : oX), P Y → P (f c Y)) {X : oX} (h : P X) : ∀ c : Nat, P (ol f c X)
  | 0 => h
  | c + 1 => hf c _ (ol_inv hf h c)
theorem ol_at {P : oX → Prop} {f : Nat → oX → oX} (hf : ∀ (c : Nat) (Y : oX), P Y → P (f c Y)) {c : Nat} (ha : ∀ Y : oX, P (f c Y)) {X : oX} : ∀ n : Nat, c < n → P (ol f n X)
  | 0, h => absurd h (Nat.not_lt_zero c)
  | n + 1, h => by
    show P (f n (ol f n X))
    by_cases q : c = n
    · rw [← q]; exact ha _
    · exact hf n _ (ol_at hf ha n (by omega))
theorem oa_mono {n : Nat} {H : Nat → Nat → Int32} {b : Int} : ∀ (d k : Nat) (tk su : Int32) (X : oX), b ≤ X.2.1.toInt → b ≤ (oa n H d k tk su X).2.1.toInt
  | 0, _, _, _, _, h => h
  | d + 1, k, tk, su, X, h => by
    show b ≤ (if n ≤ k then (if su ≤ X.2.1 then X else (X.1, su, X.1)) else ol (fun c Y => if (tk >>> (Int32.ofNat c &&& 31)) &&& (1 : Int32) = 0 then oa n H d (k + 1) (tk ||| ((1 : Int32) <<< (Int32.ofNat c &&& 31))) (su + H c k) (fu Y.1 k (Int32.ofNat c), Y.2) else Y) n X).2.1.toInt
    by_cases g : n ≤ k
    · rw [if_pos g]
      by_cases q : su ≤ X.2.1
      · rw [if_pos q]; exact h
      · rw [if_neg q]
        show b ≤ su.toInt
        have := mt Int32.le_iff_toInt_le.mpr q
        omega
    · rw [if_neg g]
      refine ol_inv (P := fun Y => b ≤ Y.2.1.toInt) (fun c Y hY => ?_) h n
      show b ≤ (if (tk >>> (Int32.ofNat c &&& 31)) &&& (1 : Int32) = 0 then oa n H d (k + 1) (tk ||| ((1 : Int32) <<< (Int32.ofNat c &&& 31))) (su + H c k) (fu Y.1 k (Int32.ofNat c), Y.2) else Y).2.1.toInt
      by_cases q : (tk >>> (Int32.ofNat c &&& 31)) &&& (1 : Int32) = 0
      · rw [if_pos q]; exact oa_mono d _ _ _ _ hY
      · rw [if_neg q]; exact hY
def la (f : Nat → Bool) : Nat → Bool
  | 0 => false
  | c + 1 => f c || la f c
theorem la_ex {f : Nat → Bool} : ∀ n : Nat, la f n = true → ∃ c : Nat, c < n ∧ f c = true
  | 0, h => absurd (show false = true from h) Bool.false_ne_true
  | n + 1, h => by
    have h' : (f n || la f n) = true := h
    rw [Bool.or_eq_true] at h'
    rcases h' with h' | h'
    · exact ⟨n, by omega, h'⟩
    · obtain ⟨c, c1, c2⟩ := la_ex n h'
      exact ⟨c, by omega, c2⟩
def lf (n : Nat) : Nat → Nat → Int32 → Bool
  | 0, _, _ => false
  | d + 1, k, tk => if n ≤ k then true else la (fun c => decide ((tk >>> (Int32.ofNat c &&& 31)) &&& (1 : Int32) = 0) && lf n d (k + 1) (tk ||| ((1 : Int32) <<< (Int32.ofNat c &&& 31)))) n
theorem lf_all {n : Nat} (h : n ≤ 5) : lf n 64 0 0 = true := by
  obtain rfl | rfl | rfl | rfl | rfl | rfl : n = 0 ∨ n = 1 ∨ n = 2 ∨ n = 3 ∨ n = 4 ∨ n = 5 := by omega
  all_goals decide +kernel
theorem oa_reach {n : Nat} (hn : n ≤ 5) {H : Nat → Nat → Int32} (hH : ∀ c k : Nat, c < n → k < n → 0 ≤ (H c k).toInt ∧ (H c k).toInt ≤ 59400) : ∀ (d k : Nat) (tk su : Int32) (X : oX), lf n d k tk = true → k ≤ n → (0 ≤ su.toInt ∧ su.toInt ≤ 59400 * (k : Int)) → 0 ≤ (oa n H d k tk su X).2.1.toInt
  | 0, _, _, _, _, h, _, _ => absurd (show false = true from h) Bool.false_ne_true
  | d + 1, k, tk, su, X, h, hk, hs => by
    show 0 ≤ (if n ≤ k then (if su ≤ X.2.1 then X else (X.1, su, X.1)) else ol (fun c Y => if (tk >>> (Int32.ofNat c &&& 31)) &&& (1 : Int32) = 0 then oa n H d (k + 1) (tk ||| ((1 : Int32) <<< (Int32.ofNat c &&& 31))) (su + H c k) (fu Y.1 k (Int32.ofNat c), Y.2) else Y) n X).2.1.toInt
    have h' : (if n ≤ k then true else la (fun c => decide ((tk >>> (Int32.ofNat c &&& 31)) &&& (1 : Int32) = 0) && lf n d (k + 1) (tk ||| ((1 : Int32) <<< (Int32.ofNat c &&& 31)))) n) = true := h
    by_cases g : n ≤ k
    · rw [if_pos g]
      by_cases q : su ≤ X.2.1
      · rw [if_pos q]
        have := Int32.le_iff_toInt_le.mp q
        omega
      · rw [if_neg q]
        exact hs.1
    · rw [if_neg g] at h' ⊢
      obtain ⟨c, c1, c2⟩ := la_ex n h'
      replace c2 : (decide ((tk >>> (Int32.ofNat c &&& 31)) &&& (1 : Int32) = 0) && lf n d (k + 1) (tk ||| ((1 : Int32) <<< (Int32.ofNat c &&& 31)))) = true := c2
      rw [Bool.and_eq_true] at c2
      have cb := of_decide_eq_true c2.1
      have hb := hH c k c1 (by omega)
      have sa : (su + H c k).toInt = su.toInt + (H c k).toInt := gx_add (by omega) (by omega)
      refine ol_at (P := fun Y => 0 ≤ Y.2.1.toInt) (fun c Y hY => ?_) (c := c) (fun Y => ?_) n c1
      · show 0 ≤ (if (tk >>> (Int32.ofNat c &&& 31)) &&& (1 : Int32) = 0 then oa n H d (k + 1) (tk ||| ((1 : Int32) <<< (Int32.ofNat c &&& 31))) (su + H c k) (fu Y.1 k (Int32.ofNat c), Y.2) else Y).2.1.toInt
        by_cases q : (tk >>> (Int32.ofNat c &&& 31)) &&& (1 : Int32) = 0
        · rw [if_pos q]; exact oa_mono d _ _ _ _ hY
        · rw [if_neg q]; exact hY
      · show 0 ≤ (if (tk >>> (Int32.ofNat c &&& 31)) &&& (1 : Int32) = 0 then oa n H d (k + 1) (tk ||| ((1 : Int32) <<< (Int32.ofNat c &&& 31))) (su + H c k) (fu Y.1 k (Int32.ofNat c), Y.2) else Y).2.1.toInt
        rw [if_pos cb]
        exact oa_reach hn hH d (k + 1) _ _ _ c2.2 (by omega) ⟨by omega, by rw [Int.natCast_add]; omega⟩
/-! the class tries them -/
section
variable {n : Nat} {H : Nat → Nat → Int32}
set_option maxHeartbeats 4000000 in
theorem vb_arr {R0 : Nat → Int32 → Int32 → Int32 → gm_M → Option (Option Value × gm_M)} (d : Nat) (hR : ∀ {m : gm_M} (_ : CI m) (_ : (m.2.1 15 1).toInt = n) (_ : ∀ c k : Nat, c < n → k < n → m.2.1 5 (5 * c + k) = H c k) {k : Nat} {tk su : Int32} {X : oX}, k ≤ n → 5 < d + k → rX n k (m.2.1 6) (m.2.1 1 9) (m.2.1 7) X → gwV (R0 1 (Int32.ofNat k) tk su m) (fun m' => kc m m' ∧ m'.2.1 5 = m.2.1 5 ∧ rX n k (m'.2.1 6) (m'.2.1 1 9) (m'.2.1 7) (oa n H d k tk su X))) {μ : gm_M} (h : CI μ) (hn : (μ.2.1 15 1).toInt = n) (hH : ∀ c k : Nat, c < n → k < n → μ.2.1 5 (5 * c + k) = H c k) {k : Nat} {tk su : Int32} {X : oX} (hk : k ≤ n) (hd : 5 < d + 1 + k) (hX : rX n k (μ.2.1 6) (μ.2.1 1 9) (μ.2.1 7) X) : gwV (b_X11_arrange R0 1 (Int32.ofNat k) tk su μ) (fun m' => kc μ m' ∧ m'.2.1 5 = μ.2.1 5 ∧ rX n k (m'.2.1 6) (m'.2.1 1 9) (m'.2.1 7) (oa n H (d + 1) k tk su X)) := by
  have n1 := h.n1
  have hg := h.1
  have l0 : (0 : Int32).toInt = 0 := rfl
  have l1 : (1 : Int32).toInt = 1 := rfl
  have l5 : (5 : Int32).toInt = 5 := rfl
  have ok := ofn (k := k) (by omega)
  have st : oa n H (d + 1) k tk su X = if n ≤ k then (if su ≤ X.2.1 then X else (X.1, su, X.1)) else ol (fun c Y => if (tk >>> (Int32.ofNat c &&& 31)) &&& (1 : Int32) = 0 then oa n H d (k + 1) (tk ||| ((1 : Int32) <<< (Int32.ofNat c &&& 31))) (su + H c k) (fu Y.1 k (Int32.ofNat c), Y.2) else Y) n X := rfl
  refine gwV_of ?_
  unfold b_X11_arrange
  refine gw_gRa 15 (hg.c (r := 1) rfl) (hg.r (by decide)) ?_
  refine gw_gIw (hg.c (r := 15) rfl) ?_
  refine gw_ji ?_
  refine gw_le (fun g => ?_) (fun g => ?_)
  · rw [if_pos (show n ≤ k by omega)] at st
    refine gw_gIw (hg.c (r := 1) rfl) ?_
    rw [hX.2.1]
    refine gw_ite (fun q => ?_) (fun q => ?_)
    · rw [if_pos q] at st
      exact gw_some (gq_V ⟨kc.refl μ, rfl, by rw [st]; exact hX⟩)
    · rw [if_neg q] at st
      refine gw_pIw (hg.c (r := 1) rfl) ?_
      have k5 : kc μ (wI μ 1 9 su) := (kc.refl μ).w1 rfl
      have g5 := (h.of k5).1
      refine gw_gRa 6 (g5.c (r := 1) rfl) (g5.r (by decide)) ?_
      refine gw_gRa 7 (g5.c (r := 1) rfl) (g5.r (by decide)) ?_
      refine gx_cp (by decide) (g5.t (r := 6) rfl) (g5.t (r := 7) rfl) (g5.l (r := 6) rfl) (g5.l (r := 7) rfl) (by omega) (by omega) (by omega) (by omega) (by omega) (fun m6 c1 c2 c3 c4 => ?_)
      have k6 := k5.cp c1 c2 c3 (by decide)
      refine gw_some (gq_V ⟨k6, ?_, ?_⟩)
      · rw [c3 5 (by decide), wI_o _ _ _ _ (by decide)]
      · rw [st]
        refine ⟨fun j hj => ?_, ?_, Or.inr (fun j hj => ?_)⟩
        · rw [c3 6 (by decide), wI_o _ _ _ _ (by decide)]
          exact hX.1 j hj
        · rw [c3 1 (by decide), wI_e]
        · rw [c4 j]
          unfold va_cpy
          rw [if_pos ⟨by omega, by omega⟩, wI_o _ _ _ _ (by decide)]
          show μ.2.1 6 _ = X.1 j
          rw [← hX.1 j (by omega)]
          exact congrArg _ (by omega)
  · refine gw_lt (fun g5 => ?_) (fun g5 => by exfalso; omega)
    rw [if_neg (show ¬ n ≤ k by omega)] at st
    obtain ⟨f, hf⟩ : ∃ f : Nat → oX → oX, f = fun c Y => if (tk >>> (Int32.ofNat c &&& 31)) &&& (1 : Int32) = 0 then oa n H d (k + 1) (tk ||| ((1 : Int32) <<< (Int32.ofNat c &&& 31))) (su + H c k) (fu Y.1 k (Int32.ofNat c), Y.2) else Y := ⟨_, rfl⟩
    rw [← hf] at st
    refine gw_loop (fun s => (kc μ s.2 ∧ s.2.2.1 5 = μ.2.1 5) ∧ (0 ≤ s.1.toInt ∧ s.1.toInt ≤ (n : Int)) ∧ rX n k (s.2.2.1 6) (s.2.2.1 1 9) (s.2.2.1 7) (ol f s.1.toInt.toNat X)) (fun s => 100 - s.1.toInt) (fun s ⟨⟨k2, r5⟩, p1, p2⟩ => ?_) 5000 ((0 : Int32), μ) ⟨⟨kc.refl μ, rfl⟩, ⟨by show 0 ≤ (0 : Int32).toInt; omega, by show (0 : Int32).toInt ≤ (n : Int); omega⟩, hX⟩ (by show 100 - (0 : Int32).toInt < ((5000 : Nat) : Int); omega) (by show 0 ≤ 100 - (0 : Int32).toInt; omega)
    obtain ⟨c, hc, ec⟩ : ∃ c : Nat, c ≤ n ∧ s.1 = Int32.ofNat c := ⟨s.1.toInt.toNat, by omega, (gx_of p1.1).symm⟩
    have oc := ofn (k := c) (by omega)
    have hS : s.1.toInt = c := by rw [ec]; exact oc
    rw [show s.1.toInt.toNat = c by omega] at p2
    have h2 := h.of k2
    have g2 := h2.1
    have r15 := k2.row (show (15 : Nat) ≠ 1 ∧ 15 ≠ 5 ∧ 15 ≠ 6 ∧ 15 ≠ 7 ∧ 15 ≠ 63 ∧ 15 ≠ 64 by decide)
    refine gw_gRa 15 (g2.c (r := 1) rfl) (g2.r (by decide)) ?_
    refine gw_gIw (g2.c (r := 15) rfl) ?_
    rw [r15]
    refine gw_le (fun q => ?_) (fun q => ?_)
    · refine gw_some (gs_inr (gq_V ⟨k2, r5, ?_⟩))
      rw [st]
      rw [show c = n by omega] at p2
      exact p2
    · rw [ec]
      have nx : (Int32.ofNat c + (1 : Int32)).toInt = (Int32.ofNat c).toInt + (1 : Int32).toInt := gx_add (by omega) (by omega)
      refine gw_j (fun m => (kc μ m ∧ m.2.1 5 = μ.2.1 5) ∧ rX n k (m.2.1 6) (m.2.1 1 9) (m.2.1 7) (ol f (c + 1) X)) (fun m ⟨a, b⟩ => ?_) (fun jj hj => ?_)
      · refine gw_some (gs_inl ⟨a, ⟨by show 0 ≤ (Int32.ofNat c + (1 : Int32)).toInt; omega, by show (Int32.ofNat c + (1 : Int32)).toInt ≤ (n : Int); omega⟩, ?_⟩ (by show 100 - (Int32.ofNat c + (1 : Int32)).toInt < 100 - s.1.toInt; omega) (by show 0 ≤ 100 - (Int32.ofNat c + (1 : Int32)).toInt; omega))
        show rX n k (m.2.1 6) (m.2.1 1 9) (m.2.1 7) (ol f (Int32.ofNat c + (1 : Int32)).toInt.toNat X)
        rw [show (Int32.ofNat c + (1 : Int32)).toInt.toNat = c + 1 by omega]
        exact b
      · obtain ⟨Y, hY⟩ : ∃ Y : oX, Y = ol f c X := ⟨_, rfl⟩
        have fs : ol f (c + 1) X = f c Y := by rw [hY]; rfl
        have fe : f c Y = if (tk >>> (Int32.ofNat c &&& 31)) &&& (1 : Int32) = 0 then oa n H d (k + 1) (tk ||| ((1 : Int32) <<< (Int32.ofNat c &&& 31))) (su + H c k) (fu Y.1 k (Int32.ofNat c), Y.2) else Y := by rw [hf]
        rw [← hY] at p2
        refine gw_ite (fun z => ?_) (fun z => ?_)
        · rw [if_pos z] at fe
          refine gw_gRa 6 (g2.c (r := 1) rfl) (g2.r (by decide)) ?_
          refine gw_sIw k (g2.t (r := 6) rfl) (g2.l (r := 6) rfl) ok (by omega) ?_
          have k3 : kc μ (wI s.2 6 k (Int32.ofNat c)) := k2.wr (r := 6) (j := k) (x := Int32.ofNat c) rfl (by decide)
          have s5 : (wI s.2 6 k (Int32.ofNat c)).2.1 5 = μ.2.1 5 := by rw [wI_o _ _ _ _ (by decide), r5]
          have x3 : rX n (k + 1) ((wI s.2 6 k (Int32.ofNat c)).2.1 6) ((wI s.2 6 k (Int32.ofNat c)).2.1 1 9) ((wI s.2 6 k (Int32.ofNat c)).2.1 7) (fu Y.1 k (Int32.ofNat c), Y.2) := by
            rw [wI_o _ _ _ _ (show (1 : Nat) ≠ 6 by decide), wI_o _ _ _ _ (show (7 : Nat) ≠ 6 by decide)]
            exact p2.set (wI_e _ _ _ _) (fun j hj => wI_n _ _ _ _ hj)
          generalize wI s.2 6 k (Int32.ofNat c) = m3 at *
          have h3 := h.of k3
          have g3 := h3.1
          have q15 := k3.row (show (15 : Nat) ≠ 1 ∧ 15 ≠ 5 ∧ 15 ≠ 6 ∧ 15 ≠ 7 ∧ 15 ≠ 63 ∧ 15 ≠ 64 by decide)
          have n5 : (Int32.ofNat c * (5 : Int32)).toInt = 5 * (Int32.ofNat c).toInt := gx_mulr 5 l5 (by omega) (by omega)
          have n6 : ((Int32.ofNat c * (5 : Int32)) + Int32.ofNat k).toInt = (Int32.ofNat c * (5 : Int32)).toInt + (Int32.ofNat k).toInt := gx_add (by omega) (by omega)
          refine gw_gRa 5 (g3.c (r := 1) rfl) (g3.r (by decide)) ?_
          refine gw_aIw (5 * c + k) (g3.t (r := 5) rfl) (g3.l (r := 5) rfl) (by omega) (by omega) ?_
          rw [s5, hH c k (by omega) (by omega)]
          refine gw_if (g3.t (r := 1) rfl) ?_
          have ek : Int32.ofNat k + (1 : Int32) = Int32.ofNat (k + 1) := by
            apply Int32.toInt_inj.mp
            rw [ofn (k := k + 1) (by omega), gx_add (by omega) (by omega)]
            omega
          rw [ek]
          refine gw_bV (hR h3 (by rw [q15]; exact hn) (fun c' k' hc' hk' => by rw [s5]; exact hH c' k' hc' hk') (k := k + 1) (by omega) (by omega) x3) (fun m4 ⟨k4, r4, x4⟩ => ?_)
          refine hj _ ⟨⟨k3.trans k4, by rw [r4, s5]⟩, ?_⟩
          rw [fs, fe]
          exact x4.le (by omega)
        · rw [if_neg z] at fe
          refine hj _ ⟨⟨k2, r5⟩, ?_⟩
          rw [fs, fe]
          exact p2
theorem vr_arr : ∀ (d : Nat) {m : gm_M} (_ : CI m) (_ : (m.2.1 15 1).toInt = n) (_ : ∀ c k : Nat, c < n → k < n → m.2.1 5 (5 * c + k) = H c k) {k : Nat} {tk su : Int32} {X : oX}, k ≤ n → 5 < d + k → rX n k (m.2.1 6) (m.2.1 1 9) (m.2.1 7) X → gwV (r_X11_arrange d 1 (Int32.ofNat k) tk su m) (fun m' => kc m m' ∧ m'.2.1 5 = m.2.1 5 ∧ rX n k (m'.2.1 6) (m'.2.1 1 9) (m'.2.1 7) (oa n H d k tk su X))
  | 0, m, h, hn, _, k, _, _, _, hk, hd, _ => by
    have := h.n1
    omega
  | d + 1, m, h, hn, hH, k, tk, su, X, hk, hd, hX => vb_arr d (@fun _ h hn hH _ _ _ _ hk hd hX => vr_arr d h hn hH hk hd hX) h hn hH hk hd hX
/-! the reference tries them -/
set_option maxHeartbeats 4000000 in
theorem wb_arr {R0 : Nat → Int32 → Int32 → Int32 → gm_M → Option (Option Value × gm_M)} (d : Nat) (hR : ∀ {m : gm_M} (_ : MI m) (_ : (m.2.1 66 26).toInt = n) (_ : ∀ c k : Nat, c < n → k < n → m.2.1 71 (5 * c + k) = H c k) {k : Nat} {tk su : Int32} {X : oX}, k ≤ n → 5 < d + k → rX n k (m.2.1 72) (m.2.1 65 17) (m.2.1 73) X → gwV (R0 65 (Int32.ofNat k) tk su m) (fun m' => km A0 m m' ∧ m'.2.1 71 = m.2.1 71 ∧ rX n k (m'.2.1 72) (m'.2.1 65 17) (m'.2.1 73) (oa n H d k tk su X))) {μ : gm_M} (h : MI μ) (hn : (μ.2.1 66 26).toInt = n) (hH : ∀ c k : Nat, c < n → k < n → μ.2.1 71 (5 * c + k) = H c k) {k : Nat} {tk su : Int32} {X : oX} (hk : k ≤ n) (hd : 5 < d + 1 + k) (hX : rX n k (μ.2.1 72) (μ.2.1 65 17) (μ.2.1 73) X) : gwV (b_X12_ordersFrom R0 65 (Int32.ofNat k) tk su μ) (fun m' => km A0 μ m' ∧ m'.2.1 71 = μ.2.1 71 ∧ rX n k (m'.2.1 72) (m'.2.1 65 17) (m'.2.1 73) (oa n H (d + 1) k tk su X)) := by
  have n1 := h.n26
  have hg := h.1
  have l0 : (0 : Int32).toInt = 0 := rfl
  have l1 : (1 : Int32).toInt = 1 := rfl
  have l5 : (5 : Int32).toInt = 5 := rfl
  have l26 : (26 : Int32).toInt = 26 := rfl
  have ok := ofn (k := k) (by omega)
  have st : oa n H (d + 1) k tk su X = if n ≤ k then (if su ≤ X.2.1 then X else (X.1, su, X.1)) else ol (fun c Y => if (tk >>> (Int32.ofNat c &&& 31)) &&& (1 : Int32) = 0 then oa n H d (k + 1) (tk ||| ((1 : Int32) <<< (Int32.ofNat c &&& 31))) (su + H c k) (fu Y.1 k (Int32.ofNat c), Y.2) else Y) n X := rfl
  refine gwV_of ?_
  unfold b_X12_ordersFrom
  refine gw_gRa 66 (hg.c (r := 65) rfl) (hg.r (by decide)) ?_
  refine gw_aIw 26 (hg.t (r := 66) rfl) (hg.l (r := 66) rfl) l26 (by omega) ?_
  refine gw_ne (fun g => ?_) (fun g => ?_)
  · rw [if_neg (show ¬ n ≤ k by omega)] at st
    obtain ⟨f, hf⟩ : ∃ f : Nat → oX → oX, f = fun c Y => if (tk >>> (Int32.ofNat c &&& 31)) &&& (1 : Int32) = 0 then oa n H d (k + 1) (tk ||| ((1 : Int32) <<< (Int32.ofNat c &&& 31))) (su + H c k) (fu Y.1 k (Int32.ofNat c), Y.2) else Y := ⟨_, rfl⟩
    rw [← hf] at st
    refine gw_loop (fun s => (km A0 μ s.2 ∧ s.2.2.1 71 = μ.2.1 71) ∧ (0 ≤ s.1.toInt ∧ s.1.toInt ≤ (n : Int)) ∧ rX n k (s.2.2.1 72) (s.2.2.1 65 17) (s.2.2.1 73) (ol f s.1.toInt.toNat X)) (fun s => 100 - s.1.toInt) (fun s ⟨⟨k2, r5⟩, p1, p2⟩ => ?_) 5000 ((0 : Int32), μ) ⟨⟨km.refl A0 μ, rfl⟩, ⟨by show 0 ≤ (0 : Int32).toInt; omega, by show (0 : Int32).toInt ≤ (n : Int); omega⟩, hX⟩ (by show 100 - (0 : Int32).toInt < ((5000 : Nat) : Int); omega) (by show 0 ≤ 100 - (0 : Int32).toInt; omega)
    obtain ⟨c, hc, ec⟩ : ∃ c : Nat, c ≤ n ∧ s.1 = Int32.ofNat c := ⟨s.1.toInt.toNat, by omega, (gx_of p1.1).symm⟩
    have oc := ofn (k := c) (by omega)
    have hS : s.1.toInt = c := by rw [ec]; exact oc
    rw [show s.1.toInt.toNat = c by omega] at p2
    have h2 := h.of0 k2
    have g2 := h2.1
    refine gw_gRa 66 (g2.c (r := 65) rfl) (g2.r (by decide)) ?_
    refine gw_aIw 26 (g2.t (r := 66) rfl) (g2.l (r := 66) rfl) l26 (by omega) ?_
    rw [k2.row]
    refine gw_le (fun q => ?_) (fun q => ?_)
    · refine gw_some (gs_inr (gq_V ⟨k2, r5, ?_⟩))
      rw [st]
      rw [show c = n by omega] at p2
      exact p2
    · rw [ec]
      have nx : (Int32.ofNat c + (1 : Int32)).toInt = (Int32.ofNat c).toInt + (1 : Int32).toInt := gx_add (by omega) (by omega)
      refine gw_j (fun m => (km A0 μ m ∧ m.2.1 71 = μ.2.1 71) ∧ rX n k (m.2.1 72) (m.2.1 65 17) (m.2.1 73) (ol f (c + 1) X)) (fun m ⟨a, b⟩ => ?_) (fun jj hj => ?_)
      · refine gw_some (gs_inl ⟨a, ⟨by show 0 ≤ (Int32.ofNat c + (1 : Int32)).toInt; omega, by show (Int32.ofNat c + (1 : Int32)).toInt ≤ (n : Int); omega⟩, ?_⟩ (by show 100 - (Int32.ofNat c + (1 : Int32)).toInt < 100 - s.1.toInt; omega) (by show 0 ≤ 100 - (Int32.ofNat c + (1 : Int32)).toInt; omega))
        show rX n k (m.2.1 72) (m.2.1 65 17) (m.2.1 73) (ol f (Int32.ofNat c + (1 : Int32)).toInt.toNat X)
        rw [show (Int32.ofNat c + (1 : Int32)).toInt.toNat = c + 1 by omega]
        exact b
      · obtain ⟨Y, hY⟩ : ∃ Y : oX, Y = ol f c X := ⟨_, rfl⟩
        have fs : ol f (c + 1) X = f c Y := by rw [hY]; rfl
        have fe : f c Y = if (tk >>> (Int32.ofNat c &&& 31)) &&& (1 : Int32) = 0 then oa n H d (k + 1) (tk ||| ((1 : Int32) <<< (Int32.ofNat c &&& 31))) (su + H c k) (fu Y.1 k (Int32.ofNat c), Y.2) else Y := by rw [hf]
        rw [← hY] at p2
        refine gw_ite (fun z => ?_) (fun z => ?_)
        · rw [if_neg z] at fe
          refine hj _ ⟨⟨k2, r5⟩, ?_⟩
          rw [fs, fe]
          exact p2
        · have z' : (tk >>> (Int32.ofNat c &&& 31)) &&& (1 : Int32) = 0 := by
            by_cases y : (tk >>> (Int32.ofNat c &&& 31)) &&& (1 : Int32) = 0
            · exact y
            · exact absurd y z
          rw [if_pos z'] at fe
          refine gw_gRa 72 (g2.c (r := 65) rfl) (g2.r (by decide)) ?_
          refine gw_sIw k (g2.t (r := 72) rfl) (g2.l (r := 72) rfl) ok (by omega) ?_
          have k3 : km A0 μ (wI s.2 72 k (Int32.ofNat c)) := k2.wr (r := 72) (j := k) (x := Int32.ofNat c) rfl (by decide)
          have s5 : (wI s.2 72 k (Int32.ofNat c)).2.1 71 = μ.2.1 71 := by rw [wI_o _ _ _ _ (by decide), r5]
          have x3 : rX n (k + 1) ((wI s.2 72 k (Int32.ofNat c)).2.1 72) ((wI s.2 72 k (Int32.ofNat c)).2.1 65 17) ((wI s.2 72 k (Int32.ofNat c)).2.1 73) (fu Y.1 k (Int32.ofNat c), Y.2) := by
            rw [wI_o _ _ _ _ (show (65 : Nat) ≠ 72 by decide), wI_o _ _ _ _ (show (73 : Nat) ≠ 72 by decide)]
            exact p2.set (wI_e _ _ _ _) (fun j hj => wI_n _ _ _ _ hj)
          generalize wI s.2 72 k (Int32.ofNat c) = m3 at *
          have h3 := h.of0 k3
          have g3 := h3.1
          have n5 : ((5 : Int32) * Int32.ofNat c).toInt = 5 * (Int32.ofNat c).toInt := gx_mul 5 l5 (by omega) (by omega)
          have n6 : (((5 : Int32) * Int32.ofNat c) + Int32.ofNat k).toInt = ((5 : Int32) * Int32.ofNat c).toInt + (Int32.ofNat k).toInt := gx_add (by omega) (by omega)
          refine gw_gRa 71 (g3.c (r := 65) rfl) (g3.r (by decide)) ?_
          refine gw_aIw (5 * c + k) (g3.t (r := 71) rfl) (g3.l (r := 71) rfl) (by omega) (by omega) ?_
          rw [s5, hH c k (by omega) (by omega)]
          refine gw_if (g3.t (r := 65) rfl) ?_
          have ek : Int32.ofNat k + (1 : Int32) = Int32.ofNat (k + 1) := by
            apply Int32.toInt_inj.mp
            rw [ofn (k := k + 1) (by omega), gx_add (by omega) (by omega)]
            omega
          rw [ek]
          refine gw_bV (hR h3 (by rw [k3.row]; exact hn) (fun c' k' hc' hk' => by rw [s5]; exact hH c' k' hc' hk') (k := k + 1) (by omega) (by omega) x3) (fun m4 ⟨k4, r4, x4⟩ => ?_)
          refine hj _ ⟨⟨k3.trans k4, by rw [r4, s5]⟩, ?_⟩
          rw [fs, fe]
          exact x4.le (by omega)
  · rw [if_pos (show n ≤ k by omega)] at st
    refine gw_gIw (hg.c (r := 65) rfl) ?_
    rw [hX.2.1]
    refine gw_ite (fun q => ?_) (fun q => ?_)
    · rw [if_pos q] at st
      exact gw_some (gq_V ⟨km.refl A0 μ, rfl, by rw [st]; exact hX⟩)
    · rw [if_neg q] at st
      refine gw_pIw (hg.c (r := 65) rfl) ?_
      have k5 : km A0 μ (wI μ 65 17 su) := (km.refl A0 μ).wf (j := 17) (x := su) rfl (by decide)
      refine gw_loop (fun s => km A0 μ s.2 ∧ (s.2.2.1 71 = μ.2.1 71 ∧ s.2.2.1 72 = μ.2.1 72 ∧ s.2.2.1 65 17 = su) ∧ (0 ≤ s.1.toInt ∧ s.1.toInt ≤ (k : Int)) ∧ ∀ i : Nat, (i : Int) < s.1.toInt → s.2.2.1 73 i = μ.2.1 72 i) (fun s => 100 - s.1.toInt) (fun s ⟨k2, ⟨r1, r2, r3⟩, p1, p2⟩ => ?_) 5000 ((0 : Int32), wI μ 65 17 su) ⟨k5, ⟨by show (wI μ 65 17 su).2.1 71 = _; rw [wI_o _ _ _ _ (by decide)], by show (wI μ 65 17 su).2.1 72 = _; rw [wI_o _ _ _ _ (by decide)], wI_e _ _ _ _⟩, ⟨by show 0 ≤ (0 : Int32).toInt; omega, by show (0 : Int32).toInt ≤ (k : Int); omega⟩, fun i hi => absurd hi (by show ¬ (i : Int) < (0 : Int32).toInt; omega)⟩ (by show 100 - (0 : Int32).toInt < ((5000 : Nat) : Int); omega) (by show 0 ≤ 100 - (0 : Int32).toInt; omega)
      have g2 := (h.of0 k2).1
      refine gw_le (fun z => ?_) (fun z => ?_)
      · refine gw_some (gs_inr (gq_V ⟨k2, r1, ?_⟩))
        rw [st]
        refine ⟨fun j hj => ?_, r3, Or.inr (fun j hj => ?_)⟩
        · rw [r2]; exact hX.1 j hj
        · rw [p2 j (by omega)]; exact hX.1 j (by omega)
      · obtain ⟨i, hi, ei⟩ : ∃ i : Nat, i < k ∧ s.1 = Int32.ofNat i := ⟨s.1.toInt.toNat, by omega, (gx_of p1.1).symm⟩
        have oi := ofn (k := i) (by omega)
        have hS : s.1.toInt = i := by rw [ei]; exact oi
        rw [ei]
        have nx : (Int32.ofNat i + (1 : Int32)).toInt = (Int32.ofNat i).toInt + (1 : Int32).toInt := gx_add (by omega) (by omega)
        refine gw_gRa 73 (g2.c (r := 65) rfl) (g2.r (by decide)) ?_
        refine gw_gRa 72 (g2.c (r := 65) rfl) (g2.r (by decide)) ?_
        refine gw_aIw i (g2.t (r := 72) rfl) (g2.l (r := 72) rfl) oi (by omega) ?_
        rw [r2]
        refine gw_sIw i (g2.t (r := 73) rfl) (g2.l (r := 73) rfl) oi (by omega) ?_
        have k3 : km A0 μ (wI s.2 73 i (μ.2.1 72 i)) := k2.wr (r := 73) (j := i) (x := μ.2.1 72 i) rfl (by decide)
        refine gw_some (gs_inl ⟨k3, ⟨?_, ?_, ?_⟩, ⟨by show 0 ≤ (Int32.ofNat i + (1 : Int32)).toInt; omega, by show (Int32.ofNat i + (1 : Int32)).toInt ≤ (k : Int); omega⟩, fun q hq => ?_⟩ (by show 100 - (Int32.ofNat i + (1 : Int32)).toInt < 100 - s.1.toInt; omega) (by show 0 ≤ 100 - (Int32.ofNat i + (1 : Int32)).toInt; omega))
        · show (wI s.2 73 i (μ.2.1 72 i)).2.1 71 = _
          rw [wI_o _ _ _ _ (by decide), r1]
        · show (wI s.2 73 i (μ.2.1 72 i)).2.1 72 = _
          rw [wI_o _ _ _ _ (by decide), r2]
        · show (wI s.2 73 i (μ.2.1 72 i)).2.1 65 17 = _
          rw [wI_o _ _ _ _ (by decide), r3]
        · replace hq : (q : Int) < (Int32.ofNat i + (1 : Int32)).toInt := hq
          show (wI s.2 73 i (μ.2.1 72 i)).2.1 73 q = _
          by_cases y : q = i
          · rw [y, wI_e]
          · rw [wI_n _ _ _ _ y]; exact p2 q (by omega)
theorem wr_arr : ∀ (d : Nat) {m : gm_M} (_ : MI m) (_ : (m.2.1 66 26).toInt = n) (_ : ∀ c k : Nat, c < n → k < n → m.2.1 71 (5 * c + k) = H c k) {k : Nat} {tk su : Int32} {X : oX}, k ≤ n → 5 < d + k → rX n k (m.2.1 72) (m.2.1 65 17) (m.2.1 73) X → gwV (r_X12_ordersFrom d 65 (Int32.ofNat k) tk su m) (fun m' => km A0 m m' ∧ m'.2.1 71 = m.2.1 71 ∧ rX n k (m'.2.1 72) (m'.2.1 65 17) (m'.2.1 73) (oa n H d k tk su X))
  | 0, m, h, hn, _, k, _, _, _, hk, hd, _ => by
    have := h.n26
    omega
  | d + 1, m, h, hn, hH, k, tk, su, X, hk, hd, hX => wb_arr d (@fun _ h hn hH _ _ _ _ hk hd hX => wr_arr d h hn hH hk hd hX) h hn hH hk hd hX
end
end
section
/-! order itself -/
section
variable {w ss : Int32} {Q : List (List Int32 × Int32)} {μ : gm_M} {c n : Nat}
theorem v_copy2 (h : CW w Q μ) (hc : c < 5) : gwV (f_X2_copy 63 (29 + 2 * c) μ) (fun m => (kc μ m ∧ kC m 63 = kC μ (29 + 2 * c)) ∧ m.2.1 5 = μ.2.1 5) :=
  gwV_mono2 (gwV_and (v_copy h hc) (s_ccopy h.1.1 (Or.inl (Or.inr rfl)) (Or.inl (ict_c hc)) (by omega))) (fun m ⟨a, b⟩ => ⟨a, b.2.2.1 5 (by decide) (by decide)⟩)
set_option maxHeartbeats 4000000 in
theorem v_fill (h : CW w Q μ) (hr : RK (kC μ (29 + 2 * c))) (hm : 0 ≤ (μ.2.1 15 0).toInt ∧ (μ.2.1 15 0).toInt ≤ 9999) (hc : c < 5) (hn : (μ.2.1 15 1).toInt = n) : gwV (f_X11_fillBehind 1 (Int32.ofNat c) μ) (fun m => kc μ m ∧ (∀ k : Nat, k < n → m.2.1 5 (5 * c + k) = cHold w Q (cGoN k (kC μ (29 + 2 * c)) (μ.2.1 15 0)) (μ.2.1 15 0 + Int32.ofNat k)) ∧ ∀ j : Nat, (j < 5 * c ∨ 5 * c + 5 ≤ j) → m.2.1 5 j = μ.2.1 5 j) := by
  have l0 : (0 : Int32).toInt = 0 := rfl
  have l1 : (1 : Int32).toInt = 1 := rfl
  have l5 : (5 : Int32).toInt = 5 := rfl
  have n1 := h.1.n1
  have hg := h.1.1
  have oc := ofn (k := c) (by omega)
  obtain ⟨K, hK⟩ : ∃ K : Nat → Int32, K = kC μ (29 + 2 * c) := ⟨_, rfl⟩
  obtain ⟨T, hT⟩ : ∃ T : Int32, T = μ.2.1 15 0 := ⟨_, rfl⟩
  rw [← hK] at hr
  rw [← hT] at hm
  rw [← hK, ← hT]
  refine gwV_of ?_
  unfold f_X11_fillBehind
  refine gw_gRa 63 (hg.c (r := 1) rfl) (hg.r (by decide)) ?_
  refine gw_kid hg hc ?_
  refine gw_if (ict.t hg (Or.inr rfl)) ?_
  refine gw_bV (v_copy2 h hc) (fun m5 ⟨⟨k5, e5⟩, r5⟩ => ?_)
  rw [← hK] at e5
  refine gw_loop (fun s => kc μ s.2 ∧ (0 ≤ s.1.toInt ∧ s.1.toInt ≤ (n : Int)) ∧ kC s.2 63 = cGoN s.1.toInt.toNat K T ∧ (∀ k : Nat, (k : Int) < s.1.toInt → s.2.2.1 5 (5 * c + k) = cHold w Q (cGoN k K T) (T + Int32.ofNat k)) ∧ ∀ j : Nat, (j < 5 * c ∨ 5 * c + 5 ≤ j) → s.2.2.1 5 j = μ.2.1 5 j) (fun s => 100 - s.1.toInt) (fun s ⟨k2, p1, p2, p3, p4⟩ => ?_) 5000 ((0 : Int32), m5) ⟨k5, ⟨by show 0 ≤ (0 : Int32).toInt; omega, by show (0 : Int32).toInt ≤ (n : Int); omega⟩, by show kC m5 63 = cGoN (0 : Int32).toInt.toNat K T; rw [show (0 : Int32).toInt.toNat = 0 by omega]; exact e5, fun k hk => absurd hk (by show ¬ (k : Int) < (0 : Int32).toInt; omega), fun j _ => by show m5.2.1 5 j = _; rw [r5]⟩ (by show 100 - (0 : Int32).toInt < ((5000 : Nat) : Int); omega) (by show 0 ≤ 100 - (0 : Int32).toInt; omega)
  obtain ⟨i, hi, ei⟩ : ∃ i : Nat, i ≤ n ∧ s.1 = Int32.ofNat i := ⟨s.1.toInt.toNat, by omega, (gx_of p1.1).symm⟩
  have oi := ofn (k := i) (by omega)
  have hS : s.1.toInt = i := by rw [ei]; exact oi
  rw [show s.1.toInt.toNat = i by omega] at p2
  have hw := h.kc k2
  have g2 := hw.1.1
  have r15 := k2.row (show (15 : Nat) ≠ 1 ∧ 15 ≠ 5 ∧ 15 ≠ 6 ∧ 15 ≠ 7 ∧ 15 ≠ 63 ∧ 15 ≠ 64 by decide)
  have mi := mi_add (mi := T) (n := i) ⟨hm.1, by omega⟩ (by omega)
  refine gw_gRa 15 (g2.c (r := 1) rfl) (g2.r (by decide)) ?_
  refine gw_gIw (g2.c (r := 15) rfl) ?_
  rw [r15]
  refine gw_le (fun q => ?_) (fun q => ?_)
  · exact gw_some (gs_inr (gq_V ⟨k2, fun k hk => p3 k (by omega), p4⟩))
  · rw [ei]
    have nx : (Int32.ofNat i + (1 : Int32)).toInt = (Int32.ofNat i).toInt + (1 : Int32).toInt := gx_add (by omega) (by omega)
    have n5 : (Int32.ofNat c * (5 : Int32)).toInt = 5 * (Int32.ofNat c).toInt := gx_mulr 5 l5 (by omega) (by omega)
    have n6 : ((Int32.ofNat c * (5 : Int32)) + Int32.ofNat i).toInt = (Int32.ofNat c * (5 : Int32)).toInt + (Int32.ofNat i).toInt := gx_add (by omega) (by omega)
    refine gw_gRa 5 (g2.c (r := 1) rfl) (g2.r (by decide)) ?_
    refine gw_gRa 63 (g2.c (r := 1) rfl) (g2.r (by decide)) ?_
    refine gw_gRa 15 (g2.c (r := 1) rfl) (g2.r (by decide)) ?_
    refine gw_gR (g2.c (r := 15) rfl) (fun q eq => ?_)
    subst eq
    refine gw_gRa 15 (g2.c (r := 1) rfl) (g2.r (by decide)) ?_
    refine gw_gIw (g2.c (r := 15) rfl) ?_
    rw [r15, ← hT]
    refine gw_if (ict.t g2 (Or.inr rfl)) ?_
    refine gw_bI (v_holds hw (Or.inr rfl) _) (fun x m ⟨ex, em⟩ => ?_)
    replace em := em.symm
    subst em
    rw [p2] at ex
    refine gw_sIw (5 * c + i) (g2.t (r := 5) rfl) (g2.l (r := 5) rfl) (by omega) (by omega) ?_
    have k3 : kc μ (wI s.2 5 (5 * c + i) x) := k2.wr (r := 5) (j := 5 * c + i) (x := x) rfl (by decide)
    have c3 : kC (wI s.2 5 (5 * c + i) x) 63 = cGoN i K T := by
      rw [← p2]
      exact kC_o rfl (wI_o _ _ _ _ (by decide)) (fun j _ => by rw [wI_o _ _ _ _ (by decide)])
    have v3 : (wI s.2 5 (5 * c + i) x).2.1 5 (5 * c + i) = x := wI_e _ _ _ _
    have f3 : ∀ j : Nat, j ≠ 5 * c + i → (wI s.2 5 (5 * c + i) x).2.1 5 j = s.2.2.1 5 j := fun j hj => wI_n _ _ _ _ hj
    generalize wI s.2 5 (5 * c + i) x = m3 at *
    have h3 := h.kc k3
    have g3 := h3.1.1
    have q15 := k3.row (show (15 : Nat) ≠ 1 ∧ 15 ≠ 5 ∧ 15 ≠ 6 ∧ 15 ≠ 7 ∧ 15 ≠ 63 ∧ 15 ≠ 64 by decide)
    refine gw_gRa 63 (g3.c (r := 1) rfl) (g3.r (by decide)) ?_
    refine gw_gRa 15 (g3.c (r := 1) rfl) (g3.r (by decide)) ?_
    refine gw_gIw (g3.c (r := 15) rfl) ?_
    rw [q15, ← hT]
    refine gw_if (ict.t g3 (Or.inr rfl)) ?_
    refine gw_bV (v_pass h3 (Or.inr rfl) (mi := T + Int32.ofNat i) (by omega) (by rw [c3]; exact hr.goN ⟨hm.1, by omega⟩ i (by omega))) (fun m4 ⟨g4, k4, _⟩ => ?_)
    have s5 : m4.2.1 5 = m3.2.1 5 := g4.2.2.1 5 (by decide)
    refine gw_some (gs_inl ⟨k3.ch g4, ⟨by show 0 ≤ (Int32.ofNat i + (1 : Int32)).toInt; omega, by show (Int32.ofNat i + (1 : Int32)).toInt ≤ (n : Int); omega⟩, ?_, fun k hk => ?_, fun j hj => ?_⟩ (by show 100 - (Int32.ofNat i + (1 : Int32)).toInt < 100 - s.1.toInt; omega) (by show 0 ≤ 100 - (Int32.ofNat i + (1 : Int32)).toInt; omega))
    · show kC m4 63 = cGoN (Int32.ofNat i + (1 : Int32)).toInt.toNat K T
      rw [show (Int32.ofNat i + (1 : Int32)).toInt.toNat = i + 1 by omega, k4, c3]
      rfl
    · replace hk : (k : Int) < (Int32.ofNat i + (1 : Int32)).toInt := hk
      show m4.2.1 5 (5 * c + k) = _
      rw [s5]
      by_cases q : k = i
      · rw [q, v3, ex]
      · rw [f3 _ (by omega)]; exact p3 k (by omega)
    · show m4.2.1 5 j = _
      rw [s5, f3 j (by omega)]
      exact p4 j hj
end
section
variable {w ss : Int32} {Q : List (List Int32 × Int32)} {μ : gm_M} {n : Nat} {Z : oX} {H : Nat → Nat → Int32} {a : Int32}
def oZ (n : Nat) (Z : oX) (a : Int32) : Int32 := if a.toInt < 0 then Z.2.1 else if (n : Int) ≤ a.toInt then -5 else Z.2.2 a.toInt.toNat
theorem v_arr (h : CI μ) (hn : (μ.2.1 15 1).toInt = n) (hH : ∀ c k : Nat, c < n → k < n → μ.2.1 5 (5 * c + k) = H c k) (hb : μ.2.1 1 9 = -1) : gwV (f_X11_arrange 1 0 0 0 μ) (fun m => kc μ m ∧ rX n 0 (m.2.1 6) (m.2.1 1 9) (m.2.1 7) (oa n H 64 0 0 0 (fun _ => 0, -1, fun _ => 0))) :=
  gwV_mono2 (vr_arr 64 h hn hH (k := 0) (Nat.zero_le n) (by decide) (X := (fun _ => 0, -1, fun _ => 0)) ⟨fun j hj => absurd hj (Nat.not_lt_zero j), hb, Or.inl rfl⟩) (fun m ⟨x, _, y⟩ => ⟨x, y⟩)
theorem w_arr (h : MI μ) (hn : (μ.2.1 66 26).toInt = n) (hH : ∀ c k : Nat, c < n → k < n → μ.2.1 71 (5 * c + k) = H c k) (hb : μ.2.1 65 17 = -1) : gwV (f_X12_ordersFrom 65 0 0 0 μ) (fun m => km A0 μ m ∧ rX n 0 (m.2.1 72) (m.2.1 65 17) (m.2.1 73) (oa n H 64 0 0 0 (fun _ => 0, -1, fun _ => 0))) :=
  gwV_mono2 (wr_arr 64 h hn hH (k := 0) (Nat.zero_le n) (by decide) (X := (fun _ => 0, -1, fun _ => 0)) ⟨fun j hj => absurd hj (Nat.not_lt_zero j), hb, Or.inl rfl⟩) (fun m ⟨x, _, y⟩ => ⟨x, y⟩)
set_option maxHeartbeats 4000000 in
theorem v_order (h : CW w Q μ) (hr : ∀ k : Nat, k < 5 → RK (kC μ (29 + 2 * k))) (hm : 0 ≤ (μ.2.1 15 0).toInt ∧ (μ.2.1 15 0).toInt ≤ 9999) (hn : (μ.2.1 15 1).toInt = n) (hH : ∀ c k : Nat, c < n → k < n → H c k = cHold w Q (cGoN k (kC μ (29 + 2 * c)) (μ.2.1 15 0)) (μ.2.1 15 0 + Int32.ofNat k)) (ha : -1 ≤ a.toInt ∧ a.toInt ≤ 4) (hz : Z = oa n H 64 0 0 0 (fun _ => 0, -1, fun _ => 0)) (hne : Z.2.1 ≠ -1) : gwI (f_X11_order 1 a μ) (fun x m => kc μ m ∧ x = oZ n Z a) := by
  have l0 : (0 : Int32).toInt = 0 := rfl
  have l1 : (1 : Int32).toInt = 1 := rfl
  have l4 : (4 : Int32).toInt = 4 := rfl
  have lm : (-1 : Int32).toInt = -1 := rfl
  have n1 := h.1.n1
  have hg := h.1.1
  refine gwI_of ?_
  unfold f_X11_order
  refine gw_out (fun _ => ?_) (fun q => by exfalso; omega)
  refine gw_if rfl ?_
  refine gw_gRa 15 (hg.c (r := 1) rfl) (hg.r (by decide)) ?_
  refine gw_gIw (hg.c (r := 15) rfl) ?_
  refine gw_lt (fun g => ?_) (fun g => ?_)
  · refine gw_loop (fun s => kc μ s.2 ∧ (0 ≤ s.1.toInt ∧ s.1.toInt ≤ (n : Int)) ∧ ∀ c k : Nat, (c : Int) < s.1.toInt → k < n → s.2.2.1 5 (5 * c + k) = H c k) (fun s => 100 - s.1.toInt) (fun s ⟨k2, p1, p2⟩ => ?_) 5000 ((0 : Int32), μ) ⟨kc.refl μ, ⟨by show 0 ≤ (0 : Int32).toInt; omega, by show (0 : Int32).toInt ≤ (n : Int); omega⟩, fun c k hc _ => absurd hc (by show ¬ (c : Int) < (0 : Int32).toInt; omega)⟩ (by show 100 - (0 : Int32).toInt < ((5000 : Nat) : Int); omega) (by show 0 ≤ 100 - (0 : Int32).toInt; omega)
    obtain ⟨c, hc, ec⟩ : ∃ c : Nat, c ≤ n ∧ s.1 = Int32.ofNat c := ⟨s.1.toInt.toNat, by omega, (gx_of p1.1).symm⟩
    have oc := ofn (k := c) (by omega)
    have hS : s.1.toInt = c := by rw [ec]; exact oc
    have hw := h.kc k2
    have g2 := hw.1.1
    have r15 := k2.row (show (15 : Nat) ≠ 1 ∧ 15 ≠ 5 ∧ 15 ≠ 6 ∧ 15 ≠ 7 ∧ 15 ≠ 63 ∧ 15 ≠ 64 by decide)
    refine gw_gRa 15 (g2.c (r := 1) rfl) (g2.r (by decide)) ?_
    refine gw_gIw (g2.c (r := 15) rfl) ?_
    rw [r15]
    refine gw_le (fun q => ?_) (fun q => ?_)
    · refine gw_pIw (g2.c (r := 1) rfl) ?_
      have k3 : kc μ (wI s.2 1 9 (-1)) := k2.w1 rfl
      have v3 : (wI s.2 1 9 (-1)).2.1 1 9 = -1 := wI_e _ _ _ _
      have f3 : (wI s.2 1 9 (-1)).2.1 5 = s.2.2.1 5 := wI_o _ _ _ _ (by decide)
      generalize wI s.2 1 9 (-1) = m3 at *
      have h3 := h.kc k3
      have q15 := k3.row (show (15 : Nat) ≠ 1 ∧ 15 ≠ 5 ∧ 15 ≠ 6 ∧ 15 ≠ 7 ∧ 15 ≠ 63 ∧ 15 ≠ 64 by decide)
      refine gw_if (h3.1.1.t (r := 1) rfl) ?_
      refine gw_bV (v_arr (n := n) (H := H) h3.1 (by rw [q15]; exact hn) (fun c' k' hc' hk' => by rw [f3]; exact p2 c' k' (by omega) hk') v3) (fun m9 ⟨k9, x9⟩ => ?_)
      rw [← hz] at x9
      have kk9 := k3.trans k9
      have g9 := (h.kc kk9).1.1
      have x9' : ∀ j : Nat, j < n → m9.2.1 7 j = Z.2.2 j := by
        rcases x9.2.2 with z | z
        · exact absurd z hne
        · exact z
      refine gw_le (fun z => ?_) (fun z => ?_)
      · refine gw_gRa 7 (g9.c (r := 1) rfl) (g9.r (by decide)) ?_
        refine gw_aIw a.toInt.toNat (g9.t (r := 7) rfl) (g9.l (r := 7) rfl) (by omega) (by omega) ?_
        refine gw_some (gs_inr (gq_I ⟨kk9, ?_⟩))
        rw [x9' _ (by omega), oZ, if_neg (by omega), if_neg (by omega)]
      · refine gw_gIw (g9.c (r := 1) rfl) ?_
        refine gw_some (gs_inr (gq_I ⟨kk9, ?_⟩))
        rw [x9.2.1, oZ, if_pos (by omega)]
    · rw [ec]
      have c5 : c < 5 := by omega
      have nx : (Int32.ofNat c + (1 : Int32)).toInt = (Int32.ofNat c).toInt + (1 : Int32).toInt := gx_add (by omega) (by omega)
      refine gw_if (g2.t (r := 1) rfl) ?_
      refine gw_bV (v_fill hw (c := c) (n := n) (by rw [k2.K c5]; exact hr c c5) (by rw [r15]; exact hm) c5 (by rw [r15]; exact hn)) (fun m4 ⟨k4, f1, f2⟩ => ?_)
      rw [k2.K c5, r15] at f1
      refine gw_some (gs_inl ⟨k2.trans k4, ⟨by show 0 ≤ (Int32.ofNat c + (1 : Int32)).toInt; omega, by show (Int32.ofNat c + (1 : Int32)).toInt ≤ (n : Int); omega⟩, fun c' k' hc' hk' => ?_⟩ (by show 100 - (Int32.ofNat c + (1 : Int32)).toInt < 100 - s.1.toInt; omega) (by show 0 ≤ 100 - (Int32.ofNat c + (1 : Int32)).toInt; omega))
      replace hc' : (c' : Int) < (Int32.ofNat c + (1 : Int32)).toInt := hc'
      show m4.2.1 5 (5 * c' + k') = H c' k'
      by_cases y : c' = c
      · rw [y, f1 k' hk', hH c k' (by omega) hk']
      · rw [f2 _ (by omega)]; exact p2 c' k' (by omega) hk'
  · refine gw_some (gq_I ⟨kc.refl μ, ?_⟩)
    rw [oZ, if_neg (by omega), if_pos (by omega)]
set_option maxHeartbeats 4000000 in
theorem w_order (h : MW w ss Q μ) (hm : 0 ≤ (μ.2.1 66 0).toInt ∧ (μ.2.1 66 0).toInt ≤ 9999) (hn : (μ.2.1 66 26).toInt = n) (hH : ∀ c k : Nat, c < n → k < 5 → H c k = cHold w Q (cGoN k (kR (μ.2.1 66) c) (μ.2.1 66 0)) (μ.2.1 66 0 + Int32.ofNat k)) (ha : -1 ≤ a.toInt ∧ a.toInt ≤ 4) (hz : Z = oa n H 64 0 0 0 (fun _ => 0, -1, fun _ => 0)) (hne : Z.2.1 ≠ -1) : gwI (f_X12_order 65 a μ) (fun x m => qm μ m ∧ x = oZ n Z a) := by
  have l0 : (0 : Int32).toInt = 0 := rfl
  have l1 : (1 : Int32).toInt = 1 := rfl
  have l4 : (4 : Int32).toInt = 4 := rfl
  have l5 : (5 : Int32).toInt = 5 := rfl
  have l26 : (26 : Int32).toInt = 26 := rfl
  have lm : (-1 : Int32).toInt = -1 := rfl
  have n1 := h.1.n26
  refine gwI_of ?_
  unfold f_X12_order
  refine gw_inn (fun _ => ?_) (fun q => by exfalso; omega)
  refine gw_if (by decide) ?_
  refine gw_if (h.1.1.t (r := 65) rfl) ?_
  refine gw_bV (s_X12_keeps h.1) (fun m3 g3 => ?_)
  have h3 := g3.mw h
  have r3 : m3.2.1 66 = μ.2.1 66 := g3.2.2.1 66 (by decide)
  obtain ⟨σ, hσ⟩ : ∃ σ : Nat → Int32, σ = μ.2.1 66 := ⟨_, rfl⟩
  rw [← hσ] at hm hn hH r3 n1
  refine gw_loop (fun s => km A1 m3 s.2 ∧ (0 ≤ s.1.toInt ∧ s.1.toInt ≤ 5) ∧ (s.2.2.1 66 0 = σ 0 + Int32.ofNat s.1.toInt.toNat ∧ ∀ k : Nat, k < 5 → kR (s.2.2.1 66) k = gN n s.1.toInt.toNat (σ 0) k (kR σ k)) ∧ ∀ c k : Nat, c < n → (k : Int) < s.1.toInt → s.2.2.1 71 (5 * c + k) = H c k) (fun s => 100 - s.1.toInt) (fun s ⟨k2, p1, ⟨p3, p4⟩, p2⟩ => ?_) 5000 ((0 : Int32), m3) ⟨km.refl A1 m3, ⟨by show 0 ≤ (0 : Int32).toInt; omega, by show (0 : Int32).toInt ≤ 5; omega⟩, ⟨by show m3.2.1 66 0 = σ 0 + Int32.ofNat 0; rw [r3]; exact itn_at (n := 0) ⟨hm.1, by omega⟩ (by omega), fun k _ => by show kR (m3.2.1 66) k = gN n 0 (σ 0) k (kR σ k); rw [r3, gN_0]⟩, fun c k _ hk => absurd hk (by show ¬ (k : Int) < (0 : Int32).toInt; omega)⟩ (by show 100 - (0 : Int32).toInt < ((5000 : Nat) : Int); omega) (by show 0 ≤ 100 - (0 : Int32).toInt; omega)
  obtain ⟨i, hi, ei⟩ : ∃ i : Nat, i ≤ 5 ∧ s.1 = Int32.ofNat i := ⟨s.1.toInt.toNat, by omega, (gx_of p1.1).symm⟩
  have oi := ofn (k := i) (by omega)
  have hS : s.1.toInt = i := by rw [ei]; exact oi
  rw [show s.1.toInt.toNat = i by omega] at p3 p4
  have hs := h3.k1 k2
  have f26 : s.2.2.1 66 26 = σ 26 := by rw [k2.2.2.2.1 26 (by unfold A1; omega), r3]
  refine gw_le (fun g => ?_) (fun g => ?_)
  · refine gw_if (hs.1.1.t (r := 65) rfl) ?_
    refine gw_bV (n_X12_goesBack hs.1) (fun m6 ⟨k6, r6⟩ => ?_)
    have kk6 := k2.trans k6.old
    have h6 := h3.k1 kk6
    have e71 : m6.2.1 71 = s.2.2.1 71 := k6.2.2.1 71 (by decide) (by decide) (by decide)
    refine gw_pIw (h6.1.1.c (r := 65) rfl) ?_
    have k8 : km A1 m3 (wI m6 65 17 (-1)) := kk6.wf (j := 17) (x := -1) rfl (by decide)
    have r8 : rs (wI m6 65 17 (-1)) := rs.k0 r6 ((km.refl A0 m6).wf (j := 17) (x := -1) rfl (by decide))
    have v8 : (wI m6 65 17 (-1)).2.1 65 17 = -1 := wI_e _ _ _ _
    have f8 : (wI m6 65 17 (-1)).2.1 71 = s.2.2.1 71 := by rw [wI_o _ _ _ _ (by decide), e71]
    generalize wI m6 65 17 (-1) = m8 at *
    have h8 := h3.k1 k8
    have g26 : m8.2.1 66 26 = σ 26 := by rw [k8.2.2.2.1 26 (by unfold A1; omega), r3]
    refine gw_if (h8.1.1.t (r := 65) rfl) ?_
    refine gw_bV (w_arr (n := n) (H := H) h8.1 (by rw [g26]; exact hn) (fun c' k' hc' hk' => by rw [f8]; exact p2 c' k' hc' (by omega)) v8) (fun m9 ⟨k9, x9⟩ => ?_)
    rw [← hz] at x9
    have kk9 := k8.trans k9.w01
    have r9 := rs.k0 r8 k9
    have g9 := (h3.k1 kk9).1.1
    have qf := qm.kp g3 kk9 r9
    have x9' : ∀ j : Nat, j < n → m9.2.1 73 j = Z.2.2 j := by
      rcases x9.2.2 with z | z
      · exact absurd z hne
      · exact z
    refine gw_ne (fun z => ?_) (fun z => ?_)
    · refine gw_gRa 66 (g9.c (r := 65) rfl) (g9.r (by decide)) ?_
      refine gw_aIw 26 (g9.t (r := 66) rfl) (g9.l (r := 66) rfl) l26 (by omega) ?_
      rw [k9.row, g26]
      refine gw_le (fun y => ?_) (fun y => ?_)
      · refine gw_some (gs_inr (gq_I ⟨qf, ?_⟩))
        rw [oZ, if_neg (by omega), if_pos (by omega)]
      · refine gw_gRa 73 (g9.c (r := 65) rfl) (g9.r (by decide)) ?_
        refine gw_aIw a.toInt.toNat (g9.t (r := 73) rfl) (g9.l (r := 73) rfl) (by omega) (by omega) ?_
        refine gw_some (gs_inr (gq_I ⟨qf, ?_⟩))
        rw [x9' _ (by omega), oZ, if_neg (by omega), if_neg (by omega)]
    · refine gw_gIw (g9.c (r := 65) rfl) ?_
      refine gw_some (gs_inr (gq_I ⟨qf, ?_⟩))
      rw [x9.2.1, oZ, if_pos (by omega)]
  · rw [ei]
    have ni : (Int32.ofNat i + (1 : Int32)).toInt = (Int32.ofNat i).toInt + (1 : Int32).toInt := gx_add (by omega) (by omega)
    have m0 := mi_add (mi := σ 0) (n := i) ⟨hm.1, by omega⟩ (by omega)
    refine gw_loop (fun t => (km A1 m3 t.2 ∧ t.2.2.1 66 = s.2.2.1 66) ∧ (0 ≤ t.1.toInt ∧ t.1.toInt ≤ (n : Int)) ∧ (∀ c k : Nat, c < n → k < i → t.2.2.1 71 (5 * c + k) = H c k) ∧ ∀ c : Nat, (c : Int) < t.1.toInt → t.2.2.1 71 (5 * c + i) = H c i) (fun t => 100 - t.1.toInt) (fun t ⟨⟨k4, f4⟩, q1, q2, q3⟩ => ?_) 5000 ((0 : Int32), s.2) ⟨⟨k2, rfl⟩, ⟨by show 0 ≤ (0 : Int32).toInt; omega, by show (0 : Int32).toInt ≤ (n : Int); omega⟩, fun c k hc hk => p2 c k hc (by omega), fun c hc => absurd hc (by show ¬ (c : Int) < (0 : Int32).toInt; omega)⟩ (by show 100 - (0 : Int32).toInt < ((5000 : Nat) : Int); omega) (by show 0 ≤ 100 - (0 : Int32).toInt; omega)
    obtain ⟨c, hc, ec⟩ : ∃ c : Nat, c ≤ n ∧ t.1 = Int32.ofNat c := ⟨t.1.toInt.toNat, by omega, (gx_of q1.1).symm⟩
    have oc := ofn (k := c) (by omega)
    have hT : t.1.toInt = c := by rw [ec]; exact oc
    have h4 := h3.k1 k4
    have g4 := h4.1.1
    refine gw_gRa 66 (g4.c (r := 65) rfl) (g4.r (by decide)) ?_
    refine gw_aIw 26 (g4.t (r := 66) rfl) (g4.l (r := 66) rfl) l26 (by omega) ?_
    rw [f4, f26]
    refine gw_le (fun z => ?_) (fun z => ?_)
    · refine gw_if (g4.t (r := 65) rfl) ?_
      refine gw_bV (gwV_and (w_goes h4 (by rw [f4, p3]; omega)) (n_X12_goes h4.1)) (fun m7 ⟨⟨⟨k7, f7⟩, r7⟩, ⟨j7, _⟩⟩ => ?_)
      rw [f4] at f7 r7
      have e71 : m7.2.1 71 = t.2.2.1 71 := j7.2.2.1 71 (by decide) (by decide) (by decide)
      have t1 : (Int32.ofNat i + (1 : Int32)).toInt.toNat = i + 1 := by omega
      refine gw_some (gs_inr (gs_inl ⟨k4.trans k7, ⟨by show 0 ≤ (Int32.ofNat i + (1 : Int32)).toInt; omega, by show (Int32.ofNat i + (1 : Int32)).toInt ≤ 5; omega⟩, ⟨?_, fun k hk => ?_⟩, fun c' k' hc' hk' => ?_⟩ (by show 100 - (Int32.ofNat i + (1 : Int32)).toInt < 100 - s.1.toInt; omega) (by show 0 ≤ 100 - (Int32.ofNat i + (1 : Int32)).toInt; omega)))
      · show m7.2.1 66 0 = σ 0 + Int32.ofNat (Int32.ofNat i + (1 : Int32)).toInt.toNat
        rw [t1, f7, p3, ← itn_at ⟨hm.1, by omega⟩ i (by omega), ← itn_at ⟨hm.1, by omega⟩ (i + 1) (by omega)]
        rfl
      · show kR (m7.2.1 66) k = gN n (Int32.ofNat i + (1 : Int32)).toInt.toNat (σ 0) k (kR σ k)
        rw [t1, r7 k hk, p4 k hk, f26, p3]
        by_cases y : k < n
        · rw [if_pos (by omega), gN_s y]
        · rw [if_neg (by omega)]; exact gN_o y
      · replace hk' : (k' : Int) < (Int32.ofNat i + (1 : Int32)).toInt := hk'
        show m7.2.1 71 (5 * c' + k') = H c' k'
        rw [e71]
        by_cases y : k' = i
        · rw [y]; exact q3 c' (by omega)
        · exact q2 c' k' hc' (by omega)
    · rw [ec]
      have c5 : c < 5 := by omega
      have nx : (Int32.ofNat c + (1 : Int32)).toInt = (Int32.ofNat c).toInt + (1 : Int32).toInt := gx_add (by omega) (by omega)
      have n5 : ((5 : Int32) * Int32.ofNat c).toInt = 5 * (Int32.ofNat c).toInt := gx_mul 5 l5 (by omega) (by omega)
      have n6 : (((5 : Int32) * Int32.ofNat c) + Int32.ofNat i).toInt = ((5 : Int32) * Int32.ofNat c).toInt + (Int32.ofNat i).toInt := gx_add (by omega) (by omega)
      refine gw_gRa 71 (g4.c (r := 65) rfl) (g4.r (by decide)) ?_
      refine gw_if (g4.t (r := 65) rfl) ?_
      refine gw_bI (w_holds2 h4 c5) (fun x m22 ⟨k22, ex⟩ => ?_)
      rw [f4, p4 c c5, p3, gN_p (show c < n by omega), ← hH c i (by omega) (by omega)] at ex
      have kk22 := k4.trans k22.old.w01
      have g22 := (h3.k1 kk22).1.1
      have e71 : m22.2.1 71 = t.2.2.1 71 := k22.2.2.1 71 (by decide) (by decide) (by decide)
      have e66 : m22.2.1 66 = s.2.2.1 66 := by rw [k22.old.row, f4]
      refine gw_sIw (5 * c + i) (g22.t (r := 71) rfl) (g22.l (r := 71) rfl) (by omega) (by omega) ?_
      have k23 : km A1 m3 (wI m22 71 (5 * c + i) x) := kk22.wr (r := 71) (j := 5 * c + i) (x := x) rfl (by decide)
      refine gw_some (gs_inl ⟨⟨k23, ?_⟩, ⟨by show 0 ≤ (Int32.ofNat c + (1 : Int32)).toInt; omega, by show (Int32.ofNat c + (1 : Int32)).toInt ≤ (n : Int); omega⟩, fun c' k' hc' hk' => ?_, fun c' hc' => ?_⟩ (by show 100 - (Int32.ofNat c + (1 : Int32)).toInt < 100 - t.1.toInt; omega) (by show 0 ≤ 100 - (Int32.ofNat c + (1 : Int32)).toInt; omega))
      · show (wI m22 71 (5 * c + i) x).2.1 66 = s.2.2.1 66
        rw [wI_o _ _ _ _ (by decide), e66]
      · show (wI m22 71 (5 * c + i) x).2.1 71 (5 * c' + k') = H c' k'
        rw [wI_n _ _ _ _ (by omega), e71]
        exact q2 c' k' hc' hk'
      · replace hc' : (c' : Int) < (Int32.ofNat c + (1 : Int32)).toInt := hc'
        show (wI m22 71 (5 * c + i) x).2.1 71 (5 * c' + i) = H c' i
        by_cases y : c' = c
        · rw [y, wI_e, ex]
        · rw [wI_n _ _ _ _ (by omega), e71]; exact q3 c' (by omega)
set_option maxHeartbeats 2000000 in
theorem N_order (h : REL μ) {a : Int32} : PR (f_X11_order 1 a μ) (f_X12_order 65 a) := by
  obtain ⟨w, ss, Q, ⟨hcw, hmw, -, -⟩, hw, -⟩ := h.ex
  have v2 := h.vs.2.1
  have n1 := h.ci.n1
  have mn := h.mn
  have l4 : (4 : Int32).toInt = 4 := rfl
  have lm : (-1 : Int32).toInt = -1 := rfl
  obtain ⟨n, hn⟩ : ∃ n : Nat, (μ.2.1 15 1).toInt = n := ⟨(μ.2.1 15 1).toInt.toNat, by omega⟩
  by_cases ha : (-1 : Int32).toInt ≤ a.toInt ∧ a.toInt ≤ (4 : Int32).toInt
  · obtain ⟨H, hH⟩ : ∃ H : Nat → Nat → Int32, H = fun c k => cHold w Q (cGoN k (kC μ (29 + 2 * c)) (μ.2.1 15 0)) (μ.2.1 15 0 + Int32.ofNat k) := ⟨_, rfl⟩
    have He : ∀ c k : Nat, H c k = cHold w Q (cGoN k (kC μ (29 + 2 * c)) (μ.2.1 15 0)) (μ.2.1 15 0 + Int32.ofNat k) := fun c k => by rw [hH]
    have hm : 0 ≤ (μ.2.1 15 0).toInt ∧ (μ.2.1 15 0).toInt ≤ 9999 := by rw [mn]; exact v2
    have Hb : ∀ c k : Nat, c < n → k < n → 0 ≤ (H c k).toInt ∧ (H c k).toInt ≤ 59400 := fun c k hc hk => by
      rw [He]
      exact cHold_b ((h.row (show c < 5 by omega)).goN ⟨hm.1, by omega⟩ k (by omega)) hcw.2.2.1.1 hcw.2.2.1.2.1 hw _
    obtain ⟨Z, hz⟩ : ∃ Z : oX, Z = oa n H 64 0 0 0 (fun _ => 0, -1, fun _ => 0) := ⟨_, rfl⟩
    have hne : Z.2.1 ≠ -1 := fun z => by
      have r := oa_reach (n := n) (by omega) Hb 64 0 0 0 (fun _ => 0, -1, fun _ => 0) (lf_all (by omega)) (Nat.zero_le n) ⟨by decide, by decide⟩
      rw [← hz, z] at r
      exact absurd r (by decide)
    refine PR.v h (oZ n Z a) (v_order hcw (fun k hk => h.row hk) hm hn (fun c k _ _ => He c k) ⟨by omega, by omega⟩ hz hne) (fun m hmr k => ?_)
    have r66 := k.row (show (66 : Nat) ≠ 1 ∧ 66 ≠ 5 ∧ 66 ≠ 6 ∧ 66 ≠ 7 ∧ 66 ≠ 63 ∧ 66 ≠ 64 by decide)
    have hm2 : MW w ss Q m := ⟨hmr.mi, by rw [r66]; exact hmw.2⟩
    exact w_order hm2 (by rw [r66]; exact v2) (by rw [r66, ← h.sz]; exact hn) (fun c k hc hk => by rw [r66, He, (h.kk (show c < 5 by omega)).1, mn]) ⟨by omega, by omega⟩ hz hne
  · refine PR.u h (-1) (gwI_of ?_) (gwI_of ?_)
    · unfold f_X11_order
      refine gw_out (fun q => absurd q ha) (fun _ => ?_)
      refine gw_ite (fun q => absurd q (by decide)) (fun _ => ?_)
      exact gw_some (gq_I ⟨rfl, rfl⟩)
    · unfold f_X12_order
      refine gw_inn (fun q => absurd q ha) (fun _ => ?_)
      refine gw_ite (fun q => absurd rfl q) (fun _ => ?_)
      exact gw_some (gq_I ⟨qm.refl μ, rfl⟩)
end
end
