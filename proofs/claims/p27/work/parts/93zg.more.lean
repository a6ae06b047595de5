section
/-! the child on trial; sums -/
theorem gwV_mono2 {z : Option (Option Value × gm_M)} {R S : gm_M → Prop} (h : gwV z R) (k : ∀ m, R m → S m) : gwV z S := by
  obtain ⟨m, e, a⟩ := h
  exact ⟨m, e, k m a⟩
theorem add0 (x : Int32) : x + Int32.ofNat 0 = x := by
  apply Int32.toInt_inj.mp
  have l : (Int32.ofNat 0).toInt = 0 := rfl
  rcases gx_addw x (Int32.ofNat 0) with h | h | h
  · omega
  · have := gx_hi (x + Int32.ofNat 0); have := gx_lo x; omega
  · have := gx_lo (x + Int32.ofNat 0); have := gx_hi x; omega
def sm (H : Nat → Int32) : Nat → Int32
  | 0 => 0
  | k + 1 => sm H k + H k
def ff (H : Nat → Int32) : Nat → Int32 × Int32
  | 0 => (-5, -1)
  | k + 1 => if H k ≤ (ff H k).2 then ff H k else (Int32.ofNat k, H k)
theorem sm_eq {H G : Nat → Int32} : ∀ n : Nat, (∀ k : Nat, k < n → H k = G k) → sm H n = sm G n
  | 0, _ => rfl
  | n + 1, h => by
    show sm H n + H n = sm G n + G n
    rw [sm_eq n (fun k hk => h k (by omega)), h n (by omega)]
theorem ff_eq {H G : Nat → Int32} : ∀ n : Nat, (∀ k : Nat, k < n → H k = G k) → ff H n = ff G n
  | 0, _ => rfl
  | n + 1, h => by
    show (if H n ≤ (ff H n).2 then ff H n else (Int32.ofNat n, H n)) = if G n ≤ (ff G n).2 then ff G n else (Int32.ofNat n, G n)
    rw [ff_eq n (fun k hk => h k (by omega)), h n (by omega)]
section
variable {w sw : Int32} {Q : List (List Int32 × Int32)} {μ : gm_M} {c : Nat}
theorem kc.K {m : gm_M} (g : kc μ m) {k : Nat} (hk : k < 5) : kC m (29 + 2 * k) = kC μ (29 + 2 * k) :=
  kC_o (by rw [g.ref (show (29 + 2 * k : Nat) ≠ 63 by omega)]) (g.row (by omega)) (fun j _ => by rw [g.row (by omega)])
theorem v_copy (h : CW w Q μ) (hc : c < 5) : gwV (f_X2_copy 63 (29 + 2 * c) μ) (fun m => kc μ m ∧ kC m 63 = kC μ (29 + 2 * c)) :=
  gwV_mono2 (gwV_and (s_X2_copy_63 h.1 (isch_c hc)) (s_ccopy h.1.1 (Or.inl (Or.inr rfl)) (Or.inl (ict_c hc)) (by omega))) (fun m ⟨a, b⟩ => ⟨a, kC_cp b⟩)
set_option maxHeartbeats 2000000 in
theorem v_trial (h : CW w Q μ) (hr : RK (kC μ 63)) (hm : 0 ≤ (μ.2.1 15 0).toInt ∧ (μ.2.1 15 0).toInt ≤ 9999) {n : Nat} (hn : n ≤ 100) : gwI (f_X11_trialBehind 1 (Int32.ofNat n) μ) (fun x m => kc μ m ∧ x = cHold w Q (cGoN n (kC μ 63) (μ.2.1 15 0)) (μ.2.1 15 0 + Int32.ofNat n) ∧ kC m 63 = cGoN n (kC μ 63) (μ.2.1 15 0)) := by
  have on := ofn (k := n) (by omega)
  have l0 : (0 : Int32).toInt = 0 := rfl
  have l1 : (1 : Int32).toInt = 1 := rfl
  refine gwI_of ?_
  unfold f_X11_trialBehind
  refine gw_loop (fun s => kc μ s.2 ∧ (0 ≤ s.1.toInt ∧ s.1.toInt ≤ (n : Int)) ∧ kC s.2 63 = cGoN s.1.toInt.toNat (kC μ 63) (μ.2.1 15 0)) (fun s => 100 - s.1.toInt) (fun s ⟨k2, p1, p2⟩ => ?_) 5000 ((0 : Int32), μ) ⟨kc.refl μ, ⟨by show 0 ≤ (0 : Int32).toInt; omega, by show (0 : Int32).toInt ≤ (n : Int); omega⟩, rfl⟩ (by show 100 - (0 : Int32).toInt < ((5000 : Nat) : Int); omega) (by show 0 ≤ 100 - (0 : Int32).toInt; omega)
  obtain ⟨i, hi, ei⟩ : ∃ i : Nat, i ≤ n ∧ s.1 = Int32.ofNat i := ⟨s.1.toInt.toNat, by omega, (gx_of p1.1).symm⟩
  have oi := ofn (k := i) (by omega)
  have hw := h.kc k2
  have hg := hw.1.1
  have e0 : s.2.2.1 15 0 = μ.2.1 15 0 := by rw [k2.row (show (15 : Nat) ≠ 1 ∧ 15 ≠ 5 ∧ 15 ≠ 6 ∧ 15 ≠ 7 ∧ 15 ≠ 63 ∧ 15 ≠ 64 by decide)]
  have hS : s.1.toInt = i := by rw [ei]; exact oi
  rw [show s.1.toInt.toNat = i by omega] at p2
  have mi := mi_add (mi := μ.2.1 15 0) (n := i) ⟨hm.1, by omega⟩ (by omega)
  refine gw_le (fun g => ?_) (fun g => ?_)
  · have en : i = n := by omega
    refine gw_gRa 63 (hg.c (r := 1) rfl) (hg.r (by decide)) ?_
    refine gw_gRa 15 (hg.c (r := 1) rfl) (hg.r (by decide)) ?_
    refine gw_gR (hg.c (r := 15) rfl) (fun q eq => ?_)
    subst eq
    refine gw_gRa 15 (hg.c (r := 1) rfl) (hg.r (by decide)) ?_
    refine gw_gIw (hg.c (r := 15) rfl) ?_
    refine gw_if (ict.t hg (Or.inr rfl)) ?_
    refine gw_bI (v_holds hw (Or.inr rfl) _) (fun x m ⟨ex, em⟩ => ?_)
    subst em
    refine gw_some (gs_inr (gq_I ⟨k2, ?_, by rw [p2, en]⟩))
    rw [ex, p2, e0, en]
  · refine gw_gRa 63 (hg.c (r := 1) rfl) (hg.r (by decide)) ?_
    refine gw_gRa 15 (hg.c (r := 1) rfl) (hg.r (by decide)) ?_
    refine gw_gIw (hg.c (r := 15) rfl) ?_
    refine gw_if (ict.t hg (Or.inr rfl)) ?_
    refine gw_bV (v_pass hw (Or.inr rfl) (by rw [e0, ei]; omega) (by rw [p2]; exact hr.goN ⟨hm.1, by omega⟩ i (by omega))) (fun m12 ⟨g12, k12, _⟩ => ?_)
    have nx : (s.1 + (1 : Int32)).toInt = s.1.toInt + (1 : Int32).toInt := gx_add (by omega) (by omega)
    refine gw_some (gs_inl ⟨k2.ch g12, ⟨by show 0 ≤ (s.1 + (1 : Int32)).toInt; omega, by show (s.1 + (1 : Int32)).toInt ≤ (n : Int); omega⟩, ?_⟩ (by show 100 - (s.1 + (1 : Int32)).toInt < 100 - s.1.toInt; omega) (by show 0 ≤ 100 - (s.1 + (1 : Int32)).toInt; omega))
    show kC m12 63 = cGoN (s.1 + (1 : Int32)).toInt.toNat _ _
    rw [show (s.1 + (1 : Int32)).toInt.toNat = i + 1 by omega, k12, p2, e0, ei]
    rfl
theorem v_behind (h : CW w Q μ) (hc : c < 5) (hr : RK (kC μ (29 + 2 * c))) (hm : 0 ≤ (μ.2.1 15 0).toInt ∧ (μ.2.1 15 0).toInt ≤ 9999) {n : Nat} (hn : n ≤ 100) : gwI (f_X11_holdsBehind 1 (Int32.ofNat c) (Int32.ofNat n) μ) (fun x m => kc μ m ∧ x = cHold w Q (cGoN n (kC μ (29 + 2 * c)) (μ.2.1 15 0)) (μ.2.1 15 0 + Int32.ofNat n) ∧ kC m 63 = cGoN n (kC μ (29 + 2 * c)) (μ.2.1 15 0)) := by
  have hg := h.1.1
  refine gwI_of ?_
  unfold f_X11_holdsBehind
  refine gw_gRa 63 (hg.c (r := 1) rfl) (hg.r (by decide)) ?_
  refine gw_kid hg hc ?_
  refine gw_if (ict.t hg (Or.inr rfl)) ?_
  refine gw_bV (v_copy h hc) (fun m5 ⟨k5, e5⟩ => ?_)
  have e0 : m5.2.1 15 0 = μ.2.1 15 0 := by rw [k5.row (show (15 : Nat) ≠ 1 ∧ 15 ≠ 5 ∧ 15 ≠ 6 ∧ 15 ≠ 7 ∧ 15 ≠ 63 ∧ 15 ≠ 64 by decide)]
  refine gw_if ((h.kc k5).1.1.t (r := 1) rfl) ?_
  refine gw_bI (v_trial (h.kc k5) (by rw [e5]; exact hr) (by rw [e0]; exact hm) hn) (fun x m ⟨k6, ex, ek⟩ => ?_)
  rw [e5, e0] at ex ek
  exact gw_some (gq_I ⟨k5.trans k6, ex, ek⟩)
set_option maxHeartbeats 2000000 in
theorem v_sum (h : CW w Q μ) (hr : ∀ k : Nat, k < 5 → RK (kC μ (29 + 2 * k))) (hm : 0 ≤ (μ.2.1 15 0).toInt ∧ (μ.2.1 15 0).toInt ≤ 9999) {n : Nat} (hn : n ≤ 100) : gwI (f_X11_sumBehind 1 (Int32.ofNat n) μ) (fun x m => kc μ m ∧ x = sm (fun k => cHold w Q (cGoN n (kC μ (29 + 2 * k)) (μ.2.1 15 0)) (μ.2.1 15 0 + Int32.ofNat n)) (μ.2.1 15 1).toInt.toNat) := by
  have l0 : (0 : Int32).toInt = 0 := rfl
  have l1 : (1 : Int32).toInt = 1 := rfl
  have n1 := h.1.n1
  refine gwI_of ?_
  unfold f_X11_sumBehind
  generalize hH : (fun k => cHold w Q (cGoN n (kC μ (29 + 2 * k)) (μ.2.1 15 0)) (μ.2.1 15 0 + Int32.ofNat n)) = H
  refine gw_loop (fun s => kc μ s.2.2 ∧ (0 ≤ s.2.1.toInt ∧ s.2.1.toInt ≤ (μ.2.1 15 1).toInt) ∧ s.1 = sm H s.2.1.toInt.toNat) (fun s => 100 - s.2.1.toInt) (fun s ⟨k2, p1, p2⟩ => ?_) 5000 ((0 : Int32), (0 : Int32), μ) ⟨kc.refl μ, ⟨by show 0 ≤ (0 : Int32).toInt; omega, by show (0 : Int32).toInt ≤ _; omega⟩, rfl⟩ (by show 100 - (0 : Int32).toInt < ((5000 : Nat) : Int); omega) (by show 0 ≤ 100 - (0 : Int32).toInt; omega)
  obtain ⟨i, hi, ei⟩ : ∃ i : Nat, i ≤ 5 ∧ s.2.1 = Int32.ofNat i := ⟨s.2.1.toInt.toNat, by omega, (gx_of p1.1).symm⟩
  have oi := ofn (k := i) (by omega)
  have hS : s.2.1.toInt = i := by rw [ei]; exact oi
  rw [show s.2.1.toInt.toNat = i by omega] at p2
  have hw := h.kc k2
  have hg := hw.1.1
  have r15 := k2.row (show (15 : Nat) ≠ 1 ∧ 15 ≠ 5 ∧ 15 ≠ 6 ∧ 15 ≠ 7 ∧ 15 ≠ 63 ∧ 15 ≠ 64 by decide)
  refine gw_gRa 15 (hg.c (r := 1) rfl) (hg.r (by decide)) ?_
  refine gw_gIw (hg.c (r := 15) rfl) ?_
  rw [r15]
  refine gw_le (fun g => ?_) (fun g => ?_)
  · refine gw_some (gs_inr (gq_I ⟨k2, ?_⟩))
    rw [p2, show (μ.2.1 15 1).toInt.toNat = i by omega]
  · refine gw_if (hg.t (r := 1) rfl) ?_
    rw [ei]
    refine gw_bI (v_behind hw (c := i) (by omega) (by rw [k2.K (by omega)]; exact hr i (by omega)) (by rw [r15]; exact hm) hn) (fun x m ⟨k6, ex, _⟩ => ?_)
    rw [k2.K (by omega), r15] at ex
    rw [← ei]
    have nx : (s.2.1 + (1 : Int32)).toInt = s.2.1.toInt + (1 : Int32).toInt := gx_add (by omega) (by omega)
    refine gw_some (gs_inl ⟨k2.trans k6, ⟨by show 0 ≤ (s.2.1 + (1 : Int32)).toInt; omega, by show (s.2.1 + (1 : Int32)).toInt ≤ _; omega⟩, ?_⟩ (by show 100 - (s.2.1 + (1 : Int32)).toInt < 100 - s.2.1.toInt; omega) (by show 0 ≤ 100 - (s.2.1 + (1 : Int32)).toInt; omega))
    show s.1 + x = sm H (s.2.1 + (1 : Int32)).toInt.toNat
    rw [show (s.2.1 + (1 : Int32)).toInt.toNat = i + 1 by omega, p2, ex, ← hH]
    rfl
set_option maxHeartbeats 2000000 in
theorem w_allHold (h : MW w sw Q μ) : gwI (f_X12_allHold 65 μ) (fun x m => km A0 μ m ∧ x = sm (fun k => cHold w Q (kR (μ.2.1 66) k) (μ.2.1 66 0)) (μ.2.1 66 26).toInt.toNat) := by
  have l0 : (0 : Int32).toInt = 0 := rfl
  have l1 : (1 : Int32).toInt = 1 := rfl
  have l26 : (26 : Int32).toInt = 26 := rfl
  have n1 := h.1.n26
  refine gwI_of ?_
  unfold f_X12_allHold
  generalize hH : (fun k => cHold w Q (kR (μ.2.1 66) k) (μ.2.1 66 0)) = H
  refine gw_loop (fun s => km A0 μ s.2.2 ∧ (0 ≤ s.2.1.toInt ∧ s.2.1.toInt ≤ (μ.2.1 66 26).toInt) ∧ s.1 = sm H s.2.1.toInt.toNat) (fun s => 100 - s.2.1.toInt) (fun s ⟨k2, p1, p2⟩ => ?_) 5000 ((0 : Int32), (0 : Int32), μ) ⟨km.refl A0 μ, ⟨by show 0 ≤ (0 : Int32).toInt; omega, by show (0 : Int32).toInt ≤ _; omega⟩, rfl⟩ (by show 100 - (0 : Int32).toInt < ((5000 : Nat) : Int); omega) (by show 0 ≤ 100 - (0 : Int32).toInt; omega)
  obtain ⟨i, hi, ei⟩ : ∃ i : Nat, i ≤ 5 ∧ s.2.1 = Int32.ofNat i := ⟨s.2.1.toInt.toNat, by omega, (gx_of p1.1).symm⟩
  have oi := ofn (k := i) (by omega)
  have hS : s.2.1.toInt = i := by rw [ei]; exact oi
  rw [show s.2.1.toInt.toNat = i by omega] at p2
  have hw := h.k0 k2
  have hg := hw.1.1
  have r66 := k2.row
  refine gw_gRa 66 (hg.c (r := 65) rfl) (hg.r (by decide)) ?_
  refine gw_aIw 26 (hg.t (r := 66) rfl) (hg.l (r := 66) rfl) l26 (by omega) ?_
  rw [r66]
  refine gw_le (fun g => ?_) (fun g => ?_)
  · refine gw_some (gs_inr (gq_I ⟨k2, ?_⟩))
    rw [p2, show (μ.2.1 66 26).toInt.toNat = i by omega]
  · refine gw_if (hg.t (r := 65) rfl) ?_
    rw [ei]
    refine gw_bI (w_holds hw (c := i) (by omega)) (fun x m ⟨k6, ex⟩ => ?_)
    rw [r66] at ex
    rw [← ei]
    have nx : (s.2.1 + (1 : Int32)).toInt = s.2.1.toInt + (1 : Int32).toInt := gx_add (by omega) (by omega)
    refine gw_some (gs_inl ⟨k2.trans k6, ⟨by show 0 ≤ (s.2.1 + (1 : Int32)).toInt; omega, by show (s.2.1 + (1 : Int32)).toInt ≤ _; omega⟩, ?_⟩ (by show 100 - (s.2.1 + (1 : Int32)).toInt < 100 - s.2.1.toInt; omega) (by show 0 ≤ 100 - (s.2.1 + (1 : Int32)).toInt; omega))
    show s.1 + x = sm H (s.2.1 + (1 : Int32)).toInt.toNat
    rw [show (s.2.1 + (1 : Int32)).toInt.toNat = i + 1 by omega, p2, ex, ← hH]
    rfl
/-! first -/
set_option maxHeartbeats 2000000 in
theorem v_first (h : CW w Q μ) : gwI (f_X11_first 1 μ) (fun x m => m = μ ∧ x = (ff (fun k => cHold w Q (kC μ (29 + 2 * k)) (μ.2.1 15 0)) (μ.2.1 15 1).toInt.toNat).1) := by
  have l0 : (0 : Int32).toInt = 0 := rfl
  have l1 : (1 : Int32).toInt = 1 := rfl
  have n1 := h.1.n1
  have hg := h.1.1
  refine gwI_of ?_
  unfold f_X11_first
  generalize hH : (fun k => cHold w Q (kC μ (29 + 2 * k)) (μ.2.1 15 0)) = H
  refine gw_loop (fun s => s.2.2.2 = μ ∧ (0 ≤ s.2.2.1.toInt ∧ s.2.2.1.toInt ≤ (μ.2.1 15 1).toInt) ∧ (s.1, s.2.1) = ff H s.2.2.1.toInt.toNat) (fun s => 100 - s.2.2.1.toInt) (fun s ⟨k2, p1, p2⟩ => ?_) 5000 ((-5 : Int32), (-1 : Int32), (0 : Int32), μ) ⟨rfl, ⟨by show 0 ≤ (0 : Int32).toInt; omega, by show (0 : Int32).toInt ≤ _; omega⟩, rfl⟩ (by show 100 - (0 : Int32).toInt < ((5000 : Nat) : Int); omega) (by show 0 ≤ 100 - (0 : Int32).toInt; omega)
  obtain ⟨i, hi, ei⟩ : ∃ i : Nat, i ≤ 5 ∧ s.2.2.1 = Int32.ofNat i := ⟨s.2.2.1.toInt.toNat, by omega, (gx_of p1.1).symm⟩
  have oi := ofn (k := i) (by omega)
  have hS : s.2.2.1.toInt = i := by rw [ei]; exact oi
  rw [show s.2.2.1.toInt.toNat = i by omega] at p2
  rw [k2]
  refine gw_gRa 15 (hg.c (r := 1) rfl) (hg.r (by decide)) ?_
  refine gw_gIw (hg.c (r := 15) rfl) ?_
  refine gw_le (fun g => ?_) (fun g => ?_)
  · refine gw_some (gs_inr (gq_I ⟨rfl, ?_⟩))
    rw [show (μ.2.1 15 1).toInt.toNat = i by omega, ← p2]
  · refine gw_if (hg.t (r := 1) rfl) ?_
    rw [ei]
    refine gw_bI (v_holdsNow h (c := i) (by omega)) (fun x m ⟨ex, em⟩ => ?_)
    have nx : (Int32.ofNat i + (1 : Int32)).toInt = (Int32.ofNat i).toInt + (1 : Int32).toInt := gx_add (by omega) (by omega)
    have hx : x = H i := by rw [ex, ← hH]
    have q2 : ff H i = (s.1, s.2.1) := p2.symm
    refine gw_j (fun q => q = ff H (i + 1)) (fun q eq => ?_) (fun j hj => ?_)
    · refine gw_some (gs_inl ⟨em, ⟨by show 0 ≤ (Int32.ofNat i + (1 : Int32)).toInt; omega, by show (Int32.ofNat i + (1 : Int32)).toInt ≤ _; omega⟩, ?_⟩ (by show 100 - (Int32.ofNat i + (1 : Int32)).toInt < 100 - s.2.2.1.toInt; omega) (by show 0 ≤ 100 - (Int32.ofNat i + (1 : Int32)).toInt; omega))
      show (q.1, q.2) = ff H (Int32.ofNat i + (1 : Int32)).toInt.toNat
      rw [show (Int32.ofNat i + (1 : Int32)).toInt.toNat = i + 1 by omega]
      exact eq
    · have st : ff H (i + 1) = if H i ≤ (ff H i).2 then ff H i else (Int32.ofNat i, H i) := rfl
      rw [q2, ← hx] at st
      refine gw_ite (fun g2 => hj _ ?_) (fun g2 => hj _ ?_)
      · rw [st, if_pos g2]
      · rw [st, if_neg g2]
set_option maxHeartbeats 2000000 in
theorem w_first (h : MW w sw Q μ) : gwI (f_X12_first 65 μ) (fun x m => km A0 μ m ∧ x = (ff (fun k => cHold w Q (kR (μ.2.1 66) k) (μ.2.1 66 0)) (μ.2.1 66 26).toInt.toNat).1) := by
  have l0 : (0 : Int32).toInt = 0 := rfl
  have l1 : (1 : Int32).toInt = 1 := rfl
  have l26 : (26 : Int32).toInt = 26 := rfl
  have n1 := h.1.n26
  refine gwI_of ?_
  unfold f_X12_first
  generalize hH : (fun k => cHold w Q (kR (μ.2.1 66) k) (μ.2.1 66 0)) = H
  refine gw_loop (fun s => km A0 μ s.2.2.2 ∧ (0 ≤ s.2.2.1.toInt ∧ s.2.2.1.toInt ≤ (μ.2.1 66 26).toInt) ∧ (s.1, s.2.1) = ff H s.2.2.1.toInt.toNat) (fun s => 100 - s.2.2.1.toInt) (fun s ⟨k2, p1, p2⟩ => ?_) 5000 ((-5 : Int32), (-1 : Int32), (0 : Int32), μ) ⟨km.refl A0 μ, ⟨by show 0 ≤ (0 : Int32).toInt; omega, by show (0 : Int32).toInt ≤ _; omega⟩, rfl⟩ (by show 100 - (0 : Int32).toInt < ((5000 : Nat) : Int); omega) (by show 0 ≤ 100 - (0 : Int32).toInt; omega)
  obtain ⟨i, hi, ei⟩ : ∃ i : Nat, i ≤ 5 ∧ s.2.2.1 = Int32.ofNat i := ⟨s.2.2.1.toInt.toNat, by omega, (gx_of p1.1).symm⟩
  have oi := ofn (k := i) (by omega)
  have hS : s.2.2.1.toInt = i := by rw [ei]; exact oi
  rw [show s.2.2.1.toInt.toNat = i by omega] at p2
  have hw := h.k0 k2
  have hg := hw.1.1
  have r66 := k2.row
  refine gw_gRa 66 (hg.c (r := 65) rfl) (hg.r (by decide)) ?_
  refine gw_aIw 26 (hg.t (r := 66) rfl) (hg.l (r := 66) rfl) l26 (by omega) ?_
  rw [r66]
  refine gw_le (fun g => ?_) (fun g => ?_)
  · refine gw_some (gs_inr (gq_I ⟨k2, ?_⟩))
    rw [show (μ.2.1 66 26).toInt.toNat = i by omega, ← p2]
  · refine gw_if (hg.t (r := 65) rfl) ?_
    rw [ei]
    refine gw_bI (w_holds hw (c := i) (by omega)) (fun x m ⟨k6, ex⟩ => ?_)
    rw [r66] at ex
    have nx : (Int32.ofNat i + (1 : Int32)).toInt = (Int32.ofNat i).toInt + (1 : Int32).toInt := gx_add (by omega) (by omega)
    have hx : x = H i := by rw [ex, ← hH]
    have q2 : ff H i = (s.1, s.2.1) := p2.symm
    have st : ff H (i + 1) = if H i ≤ (ff H i).2 then ff H i else (Int32.ofNat i, H i) := rfl
    rw [q2, ← hx] at st
    refine gw_j (fun a => a = (ff H (i + 1)).1) (fun a ea => ?_) (fun j hj => ?_)
    · refine gw_j (fun b => b = (ff H (i + 1)).2) (fun b eb => ?_) (fun j hj => ?_)
      · refine gw_some (gs_inl ⟨k2.trans k6, ⟨by show 0 ≤ (Int32.ofNat i + (1 : Int32)).toInt; omega, by show (Int32.ofNat i + (1 : Int32)).toInt ≤ _; omega⟩, ?_⟩ (by show 100 - (Int32.ofNat i + (1 : Int32)).toInt < 100 - s.2.2.1.toInt; omega) (by show 0 ≤ 100 - (Int32.ofNat i + (1 : Int32)).toInt; omega))
        show (a, b) = ff H (Int32.ofNat i + (1 : Int32)).toInt.toNat
        rw [show (Int32.ofNat i + (1 : Int32)).toInt.toNat = i + 1 by omega, ea, eb]
      · refine gw_ite (fun g2 => hj _ ?_) (fun g2 => hj _ ?_)
        · rw [st, if_pos g2]
        · rw [st, if_neg g2]
    · refine gw_ite (fun g2 => hj _ ?_) (fun g2 => hj _ ?_)
      · rw [st, if_pos g2]
      · rw [st, if_neg g2]
end
section
variable {μ : gm_M}
theorem N_first (h : REL μ) : PR (f_X11_first 1 μ) (f_X12_first 65) := by
  obtain ⟨w, sw, Q, ⟨hcw, hmw, -, -⟩, -⟩ := h.ex
  have n1 := h.ci.n1
  refine PR.u h _ (v_first hcw) (gwI_mono (w_first hmw) (fun y m2 ⟨a, b⟩ => ⟨qm.of0 a, b.trans ?_⟩))
  rw [← h.mn, ← h.sz]
  exact congrArg Prod.fst (ff_eq _ (fun k hk => by show cHold w Q (kR (μ.2.1 66) k) _ = cHold w Q (kC μ (29 + 2 * k)) _; rw [(h.kk (show k < 5 by omega)).1]))
end
end
section
/-! told, looked, on -/
def bt (f : Nat → Int32) : Nat → Int32
  | 0 => 0
  | k + 1 => bt f k ||| (if f k ≤ 0 then 0 else (1 : Int32) <<< (Int32.ofNat k &&& 31))
theorem bt_eq {H G : Nat → Int32} : ∀ n : Nat, (∀ k : Nat, k < n → H k = G k) → bt H n = bt G n
  | 0, _ => rfl
  | n + 1, h => by
    show (bt H n ||| (if H n ≤ 0 then 0 else (1 : Int32) <<< (Int32.ofNat n &&& 31))) = (bt G n ||| (if G n ≤ 0 then 0 else (1 : Int32) <<< (Int32.ofNat n &&& 31)))
    rw [bt_eq n (fun k hk => h k (by omega)), h n (by omega)]
theorem or0 (x : Int32) : x ||| 0 = x := by
  first
  | exact Int32.or_zero
  | simp
/-- the first that isn't so, of n -/
def gl (f : Nat → Bool) (n : Nat) : Nat → Int32
  | 0 => -5
  | k + 1 => if f (n - (k + 1)) = true then gl f n k else Int32.ofNat (n - (k + 1))
theorem gl_s {f : Nat → Bool} {n i : Nat} (h : i < n) : gl f n (n - i) = if f i = true then gl f n (n - (i + 1)) else Int32.ofNat i := by
  obtain ⟨k, rfl⟩ : ∃ k : Nat, n = i + (k + 1) := ⟨n - i - 1, by omega⟩
  rw [show i + (k + 1) - i = k + 1 by omega, show i + (k + 1) - (i + 1) = k by omega]
  show (if f (i + (k + 1) - (k + 1)) = true then _ else Int32.ofNat (i + (k + 1) - (k + 1))) = _
  rw [show i + (k + 1) - (k + 1) = i by omega]
section
variable {μ : gm_M}
theorem v_cell {r n : Nat} (ht : gm_tag μ r = 12) (t1 : gm_tag μ (r + 1) = 1) (l1 : gm_len μ (r + 1) = n) (hr : μ.2.2 r 1 = r + 1) {i j : Int32} (hi : 0 ≤ i.toInt ∧ i.toInt < (μ.2.1 r 2).toInt ∧ i.toInt < (μ.2.1 r 0).toInt) (hj : 0 ≤ j.toInt ∧ j.toInt < 3) (hn : 3 * i.toInt + 2 < n) (h9 : n ≤ 1000) : gwI (f_X7_cell r i j μ) (fun x m => m = μ ∧ x = μ.2.1 (r + 1) (3 * i.toInt.toNat + j.toInt.toNat)) := by
  have c12 : [12].contains (gm_tag μ r) = true := by rw [ht]; rfl
  have l0 : (0 : Int32).toInt = 0 := rfl
  have l3 : (3 : Int32).toInt = 3 := rfl
  refine gwI_of ?_
  unfold f_X7_cell
  refine gw_if ht ?_
  refine gw_bI (R := fun x m => x = 1 ∧ m = μ) (gwI_of ?_) (fun x m ⟨ex, em⟩ => ?_)
  · unfold f_X7_isKept
    refine gw_lt (fun g => by exfalso; omega) (fun g => ?_)
    refine gw_gIw c12 ?_
    refine gw_le (fun g => by exfalso; omega) (fun g => ?_)
    refine gw_gIw c12 ?_
    refine gw_le (fun g => by exfalso; omega) (fun g => ?_)
    refine gw_if (Or.inr rfl) ?_
    exact gw_some (gq_I ⟨rfl, rfl⟩)
  · subst ex
    subst em
    rw [if_neg (by decide)]
    refine gw_lt (fun g => by exfalso; omega) (fun g => ?_)
    refine gw_lt (fun g => ?_) (fun g => by exfalso; omega)
    refine gw_gRa (r + 1) c12 hr ?_
    have n1 : (i * (3 : Int32)).toInt = 3 * i.toInt := gx_mulr 3 rfl (by omega) (by omega)
    have n2 : (i * (3 : Int32) + j).toInt = (i * (3 : Int32)).toInt + j.toInt := gx_add (by omega) (by omega)
    refine gw_aIw (3 * i.toInt.toNat + j.toInt.toNat) t1 l1 (by omega) (by omega) ?_
    exact gw_some (gq_I ⟨rfl, rfl⟩)
set_option maxHeartbeats 2000000 in
theorem v_bits (h : CI μ) : gwI (f_X11_bubbleBits 1 μ) (fun x m => m = μ ∧ x = bt (fun k => kC μ (29 + 2 * k) 6) (μ.2.1 15 1).toInt.toNat) := by
  have l0 : (0 : Int32).toInt = 0 := rfl
  have l1 : (1 : Int32).toInt = 1 := rfl
  have n1 := h.n1
  have hg := h.1
  refine gwI_of ?_
  unfold f_X11_bubbleBits
  generalize hH : (fun k => kC μ (29 + 2 * k) 6) = H
  refine gw_loop (fun s => (0 ≤ s.2.toInt ∧ s.2.toInt ≤ (μ.2.1 15 1).toInt) ∧ s.1 = bt H s.2.toInt.toNat) (fun s => 100 - s.2.toInt) (fun s ⟨p1, p2⟩ => ?_) 5000 ((0 : Int32), (0 : Int32)) ⟨⟨by show 0 ≤ (0 : Int32).toInt; omega, by show (0 : Int32).toInt ≤ _; omega⟩, rfl⟩ (by show 100 - (0 : Int32).toInt < ((5000 : Nat) : Int); omega) (by show 0 ≤ 100 - (0 : Int32).toInt; omega)
  obtain ⟨i, hi, ei⟩ : ∃ i : Nat, i ≤ 5 ∧ s.2 = Int32.ofNat i := ⟨s.2.toInt.toNat, by omega, (gx_of p1.1).symm⟩
  have oi := ofn (k := i) (by omega)
  have hS : s.2.toInt = i := by rw [ei]; exact oi
  rw [show s.2.toInt.toNat = i by omega] at p2
  refine gw_gRa 15 (hg.c (r := 1) rfl) (hg.r (by decide)) ?_
  refine gw_gIw (hg.c (r := 15) rfl) ?_
  refine gw_le (fun g => ?_) (fun g => ?_)
  · refine gw_some (gs_inr (gq_I ⟨rfl, ?_⟩))
    rw [p2, show (μ.2.1 15 1).toInt.toNat = i by omega]
  · rw [ei]
    have hc : i < 5 := by omega
    refine gw_kid hg hc ?_
    refine gw_gIw (ict.c hg (ict_c hc)) ?_
    have nx : (Int32.ofNat i + (1 : Int32)).toInt = (Int32.ofNat i).toInt + (1 : Int32).toInt := gx_add (by omega) (by omega)
    have hx : μ.2.1 (29 + 2 * i) 6 = H i := by rw [← hH]; rfl
    have st : bt H (i + 1) = (bt H i ||| (if H i ≤ 0 then 0 else (1 : Int32) <<< (Int32.ofNat i &&& 31))) := rfl
    rw [← p2, ← hx] at st
    refine gw_j (fun q => q = bt H (i + 1)) (fun q eq => ?_) (fun j hj => ?_)
    · refine gw_some (gs_inl ⟨⟨by show 0 ≤ (Int32.ofNat i + (1 : Int32)).toInt; omega, by show (Int32.ofNat i + (1 : Int32)).toInt ≤ _; omega⟩, ?_⟩ (by show 100 - (Int32.ofNat i + (1 : Int32)).toInt < 100 - s.2.toInt; omega) (by show 0 ≤ 100 - (Int32.ofNat i + (1 : Int32)).toInt; omega))
      show q = bt H (Int32.ofNat i + (1 : Int32)).toInt.toNat
      rw [show (Int32.ofNat i + (1 : Int32)).toInt.toNat = i + 1 by omega]
      exact eq
    · refine gw_ite (fun g2 => hj _ ?_) (fun g2 => hj _ ?_)
      · rw [st, if_pos g2, or0]
      · rw [st, if_neg g2]
set_option maxHeartbeats 2000000 in
theorem w_bits (h : MI μ) : gwI (f_X12_bubbles 65 μ) (fun x m => m = μ ∧ x = bt (fun k => kR (μ.2.1 66) k 6) (μ.2.1 66 26).toInt.toNat) := by
  have l0 : (0 : Int32).toInt = 0 := rfl
  have l1 : (1 : Int32).toInt = 1 := rfl
  have l26 : (26 : Int32).toInt = 26 := rfl
  have n1 := h.n26
  have hg := h.1
  refine gwI_of ?_
  unfold f_X12_bubbles
  generalize hH : (fun k => kR (μ.2.1 66) k 6) = H
  refine gw_loop (fun s => (0 ≤ s.2.toInt ∧ s.2.toInt ≤ (μ.2.1 66 26).toInt) ∧ s.1 = bt H s.2.toInt.toNat) (fun s => 100 - s.2.toInt) (fun s ⟨p1, p2⟩ => ?_) 5000 ((0 : Int32), (0 : Int32)) ⟨⟨by show 0 ≤ (0 : Int32).toInt; omega, by show (0 : Int32).toInt ≤ _; omega⟩, rfl⟩ (by show 100 - (0 : Int32).toInt < ((5000 : Nat) : Int); omega) (by show 0 ≤ 100 - (0 : Int32).toInt; omega)
  obtain ⟨i, hi, ei⟩ : ∃ i : Nat, i ≤ 5 ∧ s.2 = Int32.ofNat i := ⟨s.2.toInt.toNat, by omega, (gx_of p1.1).symm⟩
  have oi := ofn (k := i) (by omega)
  have hS : s.2.toInt = i := by rw [ei]; exact oi
  rw [show s.2.toInt.toNat = i by omega] at p2
  refine gw_gRa 66 (hg.c (r := 65) rfl) (hg.r (by decide)) ?_
  refine gw_aIw 26 (hg.t (r := 66) rfl) (hg.l (r := 66) rfl) l26 (by omega) ?_
  refine gw_le (fun g => ?_) (fun g => ?_)
  · refine gw_some (gs_inr (gq_I ⟨rfl, ?_⟩))
    rw [p2, show (μ.2.1 66 26).toInt.toNat = i by omega]
  · rw [ei]
    have hc : i < 5 := by omega
    refine gw_rd h hc 16 rfl (by decide) ?_
    have nx : (Int32.ofNat i + (1 : Int32)).toInt = (Int32.ofNat i).toInt + (1 : Int32).toInt := gx_add (by omega) (by omega)
    have hx : μ.2.1 66 (16 + i) = H i := by rw [← hH]; rfl
    have st : bt H (i + 1) = (bt H i ||| (if H i ≤ 0 then 0 else (1 : Int32) <<< (Int32.ofNat i &&& 31))) := rfl
    rw [← p2, ← hx] at st
    refine gw_j (fun q => s.1 ||| q = bt H (i + 1)) (fun q eq => ?_) (fun j hj => ?_)
    · refine gw_some (gs_inl ⟨⟨by show 0 ≤ (Int32.ofNat i + (1 : Int32)).toInt; omega, by show (Int32.ofNat i + (1 : Int32)).toInt ≤ _; omega⟩, ?_⟩ (by show 100 - (Int32.ofNat i + (1 : Int32)).toInt < 100 - s.2.toInt; omega) (by show 0 ≤ 100 - (Int32.ofNat i + (1 : Int32)).toInt; omega))
      show s.1 ||| q = bt H (Int32.ofNat i + (1 : Int32)).toInt.toNat
      rw [show (Int32.ofNat i + (1 : Int32)).toInt.toNat = i + 1 by omega]
      exact eq
    · refine gw_ite (fun g2 => hj _ ?_) (fun g2 => hj _ ?_)
      · rw [st, if_pos g2]
      · rw [st, if_neg g2]
set_option maxHeartbeats 4000000 in
theorem N_told (h : REL μ) {a : Int32} : PR (f_X11_told 1 a μ) (f_X12_told 65 a) := by
  have hg := h.ci.1
  obtain ⟨w, sw, Q, ⟨hcw, hmw, ew, esw⟩, -⟩ := h.ex
  have n1 := h.ci.n1
  have v2 := h.vs.2.1
  have mn := h.mn
  have l0 : (0 : Int32).toInt = 0 := rfl
  refine gwI_of ?_
  unfold f_X11_told
  refine gw_ite (fun e => ?_) (fun e0 => ?_)
  · subst e
    refine gw_gRa 15 (hg.c (r := 1) rfl) (hg.r (by decide)) ?_
    refine gw_gIw (hg.c (r := 15) rfl) ?_
    refine leaf h (gwI_of ?_)
    unfold f_X12_told
    rw [if_pos rfl]
    refine gw_gRa 66 (hg.c (r := 65) rfl) (hg.r (by decide)) ?_
    refine gw_aIw 0 (hg.t (r := 66) rfl) (hg.l (r := 66) rfl) l0 (by omega) ?_
    exact gw_some (gq_I ⟨qm.refl μ, mn.symm⟩)
  refine gw_ite (fun e => ?_) (fun e1 => ?_)
  · subst e
    refine gw_gRa 15 (hg.c (r := 1) rfl) (hg.r (by decide)) ?_
    refine gw_gR (hg.c (r := 15) rfl) (fun q eq => ?_)
    subst eq
    refine gw_gIw hcw.aw.tc ?_
    rw [ew]
    refine leaf h (gwI_of ?_)
    unfold f_X12_told
    rw [if_neg (by decide), if_pos rfl]
    refine gw_if h.1.t65 ?_
    refine gw_bI (w_wind hmw) (fun x m ⟨em, ex⟩ => ?_)
    subst em
    exact gw_some (gq_I ⟨qm.refl _, ex⟩)
  refine gw_ite (fun e => ?_) (fun e2 => ?_)
  · subst e
    refine gw_gRa 15 (hg.c (r := 1) rfl) (hg.r (by decide)) ?_
    refine gw_gR (hg.c (r := 15) rfl) (fun q eq => ?_)
    subst eq
    refine gw_gIw hcw.aw.tc ?_
    rw [esw]
    refine leaf h (gwI_of ?_)
    unfold f_X12_told
    rw [if_neg (by decide), if_neg (by decide), if_pos rfl]
    refine gw_if h.1.t65 ?_
    refine gw_bI (w_sweet hmw) (fun x m ⟨em, ex⟩ => ?_)
    subst em
    exact gw_some (gq_I ⟨qm.refl _, ex⟩)
  refine gw_ite (fun e => ?_) (fun e3 => ?_)
  · subst e
    refine gw_if (hg.t (r := 1) rfl) ?_
    refine gw_bI (v_sum hcw (fun k hk => h.row hk) (by rw [mn]; exact v2) (n := 0) (by omega)) (fun x m ⟨k, ex⟩ => ?_)
    have r66 := k.row (show (66 : Nat) ≠ 1 ∧ 66 ≠ 5 ∧ 66 ≠ 6 ∧ 66 ≠ 7 ∧ 66 ≠ 63 ∧ 66 ≠ 64 by decide)
    have hm := h.kc k
    refine leaf hm (gwI_of ?_)
    unfold f_X12_told
    rw [if_neg (by decide), if_neg (by decide), if_neg (by decide), if_pos rfl]
    refine gw_if hm.1.t65 ?_
    refine gw_bI (w_allHold (show MW w sw Q m from ⟨hm.mi, by rw [r66]; exact hmw.2⟩)) (fun y m2 ⟨k2, ey⟩ => ?_)
    refine gw_some (gq_I ⟨qm.of0 k2, ?_⟩)
    rw [r66, ← h.sz, ← mn] at ey
    rw [ey, ex]
    refine sm_eq _ (fun j hj => ?_)
    show cHold w Q (kR (μ.2.1 66) j) _ = cHold w Q (cGoN 0 (kC μ (29 + 2 * j)) _) (_ + Int32.ofNat 0)
    rw [add0, ← (h.kk (show j < 5 by omega)).1]
    rfl
  refine gw_ite (fun e => ?_) (fun e4 => ?_)
  · subst e
    refine gw_if (hg.t (r := 1) rfl) ?_
    refine gw_bI (v_bits h.ci) (fun x m ⟨em, ex⟩ => ?_)
    subst em
    refine leaf h (gwI_of ?_)
    unfold f_X12_told
    rw [if_neg (by decide), if_neg (by decide), if_neg (by decide), if_neg (by decide), if_pos rfl]
    refine gw_if h.1.t65 ?_
    refine gw_bI (w_bits h.mi) (fun y m2 ⟨em, ey⟩ => ?_)
    subst em
    refine gw_some (gq_I ⟨qm.refl _, ?_⟩)
    rw [ey, ex, ← h.sz]
    refine bt_eq _ (fun j hj => ?_)
    show kR (m2.2.1 66) j 6 = kC m2 (29 + 2 * j) 6
    rw [(h.kk (show j < 5 by omega)).1]
  · refine leaf h (gwI_of ?_)
    unfold f_X12_told
    rw [if_neg e0, if_neg e1, if_neg e2, if_neg e3, if_neg e4]
    exact gw_some (gq_I ⟨qm.refl μ, rfl⟩)
set_option maxHeartbeats 4000000 in
theorem N_looked (h : REL μ) : PR (f_X11_looked 1 μ) (f_X12_looked 65) := by
  have hc := h.ci
  have hg := hc.1
  have l0 : (0 : Int32).toInt = 0 := rfl
  have l1 : (1 : Int32).toInt = 1 := rfl
  have l30 : (30 : Int32).toInt = 30 := rfl
  have l94 : (94 : Int32).toInt = 94 := rfl
  have l102 : (102 : Int32).toInt = 102 := rfl
  have l16 : (16 : Int32).toInt = 16 := rfl
  have n27 := hc.n27
  have e27 := hc.l27
  have E30 : μ.2.1 27 2 = μ.2.1 66 30 := h.1.2.2.2.1.1.2.2.2.2
  obtain ⟨n, hn⟩ : ∃ n : Nat, (μ.2.1 27 2).toInt = n := ⟨(μ.2.1 27 2).toInt.toNat, by omega⟩
  have hn2 : (μ.2.1 66 30).toInt = n := by rw [← E30]; exact hn
  have book : ∀ i : Nat, i < n → (μ.2.1 28 (3 * i) = μ.2.1 66 (94 + i) ∧ μ.2.1 28 (3 * i + 1) = μ.2.1 66 (102 + i)) ∧ isC μ (μ.2.1 66 (94 + i)) := fun i hi => by
    obtain ⟨b1, b2, b3⟩ := h.vs.2.2.2.1.2 i (by omega) (by omega)
    have b4 := h.mi.2.2.2.2.2.2.2.2.2.2.1 i (by omega)
    exact ⟨⟨b1, b2⟩, b4.1, by rw [h.sz]; exact b3, by omega⟩
  obtain ⟨f, hf⟩ : ∃ f : Nat → Bool, f = fun i => decide (μ.2.1 66 (16 + (μ.2.1 66 (94 + i)).toInt.toNat) = μ.2.1 66 (102 + i)) := ⟨_, rfl⟩
  refine PR.u h (gl f n n) (gwI_of ?_) (gwI_of ?_)
  · unfold f_X11_looked
    refine gw_loop (fun s => s.2 = μ ∧ (0 ≤ s.1.toInt ∧ s.1.toInt ≤ (n : Int)) ∧ gl f n n = gl f n (n - s.1.toInt.toNat)) (fun s => 100 - s.1.toInt) (fun s ⟨k2, p1, p2⟩ => ?_) 5000 ((0 : Int32), μ) ⟨rfl, ⟨by show 0 ≤ (0 : Int32).toInt; omega, by show (0 : Int32).toInt ≤ (n : Int); omega⟩, rfl⟩ (by show 100 - (0 : Int32).toInt < ((5000 : Nat) : Int); omega) (by show 0 ≤ 100 - (0 : Int32).toInt; omega)
    obtain ⟨i, hi, ei⟩ : ∃ i : Nat, i ≤ n ∧ s.1 = Int32.ofNat i := ⟨s.1.toInt.toNat, by omega, (gx_of p1.1).symm⟩
    have oi := ofn (k := i) (by omega)
    have hS : s.1.toInt = i := by rw [ei]; exact oi
    rw [show s.1.toInt.toNat = i by omega] at p2
    rw [k2]
    refine gw_gRa 15 (hg.c (r := 1) rfl) (hg.r (by decide)) ?_
    refine gw_gRa 27 (hg.c (r := 15) rfl) (hg.r (by decide)) ?_
    refine gw_gIw (hg.c (r := 27) rfl) ?_
    refine gw_le (fun g => ?_) (fun g => ?_)
    · refine gw_some (gs_inr (gq_I ⟨rfl, ?_⟩))
      rw [p2, show n - i = 0 by omega]
      rfl
    · obtain ⟨⟨b1, b2⟩, b3⟩ := book i (by omega)
      rw [gl_s (show i < n by omega)] at p2
      rw [ei]
      refine gw_gRa 15 (hg.c (r := 1) rfl) (hg.r (by decide)) ?_
      refine gw_gRa 27 (hg.c (r := 15) rfl) (hg.r (by decide)) ?_
      refine gw_if (hg.t (r := 27) rfl) ?_
      refine gw_bI (v_cell (hg.t (r := 27) rfl) (hg.t (r := 28) rfl) (hg.l (r := 28) rfl) (hg.r (by decide)) (i := Int32.ofNat i) (j := 0) ⟨by omega, by omega, by omega⟩ ⟨by omega, by omega⟩ (by omega) (by omega)) (fun x m ⟨em, ex⟩ => ?_)
      subst em
      rw [show (Int32.ofNat i).toInt.toNat = i by omega] at ex
      replace ex : x = m.2.1 28 (3 * i) := ex
      rw [b1] at ex
      refine gw_if (hg.t (r := 1) rfl) ?_
      refine gw_nob h (fun hC => ?_) (fun nC => absurd (by rw [ex]; exact b3) nC)
      refine gw_j (fun q => q = m ∧ gl f n n = gl f n (n - (i + 1))) (fun q ⟨eq, gq⟩ => ?_) (fun jj hj => ?_)
      · have nx : (Int32.ofNat i + (1 : Int32)).toInt = (Int32.ofNat i).toInt + (1 : Int32).toInt := gx_add (by omega) (by omega)
        refine gw_some (gs_inl ⟨eq, ⟨by show 0 ≤ (Int32.ofNat i + (1 : Int32)).toInt; omega, by show (Int32.ofNat i + (1 : Int32)).toInt ≤ (n : Int); omega⟩, ?_⟩ (by show 100 - (Int32.ofNat i + (1 : Int32)).toInt < 100 - s.1.toInt; omega) (by show 0 ≤ 100 - (Int32.ofNat i + (1 : Int32)).toInt; omega))
        show gl f n n = gl f n (n - (Int32.ofNat i + (1 : Int32)).toInt.toNat)
        rw [show (Int32.ofNat i + (1 : Int32)).toInt.toNat = i + 1 by omega]
        exact gq
      · rw [if_neg (by decide)]
        obtain ⟨c, hcc, ec, oc⟩ := hC.at
        have hfi : f i = decide (m.2.1 66 (16 + c) = m.2.1 66 (102 + i)) := by
          rw [hf]
          show decide (m.2.1 66 (16 + (m.2.1 66 (94 + i)).toInt.toNat) = _) = _
          rw [← ex, ec, oc, Int.toNat_natCast]
        rw [ec]
        refine gw_kid hg hcc ?_
        refine gw_gIw (ict.c hg (ict_c hcc)) ?_
        refine gw_gRa 15 (hg.c (r := 1) rfl) (hg.r (by decide)) ?_
        refine gw_gRa 27 (hg.c (r := 15) rfl) (hg.r (by decide)) ?_
        refine gw_if (hg.t (r := 27) rfl) ?_
        refine gw_bI (v_cell (hg.t (r := 27) rfl) (hg.t (r := 28) rfl) (hg.l (r := 28) rfl) (hg.r (by decide)) (i := Int32.ofNat i) (j := 1) ⟨by omega, by omega, by omega⟩ ⟨by omega, by omega⟩ (by omega) (by omega)) (fun y m' ⟨em, ey⟩ => ?_)
        subst em
        rw [show (Int32.ofNat i).toInt.toNat = i by omega] at ey
        replace ey : y = m'.2.1 28 (3 * i + 1) := ey
        rw [b2] at ey
        have e6 : m'.2.1 (29 + 2 * c) 6 = m'.2.1 66 (16 + c) := (show kC m' (29 + 2 * c) 6 = kR (m'.2.1 66) c 6 by rw [(h.kk hcc).1])
        rw [e6, ey]
        refine gw_ite (fun g2 => hj _ ⟨rfl, ?_⟩) (fun g2 => ?_)
        · rw [p2, if_pos (by rw [hfi]; exact decide_eq_true g2)]
        · refine gw_some (gs_inr (gq_I ⟨rfl, ?_⟩))
          rw [p2, if_neg (by rw [hfi]; exact fun z => g2 (of_decide_eq_true z))]
  · unfold f_X12_looked
    refine gw_loop (fun s => (0 ≤ s.toInt ∧ s.toInt ≤ (n : Int)) ∧ gl f n n = gl f n (n - s.toInt.toNat)) (fun s => 100 - s.toInt) (fun s ⟨p1, p2⟩ => ?_) 5000 (0 : Int32) ⟨⟨by show 0 ≤ (0 : Int32).toInt; omega, by show (0 : Int32).toInt ≤ (n : Int); omega⟩, rfl⟩ (by show 100 - (0 : Int32).toInt < ((5000 : Nat) : Int); omega) (by show 0 ≤ 100 - (0 : Int32).toInt; omega)
    obtain ⟨i, hi, ei⟩ : ∃ i : Nat, i ≤ n ∧ s = Int32.ofNat i := ⟨s.toInt.toNat, by omega, (gx_of p1.1).symm⟩
    have oi := ofn (k := i) (by omega)
    have hS : s.toInt = i := by rw [ei]; exact oi
    rw [show s.toInt.toNat = i by omega] at p2
    refine gw_gRa 66 (hg.c (r := 65) rfl) (hg.r (by decide)) ?_
    refine gw_aIw 30 (hg.t (r := 66) rfl) (hg.l (r := 66) rfl) l30 (by omega) ?_
    refine gw_le (fun g => ?_) (fun g => ?_)
    · refine gw_some (gs_inr (gq_I ⟨qm.refl μ, ?_⟩))
      rw [p2, show n - i = 0 by omega]
      rfl
    · obtain ⟨-, b3⟩ := book i (by omega)
      obtain ⟨c, hcc, ec, oc⟩ := b3.at
      rw [gl_s (show i < n by omega)] at p2
      have hfi : f i = decide (μ.2.1 66 (16 + c) = μ.2.1 66 (102 + i)) := by
        rw [hf]
        show decide (μ.2.1 66 (16 + (μ.2.1 66 (94 + i)).toInt.toNat) = _) = _
        rw [ec, oc, Int.toNat_natCast]
      have a1 : ((94 : Int32) + s).toInt = (94 : Int32).toInt + s.toInt := gx_add (by omega) (by omega)
      have a2 : ((102 : Int32) + s).toInt = (102 : Int32).toInt + s.toInt := gx_add (by omega) (by omega)
      refine gw_gRa 66 (hg.c (r := 65) rfl) (hg.r (by decide)) ?_
      refine gw_gRa 66 (hg.c (r := 65) rfl) (hg.r (by decide)) ?_
      refine gw_aIw (94 + i) (hg.t (r := 66) rfl) (hg.l (r := 66) rfl) (by omega) (by omega) ?_
      rw [ec]
      refine gw_aIw (16 + c) (hg.t (r := 66) rfl) (hg.l (r := 66) rfl) (ixc hcc 16 16 rfl (by decide)) (by omega) ?_
      refine gw_gRa 66 (hg.c (r := 65) rfl) (hg.r (by decide)) ?_
      refine gw_aIw (102 + i) (hg.t (r := 66) rfl) (hg.l (r := 66) rfl) (by omega) (by omega) ?_
      have nx : (s + (1 : Int32)).toInt = s.toInt + (1 : Int32).toInt := gx_add (by omega) (by omega)
      refine gw_ite (fun g2 => ?_) (fun g2 => ?_)
      · refine gw_some (gs_inl ⟨⟨by show 0 ≤ (s + (1 : Int32)).toInt; omega, by show (s + (1 : Int32)).toInt ≤ (n : Int); omega⟩, ?_⟩ (by show 100 - (s + (1 : Int32)).toInt < 100 - s.toInt; omega) (by show 0 ≤ 100 - (s + (1 : Int32)).toInt; omega))
        show gl f n n = gl f n (n - (s + (1 : Int32)).toInt.toNat)
        rw [show (s + (1 : Int32)).toInt.toNat = i + 1 by omega, p2, if_pos (by rw [hfi]; exact decide_eq_true g2)]
      · refine gw_some (gs_inr (gq_I ⟨qm.refl μ, ?_⟩))
        rw [p2, if_neg (by rw [hfi]; exact fun z => g2 (of_decide_eq_true z)), ei]
end
end
section
/-! on: all go on, and back -/
section
variable {μ : gm_M}
theorem kp.mw {w sw : Int32} {Q : List (List Int32 × Int32)} {m : gm_M} (g : kp μ m) (h : MW w sw Q μ) : MW w sw Q m := by
  have r66 : m.2.1 66 = μ.2.1 66 := g.2.2.1 66 (by decide)
  exact ⟨⟨h.1.1.same g.1 g.2.1, by rw [r66]; exact h.1.2⟩, by rw [r66]; exact h.2⟩
theorem gw_kept {β : Type} {Z : β → Prop} {w sw : Int32} {Q : List (List Int32 × Int32)} (h : MW w sw Q μ) (hm : 0 ≤ (μ.2.1 66 0).toInt ∧ (μ.2.1 66 0).toInt ≤ 9999) {n : Nat} (hn : n ≤ 100) {f : gm_M → Option β} (k : ∀ m5 m7, kp μ m5 → km A1 m5 m7 → MW w sw Q m7 → (∀ j : Nat, j < 5 → kR (m7.2.1 66) j = gN (μ.2.1 66 26).toInt.toNat n (μ.2.1 66 0) j (kR (μ.2.1 66) j)) → m7.2.1 66 0 = μ.2.1 66 0 + Int32.ofNat n → m7.2.1 66 26 = μ.2.1 66 26 → gw (f m7) Z) : gw (if gm_tag μ 65 = 17 then gm_bV (f_X12_keeps 65 μ) (fun m5 => if gm_tag m5 65 = 17 then gm_bV (f_X12_goesOn 65 (Int32.ofNat n) m5) f else none) else none) Z := by
  have on := ofn (k := n) (by omega)
  refine gw_if (h.1.1.t (r := 65) rfl) ?_
  refine gw_bV (s_X12_keeps h.1) (fun m5 g5 => ?_)
  have h5 := g5.mw h
  have r66 : m5.2.1 66 = μ.2.1 66 := g5.2.2.1 66 (by decide)
  refine gw_if (h5.1.1.t (r := 65) rfl) ?_
  refine gw_bV (w_goesOn h5 (by rw [r66]; exact hm) (a := Int32.ofNat n) (by omega)) (fun m7 ⟨⟨k7, f7⟩, r7⟩ => ?_)
  rw [r66, on, Int.toNat_natCast] at f7 r7
  exact k m5 m7 g5 k7 (h5.k1 k7) r7 f7 (by rw [k7.2.2.2.1 26 (by unfold A1; omega), r66])
theorem gw_back {β : Type} {Z : β → Prop} {m5 m : gm_M} (g5 : kp μ m5) (k : km A1 m5 m) (hM : MI m) {f : gm_M → Option β} (kk : ∀ m', qm μ m' → gw (f m') Z) : gw (if gm_tag m 65 = 17 then gm_bV (f_X12_goesBack 65 m) f else none) Z := by
  refine gw_if (hM.1.t (r := 65) rfl) ?_
  refine gw_bV (s_X12_goesBack hM) (fun m' ⟨k', r'⟩ => ?_)
  exact kk m' (qm.kp g5 (k.trans k') r')
theorem isC_sub {b d : Int32} {D : Nat} (hd : d.toInt = D) (h1 : D ≤ 100) (h : isC μ (b - d)) : ∃ c : Nat, c < 5 ∧ b = Int32.ofNat (D + c) ∧ b - d = Int32.ofNat c ∧ isC μ (Int32.ofNat c) := by
  obtain ⟨c, hc, ec, oc⟩ := h.at
  have e : (b - d).toInt = c := by rw [ec]; exact oc
  have o := ofn (k := D + c) (by omega)
  refine ⟨c, hc, ?_, ec, by rw [← ec]; exact h⟩
  apply Int32.toInt_inj.mp
  have b1 := gx_lo b
  have b2 := gx_hi b
  rcases gx_subw b d with q | q | q <;> omega
theorem ofn_sub {d : Int32} {D c : Nat} (hd : d.toInt = D) (h1 : D ≤ 100) (hc : c < 100) : Int32.ofNat (D + c) - d = Int32.ofNat c := by
  apply Int32.toInt_inj.mp
  have o := ofn (k := D + c) (by omega)
  have o2 := ofn (k := c) (by omega)
  rw [gx_sub (by omega) (by omega)]
  omega
theorem isC.cnt {c : Nat} (h : isC μ (Int32.ofNat c)) (hc : c < 5) : (c : Int) < (μ.2.1 15 1).toInt := by
  have o := ofn (k := c) (by omega)
  have := h.2.1
  omega
theorem gN_p {cnt i : Nat} {mi : Int32} {k : Nat} {K : Nat → Int32} (h : k < cnt) : gN cnt i mi k K = cGoN i K mi := if_pos h
set_option maxHeartbeats 8000000 in
theorem N_on (h : REL μ) {a b : Int32} : PR (f_X11_on 1 a b μ) (f_X12_on 65 a b) := by
  have hg := h.ci.1
  obtain ⟨w, sw, Q, ⟨hcw, hmw, -, -⟩, -⟩ := h.ex
  have v2 := h.vs.2.1
  have mn := h.mn
  have l0 : (0 : Int32).toInt = 0 := rfl
  have l10 : (10 : Int32).toInt = (10 : Nat) := rfl
  have l20 : (20 : Int32).toInt = (20 : Nat) := rfl
  have l60 : (60 : Int32).toInt = 60 := rfl
  have l6 : (6 : Int32).toInt = 6 := rfl
  have r66k : ∀ {m : gm_M}, kc μ m → m.2.1 66 = μ.2.1 66 := fun k => k.row (show (66 : Nat) ≠ 1 ∧ 66 ≠ 5 ∧ 66 ≠ 6 ∧ 66 ≠ 7 ∧ 66 ≠ 63 ∧ 66 ≠ 64 by decide)
  have hmk : ∀ {m : gm_M}, REL m → kc μ m → MW w sw Q m := fun hm k => ⟨hm.mi, by rw [r66k k]; exact hmw.2⟩
  have n1 := h.ci.n1
  have cnt : ∀ {c : Nat}, isC μ (Int32.ofNat c) → c < 5 → c < (μ.2.1 66 26).toInt.toNat := fun q hc => by
    have := q.cnt hc
    rw [h.sz] at this
    omega
  have out : ¬ ((0 : Int32).toInt ≤ a.toInt ∧ a.toInt ≤ (60 : Int32).toInt) ∨ ∃ n : Nat, n ≤ 60 ∧ a = Int32.ofNat n := by
    by_cases hn : (0 : Int32).toInt ≤ a.toInt ∧ a.toInt ≤ (60 : Int32).toInt
    · exact Or.inr ⟨a.toInt.toNat, by omega, (gx_of (by omega)).symm⟩
    · exact Or.inl hn
  by_cases b0 : b = 0
  · subst b0
    rcases out with hn | ⟨n, n60, rfl⟩
    · refine PR.u h (-2) (gwI_of ?_) (gwI_of ?_)
      · unfold f_X11_on
        refine gw_ji ?_
        refine gw_if (show (0 : Int32) < 20 by decide) ?_
        refine gw_ji ?_
        refine gw_if rfl ?_
        refine gw_out (fun q => absurd q hn) (fun _ => ?_)
        refine gw_ite (fun q => absurd q (by decide)) (fun _ => ?_)
        exact gw_some (gq_I ⟨rfl, rfl⟩)
      · unfold f_X12_on
        refine gw_ji ?_
        refine gw_if rfl ?_
        refine gw_inn (fun q => absurd q hn) (fun _ => ?_)
        refine gw_ite (fun q => absurd rfl q) (fun _ => ?_)
        exact gw_some (gq_I ⟨qm.refl μ, rfl⟩)
    · have on := ofn (k := n) (by omega)
      have hn : (0 : Int32).toInt ≤ (Int32.ofNat n).toInt ∧ (Int32.ofNat n).toInt ≤ (60 : Int32).toInt := by omega
      refine PR.v h (sm (fun k => cHold w Q (cGoN n (kC μ (29 + 2 * k)) (μ.2.1 15 0)) (μ.2.1 15 0 + Int32.ofNat n)) (μ.2.1 15 1).toInt.toNat) (gwI_of ?_) (fun m hm k => gwI_of ?_)
      · unfold f_X11_on
        refine gw_ji ?_
        refine gw_if (show (0 : Int32) < 20 by decide) ?_
        refine gw_ji ?_
        refine gw_if rfl ?_
        refine gw_out (fun _ => ?_) (fun q => absurd hn q)
        refine gw_if rfl ?_
        refine gw_ite (fun q => absurd rfl q) (fun _ => ?_)
        refine gw_if (hg.t (r := 1) rfl) ?_
        refine gw_bI (v_sum hcw (fun k hk => h.row hk) (by rw [mn]; exact v2) (n := n) (by omega)) (fun x m ⟨k, ex⟩ => ?_)
        exact gw_some (gq_I ⟨k, ex⟩)
      · have hw := hmk hm k
        unfold f_X12_on
        refine gw_ji ?_
        refine gw_if rfl ?_
        refine gw_inn (fun _ => ?_) (fun q => absurd hn q)
        refine gw_if (by decide) ?_
        refine gw_kept hw (by rw [r66k k]; exact v2) (n := n) (by omega) (fun m5 m7 g5 k7 h7 kr f7 c7 => ?_)
        rw [r66k k] at kr f7 c7
        refine gw_ji ?_
        refine gw_ite (fun q => absurd rfl q) (fun _ => ?_)
        refine gw_if (h7.1.1.t (r := 65) rfl) ?_
        refine gw_bI (w_allHold h7) (fun y m17 ⟨k17, ey⟩ => ?_)
        refine gw_back (m := m17) g5 (k7.trans k17.w01) (h7.k0 k17).1 (fun m' q => ?_)
        refine gw_some (gq_I ⟨q, ?_⟩)
        show y = _
        rw [ey, c7, f7, ← h.sz, ← mn]
        refine sm_eq _ (fun j hj => ?_)
        show cHold w Q (kR (m7.2.1 66) j) _ = cHold w Q (cGoN n (kC μ (29 + 2 * j)) _) _
        rw [kr j (by omega), gN_p (by rw [← h.sz]; exact hj), (h.kk (show j < 5 by omega)).1, mn]
  · by_cases h10 : ∃ c : Nat, c < 5 ∧ b = Int32.ofNat (10 + c) ∧ b - 10 = Int32.ofNat c ∧ isC μ (Int32.ofNat c)
    · obtain ⟨c, hc, eb, es, hC⟩ := h10
      have bt : b.toInt = 10 + c := by rw [eb, ofn (k := 10 + c) (by omega)]; omega
      rcases out with hn | ⟨n, n60, rfl⟩
      · refine PR.u h (-2) (gwI_of ?_) (gwI_of ?_)
        · unfold f_X11_on
          refine gw_ji ?_
          refine gw_lt (fun _ => ?_) (fun q => by exfalso; omega)
          refine gw_ji ?_
          refine gw_ite (fun q => absurd q b0) (fun _ => ?_)
          refine gw_if (hg.t (r := 1) rfl) ?_
          rw [es]
          refine gw_nob h (fun _ => ?_) (fun q => absurd hC q)
          refine gw_if rfl ?_
          refine gw_out (fun q => absurd q hn) (fun _ => ?_)
          refine gw_ite (fun q => absurd q (by decide)) (fun _ => ?_)
          exact gw_some (gq_I ⟨rfl, rfl⟩)
        · unfold f_X12_on
          refine gw_ji ?_
          refine gw_ite (fun q => absurd q b0) (fun _ => ?_)
          refine gw_if h.1.t65 ?_
          rw [es]
          refine gw_isc h.mi h.sz.symm (fun _ => ?_) (fun q => absurd hC q)
          refine gw_if (by decide) ?_
          refine gw_inn (fun q => absurd q hn) (fun _ => ?_)
          refine gw_ite (fun q => absurd rfl q) (fun _ => ?_)
          exact gw_some (gq_I ⟨qm.refl μ, rfl⟩)
      · have on := ofn (k := n) (by omega)
        have hn : (0 : Int32).toInt ≤ (Int32.ofNat n).toInt ∧ (Int32.ofNat n).toInt ≤ (60 : Int32).toInt := by omega
        refine PR.v h (cHold w Q (cGoN n (kC μ (29 + 2 * c)) (μ.2.1 15 0)) (μ.2.1 15 0 + Int32.ofNat n)) (gwI_of ?_) (fun m hm k => gwI_of ?_)
        · unfold f_X11_on
          refine gw_ji ?_
          refine gw_lt (fun _ => ?_) (fun q => by exfalso; omega)
          refine gw_ji ?_
          refine gw_ite (fun q => absurd q b0) (fun _ => ?_)
          refine gw_if (hg.t (r := 1) rfl) ?_
          rw [es]
          refine gw_nob h (fun _ => ?_) (fun q => absurd hC q)
          refine gw_if rfl ?_
          refine gw_out (fun _ => ?_) (fun q => absurd hn q)
          refine gw_if rfl ?_
          refine gw_if b0 ?_
          refine gw_if (hg.t (r := 1) rfl) ?_
          refine gw_bI (v_behind hcw hc (h.row hc) (by rw [mn]; exact v2) (n := n) (by omega)) (fun x m ⟨k, ex, _⟩ => ?_)
          refine gw_lt (fun _ => ?_) (fun q => by exfalso; omega)
          exact gw_some (gq_I ⟨k, ex⟩)
        · have hw := hmk hm k
          unfold f_X12_on
          refine gw_ji ?_
          refine gw_ite (fun q => absurd q b0) (fun _ => ?_)
          refine gw_if hm.1.t65 ?_
          rw [es]
          refine gw_isc (μ := μ) hm.mi (by rw [r66k k]; exact h.sz.symm) (fun _ => ?_) (fun q => absurd hC q)
          refine gw_if (by decide) ?_
          refine gw_inn (fun _ => ?_) (fun q => absurd hn q)
          refine gw_if (by decide) ?_
          refine gw_kept hw (by rw [r66k k]; exact v2) (n := n) (by omega) (fun m5 m7 g5 k7 h7 kr f7 c7 => ?_)
          rw [r66k k] at kr f7 c7
          refine gw_ji ?_
          refine gw_if b0 ?_
          refine gw_le (fun q => by exfalso; omega) (fun _ => ?_)
          refine gw_if (h7.1.1.t (r := 65) rfl) ?_
          refine gw_bI (w_holds h7 hc) (fun y m15 ⟨k15, ey⟩ => ?_)
          refine gw_back (m := m15) g5 (k7.trans k15.w01) (h7.k0 k15).1 (fun m' q => ?_)
          refine gw_some (gq_I ⟨q, ?_⟩)
          show y = _
          rw [ey, kr c hc, gN_p (cnt hC hc), f7, ← (h.kk hc).1, mn]
    · by_cases h20 : ∃ c : Nat, c < 5 ∧ b = Int32.ofNat (20 + c) ∧ b - 20 = Int32.ofNat c ∧ isC μ (Int32.ofNat c)
      · obtain ⟨c, hc, eb, es, hC⟩ := h20
        have bt : b.toInt = 20 + c := by rw [eb, ofn (k := 20 + c) (by omega)]; omega
        have nb : ¬ isC μ (b - 10) := fun q => h10 (isC_sub l10 (by omega) q)
        rcases out with hn | ⟨n, n60, rfl⟩
        · refine PR.u h (-2) (gwI_of ?_) (gwI_of ?_)
          · unfold f_X11_on
            refine gw_ji ?_
            refine gw_lt (fun q => by exfalso; omega) (fun _ => ?_)
            refine gw_ji ?_
            refine gw_ite (fun q => absurd q b0) (fun _ => ?_)
            refine gw_if (hg.t (r := 1) rfl) ?_
            rw [es]
            refine gw_nob h (fun _ => ?_) (fun q => absurd hC q)
            refine gw_if rfl ?_
            refine gw_out (fun q => absurd q hn) (fun _ => ?_)
            refine gw_ite (fun q => absurd q (by decide)) (fun _ => ?_)
            exact gw_some (gq_I ⟨rfl, rfl⟩)
          · unfold f_X12_on
            refine gw_ji ?_
            refine gw_ite (fun q => absurd q b0) (fun _ => ?_)
            refine gw_if h.1.t65 ?_
            refine gw_isc h.mi h.sz.symm (fun q => absurd q nb) (fun _ => ?_)
            refine gw_ite (fun q => absurd rfl q) (fun _ => ?_)
            refine gw_if h.1.t65 ?_
            rw [es]
            refine gw_isc h.mi h.sz.symm (fun _ => ?_) (fun q => absurd hC q)
            refine gw_if (by decide) ?_
            refine gw_inn (fun q => absurd q hn) (fun _ => ?_)
            refine gw_ite (fun q => absurd rfl q) (fun _ => ?_)
            exact gw_some (gq_I ⟨qm.refl μ, rfl⟩)
        · have on := ofn (k := n) (by omega)
          have hn : (0 : Int32).toInt ≤ (Int32.ofNat n).toInt ∧ (Int32.ofNat n).toInt ≤ (60 : Int32).toInt := by omega
          refine PR.v h (cGoN n (kC μ (29 + 2 * c)) (μ.2.1 15 0) 4) (gwI_of ?_) (fun m hm k => gwI_of ?_)
          · unfold f_X11_on
            refine gw_ji ?_
            refine gw_lt (fun q => by exfalso; omega) (fun _ => ?_)
            refine gw_ji ?_
            refine gw_ite (fun q => absurd q b0) (fun _ => ?_)
            refine gw_if (hg.t (r := 1) rfl) ?_
            rw [es]
            refine gw_nob h (fun _ => ?_) (fun q => absurd hC q)
            refine gw_if rfl ?_
            refine gw_out (fun _ => ?_) (fun q => absurd hn q)
            refine gw_if rfl ?_
            refine gw_if b0 ?_
            refine gw_if (hg.t (r := 1) rfl) ?_
            refine gw_bI (v_behind hcw hc (h.row hc) (by rw [mn]; exact v2) (n := n) (by omega)) (fun x m ⟨k, _, ek⟩ => ?_)
            refine gw_lt (fun q => by exfalso; omega) (fun _ => ?_)
            have hgm := (h.kc k).ci.1
            refine gw_gRa 63 (hgm.c (r := 1) rfl) (hgm.r (by decide)) ?_
            refine gw_gIw (ict.c hgm (Or.inr rfl)) ?_
            refine gw_some (gq_I ⟨k, ?_⟩)
            have e4 : m.2.1 63 4 = kC m 63 4 := rfl
            rw [e4, ek]
          · have hw := hmk hm k
            unfold f_X12_on
            refine gw_ji ?_
            refine gw_ite (fun q => absurd q b0) (fun _ => ?_)
            refine gw_if hm.1.t65 ?_
            refine gw_isc (μ := μ) hm.mi (by rw [r66k k]; exact h.sz.symm) (fun q => absurd q nb) (fun _ => ?_)
            refine gw_ite (fun q => absurd rfl q) (fun _ => ?_)
            refine gw_if hm.1.t65 ?_
            rw [es]
            refine gw_isc (μ := μ) hm.mi (by rw [r66k k]; exact h.sz.symm) (fun _ => ?_) (fun q => absurd hC q)
            refine gw_if (by decide) ?_
            refine gw_inn (fun _ => ?_) (fun q => absurd hn q)
            refine gw_if (by decide) ?_
            refine gw_kept hw (by rw [r66k k]; exact v2) (n := n) (by omega) (fun m5 m7 g5 k7 h7 kr f7 c7 => ?_)
            rw [r66k k] at kr f7 c7
            refine gw_ji ?_
            refine gw_if b0 ?_
            refine gw_le (fun _ => ?_) (fun q => by exfalso; omega)
            have a1 : ((6 : Int32) + b).toInt = (6 : Int32).toInt + b.toInt := gx_add (by omega) (by omega)
            have a2 : ((6 : Int32) + b - (20 : Int32)).toInt = ((6 : Int32) + b).toInt - (20 : Int32).toInt := gx_sub (by omega) (by omega)
            refine gw_gRa 66 (h7.1.1.c (r := 65) rfl) (h7.1.1.r (by decide)) ?_
            refine gw_aIw (6 + c) (h7.1.1.t (r := 66) rfl) (h7.1.1.l (r := 66) rfl) (by omega) (by omega) ?_
            refine gw_back (m := m7) g5 k7 h7.1 (fun m' q => ?_)
            refine gw_some (gq_I ⟨q, ?_⟩)
            have e4 : m7.2.1 66 (6 + c) = kR (m7.2.1 66) c 4 := rfl
            show m7.2.1 66 (6 + c) = _
            rw [e4, kr c hc, gN_p (cnt hC hc), ← (h.kk hc).1, mn]
      · refine PR.u h (-1) (gwI_of ?_) (gwI_of ?_)
        · unfold f_X11_on
          refine gw_ji ?_
          refine gw_lt (fun _ => ?_) (fun _ => ?_)
          · refine gw_ji ?_
            refine gw_ite (fun q => absurd q b0) (fun _ => ?_)
            refine gw_if (hg.t (r := 1) rfl) ?_
            refine gw_nob h (fun q => absurd (isC_sub l10 (by omega) q) h10) (fun _ => ?_)
            refine gw_ite (fun q => absurd q (by decide)) (fun _ => ?_)
            exact gw_some (gq_I ⟨rfl, rfl⟩)
          · refine gw_ji ?_
            refine gw_ite (fun q => absurd q b0) (fun _ => ?_)
            refine gw_if (hg.t (r := 1) rfl) ?_
            refine gw_nob h (fun q => absurd (isC_sub l20 (by omega) q) h20) (fun _ => ?_)
            refine gw_ite (fun q => absurd q (by decide)) (fun _ => ?_)
            exact gw_some (gq_I ⟨rfl, rfl⟩)
        · unfold f_X12_on
          refine gw_ji ?_
          refine gw_ite (fun q => absurd q b0) (fun _ => ?_)
          refine gw_if h.1.t65 ?_
          refine gw_isc h.mi h.sz.symm (fun q => absurd (isC_sub l10 (by omega) q) h10) (fun _ => ?_)
          refine gw_ite (fun q => absurd rfl q) (fun _ => ?_)
          refine gw_if h.1.t65 ?_
          refine gw_isc h.mi h.sz.symm (fun q => absurd (isC_sub l20 (by omega) q) h20) (fun _ => ?_)
          refine gw_ite (fun q => absurd rfl q) (fun _ => ?_)
          exact gw_some (gq_I ⟨qm.refl μ, rfl⟩)
end
end
section
/-! what looks and goes leaves alone -/
def kn (A : Nat → Prop) (μ m : gm_M) : Prop := m.1 = μ.1 ∧ m.2.2 = μ.2.2 ∧ (∀ r : Nat, r ≠ 66 → r ≠ 69 → r ≠ 70 → m.2.1 r = μ.2.1 r) ∧ (∀ k : Nat, ¬ A k → m.2.1 66 k = μ.2.1 66 k) ∧ True
theorem kn.old {A : Nat → Prop} {μ m : gm_M} (h : kn A μ m) : km A μ m := ⟨h.1, h.2.1, fun r _ h1 h2 h3 _ _ _ => h.2.2.1 r h1 h2 h3, h.2.2.2.1, by rw [h.2.2.1 65 (by decide) (by decide) (by decide)], by rw [h.2.2.1 65 (by decide) (by decide) (by decide)], by rw [h.2.2.1 65 (by decide) (by decide) (by decide)]⟩
theorem kn.refl (A : Nat → Prop) (μ : gm_M) : kn A μ μ := ⟨rfl, rfl, fun _ _ _ _ => rfl, fun _ _ => rfl, trivial⟩
theorem kn.trans {A : Nat → Prop} {a b c : gm_M} (h : kn A a b) (g : kn A b c) : kn A a c := ⟨g.1.trans h.1, g.2.1.trans h.2.1, fun r h1 h2 h3 => (g.2.2.1 r h1 h2 h3).trans (h.2.2.1 r h1 h2 h3), fun k hk => (g.2.2.2.1 k hk).trans (h.2.2.2.1 k hk), trivial⟩
theorem kn.weak {A B : Nat → Prop} {a b : gm_M} (h : kn A a b) (w : ∀ k, A k → B k) : kn B a b := ⟨h.1, h.2.1, h.2.2.1, fun k hk => h.2.2.2.1 k (fun q => hk (w k q)), trivial⟩
theorem kn.w00 {a b : gm_M} (h : kn A0 a b) : kn A0 a b := h
theorem kn.w01 {a b : gm_M} (h : kn A0 a b) : kn A1 a b := h.weak (fun _ q => q.elim)
theorem kn.w03 {a b : gm_M} (h : kn A0 a b) : kn A3 a b := h.weak (fun _ q => q.elim)
theorem kn.w31 {a b : gm_M} (h : kn A3 a b) : kn A1 a b := h.weak (fun _ q => q.2)
theorem kn.w33 {a b : gm_M} (h : kn A3 a b) : kn A3 a b := h
theorem kn.w11 {a b : gm_M} (h : kn A1 a b) : kn A1 a b := h
theorem kn.ws {A : Nat → Prop} {a b m : gm_M} {j : Nat} {x : Int32} (h : kn A a b) (e : m = (b.1, gm_u b.2.1 66 j x, b.2.2)) (hj : A j) : kn A a m := by
  subst e
  refine ⟨h.1, h.2.1, fun r h1 h2 h3 => ?_, fun k hk => ?_, trivial⟩
  · show gm_u b.2.1 66 j x r = _
    rw [gu_row h1]; exact h.2.2.1 r h1 h2 h3
  · show gm_u b.2.1 66 j x 66 k = _
    rw [gu_ne (fun q => hk (by rw [q]; exact hj))]; exact h.2.2.2.1 k hk
theorem kn.wr {A : Nat → Prop} {a b m : gm_M} {r j : Nat} {x : Int32} (h : kn A a b) (e : m = (b.1, gm_u b.2.1 r j x, b.2.2)) (hr : r = 69 ∨ r = 70) : kn A a m := by
  subst e
  refine ⟨h.1, h.2.1, fun q h1 h2 h3 => ?_, fun k hk => ?_, trivial⟩
  · show gm_u b.2.1 r j x q = _
    rw [gu_row (by omega)]; exact h.2.2.1 q h1 h2 h3
  · show gm_u b.2.1 r j x 66 k = _
    rw [gu_row (by omega)]; exact h.2.2.2.1 k hk
theorem MI.on0 {μ m : gm_M} (h : MI μ) (g : kn A0 μ m) : MI m := MI.of0 h g.old
theorem MI.on1 {μ m : gm_M} (h : MI μ) (g : kn A1 μ m) : MI m := MI.of1 h g.old
theorem MI.on3 {μ m : gm_M} (h : MI μ) (g : kn A3 μ m) : MI m := MI.of3 h g.old
set_option maxHeartbeats 1000000 in
theorem n_X12_goesBack {μ : gm_M} (h : MI μ) : gwV (f_X12_goesBack 65 μ) (fun m => kn A1 μ m ∧ rs m) := by
  refine gwV_of ?_
  unfold f_X12_goesBack
  have l0 : (0 : Int32).toInt = 0 := rfl
  have l1 : (1 : Int32).toInt = 1 := rfl
  have l26 : (26 : Int32).toInt = 26 := rfl
  refine gw_loop (fun s => (0 ≤ s.1.toInt ∧ s.1.toInt ≤ 26) ∧ kn A1 μ s.2 ∧ ∀ k : Nat, (k : Int) < s.1.toInt → s.2.2.1 66 k = μ.2.1 68 k) (fun s => 26 - s.1.toInt) (fun s ⟨h1, h2, h3⟩ => ?_) 5000 ((0 : Int32), μ) ⟨⟨by show 0 ≤ (0 : Int32).toInt; omega, by show (0 : Int32).toInt ≤ 26; omega⟩, kn.refl A1 μ, fun k hk => by have : (k : Int) < (0 : Int32).toInt := hk; omega⟩ (by show 26 - (0 : Int32).toInt < ((5000 : Nat) : Int); omega) (by show 0 ≤ 26 - (0 : Int32).toInt; omega)
  have hS : gS s.2 := (h.on1 h2).1
  have e68 : s.2.2.1 68 = μ.2.1 68 := h2.2.2.1 68 (by decide) (by decide) (by decide)
  refine gw_le (fun g => ?_) (fun g => ?_)
  · exact gw_some (gs_inr (gq_V ⟨h2, fun k hk => by rw [h3 k (by omega), e68]⟩))
  · refine gw_gRa 66 (hS.c (r := 65) rfl) (hS.r (by decide)) ?_
    refine gw_gRa 68 (hS.c (r := 65) rfl) (hS.r (by decide)) ?_
    refine gw_aI (i := s.1) (hS.t (r := 68) rfl) (hS.l (r := 68) rfl) (by omega) (by omega) (fun v ev => ?_)
    refine gw_sI (i := s.1) (hS.t (r := 66) rfl) (hS.l (r := 66) rfl) (by omega) (by omega) (fun m em => ?_)
    have hk1 := h2.ws em (by unfold A1; omega)
    subst em
    have n : (s.1 + (1 : Int32)).toInt = s.1.toInt + (1 : Int32).toInt := gx_add (by omega) (by omega)
    refine gw_some (gs_inl ⟨⟨by show 0 ≤ (s.1 + (1 : Int32)).toInt; omega, by show (s.1 + (1 : Int32)).toInt ≤ 26; omega⟩, hk1, fun k hk => ?_⟩ (by show 26 - (s.1 + (1 : Int32)).toInt < 26 - s.1.toInt; omega) (by show 0 ≤ 26 - (s.1 + (1 : Int32)).toInt; omega))
    have hk : (k : Int) < (s.1 + (1 : Int32)).toInt := hk
    show gm_u s.2.2.1 66 s.1.toInt.toNat v 66 k = _
    by_cases e : k = s.1.toInt.toNat
    · subst e
      rw [gu_eq, ev, e68]
    · rw [gu_ne e]; exact h3 k (by omega)
set_option maxHeartbeats 1000000 in
theorem n_X12_looks {μ : gm_M} (h : MI μ) {a1 : Int32} (q0 : 0 ≤ a1.toInt ∧ a1.toInt < 5) : gwI (f_X12_looks 65 a1 μ) (fun x m => kn A0 μ m) := by
  refine gwI_of ?_
  unfold f_X12_looks
  have lm200 : (-200 : Int32).toInt = -200 := rfl
  have lm10 : (-10 : Int32).toInt = -10 := rfl
  have lm2 : (-2 : Int32).toInt = -2 := rfl
  have lm1 : (-1 : Int32).toInt = -1 := rfl
  have l0 : (0 : Int32).toInt = 0 := rfl
  have l1 : (1 : Int32).toInt = 1 := rfl
  have l2 : (2 : Int32).toInt = 2 := rfl
  have l3 : (3 : Int32).toInt = 3 := rfl
  have l4 : (4 : Int32).toInt = 4 := rfl
  have l5 : (5 : Int32).toInt = 5 := rfl
  have l6 : (6 : Int32).toInt = 6 := rfl
  have l8 : (8 : Int32).toInt = 8 := rfl
  have l10 : (10 : Int32).toInt = 10 := rfl
  have l32 : (32 : Int32).toInt = 32 := rfl
  have l33 : (33 : Int32).toInt = 33 := rfl
  have l38 : (38 : Int32).toInt = 38 := rfl
  have l140 : (140 : Int32).toInt = 140 := rfl
  have l220 : (220 : Int32).toInt = 220 := rfl
  have l225 : (225 : Int32).toInt = 225 := rfl
  have k0 := kn.refl A0 μ
  refine gw_gRa 69 ((h.on0 k0).1.c (r := 65) rfl) ((h.on0 k0).1.r (by decide)) ?_
  refine gw_sI (i := (0 : Int32)) ((h.on0 k0).1.t (r := 69) rfl) ((h.on0 k0).1.l (r := 69) rfl) (by omega) (by omega) (fun m1 em1 => ?_)
  have km1 := k0.wr em1 (by decide)
  refine gw_gRa 69 ((h.on0 km1).1.c (r := 65) rfl) ((h.on0 km1).1.r (by decide)) ?_
  refine gw_gRa 66 ((h.on0 km1).1.c (r := 65) rfl) ((h.on0 km1).1.r (by decide)) ?_
  have n2 : ((33 : Int32) + a1).toInt = (33 : Int32).toInt + a1.toInt := gx_add (by omega) (by omega)
  refine gw_aI (i := ((33 : Int32) + a1)) ((h.on0 km1).1.t (r := 66) rfl) ((h.on0 km1).1.l (r := 66) rfl) (by omega) (by omega) (fun v3 ev3 => ?_)
  refine gw_sI (i := (1 : Int32)) ((h.on0 km1).1.t (r := 69) rfl) ((h.on0 km1).1.l (r := 69) rfl) (by omega) (by omega) (fun m4 em4 => ?_)
  have km4 := km1.wr em4 (by decide)
  refine gw_gRa 69 ((h.on0 km4).1.c (r := 65) rfl) ((h.on0 km4).1.r (by decide)) ?_
  refine gw_gRa 66 ((h.on0 km4).1.c (r := 65) rfl) ((h.on0 km4).1.r (by decide)) ?_
  have n5 : ((38 : Int32) + a1).toInt = (38 : Int32).toInt + a1.toInt := gx_add (by omega) (by omega)
  refine gw_aI (i := ((38 : Int32) + a1)) ((h.on0 km4).1.t (r := 66) rfl) ((h.on0 km4).1.l (r := 66) rfl) (by omega) (by omega) (fun v6 ev6 => ?_)
  refine gw_sI (i := (2 : Int32)) ((h.on0 km4).1.t (r := 69) rfl) ((h.on0 km4).1.l (r := 69) rfl) (by omega) (by omega) (fun m7 em7 => ?_)
  have km7 := km4.wr em7 (by decide)
  refine gw_gRa 69 ((h.on0 km7).1.c (r := 65) rfl) ((h.on0 km7).1.r (by decide)) ?_
  refine gw_gRa 66 ((h.on0 km7).1.c (r := 65) rfl) ((h.on0 km7).1.r (by decide)) ?_
  have n8 : ((1 : Int32) + a1).toInt = (1 : Int32).toInt + a1.toInt := gx_add (by omega) (by omega)
  refine gw_aI (i := ((1 : Int32) + a1)) ((h.on0 km7).1.t (r := 66) rfl) ((h.on0 km7).1.l (r := 66) rfl) (by omega) (by omega) (fun v9 ev9 => ?_)
  refine gw_sI (i := (3 : Int32)) ((h.on0 km7).1.t (r := 69) rfl) ((h.on0 km7).1.l (r := 69) rfl) (by omega) (by omega) (fun m10 em10 => ?_)
  have km10 := km7.wr em10 (by decide)
  refine gw_gRa 69 ((h.on0 km10).1.c (r := 65) rfl) ((h.on0 km10).1.r (by decide)) ?_
  refine gw_gRa 66 ((h.on0 km10).1.c (r := 65) rfl) ((h.on0 km10).1.r (by decide)) ?_
  have n11 : ((6 : Int32) + a1).toInt = (6 : Int32).toInt + a1.toInt := gx_add (by omega) (by omega)
  refine gw_aI (i := ((6 : Int32) + a1)) ((h.on0 km10).1.t (r := 66) rfl) ((h.on0 km10).1.l (r := 66) rfl) (by omega) (by omega) (fun v12 ev12 => ?_)
  refine gw_dv (by omega) ?_
  refine gw_sI (i := (4 : Int32)) ((h.on0 km10).1.t (r := 69) rfl) ((h.on0 km10).1.l (r := 69) rfl) (by omega) (by omega) (fun m13 em13 => ?_)
  have km13 := km10.wr em13 (by decide)
  refine gw_gRa 69 ((h.on0 km13).1.c (r := 65) rfl) ((h.on0 km13).1.r (by decide)) ?_
  refine gw_gRa 66 ((h.on0 km13).1.c (r := 65) rfl) ((h.on0 km13).1.r (by decide)) ?_
  refine gw_aI (i := (0 : Int32)) ((h.on0 km13).1.t (r := 66) rfl) ((h.on0 km13).1.l (r := 66) rfl) (by omega) (by omega) (fun v14 ev14 => ?_)
  refine gw_dv (by omega) ?_
  refine gw_sI (i := (5 : Int32)) ((h.on0 km13).1.t (r := 69) rfl) ((h.on0 km13).1.l (r := 69) rfl) (by omega) (by omega) (fun m15 em15 => ?_)
  have km15 := km13.wr em15 (by decide)
  refine gw_if ((h.on0 km15).1.t (r := 65) rfl) ?_
  refine gw_bI (s_X12_tellsOf (h.on0 km15)  (by omega)) (fun x16 m16 ⟨z16, f16⟩ => ?_)
  replace z16 := z16.symm
  subst z16
  have ee : ∀ k : Nat, m15.2.1 66 k = μ.2.1 66 k := fun k => km15.2.2.2.1 k (fun q => q)
  obtain ⟨lx1, lx2, tp, lx3, lx4⟩ := (h.on0 km15).lk f16
  simp only [ee] at lx4
  clear f16
  refine gw_gRa 66 ((h.on0 km15).1.c (r := 65) rfl) ((h.on0 km15).1.r (by decide)) ?_
  refine gw_aI (i := (32 : Int32)) ((h.on0 km15).1.t (r := 66) rfl) ((h.on0 km15).1.l (r := 66) rfl) (by omega) (by omega) (fun v17 ev17 => ?_)
  have bv17 := (h.on0 km15).n32
  have cv17 : v17 = m15.2.1 66 32 := ev17
  have dv17 : v17.toInt = (m15.2.1 66 32).toInt := by rw [cv17]
  have yv17 : v17.toInt = (μ.2.1 66 32).toInt := by rw [dv17, km15.2.2.2.1 32 (by first | exact fun q => q | (unfold A0; omega))]
  have e32 : v17.toInt = (μ.2.1 66 32).toInt := by rw [ev17]; exact congrArg Int32.toInt (ee 32)
  have n19 : ((140 : Int32) * v17).toInt = 140 * v17.toInt := gx_mul 140 rfl (by omega) (by omega)
  have n20 : ((225 : Int32) + ((140 : Int32) * v17)).toInt = (225 : Int32).toInt + ((140 : Int32) * v17).toInt := gx_add (by omega) (by omega)
  refine gw_loop (fun s18 => kn A0 μ s18.2.2.2 ∧ ((225 + 140 * (μ.2.1 66 32).toInt) ≤ s18.2.2.1.toInt ∧ s18.2.2.1.toInt ≤ (225 + 140 * (μ.2.1 66 32).toInt) + x16.toInt ∧ s18.2.1.toInt = ((tp (s18.2.2.1.toInt - (225 + 140 * (μ.2.1 66 32).toInt)).toNat : Nat) : Int))) (fun s18 => ((225 + 140 * (μ.2.1 66 32).toInt) + x16.toInt - s18.2.2.1.toInt)) (fun s18 ⟨k21, u22⟩ => ?_) 5000 ((0 : Int32), (0 : Int32), ((225 : Int32) + ((140 : Int32) * v17)), m15) ⟨km15, (by show (225 + 140 * (μ.2.1 66 32).toInt) ≤ ((225 : Int32) + ((140 : Int32) * v17)).toInt ∧ ((225 : Int32) + ((140 : Int32) * v17)).toInt ≤ (225 + 140 * (μ.2.1 66 32).toInt) + x16.toInt ∧ (0 : Int32).toInt = ((tp (((225 : Int32) + ((140 : Int32) * v17)).toInt - (225 + 140 * (μ.2.1 66 32).toInt)).toNat : Nat) : Int); refine ⟨by omega, by omega, ?_⟩; rw [show (((225 : Int32) + ((140 : Int32) * v17)).toInt - (225 + 140 * (μ.2.1 66 32).toInt)).toNat = 0 from by omega, lx3]; rfl)⟩ (by show ((225 + 140 * (μ.2.1 66 32).toInt) + x16.toInt - ((225 : Int32) + ((140 : Int32) * v17)).toInt) < ((5000 : Nat) : Int); omega) (by show 0 ≤ ((225 + 140 * (μ.2.1 66 32).toInt) + x16.toInt - ((225 : Int32) + ((140 : Int32) * v17)).toInt); omega)
  have n23 : ((140 : Int32) * v17).toInt = 140 * v17.toInt := gx_mul 140 rfl (by omega) (by omega)
  have n24 : ((225 : Int32) + ((140 : Int32) * v17)).toInt = (225 : Int32).toInt + ((140 : Int32) * v17).toInt := gx_add (by omega) (by omega)
  have n25 : (((225 : Int32) + ((140 : Int32) * v17)) + x16).toInt = ((225 : Int32) + ((140 : Int32) * v17)).toInt + x16.toInt := gx_add (by omega) (by omega)
  refine gw_le (fun h125_26 => ?_) (fun h125_26 => ?_)
  ·
    exact gw_some (gs_inr (gq_I k21))
  ·
    refine gw_gRa 66 ((h.on0 k21).1.c (r := 65) rfl) ((h.on0 k21).1.r (by decide)) ?_
    refine gw_aI (i := s18.2.2.1) ((h.on0 k21).1.t (r := 66) rfl) ((h.on0 k21).1.l (r := 66) rfl) (by omega) (by omega) (fun v27 ev27 => ?_)
    have gv27 : v27 = μ.2.1 66 ((225 + 140 * (μ.2.1 66 32).toInt) + (((s18.2.2.1.toInt - (225 + 140 * (μ.2.1 66 32).toInt)).toNat : Nat) : Int)).toNat := by rw [ev27, show ((225 + 140 * (μ.2.1 66 32).toInt) + (((s18.2.2.1.toInt - (225 + 140 * (μ.2.1 66 32).toInt)).toNat : Nat) : Int)).toNat = s18.2.2.1.toInt.toNat from by omega]; exact k21.2.2.2.1 _ (fun q => q)
    have wv27 := lx4 (s18.2.2.1.toInt - (225 + 140 * (μ.2.1 66 32).toInt)).toNat (by omega)
    rw [← gv27] at wv27
    generalize hT1 : tp (s18.2.2.1.toInt - (225 + 140 * (μ.2.1 66 32).toInt)).toNat = t1 at *
    generalize hT2 : tp ((s18.2.2.1.toInt - (225 + 140 * (μ.2.1 66 32).toInt)).toNat + 1) = t2 at *
    have ww := wv27
    refine gw_j (fun s28 => kn A0 μ s28.2.2 ∧ (s28.2.1.toInt = (t2 : Int))) (fun s28 ⟨k30, u31⟩ => ?_) (fun j29 hj29 => ?_)
    ·
      have n32 : (s18.2.2.1 + (1 : Int32)).toInt = s18.2.2.1.toInt + (1 : Int32).toInt := gx_add (by omega) (by omega)
      exact gw_some (gs_inl ⟨k30, (by show (225 + 140 * (μ.2.1 66 32).toInt) ≤ (s18.2.2.1 + (1 : Int32)).toInt ∧ (s18.2.2.1 + (1 : Int32)).toInt ≤ (225 + 140 * (μ.2.1 66 32).toInt) + x16.toInt ∧ s28.2.1.toInt = ((tp ((s18.2.2.1 + (1 : Int32)).toInt - (225 + 140 * (μ.2.1 66 32).toInt)).toNat : Nat) : Int); refine ⟨by omega, by omega, ?_⟩; rw [show ((s18.2.2.1 + (1 : Int32)).toInt - (225 + 140 * (μ.2.1 66 32).toInt)).toNat = (s18.2.2.1.toInt - (225 + 140 * (μ.2.1 66 32).toInt)).toNat + 1 from by omega, hT2]; omega)⟩ (by show ((225 + 140 * (μ.2.1 66 32).toInt) + x16.toInt - (s18.2.2.1 + (1 : Int32)).toInt) < ((225 + 140 * (μ.2.1 66 32).toInt) + x16.toInt - s18.2.2.1.toInt); omega) (by show 0 ≤ ((225 + 140 * (μ.2.1 66 32).toInt) + x16.toInt - (s18.2.2.1 + (1 : Int32)).toInt); omega))
    ·
      refine gw_lt (fun h139_33 => ?_) (fun h139_33 => ?_)
      ·
        refine gw_ne (fun h239_34 => ?_) (fun h239_34 => ?_)
        ·
          refine gw_le (fun h275_35 => ?_) (fun h275_35 => ?_)
          ·
            have q1 := wst_D ww h275_35
            refine gw_gRa 70 ((h.on0 k21).1.c (r := 65) rfl) ((h.on0 k21).1.r (by decide)) ?_
            refine gw_aZ (i := (0 : Int32)) ((h.on0 k21).1.t (r := 70) rfl) ((h.on0 k21).1.l (r := 70) rfl) (by omega) (by omega) (fun v36 ev36 => ?_)
            refine gw_j (fun s37 => True) (fun s37 _ => ?_) (fun j38 hj38 => ?_)
            ·
              refine gw_j (fun s39 => True) (fun s39 _ => ?_) (fun j40 hj40 => ?_)
              ·
                exact hj29 _ ⟨k21, (by show (0 : Int32).toInt = (t2 : Int); omega)⟩
              ·
                refine gw_j (fun s41 => True) (fun s41 _ => ?_) (fun j42 hj42 => ?_)
                ·
                  exact hj40 _ trivial
                ·
                  refine gw_eq (fun _ => ?_) (fun _ => ?_)
                  ·
                    exact hj42 _ trivial
                  ·
                    refine gw_lt (fun _ => ?_) (fun _ => ?_)
                    ·
                      exact hj42 _ trivial
                    ·
                      exact hj40 _ trivial
            ·
              refine gw_j (fun s45 => True) (fun s45 _ => ?_) (fun j46 hj46 => ?_)
              ·
                exact hj38 _ trivial
              ·
                refine gw_eq (fun _ => ?_) (fun _ => ?_)
                ·
                  exact hj46 _ trivial
                ·
                  refine gw_le (fun _ => ?_) (fun _ => ?_)
                  ·
                    exact hj46 _ trivial
                  ·
                    exact hj38 _ trivial
          ·
            obtain ⟨q0, q1, q2⟩ := wst_C ww (by omega) (by omega)
            have n49 : (s18.2.1 + (-1 : Int32)).toInt = s18.2.1.toInt + (-1 : Int32).toInt := gx_add (by omega) (by omega)
            obtain ⟨w50, hw50⟩ : ∃ w : Int32, w = (s18.2.1 + (-1 : Int32)) := ⟨_, rfl⟩
            rw [← hw50]
            rw [← hw50] at n49
            refine gw_gRa 70 ((h.on0 k21).1.c (r := 65) rfl) ((h.on0 k21).1.r (by decide)) ?_
            refine gw_j (fun s51 => True) (fun s51 _ => ?_) (fun j52 hj52 => ?_)
            ·
              have n53 : (w50 - (1 : Int32)).toInt = w50.toInt - (1 : Int32).toInt := gx_sub (by omega) (by omega)
              refine gw_sZ (i := (w50 - (1 : Int32))) ((h.on0 k21).1.t (r := 70) rfl) ((h.on0 k21).1.l (r := 70) rfl) (by omega) (by omega) (fun m54 em54 => ?_)
              have km54 := k21.wr em54 (by decide)
              exact hj29 _ ⟨km54, (by show w50.toInt = (t2 : Int); omega)⟩
            ·
              refine gw_ne (fun _ => ?_) (fun _ => ?_)
              ·
                refine gw_gRa 70 ((h.on0 k21).1.c (r := 65) rfl) ((h.on0 k21).1.r (by decide)) ?_
                have n56 : (w50 - (1 : Int32)).toInt = w50.toInt - (1 : Int32).toInt := gx_sub (by omega) (by omega)
                refine gw_aZ (i := (w50 - (1 : Int32))) ((h.on0 k21).1.t (r := 70) rfl) ((h.on0 k21).1.l (r := 70) rfl) (by omega) (by omega) (fun v57 ev57 => ?_)
                refine gw_j (fun s58 => True) (fun s58 _ => ?_) (fun j59 hj59 => ?_)
                ·
                  exact hj52 _ trivial
                ·
                  refine gw_ne (fun _ => ?_) (fun _ => ?_)
                  ·
                    exact hj59 _ trivial
                  ·
                    refine gw_gRa 70 ((h.on0 k21).1.c (r := 65) rfl) ((h.on0 k21).1.r (by decide)) ?_
                    refine gw_aZ (i := w50) ((h.on0 k21).1.t (r := 70) rfl) ((h.on0 k21).1.l (r := 70) rfl) (by omega) (by omega) (fun v61 ev61 => ?_)
                    refine gw_eq (fun _ => ?_) (fun _ => ?_)
                    ·
                      exact hj52 _ trivial
                    ·
                      exact hj59 _ trivial
              ·
                refine gw_gRa 70 ((h.on0 k21).1.c (r := 65) rfl) ((h.on0 k21).1.r (by decide)) ?_
                have n63 : (w50 - (1 : Int32)).toInt = w50.toInt - (1 : Int32).toInt := gx_sub (by omega) (by omega)
                refine gw_aZ (i := (w50 - (1 : Int32))) ((h.on0 k21).1.t (r := 70) rfl) ((h.on0 k21).1.l (r := 70) rfl) (by omega) (by omega) (fun v64 ev64 => ?_)
                refine gw_j (fun s65 => True) (fun s65 _ => ?_) (fun j66 hj66 => ?_)
                ·
                  exact hj52 _ trivial
                ·
                  refine gw_eq (fun _ => ?_) (fun _ => ?_)
                  ·
                    exact hj66 _ trivial
                  ·
                    refine gw_gRa 70 ((h.on0 k21).1.c (r := 65) rfl) ((h.on0 k21).1.r (by decide)) ?_
                    refine gw_aZ (i := w50) ((h.on0 k21).1.t (r := 70) rfl) ((h.on0 k21).1.l (r := 70) rfl) (by omega) (by omega) (fun v68 ev68 => ?_)
                    refine gw_eq (fun _ => ?_) (fun _ => ?_)
                    ·
                      exact hj66 _ trivial
                    ·
                      exact hj52 _ trivial
        ·
          obtain ⟨q0, q1, q2⟩ := wst_B ww h239_34
          refine gw_gRa 70 ((h.on0 k21).1.c (r := 65) rfl) ((h.on0 k21).1.r (by decide)) ?_
          refine gw_gRa 70 ((h.on0 k21).1.c (r := 65) rfl) ((h.on0 k21).1.r (by decide)) ?_
          have n70 : (s18.2.1 - (1 : Int32)).toInt = s18.2.1.toInt - (1 : Int32).toInt := gx_sub (by omega) (by omega)
          refine gw_aZ (i := (s18.2.1 - (1 : Int32))) ((h.on0 k21).1.t (r := 70) rfl) ((h.on0 k21).1.l (r := 70) rfl) (by omega) (by omega) (fun v71 ev71 => ?_)
          refine gw_j (fun s72 => True) (fun s72 _ => ?_) (fun j73 hj73 => ?_)
          ·
            have n74 : (s18.2.1 - (1 : Int32)).toInt = s18.2.1.toInt - (1 : Int32).toInt := gx_sub (by omega) (by omega)
            refine gw_sZ (i := (s18.2.1 - (1 : Int32))) ((h.on0 k21).1.t (r := 70) rfl) ((h.on0 k21).1.l (r := 70) rfl) (by omega) (by omega) (fun m75 em75 => ?_)
            have km75 := k21.wr em75 (by decide)
            exact hj29 _ ⟨km75, (by show s18.2.1.toInt = (t2 : Int); omega)⟩
          ·
            refine gw_ne (fun _ => ?_) (fun _ => ?_)
            ·
              exact hj73 _ trivial
            ·
              exact hj73 _ trivial
      ·
        obtain ⟨q0, q1, q2, q3⟩ := wst_A ww h139_33
        refine gw_gRa 69 ((h.on0 k21).1.c (r := 65) rfl) ((h.on0 k21).1.r (by decide)) ?_
        refine gw_dv (by omega) ?_
        have n77 := gx_remk8 (x := v27) (by omega)
        refine gw_aI (i := (v27 - v27 / (8 : Int32) * (8 : Int32))) ((h.on0 k21).1.t (r := 69) rfl) ((h.on0 k21).1.l (r := 69) rfl) (by omega) (by omega) (fun v78 ev78 => ?_)
        refine gw_dv (by omega) ?_
        refine gw_dv (by omega) ?_
        refine gw_dv (by omega) ?_
        refine gw_gRa 70 ((h.on0 k21).1.c (r := 65) rfl) ((h.on0 k21).1.r (by decide)) ?_
        refine gw_j (fun s79 => True) (fun s79 _ => ?_) (fun j80 hj80 => ?_)
        ·
          refine gw_sZ (i := s18.2.1) ((h.on0 k21).1.t (r := 70) rfl) ((h.on0 k21).1.l (r := 70) rfl) (by omega) (by omega) (fun m81 em81 => ?_)
          have km81 := k21.wr em81 (by decide)
          have n82 : (s18.2.1 + (1 : Int32)).toInt = s18.2.1.toInt + (1 : Int32).toInt := gx_add (by omega) (by omega)
          exact hj29 _ ⟨km81, (by show (s18.2.1 + (1 : Int32)).toInt = (t2 : Int); omega)⟩
        ·
          refine gw_ne (fun _ => ?_) (fun _ => ?_)
          ·
            refine gw_ne (fun _ => ?_) (fun _ => ?_)
            ·
              refine gw_le (fun _ => ?_) (fun _ => ?_)
              ·
                exact hj80 _ trivial
              ·
                exact hj80 _ trivial
            ·
              refine gw_ne (fun _ => ?_) (fun _ => ?_)
              ·
                exact hj80 _ trivial
              ·
                exact hj80 _ trivial
          ·
            refine gw_le (fun _ => ?_) (fun _ => ?_)
            ·
              exact hj80 _ trivial
            ·
              exact hj80 _ trivial
set_option maxHeartbeats 1000000 in
theorem n_X12_stretchOf {μ : gm_M} (h : MI μ) {a1 : Int32} (q0 : 0 ≤ a1.toInt ∧ a1.toInt < 5) : gwI (f_X12_stretchOf 65 a1 μ) (fun x m => kn A0 μ m) := by
  refine gwI_of ?_
  unfold f_X12_stretchOf
  have l1 : (1 : Int32).toInt = 1 := rfl
  have l30 : (30 : Int32).toInt = 30 := rfl
  have l1000000 : (1000000 : Int32).toInt = 1000000 := rfl
  have k0 := kn.refl A0 μ
  refine gw_if ((h.on0 k0).1.t (r := 65) rfl) ?_
  refine gw_bI (n_X12_looks (h.on0 k0)  (by omega)) (fun x1 m1 g1 => ?_)
  have kk1 := k0.trans g1.w00
  refine gw_bI (s_X12_within  ) (fun x2 m2 z2 => ?_)
  replace z2 := z2.symm
  subst z2
  exact gw_some (gq_I kk1)
set_option maxHeartbeats 1000000 in
theorem n_X12_holdsOf {μ : gm_M} (h : MI μ) {a1 : Int32} (q0 : 0 ≤ a1.toInt ∧ a1.toInt < 5) : gwI (f_X12_holdsOf 65 a1 μ) (fun x m => kn A0 μ m) := by
  refine gwI_of ?_
  unfold f_X12_holdsOf
  have l0 : (0 : Int32).toInt = 0 := rfl
  have l1 : (1 : Int32).toInt = 1 := rfl
  have l2 : (2 : Int32).toInt = 2 := rfl
  have l5 : (5 : Int32).toInt = 5 := rfl
  have l6 : (6 : Int32).toInt = 6 := rfl
  have l10 : (10 : Int32).toInt = 10 := rfl
  have l11 : (11 : Int32).toInt = 11 := rfl
  have l33 : (33 : Int32).toInt = 33 := rfl
  have l210 : (210 : Int32).toInt = 210 := rfl
  have k0 := kn.refl A0 μ
  refine gw_gRa 66 ((h.on0 k0).1.c (r := 65) rfl) ((h.on0 k0).1.r (by decide)) ?_
  have n1 : ((1 : Int32) + a1).toInt = (1 : Int32).toInt + a1.toInt := gx_add (by omega) (by omega)
  refine gw_aI (i := ((1 : Int32) + a1)) ((h.on0 k0).1.t (r := 66) rfl) ((h.on0 k0).1.l (r := 66) rfl) (by omega) (by omega) (fun v2 ev2 => ?_)
  refine gw_if ((h.on0 k0).1.t (r := 65) rfl) ?_
  refine gw_bI (n_X12_stretchOf (h.on0 k0)  (by omega)) (fun x3 m3 g3 => ?_)
  have kk3 := k0.trans g3.w00
  refine gw_gRa 66 ((h.on0 kk3).1.c (r := 65) rfl) ((h.on0 kk3).1.r (by decide)) ?_
  have n4 : ((6 : Int32) + a1).toInt = (6 : Int32).toInt + a1.toInt := gx_add (by omega) (by omega)
  refine gw_aI (i := ((6 : Int32) + a1)) ((h.on0 kk3).1.t (r := 66) rfl) ((h.on0 kk3).1.l (r := 66) rfl) (by omega) (by omega) (fun v5 ev5 => ?_)
  refine gw_gRa 66 ((h.on0 kk3).1.c (r := 65) rfl) ((h.on0 kk3).1.r (by decide)) ?_
  have n6 : ((11 : Int32) + a1).toInt = (11 : Int32).toInt + a1.toInt := gx_add (by omega) (by omega)
  refine gw_aI (i := ((11 : Int32) + a1)) ((h.on0 kk3).1.t (r := 66) rfl) ((h.on0 kk3).1.l (r := 66) rfl) (by omega) (by omega) (fun v7 ev7 => ?_)
  refine gw_dv (by omega) ?_
  refine gw_if ((h.on0 kk3).1.t (r := 65) rfl) ?_
  refine gw_bI (s_X12_tellsOf (h.on0 kk3)  (by omega)) (fun x8 m8 ⟨z8, f8⟩ => ?_)
  replace z8 := z8.symm
  subst z8
  refine gw_bI (s_X12_above  ) (fun x9 m9 z9 => ?_)
  replace z9 := z9.symm
  subst z9
  refine gw_gRa 66 ((h.on0 kk3).1.c (r := 65) rfl) ((h.on0 kk3).1.r (by decide)) ?_
  have n10 : ((33 : Int32) + a1).toInt = (33 : Int32).toInt + a1.toInt := gx_add (by omega) (by omega)
  refine gw_aI (i := ((33 : Int32) + a1)) ((h.on0 kk3).1.t (r := 66) rfl) ((h.on0 kk3).1.l (r := 66) rfl) (by omega) (by omega) (fun v11 ev11 => ?_)
  refine gw_ne (fun h59_12 => ?_) (fun h59_12 => ?_)
  ·
    exact gw_some (gq_I kk3)
  ·
    refine gw_bI (s_X12_above  ) (fun x13 m13 z13 => ?_)
    replace z13 := z13.symm
    subst z13
    exact gw_some (gq_I kk3)
set_option maxHeartbeats 1000000 in
theorem n_X12_goesFor {μ : gm_M} (h : MI μ) {a1 : Int32} (q0 : 0 ≤ a1.toInt ∧ a1.toInt < 5) : gwV (f_X12_goesFor 65 a1 μ) (fun m => kn A3 μ m) := by
  refine gwV_of ?_
  unfold f_X12_goesFor
  have l0 : (0 : Int32).toInt = 0 := rfl
  have l1 : (1 : Int32).toInt = 1 := rfl
  have l5 : (5 : Int32).toInt = 5 := rfl
  have l6 : (6 : Int32).toInt = 6 := rfl
  have l11 : (11 : Int32).toInt = 11 := rfl
  have l16 : (16 : Int32).toInt = 16 := rfl
  have l38 : (38 : Int32).toInt = 38 := rfl
  have l99 : (99 : Int32).toInt = 99 := rfl
  have k0 := kn.refl A3 μ
  refine gw_gRa 66 ((h.on3 k0).1.c (r := 65) rfl) ((h.on3 k0).1.r (by decide)) ?_
  have n1 : ((16 : Int32) + a1).toInt = (16 : Int32).toInt + a1.toInt := gx_add (by omega) (by omega)
  refine gw_aI (i := ((16 : Int32) + a1)) ((h.on3 k0).1.t (r := 66) rfl) ((h.on3 k0).1.l (r := 66) rfl) (by omega) (by omega) (fun v2 ev2 => ?_)
  refine gw_le (fun h9_3 => ?_) (fun h9_3 => ?_)
  ·
    refine gw_gRa 66 ((h.on3 k0).1.c (r := 65) rfl) ((h.on3 k0).1.r (by decide)) ?_
    have n4 : ((1 : Int32) + a1).toInt = (1 : Int32).toInt + a1.toInt := gx_add (by omega) (by omega)
    refine gw_aI (i := ((1 : Int32) + a1)) ((h.on3 k0).1.t (r := 66) rfl) ((h.on3 k0).1.l (r := 66) rfl) (by omega) (by omega) (fun v5 ev5 => ?_)
    refine gw_le (fun h56_6 => ?_) (fun h56_6 => ?_)
    ·
      refine gw_gRa 66 ((h.on3 k0).1.c (r := 65) rfl) ((h.on3 k0).1.r (by decide)) ?_
      refine gw_gRa 66 ((h.on3 k0).1.c (r := 65) rfl) ((h.on3 k0).1.r (by decide)) ?_
      have n7 : ((11 : Int32) + a1).toInt = (11 : Int32).toInt + a1.toInt := gx_add (by omega) (by omega)
      refine gw_aI (i := ((11 : Int32) + a1)) ((h.on3 k0).1.t (r := 66) rfl) ((h.on3 k0).1.l (r := 66) rfl) (by omega) (by omega) (fun v8 ev8 => ?_)
      refine gw_bI (s_X12_above  ) (fun x9 m9 z9 => ?_)
      replace z9 := z9.symm
      subst z9
      have n10 : ((11 : Int32) + a1).toInt = (11 : Int32).toInt + a1.toInt := gx_add (by omega) (by omega)
      refine gw_sI (i := ((11 : Int32) + a1)) ((h.on3 k0).1.t (r := 66) rfl) ((h.on3 k0).1.l (r := 66) rfl) (by omega) (by omega) (fun m11 em11 => ?_)
      have km11 := k0.ws em11 (by unfold A3; omega)
      exact gw_some (gq_V km11)
    ·
      refine gw_if ((h.on3 k0).1.t (r := 65) rfl) ?_
      refine gw_bI (s_X12_chewsOf (h.on3 k0)  (by omega)) (fun x12 m12 z12 => ?_)
      replace z12 := z12.symm
      subst z12
      refine gw_gRa 66 ((h.on3 k0).1.c (r := 65) rfl) ((h.on3 k0).1.r (by decide)) ?_
      refine gw_gRa 66 ((h.on3 k0).1.c (r := 65) rfl) ((h.on3 k0).1.r (by decide)) ?_
      have n13 : ((11 : Int32) + a1).toInt = (11 : Int32).toInt + a1.toInt := gx_add (by omega) (by omega)
      refine gw_aI (i := ((11 : Int32) + a1)) ((h.on3 k0).1.t (r := 66) rfl) ((h.on3 k0).1.l (r := 66) rfl) (by omega) (by omega) (fun v14 ev14 => ?_)
      refine gw_if ((h.on3 k0).1.t (r := 65) rfl) ?_
      refine gw_bI (s_X12_tiresOf (h.on3 k0)  (by omega)) (fun x15 m15 z15 => ?_)
      replace z15 := z15.symm
      subst z15
      refine gw_bI (s_X12_within  ) (fun x16 m16 z16 => ?_)
      replace z16 := z16.symm
      subst z16
      have n17 : ((11 : Int32) + a1).toInt = (11 : Int32).toInt + a1.toInt := gx_add (by omega) (by omega)
      refine gw_sI (i := ((11 : Int32) + a1)) ((h.on3 k0).1.t (r := 66) rfl) ((h.on3 k0).1.l (r := 66) rfl) (by omega) (by omega) (fun m18 em18 => ?_)
      have km18 := k0.ws em18 (by unfold A3; omega)
      refine gw_gRa 66 ((h.on3 km18).1.c (r := 65) rfl) ((h.on3 km18).1.r (by decide)) ?_
      refine gw_gRa 66 ((h.on3 km18).1.c (r := 65) rfl) ((h.on3 km18).1.r (by decide)) ?_
      have n19 : ((6 : Int32) + a1).toInt = (6 : Int32).toInt + a1.toInt := gx_add (by omega) (by omega)
      refine gw_aI (i := ((6 : Int32) + a1)) ((h.on3 km18).1.t (r := 66) rfl) ((h.on3 km18).1.l (r := 66) rfl) (by omega) (by omega) (fun v20 ev20 => ?_)
      refine gw_bI (s_X12_above  ) (fun x21 m21 z21 => ?_)
      replace z21 := z21.symm
      subst z21
      have n22 : ((6 : Int32) + a1).toInt = (6 : Int32).toInt + a1.toInt := gx_add (by omega) (by omega)
      refine gw_sI (i := ((6 : Int32) + a1)) ((h.on3 km18).1.t (r := 66) rfl) ((h.on3 km18).1.l (r := 66) rfl) (by omega) (by omega) (fun m23 em23 => ?_)
      have km23 := km18.ws em23 (by unfold A3; omega)
      exact gw_some (gq_V km23)
  ·
    refine gw_gRa 66 ((h.on3 k0).1.c (r := 65) rfl) ((h.on3 k0).1.r (by decide)) ?_
    refine gw_gRa 66 ((h.on3 k0).1.c (r := 65) rfl) ((h.on3 k0).1.r (by decide)) ?_
    have n24 : ((16 : Int32) + a1).toInt = (16 : Int32).toInt + a1.toInt := gx_add (by omega) (by omega)
    refine gw_aI (i := ((16 : Int32) + a1)) ((h.on3 k0).1.t (r := 66) rfl) ((h.on3 k0).1.l (r := 66) rfl) (by omega) (by omega) (fun v25 ev25 => ?_)
    refine gw_gRa 66 ((h.on3 k0).1.c (r := 65) rfl) ((h.on3 k0).1.r (by decide)) ?_
    have n26 : ((38 : Int32) + a1).toInt = (38 : Int32).toInt + a1.toInt := gx_add (by omega) (by omega)
    refine gw_aI (i := ((38 : Int32) + a1)) ((h.on3 k0).1.t (r := 66) rfl) ((h.on3 k0).1.l (r := 66) rfl) (by omega) (by omega) (fun v27 ev27 => ?_)
    refine gw_bI (s_X12_above  ) (fun x28 m28 z28 => ?_)
    replace z28 := z28.symm
    subst z28
    have n29 : ((16 : Int32) + a1).toInt = (16 : Int32).toInt + a1.toInt := gx_add (by omega) (by omega)
    refine gw_sI (i := ((16 : Int32) + a1)) ((h.on3 k0).1.t (r := 66) rfl) ((h.on3 k0).1.l (r := 66) rfl) (by omega) (by omega) (fun m30 em30 => ?_)
    have km30 := k0.ws em30 (by unfold A3; omega)
    exact gw_some (gq_V km30)
set_option maxHeartbeats 1000000 in
theorem n_X12_goesAlone {μ : gm_M} (h : MI μ) {a1 : Int32} (q0 : 0 ≤ a1.toInt ∧ a1.toInt < 5) : gwV (f_X12_goesAlone 65 a1 μ) (fun m => kn A1 μ m) := by
  refine gwV_of ?_
  unfold f_X12_goesAlone
  have l0 : (0 : Int32).toInt = 0 := rfl
  have l1 : (1 : Int32).toInt = 1 := rfl
  have k0 := kn.refl A1 μ
  refine gw_if ((h.on1 k0).1.t (r := 65) rfl) ?_
  refine gw_bV (n_X12_goesFor (h.on1 k0)  (by omega)) (fun m1 g1 => ?_)
  have kk1 := k0.trans g1.w31
  refine gw_gRa 66 ((h.on1 kk1).1.c (r := 65) rfl) ((h.on1 kk1).1.r (by decide)) ?_
  refine gw_aI (i := (0 : Int32)) ((h.on1 kk1).1.t (r := 66) rfl) ((h.on1 kk1).1.l (r := 66) rfl) (by omega) (by omega) (fun v2 ev2 => ?_)
  refine gw_sI (i := (0 : Int32)) ((h.on1 kk1).1.t (r := 66) rfl) ((h.on1 kk1).1.l (r := 66) rfl) (by omega) (by omega) (fun m3 em3 => ?_)
  have km3 := kk1.ws em3 (by unfold A1; omega)
  exact gw_some (gq_V km3)
set_option maxHeartbeats 1000000 in
theorem n_X12_goes {μ : gm_M} (h : MI μ)   : gwV (f_X12_goes 65 μ) (fun m => kn A1 μ m ∧ m.2.1 66 0 = μ.2.1 66 0 + 1) := by
  refine gwV_of ?_
  unfold f_X12_goes
  have l0 : (0 : Int32).toInt = 0 := rfl
  have l1 : (1 : Int32).toInt = 1 := rfl
  have l26 : (26 : Int32).toInt = 26 := rfl
  have k0 := kn.refl A1 μ
  refine gw_loop (fun s1 => kn A1 μ s1.2 ∧ ((0 ≤ s1.1.toInt ∧ s1.1.toInt ≤ 5) ∧ s1.2.2.1 66 0 = μ.2.1 66 0)) (fun s1 => (5 - s1.1.toInt)) (fun s1 ⟨k2, u3⟩ => ?_) 5000 ((0 : Int32), μ) ⟨k0, (by show (0 ≤ (0 : Int32).toInt ∧ (0 : Int32).toInt ≤ 5) ∧ μ.2.1 66 0 = μ.2.1 66 0; exact ⟨by omega, rfl⟩)⟩ (by show (5 - (0 : Int32).toInt) < ((5000 : Nat) : Int); omega) (by show 0 ≤ (5 - (0 : Int32).toInt); omega)
  obtain ⟨uu1, uu2⟩ := u3
  refine gw_gRa 66 ((h.on1 k2).1.c (r := 65) rfl) ((h.on1 k2).1.r (by decide)) ?_
  refine gw_aI (i := (26 : Int32)) ((h.on1 k2).1.t (r := 66) rfl) ((h.on1 k2).1.l (r := 66) rfl) (by omega) (by omega) (fun v4 ev4 => ?_)
  have bv4 := (h.on1 k2).n26
  have cv4 : v4 = s1.2.2.1 66 26 := ev4
  have dv4 : v4.toInt = (s1.2.2.1 66 26).toInt := by rw [cv4]
  have yv4 : v4.toInt = (μ.2.1 66 26).toInt := by rw [dv4, k2.2.2.2.1 26 (by first | exact fun q => q | (unfold A1; omega))]
  refine gw_le (fun h10_5 => ?_) (fun h10_5 => ?_)
  ·
    refine gw_gRa 66 ((h.on1 k2).1.c (r := 65) rfl) ((h.on1 k2).1.r (by decide)) ?_
    refine gw_aI (i := (0 : Int32)) ((h.on1 k2).1.t (r := 66) rfl) ((h.on1 k2).1.l (r := 66) rfl) (by omega) (by omega) (fun v6 ev6 => ?_)
    have ev0 := ev6
    refine gw_sI (i := (0 : Int32)) ((h.on1 k2).1.t (r := 66) rfl) ((h.on1 k2).1.l (r := 66) rfl) (by omega) (by omega) (fun m7 em7 => ?_)
    have km7 := k2.ws em7 (by unfold A1; omega)
    have VAL : m7.2.1 66 0 = μ.2.1 66 0 + 1 := by
      have q : m7.2.1 66 0 = (v6 + (1 : Int32)) := by rw [em7]; show gm_u s1.2.2.1 66 0 (v6 + (1 : Int32)) 66 0 = (v6 + (1 : Int32)); exact gu_eq
      rw [q, ev0]; exact congrArg (· + (1 : Int32)) uu2
    exact gw_some (gs_inr (gq_V ⟨km7, by exact VAL⟩))
  ·
    refine gw_if ((h.on1 k2).1.t (r := 65) rfl) ?_
    refine gw_bV (n_X12_goesFor (h.on1 k2)  (by omega)) (fun m8 g8 => ?_)
    have kk8 := k2.trans g8.w31
    have z0 : m8.2.1 66 0 = μ.2.1 66 0 := (g8.2.2.2.1 0 (by unfold A3; omega)).trans uu2
    have n9 : (s1.1 + (1 : Int32)).toInt = s1.1.toInt + (1 : Int32).toInt := gx_add (by omega) (by omega)
    exact gw_some (gs_inl ⟨kk8, (by show (0 ≤ (s1.1 + (1 : Int32)).toInt ∧ (s1.1 + (1 : Int32)).toInt ≤ 5) ∧ m8.2.1 66 0 = μ.2.1 66 0; exact ⟨by omega, z0⟩)⟩ (by show (5 - (s1.1 + (1 : Int32)).toInt) < (5 - s1.1.toInt); omega) (by show 0 ≤ (5 - (s1.1 + (1 : Int32)).toInt); omega))
end
section
/-! when, soon, pieces -/
def wh (H : Nat → Int32) : Nat → Int32 × Int32
  | 0 => (-1, 0)
  | k + 1 => if H k ≤ (wh H k).1 then wh H k else (H k, Int32.ofNat k)
theorem wh_eq {H G : Nat → Int32} : ∀ n : Nat, (∀ k : Nat, k < n → H k = G k) → wh H n = wh G n
  | 0, _ => rfl
  | n + 1, h => by
    show (if H n ≤ (wh H n).1 then wh H n else (H n, Int32.ofNat n)) = if G n ≤ (wh G n).1 then wh G n else (G n, Int32.ofNat n)
    rw [wh_eq n (fun k hk => h k (by omega)), h n (by omega)]
section
variable {w sw : Int32} {Q : List (List Int32 × Int32)} {μ : gm_M} {c : Nat}
theorem w_holds2 (h : MW w sw Q μ) (hc : c < 5) : gwI (f_X12_holdsOf 65 (Int32.ofNat c) μ) (fun x m => kn A0 μ m ∧ x = cHold w Q (kR (μ.2.1 66) c) (μ.2.1 66 0)) := by
  have oc := ofn (k := c) (by omega)
  exact gwI_mono (gwI_and (w_holds h hc) (n_X12_holdsOf h.1 (a1 := Int32.ofNat c) ⟨by omega, by omega⟩)) (fun x m ⟨a, b⟩ => ⟨b, a.2⟩)
theorem w_alone (h : MW w sw Q μ) (hc : c < 5) (hm : 0 ≤ (μ.2.1 66 0).toInt) : gwV (f_X12_goesAlone 65 (Int32.ofNat c) μ) (fun m => kn A1 μ m ∧ kR (m.2.1 66) c = cGo (kR (μ.2.1 66) c) (μ.2.1 66 0) ∧ m.2.1 66 0 = μ.2.1 66 0 + 1) := by
  have oc := ofn (k := c) (by omega)
  have l0 : (0 : Int32).toInt = 0 := rfl
  refine gwV_of ?_
  unfold f_X12_goesAlone
  refine gw_if (h.1.1.t (r := 65) rfl) ?_
  refine gw_bV (gwV_and (w_goesFor h hc hm) (n_X12_goesFor h.1 (a1 := Int32.ofNat c) ⟨by omega, by omega⟩)) (fun m ⟨⟨_, k1, _⟩, g⟩ => ?_)
  have hM := MI.on3 h.1 g
  have e0 : m.2.1 66 0 = μ.2.1 66 0 := g.2.2.2.1 0 (by unfold A3; omega)
  refine gw_gRa 66 (hM.1.c (r := 65) rfl) (hM.1.r (by decide)) ?_
  refine gw_aIw 0 (hM.1.t (r := 66) rfl) (hM.1.l (r := 66) rfl) l0 (by omega) ?_
  refine gw_sIw 0 (hM.1.t (r := 66) rfl) (hM.1.l (r := 66) rfl) l0 (by omega) ?_
  refine gw_some (gq_V ⟨(g.w31).ws rfl (by unfold A1; omega), ?_, by rw [wI_e, e0]⟩)
  rw [kR_x (σ := m.2.1 66) hc (fun i hi => wI_n _ _ _ _ (by omega)), k1]
set_option maxHeartbeats 4000000 in
theorem v_when (h : CW w Q μ) (hr : RK (kC μ 63)) (hm : 0 ≤ (μ.2.1 15 0).toInt ∧ (μ.2.1 15 0).toInt ≤ 9999) {b : Int32} : gwI (f_X11_trialWhen 1 b μ) (fun x m => kc μ m ∧ x = if b ≠ 0 then (wh (fun i => cHold w Q (cGoN i (kC μ 63) (μ.2.1 15 0)) (μ.2.1 15 0 + Int32.ofNat i)) 61).1 else (wh (fun i => cHold w Q (cGoN i (kC μ 63) (μ.2.1 15 0)) (μ.2.1 15 0 + Int32.ofNat i)) 61).2) := by
  have l0 : (0 : Int32).toInt = 0 := rfl
  have l1 : (1 : Int32).toInt = 1 := rfl
  have l60 : (60 : Int32).toInt = 60 := rfl
  refine gwI_of ?_
  unfold f_X11_trialWhen
  generalize hH : (fun i => cHold w Q (cGoN i (kC μ 63) (μ.2.1 15 0)) (μ.2.1 15 0 + Int32.ofNat i)) = H
  refine gw_loop (fun s => kc μ s.2.2.2 ∧ (0 ≤ s.2.2.1.toInt ∧ s.2.2.1.toInt ≤ 61) ∧ kC s.2.2.2 63 = cGoN s.2.2.1.toInt.toNat (kC μ 63) (μ.2.1 15 0) ∧ (s.1, s.2.1) = wh H s.2.2.1.toInt.toNat) (fun s => 100 - s.2.2.1.toInt) (fun s ⟨k2, p1, p3, p2⟩ => ?_) 5000 ((-1 : Int32), (0 : Int32), (0 : Int32), μ) ⟨kc.refl μ, ⟨by show 0 ≤ (0 : Int32).toInt; omega, by show (0 : Int32).toInt ≤ 61; omega⟩, rfl, rfl⟩ (by show 100 - (0 : Int32).toInt < ((5000 : Nat) : Int); omega) (by show 0 ≤ 100 - (0 : Int32).toInt; omega)
  obtain ⟨i, hi, ei⟩ : ∃ i : Nat, i ≤ 61 ∧ s.2.2.1 = Int32.ofNat i := ⟨s.2.2.1.toInt.toNat, by omega, (gx_of p1.1).symm⟩
  have oi := ofn (k := i) (by omega)
  have hS : s.2.2.1.toInt = i := by rw [ei]; exact oi
  rw [show s.2.2.1.toInt.toNat = i by omega] at p2 p3
  have hw := h.kc k2
  have hg := hw.1.1
  have e0 : s.2.2.2.2.1 15 0 = μ.2.1 15 0 := by rw [k2.row (show (15 : Nat) ≠ 1 ∧ 15 ≠ 5 ∧ 15 ≠ 6 ∧ 15 ≠ 7 ∧ 15 ≠ 63 ∧ 15 ≠ 64 by decide)]
  have mi := mi_add (mi := μ.2.1 15 0) (n := i) ⟨hm.1, by omega⟩ (by omega)
  refine gw_lt (fun g => ?_) (fun g => ?_)
  · have e61 : i = 61 := by omega
    subst e61
    refine gw_ite (fun q => ?_) (fun q => ?_)
    · exact gw_some (gs_inr (gq_I ⟨k2, by rw [if_pos q, ← p2]⟩))
    · exact gw_some (gs_inr (gq_I ⟨k2, by rw [if_neg q, ← p2]⟩))
  · rw [ei]
    refine gw_gRa 63 (hg.c (r := 1) rfl) (hg.r (by decide)) ?_
    refine gw_gRa 15 (hg.c (r := 1) rfl) (hg.r (by decide)) ?_
    refine gw_gR (hg.c (r := 15) rfl) (fun q eq => ?_)
    subst eq
    refine gw_gRa 15 (hg.c (r := 1) rfl) (hg.r (by decide)) ?_
    refine gw_gIw (hg.c (r := 15) rfl) ?_
    refine gw_if (ict.t hg (Or.inr rfl)) ?_
    refine gw_bI (v_holds hw (Or.inr rfl) _) (fun x m ⟨ex, em⟩ => ?_)
    rw [p3, e0] at ex
    have hx : x = H i := by rw [ex, ← hH]
    have q2 : wh H i = (s.1, s.2.1) := p2.symm
    have st : wh H (i + 1) = if H i ≤ (wh H i).1 then wh H i else (H i, Int32.ofNat i) := rfl
    rw [q2, ← hx] at st
    have nx : (Int32.ofNat i + (1 : Int32)).toInt = (Int32.ofNat i).toInt + (1 : Int32).toInt := gx_add (by omega) (by omega)
    refine gw_j (fun q => q = wh H (i + 1)) (fun q eq => ?_) (fun j hj => ?_)
    · rw [em]
      refine gw_gRa 63 (hg.c (r := 1) rfl) (hg.r (by decide)) ?_
      refine gw_gRa 15 (hg.c (r := 1) rfl) (hg.r (by decide)) ?_
      refine gw_gIw (hg.c (r := 15) rfl) ?_
      refine gw_if (ict.t hg (Or.inr rfl)) ?_
      refine gw_bV (v_pass hw (Or.inr rfl) (by rw [e0]; omega) (by rw [p3]; exact hr.goN ⟨hm.1, by omega⟩ i (by omega))) (fun m14 ⟨g14, k14, _⟩ => ?_)
      rw [p3, e0] at k14
      refine gw_some (gs_inl ⟨k2.ch g14, ⟨by show 0 ≤ (Int32.ofNat i + (1 : Int32)).toInt; omega, by show (Int32.ofNat i + (1 : Int32)).toInt ≤ 61; omega⟩, ?_, ?_⟩ (by show 100 - (Int32.ofNat i + (1 : Int32)).toInt < 100 - s.2.2.1.toInt; omega) (by show 0 ≤ 100 - (Int32.ofNat i + (1 : Int32)).toInt; omega))
      · show kC m14 63 = cGoN (Int32.ofNat i + (1 : Int32)).toInt.toNat _ _
        rw [show (Int32.ofNat i + (1 : Int32)).toInt.toNat = i + 1 by omega, k14]
        rfl
      · show (q.1, q.2) = wh H (Int32.ofNat i + (1 : Int32)).toInt.toNat
        rw [show (Int32.ofNat i + (1 : Int32)).toInt.toNat = i + 1 by omega]
        exact eq
    · refine gw_ite (fun g2 => hj _ ?_) (fun g2 => hj _ ?_)
      · rw [st, if_pos g2]
      · rw [st, if_neg g2]
set_option maxHeartbeats 4000000 in
theorem w_when (h : MW w sw Q μ) (hc : c < 5) (hm : 0 ≤ (μ.2.1 66 0).toInt ∧ (μ.2.1 66 0).toInt ≤ 9999) : gwV (f_X12_looksForWhen 65 (Int32.ofNat c) μ) (fun m => (km A1 μ m ∧ rs m) ∧ m.2.1 65 12 = (wh (fun i => cHold w Q (cGoN i (kR (μ.2.1 66) c) (μ.2.1 66 0)) (μ.2.1 66 0 + Int32.ofNat i)) 61).2 ∧ m.2.1 65 13 = (wh (fun i => cHold w Q (cGoN i (kR (μ.2.1 66) c) (μ.2.1 66 0)) (μ.2.1 66 0 + Int32.ofNat i)) 61).1) := by
  have l0 : (0 : Int32).toInt = 0 := rfl
  have l1 : (1 : Int32).toInt = 1 := rfl
  have l60 : (60 : Int32).toInt = 60 := rfl
  have hg := h.1.1
  refine gwV_of ?_
  unfold f_X12_looksForWhen
  generalize hH : (fun i => cHold w Q (cGoN i (kR (μ.2.1 66) c) (μ.2.1 66 0)) (μ.2.1 66 0 + Int32.ofNat i)) = H
  refine gw_pIw (hg.c (r := 65) rfl) ?_
  refine gw_pIw (hg.c (r := 65) rfl) ?_
  have g0 : km A1 μ (wI (wI μ 65 12 0) 65 13 (-1)) := ((km.refl A1 μ).wf rfl (by decide)).wf rfl (by decide)
  have e12 : (wI (wI μ 65 12 0) 65 13 (-1)).2.1 65 12 = 0 := by rw [wI_n _ _ _ _ (by decide), wI_e]
  have e13 : (wI (wI μ 65 12 0) 65 13 (-1)).2.1 65 13 = -1 := wI_e _ _ _ _
  have r66 : (wI (wI μ 65 12 0) 65 13 (-1)).2.1 66 = μ.2.1 66 := by rw [wI_o _ _ _ _ (by decide), wI_o _ _ _ _ (by decide)]
  generalize wI (wI μ 65 12 0) 65 13 (-1) = M at *
  refine gw_loop (fun s => km A1 μ s.2 ∧ (0 ≤ s.1.toInt ∧ s.1.toInt ≤ 61) ∧ kR (s.2.2.1 66) c = cGoN s.1.toInt.toNat (kR (μ.2.1 66) c) (μ.2.1 66 0) ∧ s.2.2.1 66 0 = μ.2.1 66 0 + Int32.ofNat s.1.toInt.toNat ∧ (s.2.2.1 65 13, s.2.2.1 65 12) = wh H s.1.toInt.toNat) (fun s => 100 - s.1.toInt) (fun s ⟨k2, p1, p3, p4, p2⟩ => ?_) 5000 ((0 : Int32), M) ⟨g0, ⟨by show 0 ≤ (0 : Int32).toInt; omega, by show (0 : Int32).toInt ≤ 61; omega⟩, by show kR (M.2.1 66) c = _; rw [r66]; rfl, by show M.2.1 66 0 = _; rw [r66]; exact (add0 _).symm, by show (M.2.1 65 13, M.2.1 65 12) = _; rw [e12, e13]; rfl⟩ (by show 100 - (0 : Int32).toInt < ((5000 : Nat) : Int); omega) (by show 0 ≤ 100 - (0 : Int32).toInt; omega)
  obtain ⟨i, hi, ei⟩ : ∃ i : Nat, i ≤ 61 ∧ s.1 = Int32.ofNat i := ⟨s.1.toInt.toNat, by omega, (gx_of p1.1).symm⟩
  have oi := ofn (k := i) (by omega)
  have hS : s.1.toInt = i := by rw [ei]; exact oi
  rw [show s.1.toInt.toNat = i by omega] at p2 p3 p4
  have hw := h.k1 k2
  have hgs := hw.1.1
  have mi := mi_add (mi := μ.2.1 66 0) (n := i) ⟨hm.1, by omega⟩ (by omega)
  have mi1 := mi_add (mi := μ.2.1 66 0) (n := i + 1) ⟨hm.1, by omega⟩ (by omega)
  refine gw_lt (fun g => ?_) (fun g => ?_)
  · have e61 : i = 61 := by omega
    subst e61
    refine gw_if (hgs.t (r := 65) rfl) ?_
    refine gw_bV (n_X12_goesBack hw.1) (fun m4 ⟨k4, r4⟩ => ?_)
    have r65 : m4.2.1 65 = s.2.2.1 65 := k4.2.2.1 65 (by decide) (by decide) (by decide)
    exact gw_some (gs_inr (gq_V ⟨⟨k2.trans k4.old, r4⟩, by rw [r65, ← p2], by rw [r65, ← p2]⟩))
  · rw [ei]
    refine gw_if (hgs.t (r := 65) rfl) ?_
    refine gw_bI (w_holds2 hw hc) (fun x m6 ⟨k6, ex⟩ => ?_)
    rw [p3, p4] at ex
    have hx : x = H i := by rw [ex, ← hH]
    have st : wh H (i + 1) = if H i ≤ (wh H i).1 then wh H i else (H i, Int32.ofNat i) := rfl
    rw [← p2, ← hx] at st
    have r6 : m6.2.1 65 = s.2.2.1 65 := k6.2.2.1 65 (by decide) (by decide) (by decide)
    have c6 : m6.2.1 66 = s.2.2.1 66 := funext fun k => k6.2.2.2.1 k (fun q => q)
    have hw6 := hw.k0 k6.old
    have hg6 := hw6.1.1
    refine gw_gIw (hg6.c (r := 65) rfl) ?_
    rw [r6]
    refine gw_j (fun q => q = (wh H (i + 1)).2) (fun q eq => ?_) (fun j hj => ?_)
    · refine gw_pIw (hg6.c (r := 65) rfl) ?_
      refine gw_gIw (hg6.c (r := 65) rfl) ?_
      rw [wI_n _ _ _ _ (show (13 : Nat) ≠ 12 by decide), r6]
      refine gw_j (fun q => q = (wh H (i + 1)).1) (fun q1 eq1 => ?_) (fun j hj => ?_)
      · refine gw_pIw (hg6.c (r := 65) rfl) ?_
        have f15 : km A1 μ (wI (wI m6 65 12 q) 65 13 q1) := ((k2.trans k6.old.w01).wf rfl (by decide)).wf rfl (by decide)
        have a12 : (wI (wI m6 65 12 q) 65 13 q1).2.1 65 12 = q := by rw [wI_n _ _ _ _ (by decide), wI_e]
        have a13 : (wI (wI m6 65 12 q) 65 13 q1).2.1 65 13 = q1 := wI_e _ _ _ _
        have a66 : (wI (wI m6 65 12 q) 65 13 q1).2.1 66 = s.2.2.1 66 := by rw [wI_o _ _ _ _ (by decide), wI_o _ _ _ _ (by decide), c6]
        generalize wI (wI m6 65 12 q) 65 13 q1 = m15 at *
        have hw15 := h.k1 f15
        refine gw_if (hw15.1.1.t (r := 65) rfl) ?_
        refine gw_bV (w_alone hw15 hc (by rw [a66, p4]; omega)) (fun m16 ⟨k16, e16, z16⟩ => ?_)
        rw [a66, p3, p4] at e16
        rw [a66, p4] at z16
        have r16 : m16.2.1 65 = m15.2.1 65 := k16.2.2.1 65 (by decide) (by decide) (by decide)
        have nx : (Int32.ofNat i + (1 : Int32)).toInt = (Int32.ofNat i).toInt + (1 : Int32).toInt := gx_add (by omega) (by omega)
        refine gw_some (gs_inl ⟨f15.trans k16.old, ⟨by show 0 ≤ (Int32.ofNat i + (1 : Int32)).toInt; omega, by show (Int32.ofNat i + (1 : Int32)).toInt ≤ 61; omega⟩, ?_, ?_, ?_⟩ (by show 100 - (Int32.ofNat i + (1 : Int32)).toInt < 100 - s.1.toInt; omega) (by show 0 ≤ 100 - (Int32.ofNat i + (1 : Int32)).toInt; omega))
        · show kR (m16.2.1 66) c = cGoN (Int32.ofNat i + (1 : Int32)).toInt.toNat _ _
          rw [show (Int32.ofNat i + (1 : Int32)).toInt.toNat = i + 1 by omega, e16]
          rfl
        · show m16.2.1 66 0 = μ.2.1 66 0 + Int32.ofNat (Int32.ofNat i + (1 : Int32)).toInt.toNat
          rw [show (Int32.ofNat i + (1 : Int32)).toInt.toNat = i + 1 by omega, z16]
          apply Int32.toInt_inj.mp
          rw [gx_add (by omega) (by omega)]
          omega
        · show (m16.2.1 65 13, m16.2.1 65 12) = wh H (Int32.ofNat i + (1 : Int32)).toInt.toNat
          rw [show (Int32.ofNat i + (1 : Int32)).toInt.toNat = i + 1 by omega, r16, a12, a13, eq, eq1]
      · refine gw_ite (fun g2 => ?_) (fun g2 => hj _ ?_)
        · refine gw_gIw (hg6.c (r := 65) rfl) ?_
          rw [wI_n _ _ _ _ (show (13 : Nat) ≠ 12 by decide), r6]
          exact hj _ (by rw [st, if_pos g2])
        · rw [st, if_neg g2]
    · refine gw_ite (fun g2 => ?_) (fun g2 => hj _ ?_)
      · refine gw_gIw (hg6.c (r := 65) rfl) ?_
        rw [r6]
        exact hj _ (by rw [st, if_pos g2])
      · rw [st, if_neg g2]
end
section
variable {μ : gm_M}
set_option maxHeartbeats 4000000 in
theorem N_when (h : REL μ) {a b : Int32} : PR (f_X11_when 1 a b μ) (f_X12_when 65 a b) := by
  have hg := h.ci.1
  have e26 := h.sz.symm
  obtain ⟨w, sw, Q, ⟨hcw, hmw, -, -⟩, -⟩ := h.ex
  have v2 := h.vs.2.1
  have mn := h.mn
  by_cases hC : isC μ a
  · obtain ⟨c, hc, ea, oc⟩ := hC.at
    subst ea
    by_cases hb : (0 : Int32).toInt ≤ b.toInt ∧ b.toInt ≤ (1 : Int32).toInt
    · refine PR.v h (if b ≠ 0 then (wh (fun i => cHold w Q (cGoN i (kC μ (29 + 2 * c)) (μ.2.1 15 0)) (μ.2.1 15 0 + Int32.ofNat i)) 61).1 else (wh (fun i => cHold w Q (cGoN i (kC μ (29 + 2 * c)) (μ.2.1 15 0)) (μ.2.1 15 0 + Int32.ofNat i)) 61).2) (gwI_of ?_) (fun m hm k => gwI_of ?_)
      · unfold f_X11_when
        refine gw_if (hg.t (r := 1) rfl) ?_
        refine gw_nob h (fun _ => ?_) (fun q => absurd hC q)
        refine gw_ite (fun q => absurd rfl q) (fun _ => ?_)
        refine gw_out (fun _ => ?_) (fun q => absurd hb q)
        refine gw_if rfl ?_
        refine gw_gRa 63 (hg.c (r := 1) rfl) (hg.r (by decide)) ?_
        refine gw_kid hg hc ?_
        refine gw_if (ict.t hg (Or.inr rfl)) ?_
        refine gw_bV (v_copy hcw hc) (fun m9 ⟨k9, e9⟩ => ?_)
        have e0 : m9.2.1 15 0 = μ.2.1 15 0 := by rw [k9.row (show (15 : Nat) ≠ 1 ∧ 15 ≠ 5 ∧ 15 ≠ 6 ∧ 15 ≠ 7 ∧ 15 ≠ 63 ∧ 15 ≠ 64 by decide)]
        refine gw_if ((hcw.kc k9).1.1.t (r := 1) rfl) ?_
        refine gw_bI (v_when (hcw.kc k9) (by rw [e9]; exact h.row hc) (by rw [e0, mn]; exact v2)) (fun x m ⟨k, ex⟩ => ?_)
        rw [e9, e0] at ex
        exact gw_some (gq_I ⟨k9.trans k, ex⟩)
      · have r66 := k.row (show (66 : Nat) ≠ 1 ∧ 66 ≠ 5 ∧ 66 ≠ 6 ∧ 66 ≠ 7 ∧ 66 ≠ 63 ∧ 66 ≠ 64 by decide)
        have hw : MW w sw Q m := ⟨hm.mi, by rw [r66]; exact hmw.2⟩
        unfold f_X12_when
        refine gw_if hm.1.t65 ?_
        refine gw_isc (μ := μ) hm.mi (by rw [r66]; exact e26) (fun _ => ?_) (fun q => absurd hC q)
        refine gw_ite (fun q => absurd q (by decide)) (fun _ => ?_)
        refine gw_inn (fun _ => ?_) (fun q => absurd hb q)
        refine gw_if (by decide) ?_
        refine gw_if hm.1.t65 ?_
        refine gw_bV (s_X12_keeps hm.mi) (fun m5 g5 => ?_)
        have h5 := g5.mw hw
        have r65 : m5.2.1 66 = μ.2.1 66 := (g5.2.2.1 66 (by decide)).trans r66
        refine gw_if (h5.1.1.t (r := 65) rfl) ?_
        refine gw_bV (w_when h5 hc (by rw [r65]; exact v2)) (fun m7 ⟨⟨k7, r7⟩, e12, e13⟩ => ?_)
        rw [r65, ← (h.kk hc).1, ← mn] at e12 e13
        have h7 := h5.k1 k7
        have q7 : qm m m7 := qm.kp g5 k7 r7
        refine gw_ite (fun q => ?_) (fun q => ?_)
        · refine gw_gIw (h7.1.1.c (r := 65) rfl) ?_
          exact gw_some (gq_I ⟨q7, by rw [if_pos q, e13]⟩)
        · refine gw_gIw (h7.1.1.c (r := 65) rfl) ?_
          exact gw_some (gq_I ⟨q7, by rw [if_neg q, e12]⟩)
    · refine PR.u h (-1) (gwI_of ?_) (gwI_of ?_)
      · unfold f_X11_when
        refine gw_if (hg.t (r := 1) rfl) ?_
        refine gw_nob h (fun _ => ?_) (fun q => absurd hC q)
        refine gw_ite (fun q => absurd rfl q) (fun _ => ?_)
        refine gw_out (fun q => absurd q hb) (fun _ => ?_)
        refine gw_ite (fun q => absurd q (by decide)) (fun _ => ?_)
        exact gw_some (gq_I ⟨rfl, rfl⟩)
      · unfold f_X12_when
        refine gw_if h.1.t65 ?_
        refine gw_isc h.mi e26 (fun _ => ?_) (fun q => absurd hC q)
        refine gw_ite (fun q => absurd q (by decide)) (fun _ => ?_)
        refine gw_inn (fun q => absurd q hb) (fun _ => ?_)
        refine gw_ite (fun q => absurd rfl q) (fun _ => ?_)
        exact gw_some (gq_I ⟨qm.refl μ, rfl⟩)
  · refine PR.u h (-1) (gwI_of ?_) (gwI_of ?_)
    · unfold f_X11_when
      refine gw_if (hg.t (r := 1) rfl) ?_
      refine gw_nob h (fun q => absurd q hC) (fun _ => ?_)
      refine gw_if (by decide) ?_
      exact gw_some (gq_I ⟨rfl, rfl⟩)
    · unfold f_X12_when
      refine gw_if h.1.t65 ?_
      refine gw_isc h.mi e26 (fun q => absurd q hC) (fun _ => ?_)
      refine gw_if rfl ?_
      exact gw_some (gq_I ⟨qm.refl μ, rfl⟩)
end
end
section
/-! soon, who -/
def wb (f : Nat → Bool) : Nat → Int32
  | 0 => 0
  | k + 1 => wb f k ||| (if f k = true then (1 : Int32) <<< (Int32.ofNat k &&& 31) else 0)
theorem wb_eq {f g : Nat → Bool} : ∀ n : Nat, (∀ k : Nat, k < n → f k = g k) → wb f n = wb g n
  | 0, _ => rfl
  | n + 1, h => by
    show (wb f n ||| (if f n = true then (1 : Int32) <<< (Int32.ofNat n &&& 31) else 0)) = (wb g n ||| (if g n = true then (1 : Int32) <<< (Int32.ofNat n &&& 31) else 0))
    rw [wb_eq n (fun k hk => h k (by omega)), h n (by omega)]
theorem gl_eq {f g : Nat → Bool} {n : Nat} (h : ∀ k : Nat, k < n → f k = g k) : ∀ k : Nat, k ≤ n → gl f n k = gl g n k
  | 0, _ => rfl
  | k + 1, hk => by
    show (if f (n - (k + 1)) = true then gl f n k else Int32.ofNat (n - (k + 1))) = if g (n - (k + 1)) = true then gl g n k else Int32.ofNat (n - (k + 1))
    rw [gl_eq h k (by omega), h _ (by omega)]
section
variable {μ : gm_M}
set_option maxHeartbeats 4000000 in
theorem N_soon (h : REL μ) {a b : Int32} : PR (f_X11_soon 1 a b μ) (f_X12_soon 65 a b) := by
  have hg := h.ci.1
  have e26 := h.sz.symm
  obtain ⟨w, sw, Q, ⟨hcw, hmw, -, -⟩, -⟩ := h.ex
  have v2 := h.vs.2.1
  have mn := h.mn
  have l0 : (0 : Int32).toInt = 0 := rfl
  have l1 : (1 : Int32).toInt = 1 := rfl
  have l60 : (60 : Int32).toInt = 60 := rfl
  by_cases hC : isC μ a
  · obtain ⟨c, hc, ea, oc⟩ := hC.at
    subst ea
    by_cases hb : (1 : Int32).toInt ≤ b.toInt ∧ b.toInt ≤ (999 : Int32).toInt
    · obtain ⟨H, hH⟩ : ∃ H : Nat → Int32, H = fun i => cHold w Q (cGoN i (kC μ (29 + 2 * c)) (μ.2.1 15 0)) (μ.2.1 15 0 + Int32.ofNat i) := ⟨_, rfl⟩
      obtain ⟨f, hf⟩ : ∃ f : Nat → Bool, f = fun i => decide (H i < b) := ⟨_, rfl⟩
      refine PR.v h (gl f 61 61) (gwI_of ?_) (fun m hm k => gwI_of ?_)
      · unfold f_X11_soon
        refine gw_if (hg.t (r := 1) rfl) ?_
        refine gw_nob h (fun _ => ?_) (fun q => absurd hC q)
        refine gw_if rfl ?_
        refine gw_out (fun _ => ?_) (fun q => absurd hb q)
        refine gw_if rfl ?_
        refine gw_gRa 63 (hg.c (r := 1) rfl) (hg.r (by decide)) ?_
        refine gw_kid hg hc ?_
        refine gw_if (ict.t hg (Or.inr rfl)) ?_
        refine gw_bV (v_copy hcw hc) (fun m9 ⟨k9, e9⟩ => ?_)
        have hr : RK (kC m9 63) := by rw [e9]; exact h.row hc
        refine gw_loop (fun s => kc μ s.2 ∧ (0 ≤ s.1.toInt ∧ s.1.toInt ≤ 61) ∧ kC s.2 63 = cGoN s.1.toInt.toNat (kC μ (29 + 2 * c)) (μ.2.1 15 0) ∧ gl f 61 61 = gl f 61 (61 - s.1.toInt.toNat)) (fun s => 100 - s.1.toInt) (fun s ⟨k2, p1, p3, p2⟩ => ?_) 5000 ((0 : Int32), m9) ⟨k9, ⟨by show 0 ≤ (0 : Int32).toInt; omega, by show (0 : Int32).toInt ≤ 61; omega⟩, e9, rfl⟩ (by show 100 - (0 : Int32).toInt < ((5000 : Nat) : Int); omega) (by show 0 ≤ 100 - (0 : Int32).toInt; omega)
        obtain ⟨i, hi, ei⟩ : ∃ i : Nat, i ≤ 61 ∧ s.1 = Int32.ofNat i := ⟨s.1.toInt.toNat, by omega, (gx_of p1.1).symm⟩
        have oi := ofn (k := i) (by omega)
        have hS : s.1.toInt = i := by rw [ei]; exact oi
        rw [show s.1.toInt.toNat = i by omega] at p2 p3
        have hw := hcw.kc k2
        have hgs := hw.1.1
        have e0 : s.2.2.1 15 0 = μ.2.1 15 0 := by rw [k2.row (show (15 : Nat) ≠ 1 ∧ 15 ≠ 5 ∧ 15 ≠ 6 ∧ 15 ≠ 7 ∧ 15 ≠ 63 ∧ 15 ≠ 64 by decide)]
        have hmi : 0 ≤ (μ.2.1 15 0).toInt ∧ (μ.2.1 15 0).toInt ≤ 9999 := by rw [mn]; exact v2
        have mi := mi_add (mi := μ.2.1 15 0) (n := i) ⟨hmi.1, by omega⟩ (by omega)
        refine gw_lt (fun g => ?_) (fun g => ?_)
        · have e61 : i = 61 := by omega
          subst e61
          exact gw_some (gs_inr (gq_I ⟨k2, p2.symm⟩))
        · rw [gl_s (show i < 61 by omega)] at p2
          rw [ei]
          refine gw_gRa 63 (hgs.c (r := 1) rfl) (hgs.r (by decide)) ?_
          refine gw_gRa 15 (hgs.c (r := 1) rfl) (hgs.r (by decide)) ?_
          refine gw_gR (hgs.c (r := 15) rfl) (fun q eq => ?_)
          subst eq
          refine gw_gRa 15 (hgs.c (r := 1) rfl) (hgs.r (by decide)) ?_
          refine gw_gIw (hgs.c (r := 15) rfl) ?_
          refine gw_if (ict.t hgs (Or.inr rfl)) ?_
          refine gw_bI (v_holds hw (Or.inr rfl) _) (fun x m ⟨ex, em⟩ => ?_)
          rw [p3, e0] at ex
          have hx : x = H i := by rw [ex, hH]
          have hfi : f i = decide (x < b) := by rw [hf, hx]
          rw [em]
          refine gw_ite (fun g2 => ?_) (fun g2 => ?_)
          · rw [if_pos (by rw [hfi]; exact decide_eq_true g2)] at p2
            refine gw_gRa 63 (hgs.c (r := 1) rfl) (hgs.r (by decide)) ?_
            refine gw_gRa 15 (hgs.c (r := 1) rfl) (hgs.r (by decide)) ?_
            refine gw_gIw (hgs.c (r := 15) rfl) ?_
            refine gw_if (ict.t hgs (Or.inr rfl)) ?_
            refine gw_bV (v_pass hw (Or.inr rfl) (by rw [e0]; omega) (by rw [p3, ← e9]; exact hr.goN ⟨hmi.1, by omega⟩ i (by omega))) (fun m14 ⟨g14, k14, _⟩ => ?_)
            rw [p3, e0] at k14
            have nx : (Int32.ofNat i + (1 : Int32)).toInt = (Int32.ofNat i).toInt + (1 : Int32).toInt := gx_add (by omega) (by omega)
            refine gw_some (gs_inl ⟨k2.ch g14, ⟨by show 0 ≤ (Int32.ofNat i + (1 : Int32)).toInt; omega, by show (Int32.ofNat i + (1 : Int32)).toInt ≤ 61; omega⟩, ?_, ?_⟩ (by show 100 - (Int32.ofNat i + (1 : Int32)).toInt < 100 - s.1.toInt; omega) (by show 0 ≤ 100 - (Int32.ofNat i + (1 : Int32)).toInt; omega))
            · show kC m14 63 = cGoN (Int32.ofNat i + (1 : Int32)).toInt.toNat _ _
              rw [show (Int32.ofNat i + (1 : Int32)).toInt.toNat = i + 1 by omega, k14]
              rfl
            · show gl f 61 61 = gl f 61 (61 - (Int32.ofNat i + (1 : Int32)).toInt.toNat)
              rw [show (Int32.ofNat i + (1 : Int32)).toInt.toNat = i + 1 by omega]
              exact p2
          · rw [if_neg (by rw [hfi]; exact fun z => g2 (of_decide_eq_true z))] at p2
            exact gw_some (gs_inr (gq_I ⟨k2, p2.symm⟩))
      · have r66 := k.row (show (66 : Nat) ≠ 1 ∧ 66 ≠ 5 ∧ 66 ≠ 6 ∧ 66 ≠ 7 ∧ 66 ≠ 63 ∧ 66 ≠ 64 by decide)
        have hw : MW w sw Q m := ⟨hm.mi, by rw [r66]; exact hmw.2⟩
        unfold f_X12_soon
        refine gw_if hm.1.t65 ?_
        refine gw_isc (μ := μ) hm.mi (by rw [r66]; exact e26) (fun _ => ?_) (fun q => absurd hC q)
        refine gw_if (by decide) ?_
        refine gw_inn (fun _ => ?_) (fun q => absurd hb q)
        refine gw_if (by decide) ?_
        refine gw_if hm.1.t65 ?_
        refine gw_bV (s_X12_keeps hm.mi) (fun m5 g5 => ?_)
        have h5 := g5.mw hw
        have r65 : m5.2.1 66 = μ.2.1 66 := (g5.2.2.1 66 (by decide)).trans r66
        have k5c : kR (μ.2.1 66) c = kC μ (29 + 2 * c) := (h.kk hc).1.symm
        have m5n : (-5 : Int32).toInt = -5 := rfl
        refine gw_loop (fun s => km A1 m5 s.2.2 ∧ (0 ≤ s.2.1.toInt ∧ s.2.1.toInt ≤ 61) ∧ kR (s.2.2.2.1 66) c = cGoN s.2.1.toInt.toNat (kC μ (29 + 2 * c)) (μ.2.1 15 0) ∧ s.2.2.2.1 66 0 = μ.2.1 15 0 + Int32.ofNat s.2.1.toInt.toNat ∧ ((s.1 = -5 ∧ gl f 61 61 = gl f 61 (61 - s.2.1.toInt.toNat)) ∨ (s.1 ≠ -5 ∧ gl f 61 61 = s.1))) (fun s => 100 - s.2.1.toInt) (fun s ⟨k2, p1, p3, p4, p2⟩ => ?_) 5000 ((-5 : Int32), (0 : Int32), m5) ⟨km.refl A1 m5, ⟨by show 0 ≤ (0 : Int32).toInt; omega, by show (0 : Int32).toInt ≤ 61; omega⟩, by show kR (m5.2.1 66) c = _; rw [r65]; exact k5c, by show m5.2.1 66 0 = _; rw [r65, ← mn]; exact (add0 _).symm, Or.inl ⟨rfl, rfl⟩⟩ (by show 100 - (0 : Int32).toInt < ((5000 : Nat) : Int); omega) (by show 0 ≤ 100 - (0 : Int32).toInt; omega)
        obtain ⟨i, hi, ei⟩ : ∃ i : Nat, i ≤ 61 ∧ s.2.1 = Int32.ofNat i := ⟨s.2.1.toInt.toNat, by omega, (gx_of p1.1).symm⟩
        have oi := ofn (k := i) (by omega)
        have hS : s.2.1.toInt = i := by rw [ei]; exact oi
        rw [show s.2.1.toInt.toNat = i by omega] at p2 p3 p4
        have hws := h5.k1 k2
        have hgs := hws.1.1
        have hmi : 0 ≤ (μ.2.1 15 0).toInt ∧ (μ.2.1 15 0).toInt ≤ 9999 := by rw [mn]; exact v2
        have mi := mi_add (mi := μ.2.1 15 0) (n := i) ⟨hmi.1, by omega⟩ (by omega)
        have mi1 := mi_add (mi := μ.2.1 15 0) (n := i + 1) ⟨hmi.1, by omega⟩ (by omega)
        refine gw_j (fun _ => gl f 61 61 = s.1) (fun _ eg => ?_) (fun j hj => ?_)
        · refine gw_back (m := s.2.2) g5 k2 hws.1 (fun m' q => ?_)
          exact gw_some (gs_inr (gq_I ⟨q, eg.symm⟩))
        · refine gw_lt (fun g => hj _ ?_) (fun g => ?_)
          · have e61 : i = 61 := by omega
            subst e61
            rcases p2 with ⟨q1, q2⟩ | ⟨-, q2⟩
            · rw [q1, q2]; rfl
            · exact q2
          · refine gw_ite (fun g1 => hj _ ?_) (fun g1 => ?_)
            · rcases p2 with ⟨q1, -⟩ | ⟨-, q2⟩
              · exact absurd q1 g1
              · exact q2
            · have q1 : s.1 = -5 := Decidable.not_not.mp g1
              have p5 : gl f 61 61 = gl f 61 (61 - i) := by
                rcases p2 with ⟨-, q2⟩ | ⟨q2, -⟩
                · exact q2
                · exact absurd q1 q2
              rw [gl_s (show i < 61 by omega)] at p5
              refine gw_if (hgs.t (r := 65) rfl) ?_
              refine gw_bI (w_holds hws hc) (fun x m12 ⟨k12, ex⟩ => ?_)
              rw [p3, p4] at ex
              have hx : x = H i := by rw [ex, hH]
              have hfi : f i = decide (x < b) := by rw [hf, hx]
              have h12 := hws.k0 k12
              have c12 : m12.2.1 66 = s.2.2.2.1 66 := k12.row
              refine gw_j (fun q => (q = -5 ∧ gl f 61 61 = gl f 61 (61 - (i + 1))) ∨ (q ≠ -5 ∧ gl f 61 61 = q)) (fun q eq => ?_) (fun jj hjj => ?_)
              · refine gw_if (h12.1.1.t (r := 65) rfl) ?_
                refine gw_bV (w_alone h12 hc (by rw [c12, p4]; omega)) (fun m16 ⟨k16, e16, z16⟩ => ?_)
                rw [c12, p3, p4] at e16
                rw [c12, p4] at z16
                rw [ei]
                have nx : (Int32.ofNat i + (1 : Int32)).toInt = (Int32.ofNat i).toInt + (1 : Int32).toInt := gx_add (by omega) (by omega)
                have ni : (Int32.ofNat i + (1 : Int32)).toInt.toNat = i + 1 := by omega
                refine gw_some (gs_inl ⟨(k2.trans k12.w01).trans k16.old, ⟨by show 0 ≤ (Int32.ofNat i + (1 : Int32)).toInt; omega, by show (Int32.ofNat i + (1 : Int32)).toInt ≤ 61; omega⟩, ?_, ?_, ?_⟩ (by show 100 - (Int32.ofNat i + (1 : Int32)).toInt < 100 - s.2.1.toInt; omega) (by show 0 ≤ 100 - (Int32.ofNat i + (1 : Int32)).toInt; omega))
                · show kR (m16.2.1 66) c = cGoN (Int32.ofNat i + (1 : Int32)).toInt.toNat _ _
                  rw [ni, e16]
                  rfl
                · show m16.2.1 66 0 = μ.2.1 15 0 + Int32.ofNat (Int32.ofNat i + (1 : Int32)).toInt.toNat
                  rw [ni, z16]
                  apply Int32.toInt_inj.mp
                  rw [gx_add (by omega) (by omega)]
                  omega
                · show (q = -5 ∧ gl f 61 61 = gl f 61 (61 - (Int32.ofNat i + (1 : Int32)).toInt.toNat)) ∨ _
                  rw [ni]
                  exact eq
              · refine gw_ite (fun g2 => hjj _ (Or.inl ⟨rfl, ?_⟩)) (fun g2 => hjj _ (Or.inr ⟨?_, ?_⟩))
                · rw [p5, if_pos (by rw [hfi]; exact decide_eq_true g2)]
                · intro z
                  rw [z] at hS
                  omega
                · rw [p5, if_neg (by rw [hfi]; exact fun z => g2 (of_decide_eq_true z)), ei]
    · refine PR.u h (-2) (gwI_of ?_) (gwI_of ?_)
      · unfold f_X11_soon
        refine gw_if (hg.t (r := 1) rfl) ?_
        refine gw_nob h (fun _ => ?_) (fun q => absurd hC q)
        refine gw_if rfl ?_
        refine gw_out (fun q => absurd q hb) (fun _ => ?_)
        refine gw_ite (fun q => absurd q (by decide)) (fun _ => ?_)
        exact gw_some (gq_I ⟨rfl, rfl⟩)
      · unfold f_X12_soon
        refine gw_if h.1.t65 ?_
        refine gw_isc h.mi e26 (fun _ => ?_) (fun q => absurd hC q)
        refine gw_if (by decide) ?_
        refine gw_inn (fun q => absurd q hb) (fun _ => ?_)
        refine gw_ite (fun q => absurd rfl q) (fun _ => ?_)
        exact gw_some (gq_I ⟨qm.refl μ, rfl⟩)
  · refine PR.u h (-1) (gwI_of ?_) (gwI_of ?_)
    · unfold f_X11_soon
      refine gw_if (hg.t (r := 1) rfl) ?_
      refine gw_nob h (fun q => absurd q hC) (fun _ => ?_)
      refine gw_ite (fun q => absurd q (by decide)) (fun _ => ?_)
      exact gw_some (gq_I ⟨rfl, rfl⟩)
    · unfold f_X12_soon
      refine gw_if h.1.t65 ?_
      refine gw_isc h.mi e26 (fun q => absurd q hC) (fun _ => ?_)
      refine gw_ite (fun q => absurd rfl q) (fun _ => ?_)
      exact gw_some (gq_I ⟨qm.refl μ, rfl⟩)
end
end
section
/-! who, pieces -/
section
variable {μ : gm_M}
set_option maxHeartbeats 4000000 in
theorem N_who (h : REL μ) {a b : Int32} : PR (f_X11_who 1 a b μ) (f_X12_who 65 a b) := by
  have hg := h.ci.1
  obtain ⟨w, sw, Q, ⟨hcw, hmw, -, -⟩, -⟩ := h.ex
  have v2 := h.vs.2.1
  have mn := h.mn
  have sz := h.sz
  have n1 := h.ci.n1
  have l0 : (0 : Int32).toInt = 0 := rfl
  have l1 : (1 : Int32).toInt = 1 := rfl
  have l26 : (26 : Int32).toInt = 26 := rfl
  have l40 : (40 : Int32).toInt = 40 := rfl
  by_cases ha : (0 : Int32).toInt ≤ a.toInt ∧ a.toInt ≤ (999 : Int32).toInt
  · by_cases hb : (0 : Int32).toInt ≤ b.toInt ∧ b.toInt ≤ (40 : Int32).toInt
    · obtain ⟨n, n40, rfl⟩ : ∃ n : Nat, n ≤ 40 ∧ b = Int32.ofNat n := ⟨b.toInt.toNat, by omega, (gx_of (by omega)).symm⟩
      have mr : 0 ≤ (μ.2.1 15 0).toInt ∧ (μ.2.1 15 0).toInt ≤ 9999 := by rw [mn]; exact v2
      obtain ⟨f, hf⟩ : ∃ f : Nat → Bool, f = fun k => decide (cHold w Q (cGoN n (kC μ (29 + 2 * k)) (μ.2.1 15 0)) (μ.2.1 15 0 + Int32.ofNat n) = a) := ⟨_, rfl⟩
      refine PR.v h (wb f (μ.2.1 15 1).toInt.toNat) (gwI_of ?_) (fun m hm k => gwI_of ?_)
      · unfold f_X11_who
        refine gw_out (fun _ => ?_) (fun q => absurd ha q)
        refine gw_ite (fun q => absurd rfl q) (fun _ => ?_)
        refine gw_out (fun _ => ?_) (fun q => absurd hb q)
        refine gw_if rfl ?_
        refine gw_loop (fun s => kc μ s.2.2 ∧ (0 ≤ s.2.1.toInt ∧ s.2.1.toInt ≤ (μ.2.1 15 1).toInt) ∧ s.1 = wb f s.2.1.toInt.toNat) (fun s => 100 - s.2.1.toInt) (fun s ⟨k2, p1, p2⟩ => ?_) 5000 ((0 : Int32), (0 : Int32), μ) ⟨kc.refl μ, ⟨by show 0 ≤ (0 : Int32).toInt; omega, by show (0 : Int32).toInt ≤ _; omega⟩, rfl⟩ (by show 100 - (0 : Int32).toInt < ((5000 : Nat) : Int); omega) (by show 0 ≤ 100 - (0 : Int32).toInt; omega)
        obtain ⟨i, hi, ei⟩ : ∃ i : Nat, i ≤ 5 ∧ s.2.1 = Int32.ofNat i := ⟨s.2.1.toInt.toNat, by omega, (gx_of p1.1).symm⟩
        have oi := ofn (k := i) (by omega)
        have hS : s.2.1.toInt = i := by rw [ei]; exact oi
        rw [show s.2.1.toInt.toNat = i by omega] at p2
        have hw := hcw.kc k2
        have hgs := hw.1.1
        have r15 := k2.row (show (15 : Nat) ≠ 1 ∧ 15 ≠ 5 ∧ 15 ≠ 6 ∧ 15 ≠ 7 ∧ 15 ≠ 63 ∧ 15 ≠ 64 by decide)
        refine gw_gRa 15 (hgs.c (r := 1) rfl) (hgs.r (by decide)) ?_
        refine gw_gIw (hgs.c (r := 15) rfl) ?_
        rw [r15]
        refine gw_le (fun g => ?_) (fun g => ?_)
        · refine gw_some (gs_inr (gq_I ⟨k2, ?_⟩))
          rw [p2, show (μ.2.1 15 1).toInt.toNat = i by omega]
        · refine gw_if (hgs.t (r := 1) rfl) ?_
          rw [ei]
          refine gw_bI (v_behind hw (c := i) (by omega) (by rw [k2.K (by omega)]; exact h.row (by omega)) (by rw [r15]; exact mr) (n := n) (by omega)) (fun x m ⟨k6, ex, _⟩ => ?_)
          rw [k2.K (by omega), r15] at ex
          have hfi : f i = decide (x = a) := by rw [hf, ex]
          have nx : (Int32.ofNat i + (1 : Int32)).toInt = (Int32.ofNat i).toInt + (1 : Int32).toInt := gx_add (by omega) (by omega)
          have st : wb f (i + 1) = (wb f i ||| (if f i = true then (1 : Int32) <<< (Int32.ofNat i &&& 31) else 0)) := rfl
          rw [← p2] at st
          refine gw_j (fun q => q = wb f (i + 1)) (fun q eq => ?_) (fun j hj => ?_)
          · refine gw_some (gs_inl ⟨k2.trans k6, ⟨by show 0 ≤ (Int32.ofNat i + (1 : Int32)).toInt; omega, by show (Int32.ofNat i + (1 : Int32)).toInt ≤ _; omega⟩, ?_⟩ (by show 100 - (Int32.ofNat i + (1 : Int32)).toInt < 100 - s.2.1.toInt; omega) (by show 0 ≤ 100 - (Int32.ofNat i + (1 : Int32)).toInt; omega))
            show q = wb f (Int32.ofNat i + (1 : Int32)).toInt.toNat
            rw [show (Int32.ofNat i + (1 : Int32)).toInt.toNat = i + 1 by omega]
            exact eq
          · refine gw_ite (fun g2 => hj _ ?_) (fun g2 => hj _ ?_)
            · rw [st, if_neg (by rw [hfi]; exact fun z => g2 (of_decide_eq_true z)), or0]
            · rw [st, if_pos (by rw [hfi]; exact decide_eq_true (Decidable.not_not.mp g2))]
      · have r66 := k.row (show (66 : Nat) ≠ 1 ∧ 66 ≠ 5 ∧ 66 ≠ 6 ∧ 66 ≠ 7 ∧ 66 ≠ 63 ∧ 66 ≠ 64 by decide)
        have hw : MW w sw Q m := ⟨hm.mi, by rw [r66]; exact hmw.2⟩
        unfold f_X12_who
        refine gw_inn (fun _ => ?_) (fun q => absurd ha q)
        refine gw_ite (fun q => absurd q (by decide)) (fun _ => ?_)
        refine gw_inn (fun _ => ?_) (fun q => absurd hb q)
        refine gw_if (by decide) ?_
        refine gw_kept hw (by rw [r66]; exact v2) (n := n) (by omega) (fun m5 m7 g5 k7 h7 kr f7 c7 => ?_)
        rw [r66] at kr f7 c7
        rw [← sz] at c7
        refine gw_loop (fun s => km A0 m7 s.2.2 ∧ (0 ≤ s.2.1.toInt ∧ s.2.1.toInt ≤ (μ.2.1 15 1).toInt) ∧ s.1 = wb f s.2.1.toInt.toNat) (fun s => 100 - s.2.1.toInt) (fun s ⟨k2, p1, p2⟩ => ?_) 5000 ((0 : Int32), (0 : Int32), m7) ⟨km.refl A0 m7, ⟨by show 0 ≤ (0 : Int32).toInt; omega, by show (0 : Int32).toInt ≤ _; omega⟩, rfl⟩ (by show 100 - (0 : Int32).toInt < ((5000 : Nat) : Int); omega) (by show 0 ≤ 100 - (0 : Int32).toInt; omega)
        obtain ⟨i, hi, ei⟩ : ∃ i : Nat, i ≤ 5 ∧ s.2.1 = Int32.ofNat i := ⟨s.2.1.toInt.toNat, by omega, (gx_of p1.1).symm⟩
        have oi := ofn (k := i) (by omega)
        have hS : s.2.1.toInt = i := by rw [ei]; exact oi
        rw [show s.2.1.toInt.toNat = i by omega] at p2
        have hs := h7.k0 k2
        have hgs := hs.1.1
        have c66 := k2.row
        refine gw_gRa 66 (hgs.c (r := 65) rfl) (hgs.r (by decide)) ?_
        refine gw_aIw 26 (hgs.t (r := 66) rfl) (hgs.l (r := 66) rfl) l26 (by omega) ?_
        rw [c66, c7]
        refine gw_le (fun g => ?_) (fun g => ?_)
        · refine gw_back (m := s.2.2) g5 (k7.trans k2.w01) hs.1 (fun m' q => ?_)
          refine gw_some (gs_inr (gq_I ⟨q, ?_⟩))
          rw [p2, show (μ.2.1 15 1).toInt.toNat = i by omega]
        · refine gw_if (hgs.t (r := 65) rfl) ?_
          rw [ei]
          refine gw_bI (w_holds hs (c := i) (by omega)) (fun x m14 ⟨k6, ex⟩ => ?_)
          rw [c66, kr i (by omega), gN_p (by rw [← sz]; omega), f7, ← (h.kk (show i < 5 by omega)).1, ← mn] at ex
          have hfi : f i = decide (x = a) := by rw [hf, ex]
          have nx : (Int32.ofNat i + (1 : Int32)).toInt = (Int32.ofNat i).toInt + (1 : Int32).toInt := gx_add (by omega) (by omega)
          have st : wb f (i + 1) = (wb f i ||| (if f i = true then (1 : Int32) <<< (Int32.ofNat i &&& 31) else 0)) := rfl
          rw [← p2] at st
          refine gw_j (fun q => s.1 ||| q = wb f (i + 1)) (fun q eq => ?_) (fun j hj => ?_)
          · refine gw_some (gs_inl ⟨k2.trans k6, ⟨by show 0 ≤ (Int32.ofNat i + (1 : Int32)).toInt; omega, by show (Int32.ofNat i + (1 : Int32)).toInt ≤ _; omega⟩, ?_⟩ (by show 100 - (Int32.ofNat i + (1 : Int32)).toInt < 100 - s.2.1.toInt; omega) (by show 0 ≤ 100 - (Int32.ofNat i + (1 : Int32)).toInt; omega))
            show s.1 ||| q = wb f (Int32.ofNat i + (1 : Int32)).toInt.toNat
            rw [show (Int32.ofNat i + (1 : Int32)).toInt.toNat = i + 1 by omega]
            exact eq
          · refine gw_ite (fun g2 => hj _ ?_) (fun g2 => hj _ ?_)
            · rw [st, if_neg (by rw [hfi]; exact fun z => g2 (of_decide_eq_true z))]
            · rw [st, if_pos (by rw [hfi]; exact decide_eq_true (Decidable.not_not.mp g2))]
    · refine PR.u h (-2) (gwI_of ?_) (gwI_of ?_)
      · unfold f_X11_who
        refine gw_out (fun _ => ?_) (fun q => absurd ha q)
        refine gw_ite (fun q => absurd rfl q) (fun _ => ?_)
        refine gw_out (fun q => absurd q hb) (fun _ => ?_)
        refine gw_ite (fun q => absurd q (by decide)) (fun _ => ?_)
        exact gw_some (gq_I ⟨rfl, rfl⟩)
      · unfold f_X12_who
        refine gw_inn (fun _ => ?_) (fun q => absurd ha q)
        refine gw_ite (fun q => absurd q (by decide)) (fun _ => ?_)
        refine gw_inn (fun q => absurd q hb) (fun _ => ?_)
        refine gw_ite (fun q => absurd rfl q) (fun _ => ?_)
        exact gw_some (gq_I ⟨qm.refl μ, rfl⟩)
  · refine PR.u h (-2) (gwI_of ?_) (gwI_of ?_)
    · unfold f_X11_who
      refine gw_out (fun q => absurd q ha) (fun _ => ?_)
      refine gw_if (by decide) ?_
      exact gw_some (gq_I ⟨rfl, rfl⟩)
    · unfold f_X12_who
      refine gw_inn (fun q => absurd q ha) (fun _ => ?_)
      refine gw_if rfl ?_
      exact gw_some (gq_I ⟨qm.refl μ, rfl⟩)
/-! pieces: the column with p pieces -/
def pk (K : Nat → Int32) (sw : Int32) (p : Nat) : Nat → Int32 := kud (kud (kud K 3 (Int32.ofNat p)) 4 (sw * Int32.ofNat p)) 6 0
theorem RK.pkn {K : Nat → Int32} {sw : Int32} {p : Nat} (h : RK K) (hs : 0 ≤ sw.toInt ∧ sw.toInt ≤ 99) (hp : p ≤ 6) : RK (pk K sw p) := by
  have o := ofn (k := p) (by omega)
  have l0 : (0 : Int32).toInt = 0 := rfl
  have e : (sw * Int32.ofNat p).toInt = (p : Int) * sw.toInt := by
    obtain rfl | rfl | rfl | rfl | rfl | rfl | rfl : p = 0 ∨ p = 1 ∨ p = 2 ∨ p = 3 ∨ p = 4 ∨ p = 5 ∨ p = 6 := by omega
    all_goals (rw [gx_mulr _ o (by omega) (by omega)])
  have e2 : 0 ≤ (sw * Int32.ofNat p).toInt ∧ (sw * Int32.ofNat p).toInt ≤ 999 := by
    rw [e]
    obtain rfl | rfl | rfl | rfl | rfl | rfl | rfl : p = 0 ∨ p = 1 ∨ p = 2 ∨ p = 3 ∨ p = 4 ∨ p = 5 ∨ p = 6 := by omega
    all_goals omega
  unfold pk
  exact ((h.u (j := 3) (Or.inr (Or.inl ⟨rfl, by omega, by omega⟩))).u (j := 4) (Or.inr (Or.inr (Or.inl ⟨rfl, e2⟩)))).u (j := 6) (Or.inr (Or.inr (Or.inr (Or.inr (Or.inl ⟨rfl, by omega, by omega⟩)))))
theorem rs.row {m5 M : gm_M} (g5 : kp μ m5) (k : km A1 m5 M) (r : rs M) : M.2.1 66 = μ.2.1 66 := by
  funext j
  have r68 : M.2.1 68 = m5.2.1 68 := k.2.2.1 68 (by decide) (by decide) (by decide) (by decide) (by decide) (by decide) (by decide)
  by_cases hj : j < 26
  · rw [r j hj, r68]; exact g5.2.2.2 j hj
  · rw [k.2.2.2.1 j hj, g5.2.2.1 66 (by decide)]
set_option maxHeartbeats 8000000 in
theorem N_pieces (h : REL μ) {a b : Int32} : PR (f_X11_pieces 1 a b μ) (f_X12_pieces 65 a b) := by
  have hg := h.ci.1
  have e26 := h.sz.symm
  obtain ⟨w, sw, Q, ⟨hcw, hmw, -, esw⟩, -, hsw⟩ := h.ex
  have v2 := h.vs.2.1
  have mn := h.mn
  have l0 : (0 : Int32).toInt = 0 := rfl
  have l1 : (1 : Int32).toInt = 1 := rfl
  have l6 : (6 : Int32).toInt = 6 := rfl
  have mr : 0 ≤ (μ.2.1 15 0).toInt ∧ (μ.2.1 15 0).toInt ≤ 9999 := by rw [mn]; exact v2
  have pq := h.aw.1
  by_cases hC : isC μ a
  · obtain ⟨c, hc, ea, oc⟩ := hC.at
    subst ea
    by_cases hb : (0 : Int32).toInt ≤ b.toInt ∧ b.toInt ≤ (1 : Int32).toInt
    · obtain ⟨K, hK⟩ : ∃ K : Nat → Int32, K = kC μ (29 + 2 * c) := ⟨_, rfl⟩
      have hKr : RK K := by rw [hK]; exact h.row hc
      obtain ⟨G, hG⟩ : ∃ G : Nat → Int32, G = fun p => (wh (fun i => cHold w Q (cGoN i (pk K sw p) (μ.2.1 15 0)) (μ.2.1 15 0 + Int32.ofNat i)) 61).1 := ⟨_, rfl⟩
      refine PR.v h (if b ≠ 0 then (wh G 7).1 else (wh G 7).2) (gwI_of ?_) (fun m hm k => gwI_of ?_)
      · unfold f_X11_pieces
        refine gw_if (hg.t (r := 1) rfl) ?_
        refine gw_nob h (fun _ => ?_) (fun q => absurd hC q)
        refine gw_ite (fun q => absurd rfl q) (fun _ => ?_)
        refine gw_out (fun _ => ?_) (fun q => absurd hb q)
        refine gw_if rfl ?_
        refine gw_loop (fun s => kc μ s.2.2.2 ∧ (0 ≤ s.2.2.1.toInt ∧ s.2.2.1.toInt ≤ 7) ∧ (s.1, s.2.1) = wh G s.2.2.1.toInt.toNat) (fun s => 100 - s.2.2.1.toInt) (fun s ⟨k2, p1, p2⟩ => ?_) 5000 ((-1 : Int32), (0 : Int32), (0 : Int32), μ) ⟨kc.refl μ, ⟨by show 0 ≤ (0 : Int32).toInt; omega, by show (0 : Int32).toInt ≤ 7; omega⟩, rfl⟩ (by show 100 - (0 : Int32).toInt < ((5000 : Nat) : Int); omega) (by show 0 ≤ 100 - (0 : Int32).toInt; omega)
        obtain ⟨p, hp, ep⟩ : ∃ p : Nat, p ≤ 7 ∧ s.2.2.1 = Int32.ofNat p := ⟨s.2.2.1.toInt.toNat, by omega, (gx_of p1.1).symm⟩
        have op := ofn (k := p) (by omega)
        have hS : s.2.2.1.toInt = p := by rw [ep]; exact op
        rw [show s.2.2.1.toInt.toNat = p by omega] at p2
        have hw := hcw.kc k2
        have hgs := hw.1.1
        refine gw_lt (fun g => ?_) (fun g => ?_)
        · have e7 : p = 7 := by omega
          subst e7
          refine gw_ite (fun q => ?_) (fun q => ?_)
          · exact gw_some (gs_inr (gq_I ⟨k2, by rw [if_pos q, ← p2]⟩))
          · exact gw_some (gs_inr (gq_I ⟨k2, by rw [if_neg q, ← p2]⟩))
        · rw [ep]
          refine gw_gRa 63 (hgs.c (r := 1) rfl) (hgs.r (by decide)) ?_
          refine gw_kid hgs hc ?_
          refine gw_if (ict.t hgs (Or.inr rfl)) ?_
          refine gw_bV (v_copy hw hc) (fun m10 ⟨k10, e10⟩ => ?_)
          rw [k2.K hc, ← hK] at e10
          have kk := k2.trans k10
          have h10 := hw.kc k10
          have g10 := h10.1.1
          have t10 := ict.c g10 (Or.inr rfl)
          have q15 : m10.2.2 15 6 = μ.2.2 15 6 := by rw [kk.ref (show (15 : Nat) ≠ 63 by decide)]
          have qs : m10.2.1 (μ.2.2 15 6) 1 = sw := by rw [kk.row (by omega)]; exact esw
          have r15 : m10.2.1 15 = μ.2.1 15 := kk.row (show (15 : Nat) ≠ 1 ∧ 15 ≠ 5 ∧ 15 ≠ 6 ∧ 15 ≠ 7 ∧ 15 ≠ 63 ∧ 15 ≠ 64 by decide)
          refine gw_gRa 63 (g10.c (r := 1) rfl) (g10.r (by decide)) ?_
          refine gw_pIw t10 ?_
          refine gw_gRa 63 (g10.c (r := 1) rfl) (g10.r (by decide)) ?_
          refine gw_gRa 15 (g10.c (r := 1) rfl) (g10.r (by decide)) ?_
          refine gw_gRa (μ.2.2 15 6) (g10.c (r := 15) rfl) q15 ?_
          have tq : [5].contains (gm_tag m10 (μ.2.2 15 6)) = true := by rw [← q15]; exact h10.aw.tc
          refine gw_gIw (show [5].contains (gm_tag (wI m10 63 3 (Int32.ofNat p)) (μ.2.2 15 6)) = true from tq) ?_
          rw [wI_o _ _ _ _ (show μ.2.2 15 6 ≠ 63 by omega), qs]
          refine gw_pIw (show [7].contains (gm_tag (wI m10 63 3 (Int32.ofNat p)) 63) = true from t10) ?_
          refine gw_gRa 63 (g10.c (r := 1) rfl) (g10.r (by decide)) ?_
          refine gw_pIw (show [7].contains (gm_tag (wI (wI m10 63 3 (Int32.ofNat p)) 63 4 (sw * Int32.ofNat p)) 63) = true from t10) ?_
          have kcol : kC (wI (wI (wI m10 63 3 (Int32.ofNat p)) 63 4 (sw * Int32.ofNat p)) 63 6 0) 63 = pk K sw p := by
            rw [kC_w (by decide) (by decide), kC_w (by decide) (by decide), kC_w (by decide) (by decide), e10]; rfl
          have hcw20 : CW w Q (wI (wI (wI m10 63 3 (Int32.ofNat p)) 63 4 (sw * Int32.ofNat p)) 63 6 0) := ((h10.ch (Or.inr rfl) (by decide) _).ch (Or.inr rfl) (by decide) _).ch (Or.inr rfl) (by decide) _
          have k20 : kc μ (wI (wI (wI m10 63 3 (Int32.ofNat p)) 63 4 (sw * Int32.ofNat p)) 63 6 0) := kk.ch ((((chg.refl 63 m10).w rfl (by decide)).w rfl (by decide)).w rfl (by decide))
          have z20 : (wI (wI (wI m10 63 3 (Int32.ofNat p)) 63 4 (sw * Int32.ofNat p)) 63 6 0).2.1 15 = μ.2.1 15 := by rw [wI_o _ _ _ _ (by decide), wI_o _ _ _ _ (by decide), wI_o _ _ _ _ (by decide), r15]
          generalize wI (wI (wI m10 63 3 (Int32.ofNat p)) 63 4 (sw * Int32.ofNat p)) 63 6 0 = m20 at *
          refine gw_if (hcw20.1.1.t (r := 1) rfl) ?_
          refine gw_bI (v_when hcw20 (by rw [kcol]; exact hKr.pkn hsw (by omega)) (by rw [z20]; exact mr) (b := 1)) (fun x m21 ⟨k21, ex⟩ => ?_)
          rw [kcol, z20, if_pos (by decide)] at ex
          have hx : x = G p := by rw [ex, hG]
          have q2 : wh G p = (s.1, s.2.1) := p2.symm
          have st : wh G (p + 1) = if G p ≤ (wh G p).1 then wh G p else (G p, Int32.ofNat p) := rfl
          rw [q2, ← hx] at st
          have nx : (Int32.ofNat p + (1 : Int32)).toInt = (Int32.ofNat p).toInt + (1 : Int32).toInt := gx_add (by omega) (by omega)
          refine gw_j (fun q => q = wh G (p + 1)) (fun q eq => ?_) (fun j hj => ?_)
          · refine gw_some (gs_inl ⟨k20.trans k21, ⟨by show 0 ≤ (Int32.ofNat p + (1 : Int32)).toInt; omega, by show (Int32.ofNat p + (1 : Int32)).toInt ≤ 7; omega⟩, ?_⟩ (by show 100 - (Int32.ofNat p + (1 : Int32)).toInt < 100 - s.2.2.1.toInt; omega) (by show 0 ≤ 100 - (Int32.ofNat p + (1 : Int32)).toInt; omega))
            show (q.1, q.2) = wh G (Int32.ofNat p + (1 : Int32)).toInt.toNat
            rw [show (Int32.ofNat p + (1 : Int32)).toInt.toNat = p + 1 by omega]
            exact eq
          · refine gw_ite (fun g2 => hj _ ?_) (fun g2 => hj _ ?_)
            · rw [st, if_pos g2]
            · rw [st, if_neg g2]
      · have r66 := k.row (show (66 : Nat) ≠ 1 ∧ 66 ≠ 5 ∧ 66 ≠ 6 ∧ 66 ≠ 7 ∧ 66 ≠ 63 ∧ 66 ≠ 64 by decide)
        have hw : MW w sw Q m := ⟨hm.mi, by rw [r66]; exact hmw.2⟩
        unfold f_X12_pieces
        refine gw_if hm.1.t65 ?_
        refine gw_isc (μ := μ) hm.mi (by rw [r66]; exact e26) (fun _ => ?_) (fun q => absurd hC q)
        refine gw_ite (fun q => absurd q (by decide)) (fun _ => ?_)
        refine gw_inn (fun _ => ?_) (fun q => absurd hb q)
        refine gw_if (by decide) ?_
        refine gw_if hm.1.t65 ?_
        refine gw_bV (s_X12_keeps hm.mi) (fun m5 g5 => ?_)
        have h5 := g5.mw hw
        have kK : kR (μ.2.1 66) c = K := by rw [hK]; exact (h.kk hc).1.symm
        have r5 : rs m5 := fun j hj => by rw [g5.2.2.2 j hj, g5.2.2.1 66 (by decide)]
        refine gw_loop (fun s => km A1 m5 s.2.2.2 ∧ rs s.2.2.2 ∧ (0 ≤ s.2.2.1.toInt ∧ s.2.2.1.toInt ≤ 7) ∧ (s.2.1, s.1) = wh G s.2.2.1.toInt.toNat) (fun s => 100 - s.2.2.1.toInt) (fun s ⟨k2, r2, p1, p2⟩ => ?_) 5000 ((0 : Int32), (-1 : Int32), (0 : Int32), m5) ⟨km.refl A1 m5, r5, ⟨by show 0 ≤ (0 : Int32).toInt; omega, by show (0 : Int32).toInt ≤ 7; omega⟩, rfl⟩ (by show 100 - (0 : Int32).toInt < ((5000 : Nat) : Int); omega) (by show 0 ≤ 100 - (0 : Int32).toInt; omega)
        obtain ⟨p, hp, ep⟩ : ∃ p : Nat, p ≤ 7 ∧ s.2.2.1 = Int32.ofNat p := ⟨s.2.2.1.toInt.toNat, by omega, (gx_of p1.1).symm⟩
        have op := ofn (k := p) (by omega)
        have hS : s.2.2.1.toInt = p := by rw [ep]; exact op
        rw [show s.2.2.1.toInt.toNat = p by omega] at p2
        have hs := h5.k1 k2
        have hgs := hs.1.1
        have c66 : s.2.2.2.2.1 66 = μ.2.1 66 := (rs.row g5 k2 r2).trans r66
        refine gw_lt (fun g => ?_) (fun g => ?_)
        · have e7 : p = 7 := by omega
          subst e7
          have q7 : qm m s.2.2.2 := qm.kp g5 k2 r2
          refine gw_ite (fun q => ?_) (fun q => ?_)
          · exact gw_some (gs_inr (gq_I ⟨q7, by rw [if_pos q, ← p2]⟩))
          · exact gw_some (gs_inr (gq_I ⟨q7, by rw [if_neg q, ← p2]⟩))
        · rw [ep]
          refine gw_gRa 66 (hgs.c (r := 65) rfl) (hgs.r (by decide)) ?_
          refine gw_wr hs.1 hc 1 rfl (by decide) ?_
          have a1 : km A1 s.2.2.2 (wI s.2.2.2 66 (1 + c) (Int32.ofNat p)) := (km.refl A1 _).ws rfl (by unfold A1; omega)
          have h9 := hs.k1 a1
          refine gw_gRa 66 (h9.1.1.c (r := 65) rfl) (h9.1.1.r (by decide)) ?_
          refine gw_if (h9.1.1.t (r := 65) rfl) ?_
          refine gw_bI (w_sweet h9) (fun x m11 ⟨em, ex⟩ => ?_)
          subst em
          subst ex
          refine gw_wr h9.1 hc 6 rfl (by decide) ?_
          have a2 : km A1 s.2.2.2 (wI (wI s.2.2.2 66 (1 + c) (Int32.ofNat p)) 66 (6 + c) (Int32.ofNat p * x)) := a1.ws rfl (by unfold A1; omega)
          have h13 := hs.k1 a2
          refine gw_gRa 66 (h13.1.1.c (r := 65) rfl) (h13.1.1.r (by decide)) ?_
          refine gw_wr h13.1 hc 16 rfl (by decide) ?_
          have a3 : km A1 s.2.2.2 (wI (wI (wI s.2.2.2 66 (1 + c) (Int32.ofNat p)) 66 (6 + c) (Int32.ofNat p * x)) 66 (16 + c) 0) := a2.ws rfl (by unfold A1; omega)
          have kcol : kR ((wI (wI (wI s.2.2.2 66 (1 + c) (Int32.ofNat p)) 66 (6 + c) (Int32.ofNat p * x)) 66 (16 + c) 0).2.1 66) c = pk K x p := by
            rw [kR_w hc hc (j := 6) (by decide) (by decide) (by omega), if_pos rfl, kR_w hc hc (j := 4) (by decide) (by decide) (by omega), if_pos rfl, kR_w hc hc (j := 3) (by decide) (by decide) (by omega), if_pos rfl, c66, kK, Int32.mul_comm]
            rfl
          have z0 : (wI (wI (wI s.2.2.2 66 (1 + c) (Int32.ofNat p)) 66 (6 + c) (Int32.ofNat p * x)) 66 (16 + c) 0).2.1 66 0 = μ.2.1 66 0 := by rw [wI_n _ _ _ _ (by omega), wI_n _ _ _ _ (by omega), wI_n _ _ _ _ (by omega), c66]
          generalize wI (wI (wI s.2.2.2 66 (1 + c) (Int32.ofNat p)) 66 (6 + c) (Int32.ofNat p * x)) 66 (16 + c) 0 = m15 at *
          have h15 := hs.k1 a3
          refine gw_if (h15.1.1.t (r := 65) rfl) ?_
          refine gw_bV (w_when h15 hc (by rw [z0]; exact v2)) (fun m16 ⟨⟨k16, r16⟩, _, e13⟩ => ?_)
          rw [kcol, z0, ← mn] at e13
          have hx : m16.2.1 65 13 = G p := by rw [e13, hG]
          have h16 := h15.k1 k16
          have t16 := h16.1.1.c (r := 65) (t := 17) rfl
          have q2 : wh G p = (s.2.1, s.1) := p2.symm
          have st : wh G (p + 1) = if G p ≤ (wh G p).1 then wh G p else (G p, Int32.ofNat p) := rfl
          rw [q2, ← hx] at st
          have nx : (Int32.ofNat p + (1 : Int32)).toInt = (Int32.ofNat p).toInt + (1 : Int32).toInt := gx_add (by omega) (by omega)
          refine gw_gIw t16 ?_
          refine gw_j (fun q => q = (wh G (p + 1)).2) (fun q eq => ?_) (fun j hj => ?_)
          · refine gw_gIw t16 ?_
            refine gw_j (fun q => q = (wh G (p + 1)).1) (fun q1 eq1 => ?_) (fun j hj => ?_)
            · refine gw_some (gs_inl ⟨(k2.trans a3).trans k16, r16, ⟨by show 0 ≤ (Int32.ofNat p + (1 : Int32)).toInt; omega, by show (Int32.ofNat p + (1 : Int32)).toInt ≤ 7; omega⟩, ?_⟩ (by show 100 - (Int32.ofNat p + (1 : Int32)).toInt < 100 - s.2.2.1.toInt; omega) (by show 0 ≤ 100 - (Int32.ofNat p + (1 : Int32)).toInt; omega))
              show (q1, q) = wh G (Int32.ofNat p + (1 : Int32)).toInt.toNat
              rw [show (Int32.ofNat p + (1 : Int32)).toInt.toNat = p + 1 by omega, eq, eq1]
            · refine gw_ite (fun g2 => hj _ ?_) (fun g2 => ?_)
              · rw [st, if_pos g2]
              · refine gw_gIw t16 ?_
                exact hj _ (by rw [st, if_neg g2])
          · refine gw_ite (fun g2 => hj _ ?_) (fun g2 => hj _ ?_)
            · rw [st, if_pos g2]
            · rw [st, if_neg g2]
    · refine PR.u h (-1) (gwI_of ?_) (gwI_of ?_)
      · unfold f_X11_pieces
        refine gw_if (hg.t (r := 1) rfl) ?_
        refine gw_nob h (fun _ => ?_) (fun q => absurd hC q)
        refine gw_ite (fun q => absurd rfl q) (fun _ => ?_)
        refine gw_out (fun q => absurd q hb) (fun _ => ?_)
        refine gw_ite (fun q => absurd q (by decide)) (fun _ => ?_)
        exact gw_some (gq_I ⟨rfl, rfl⟩)
      · unfold f_X12_pieces
        refine gw_if h.1.t65 ?_
        refine gw_isc h.mi e26 (fun _ => ?_) (fun q => absurd hC q)
        refine gw_ite (fun q => absurd q (by decide)) (fun _ => ?_)
        refine gw_inn (fun q => absurd q hb) (fun _ => ?_)
        refine gw_ite (fun q => absurd rfl q) (fun _ => ?_)
        exact gw_some (gq_I ⟨qm.refl μ, rfl⟩)
  · refine PR.u h (-1) (gwI_of ?_) (gwI_of ?_)
    · unfold f_X11_pieces
      refine gw_if (hg.t (r := 1) rfl) ?_
      refine gw_nob h (fun q => absurd q hC) (fun _ => ?_)
      refine gw_if (by decide) ?_
      exact gw_some (gq_I ⟨rfl, rfl⟩)
    · unfold f_X12_pieces
      refine gw_if h.1.t65 ?_
      refine gw_isc h.mi e26 (fun q => absurd q hC) (fun _ => ?_)
      refine gw_if rfl ?_
      exact gw_some (gq_I ⟨qm.refl μ, rfl⟩)
end
end
section
/-! firm, had: whether all told is so -/
def al (f : Nat → Bool) : Nat → Bool
  | 0 => true
  | n + 1 => al f n && f n
theorem al_iff {f : Nat → Bool} : ∀ n : Nat, al f n = true ↔ ∀ i : Nat, i < n → f i = true
  | 0 => ⟨fun _ i hi => absurd hi (Nat.not_lt_zero i), fun _ => rfl⟩
  | n + 1 => by
    show (al f n && f n) = true ↔ _
    rw [Bool.and_eq_true, al_iff n]
    constructor
    · intro ⟨a, b⟩ i hi
      by_cases e : i = n
      · rw [e]; exact b
      · exact a i (by omega)
    · intro a
      exact ⟨fun i hi => a i (by omega), a n (by omega)⟩
theorem al_f {f : Nat → Bool} {i n : Nat} (h : i < n) (e : f i = false) : al f n = false := by
  refine Bool.eq_false_iff.mpr (fun q => ?_)
  have := (al_iff n).mp q i h
  rw [e] at this
  exact absurd this (by decide)
theorem al_le {f : Nat → Bool} {i n : Nat} (h : i ≤ n) (e : al f i = false) : al f n = false := by
  refine Bool.eq_false_iff.mpr (fun q => ?_)
  have : al f i = true := (al_iff i).mpr (fun j hj => (al_iff n).mp q j (by omega))
  rw [e] at this
  exact absurd this (by decide)
theorem al_eq {f g : Nat → Bool} (n : Nat) (h : ∀ i : Nat, i < n → f i = g i) : al f n = al g n := by
  rw [Bool.eq_iff_iff, al_iff, al_iff]
  exact ⟨fun a i hi => by rw [← h i hi]; exact a i hi, fun a i hi => by rw [h i hi]; exact a i hi⟩
def bi (b : Bool) : Int32 := if b = true then 1 else 0
theorem bi_01 (b : Bool) : bi b = 0 ∨ bi b = 1 := by
  cases b
  · exact Or.inl rfl
  · exact Or.inr rfl
theorem bi_0 {b : Bool} (h : bi b = 0) : b = false := by
  cases b
  · rfl
  · exact absurd h (by decide)
theorem bi_1 {b : Bool} (h : ¬ bi b = 0) : b = true := by
  cases b
  · exact absurd rfl h
  · rfl
def sF (w : Int32) (Q : List (List Int32 × Int32)) (C : Nat → Nat → Int32) (T : Int32) (σ : Nat → Int32) (i : Nat) : Bool := decide (cHold w Q (cGoN (σ (73 + i)).toInt.toNat (C (σ (63 + i)).toInt.toNat) T) (T + σ (73 + i)) = σ (68 + i))
def gF (w : Int32) (Q : List (List Int32 × Int32)) (C : Nat → Nat → Int32) (T : Int32) (σ : Nat → Int32) (n i : Nat) : Bool := !decide (σ (73 + i) = Int32.ofNat n) || decide (cHold w Q (C (σ (63 + i)).toInt.toNat) T = σ (68 + i))
section
variable {w ss : Int32} {Q : List (List Int32 × Int32)} {μ : gm_M}
theorem REL.seen (h : REL μ) {i : Nat} (hi : (i : Int) < (μ.2.1 66 28).toInt) : ∃ d e : Nat, (d < 5 ∧ isC μ (Int32.ofNat d)) ∧ e ≤ 20 ∧ μ.2.1 66 (63 + i) = Int32.ofNat d ∧ μ.2.1 66 (73 + i) = Int32.ofNat e ∧ μ.2.1 24 (3 * i) = Int32.ofNat d ∧ μ.2.1 24 (3 * i + 1) = μ.2.1 66 (68 + i) ∧ μ.2.1 24 (3 * i + 2) = Int32.ofNat e := by
  have n28 := h.mi.2.2.2.1
  obtain ⟨b1, b2, b3, b4, b5⟩ := h.vs.2.2.2.1.1 i (by omega) hi
  have b6 := h.mi.2.2.2.2.2.2.2.2.1 i (by omega)
  have e1 : Int32.ofNat (μ.2.1 66 (63 + i)).toInt.toNat = μ.2.1 66 (63 + i) := gx_of b6.1
  have e2 : Int32.ofNat (μ.2.1 66 (73 + i)).toInt.toNat = μ.2.1 66 (73 + i) := gx_of b4.1
  refine ⟨(μ.2.1 66 (63 + i)).toInt.toNat, (μ.2.1 66 (73 + i)).toInt.toNat, ⟨by omega, ?_⟩, by omega, e1.symm, e2.symm, by rw [e1]; exact b1, b2, by rw [e2]; exact b3⟩
  rw [e1]
  exact ⟨b6.1, by rw [h.sz]; exact b5, by omega⟩
set_option maxHeartbeats 4000000 in
theorem v_all (h : REL μ) (hcw : CW w Q μ) {c : Nat} (hc : c < 5) {v p : Int32} (hv : 0 ≤ v.toInt ∧ v.toInt ≤ 9) (hp : 0 ≤ p.toInt ∧ p.toInt ≤ 6) {n : Nat} (hn : (μ.2.1 66 28).toInt = n) {C : Nat → Nat → Int32} (hC : ∀ d : Nat, d < 5 → C d = if d = c then kud (kud (kC μ (29 + 2 * d)) 2 v) 3 p else kC μ (29 + 2 * d)) : gwI (f_X11_isAllSeen 1 (Int32.ofNat c) v p μ) (fun x m => kc μ m ∧ x = bi (al (sF w Q C (μ.2.1 15 0) (μ.2.1 66)) n)) := by
  have l0 : (0 : Int32).toInt = 0 := rfl
  have l1 : (1 : Int32).toInt = 1 := rfl
  have l2 : (2 : Int32).toInt = 2 := rfl
  have oc := ofn (k := c) (by omega)
  have n28 := h.mi.2.2.2.1
  have E28 : μ.2.1 23 2 = μ.2.1 66 28 := h.1.2.2.2.1.1.2.2.1
  have v2 := h.vs.2.1
  have mn := h.mn
  have RC : ∀ d : Nat, d < 5 → RK (C d) := fun d hd => by
    rw [hC d hd]
    by_cases q : d = c
    · rw [if_pos q]; exact ((h.row hd).u (j := 2) (Or.inl ⟨rfl, hv⟩)).u (j := 3) (Or.inr (Or.inl ⟨rfl, hp⟩))
    · rw [if_neg q]; exact h.row hd
  have R15 : ∀ {m : gm_M}, kc μ m → m.2.1 15 = μ.2.1 15 := fun k => k.row (show (15 : Nat) ≠ 1 ∧ 15 ≠ 5 ∧ 15 ≠ 6 ∧ 15 ≠ 7 ∧ 15 ≠ 63 ∧ 15 ≠ 64 by decide)
  have R23 : ∀ {m : gm_M}, kc μ m → m.2.1 23 = μ.2.1 23 := fun k => k.row (show (23 : Nat) ≠ 1 ∧ 23 ≠ 5 ∧ 23 ≠ 6 ∧ 23 ≠ 7 ∧ 23 ≠ 63 ∧ 23 ≠ 64 by decide)
  have R24 : ∀ {m : gm_M}, kc μ m → m.2.1 24 = μ.2.1 24 := fun k => k.row (show (24 : Nat) ≠ 1 ∧ 24 ≠ 5 ∧ 24 ≠ 6 ∧ 24 ≠ 7 ∧ 24 ≠ 63 ∧ 24 ≠ 64 by decide)
  have l23 := h.ci.l23
  generalize hF : sF w Q C (μ.2.1 15 0) (μ.2.1 66) = F
  refine gwI_of ?_
  unfold f_X11_isAllSeen
  refine gw_loop (fun s => kc μ s.2 ∧ (0 ≤ s.1.toInt ∧ s.1.toInt ≤ (n : Int)) ∧ al F s.1.toInt.toNat = true) (fun s => 100 - s.1.toInt) (fun s ⟨k2, p1, p2⟩ => ?_) 5000 ((0 : Int32), μ) ⟨kc.refl μ, ⟨by show 0 ≤ (0 : Int32).toInt; omega, by show (0 : Int32).toInt ≤ (n : Int); omega⟩, rfl⟩ (by show 100 - (0 : Int32).toInt < ((5000 : Nat) : Int); omega) (by show 0 ≤ 100 - (0 : Int32).toInt; omega)
  obtain ⟨i, hi, ei⟩ : ∃ i : Nat, i ≤ n ∧ s.1 = Int32.ofNat i := ⟨s.1.toInt.toNat, by omega, (gx_of p1.1).symm⟩
  have oi := ofn (k := i) (by omega)
  have hS : s.1.toInt = i := by rw [ei]; exact oi
  rw [show s.1.toInt.toNat = i by omega] at p2
  have hm := h.kc k2
  have hwm := hcw.kc k2
  have gm := hwm.1.1
  have r23 := R23 k2
  have ti : (Int32.ofNat i).toInt.toNat = i := by omega
  refine gw_gRa 15 (gm.c (r := 1) rfl) (gm.r (by decide)) ?_
  refine gw_gRa 23 (gm.c (r := 15) rfl) (gm.r (by decide)) ?_
  refine gw_gIw (gm.c (r := 23) rfl) ?_
  rw [r23, E28]
  refine gw_le (fun g => ?_) (fun g => ?_)
  · refine gw_if (by decide) ?_
    refine gw_some (gs_inr (gq_I ⟨k2, ?_⟩))
    rw [show n = i by omega, p2]
    rfl
  · rw [ei]
    obtain ⟨d, e, ⟨hd, hCd⟩, he, s1, s2, t1, t2, t3⟩ := h.seen (i := i) (by omega)
    have od := ofn (k := d) (by omega)
    have oe := ofn (k := e) (by omega)
    have hFi : F i = decide (cHold w Q (cGoN e (C d) (μ.2.1 15 0)) (μ.2.1 15 0 + Int32.ofNat e) = μ.2.1 66 (68 + i)) := by
      rw [← hF]
      show decide (cHold w Q (cGoN (μ.2.1 66 (73 + i)).toInt.toNat (C (μ.2.1 66 (63 + i)).toInt.toNat) (μ.2.1 15 0)) (μ.2.1 15 0 + μ.2.1 66 (73 + i)) = μ.2.1 66 (68 + i)) = _
      rw [s1, s2, od, oe, Int.toNat_natCast, Int.toNat_natCast]
    refine gw_gRa 15 (gm.c (r := 1) rfl) (gm.r (by decide)) ?_
    refine gw_gRa 23 (gm.c (r := 15) rfl) (gm.r (by decide)) ?_
    refine gw_if (gm.t (r := 23) rfl) ?_
    refine gw_bI (v_cell (gm.t (r := 23) rfl) (gm.t (r := 24) rfl) (gm.l (r := 24) rfl) (gm.r (by decide)) (i := Int32.ofNat i) (j := 0) ⟨by omega, by rw [r23, E28]; omega, by rw [r23]; omega⟩ ⟨by omega, by omega⟩ (by omega) (by omega)) (fun x8 m7 ⟨em, ex⟩ => ?_)
    replace em := em.symm
    subst em
    rw [ti, R24 k2] at ex
    replace ex : x8 = μ.2.1 24 (3 * i) := ex
    rw [t1] at ex
    subst ex
    have hCm : isC s.2 (Int32.ofNat d) := by
      unfold isC at hCd ⊢
      rw [R15 k2]
      exact hCd
    refine gw_if (gm.t (r := 1) rfl) ?_
    refine gw_nob hm (fun _ => ?_) (fun q => absurd hCm q)
    refine gw_j (fun q => kc μ q ∧ al F (i + 1) = true) (fun q ⟨kq, aq⟩ => ?_) (fun j12 h12 => ?_)
    · have nx : (Int32.ofNat i + (1 : Int32)).toInt = (Int32.ofNat i).toInt + (1 : Int32).toInt := gx_add (by omega) (by omega)
      refine gw_some (gs_inl ⟨kq, ⟨by show 0 ≤ (Int32.ofNat i + (1 : Int32)).toInt; omega, by show (Int32.ofNat i + (1 : Int32)).toInt ≤ (n : Int); omega⟩, ?_⟩ (by show 100 - (Int32.ofNat i + (1 : Int32)).toInt < 100 - s.1.toInt; omega) (by show 0 ≤ 100 - (Int32.ofNat i + (1 : Int32)).toInt; omega))
      show al F (Int32.ofNat i + (1 : Int32)).toInt.toNat = true
      rw [show (Int32.ofNat i + (1 : Int32)).toInt.toNat = i + 1 by omega]
      exact aq
    · refine gw_if rfl ?_
      refine gw_gRa 63 (gm.c (r := 1) rfl) (gm.r (by decide)) ?_
      refine gw_kid gm hd ?_
      refine gw_if (ict.t gm (Or.inr rfl)) ?_
      refine gw_bV (v_copy hwm hd) (fun m17 ⟨k17, e17⟩ => ?_)
      rw [k2.K hd] at e17
      have kk17 := k2.trans k17
      have g17 := (hcw.kc kk17).1.1
      refine gw_j (fun q => kc μ q ∧ kC q 63 = C d) (fun m19 ⟨k19, e19⟩ => ?_) (fun j20 h20 => ?_)
      · have h19 := hcw.kc k19
        have g19 := h19.1.1
        have s15 := R15 k19
        have s23 := R23 k19
        refine gw_gRa 15 (g19.c (r := 1) rfl) (g19.r (by decide)) ?_
        refine gw_gRa 23 (g19.c (r := 15) rfl) (g19.r (by decide)) ?_
        refine gw_if (g19.t (r := 23) rfl) ?_
        refine gw_bI (v_cell (g19.t (r := 23) rfl) (g19.t (r := 24) rfl) (g19.l (r := 24) rfl) (g19.r (by decide)) (i := Int32.ofNat i) (j := 2) ⟨by omega, by rw [s23, E28]; omega, by rw [s23]; omega⟩ ⟨by omega, by omega⟩ (by omega) (by omega)) (fun x24 m23 ⟨em, ex⟩ => ?_)
        replace em := em.symm
        subst em
        rw [ti, R24 k19] at ex
        replace ex : x24 = μ.2.1 24 (3 * i + 2) := ex
        rw [t3] at ex
        subst ex
        refine gw_if (g19.t (r := 1) rfl) ?_
        refine gw_bI (v_trial h19 (by rw [e19]; exact RC d hd) (by rw [s15, mn]; exact v2) (n := e) (by omega)) (fun x26 m25 ⟨k25, ex26, _⟩ => ?_)
        rw [e19, s15] at ex26
        have kk25 := k19.trans k25
        have g25 := (hcw.kc kk25).1.1
        have u23 := R23 kk25
        refine gw_gRa 15 (g25.c (r := 1) rfl) (g25.r (by decide)) ?_
        refine gw_gRa 23 (g25.c (r := 15) rfl) (g25.r (by decide)) ?_
        refine gw_if (g25.t (r := 23) rfl) ?_
        refine gw_bI (v_cell (g25.t (r := 23) rfl) (g25.t (r := 24) rfl) (g25.l (r := 24) rfl) (g25.r (by decide)) (i := Int32.ofNat i) (j := 1) ⟨by omega, by rw [u23, E28]; omega, by rw [u23]; omega⟩ ⟨by omega, by omega⟩ (by omega) (by omega)) (fun x30 m29 ⟨em, ex30⟩ => ?_)
        replace em := em.symm
        subst em
        rw [ti, R24 kk25] at ex30
        replace ex30 : x30 = μ.2.1 24 (3 * i + 1) := ex30
        rw [t2] at ex30
        refine gw_ite (fun q => h12 _ ⟨kk25, ?_⟩) (fun q => gw_if (by decide) (gw_some (gs_inr (gq_I ⟨kk25, ?_⟩))))
        · show (al F i && F i) = true
          rw [p2, hFi]
          exact decide_eq_true (by rw [← ex26, q, ex30])
        · rw [al_f (show i < n by omega) (by rw [hFi]; exact decide_eq_false (fun z => q (by rw [ex26, z, ex30])))]
          rfl
      · refine gw_ite (fun q => h20 _ ⟨kk17, ?_⟩) (fun q => ?_)
        · rw [e17, hC d hd, if_neg (fun z => q (by rw [z]))]
        · have dc : d = c := by
            by_cases z : d = c
            · exact z
            · exact absurd (fun y : Int32.ofNat d = Int32.ofNat c => z (by have := congrArg Int32.toInt y; omega)) q
          refine gw_gRa 63 (g17.c (r := 1) rfl) (g17.r (by decide)) ?_
          refine gw_pIw (ict.c g17 (Or.inr rfl)) ?_
          refine gw_gRa 63 (g17.c (r := 1) rfl) (g17.r (by decide)) ?_
          refine gw_pIw (show [7].contains (gm_tag (wI m17 63 2 v) 63) = true from ict.c g17 (Or.inr rfl)) ?_
          have k18 : kc μ (wI m17 63 2 v) := kk17.wr (r := 63) (j := 2) (x := v) rfl (by decide)
          have k19 : kc μ (wI (wI m17 63 2 v) 63 3 p) := k18.wr (r := 63) (j := 3) (x := p) rfl (by decide)
          refine h20 _ ⟨k19, ?_⟩
          rw [kC_w (by decide) (by decide), kC_w (by decide) (by decide), e17, hC d hd, if_pos dc]
set_option maxHeartbeats 4000000 in
theorem w_isAs {M : gm_M} (h : MW w ss Q M) {n cnt : Nat} (hn : n ≤ 20) (hcnt : (M.2.1 66 28).toInt = cnt) (hr : ∀ i : Nat, i < cnt → ∃ d e : Nat, d < 5 ∧ e ≤ 20 ∧ M.2.1 66 (63 + i) = Int32.ofNat d ∧ M.2.1 66 (73 + i) = Int32.ofNat e) : gwI (f_X12_isAsSeen 65 (Int32.ofNat n) M) (fun x m => km A0 M m ∧ x = bi (al (gF w Q (fun d => kR (M.2.1 66) d) (M.2.1 66 0) (M.2.1 66) n) cnt)) := by
  have l0 : (0 : Int32).toInt = 0 := rfl
  have l1 : (1 : Int32).toInt = 1 := rfl
  have l28 : (28 : Int32).toInt = 28 := rfl
  have l63 : (63 : Int32).toInt = 63 := rfl
  have l68 : (68 : Int32).toInt = 68 := rfl
  have l73 : (73 : Int32).toInt = 73 := rfl
  have n28 := h.1.2.2.2.1
  generalize hG : gF w Q (fun d => kR (M.2.1 66) d) (M.2.1 66 0) (M.2.1 66) n = G
  refine gwI_of ?_
  unfold f_X12_isAsSeen
  refine gw_loop (fun s => km A0 M s.2.2 ∧ (0 ≤ s.2.1.toInt ∧ s.2.1.toInt ≤ (cnt : Int)) ∧ s.1 = bi (al G s.2.1.toInt.toNat)) (fun s => 100 - s.2.1.toInt) (fun s ⟨k2, p1, p2⟩ => ?_) 5000 ((1 : Int32), (0 : Int32), M) ⟨km.refl A0 M, ⟨by show 0 ≤ (0 : Int32).toInt; omega, by show (0 : Int32).toInt ≤ (cnt : Int); omega⟩, rfl⟩ (by show 100 - (0 : Int32).toInt < ((5000 : Nat) : Int); omega) (by show 0 ≤ 100 - (0 : Int32).toInt; omega)
  obtain ⟨i, hi, ei⟩ : ∃ i : Nat, i ≤ cnt ∧ s.2.1 = Int32.ofNat i := ⟨s.2.1.toInt.toNat, by omega, (gx_of p1.1).symm⟩
  have oi := ofn (k := i) (by omega)
  have hS : s.2.1.toInt = i := by rw [ei]; exact oi
  rw [show s.2.1.toInt.toNat = i by omega] at p2
  have hw := h.k0 k2
  have hg := hw.1.1
  have r66 := k2.row
  refine gw_gRa 66 (hg.c (r := 65) rfl) (hg.r (by decide)) ?_
  refine gw_aIw 28 (hg.t (r := 66) rfl) (hg.l (r := 66) rfl) l28 (by omega) ?_
  rw [r66]
  refine gw_le (fun g => ?_) (fun g => ?_)
  · refine gw_if (by rw [p2]; exact bi_01 _) ?_
    refine gw_some (gs_inr (gq_I ⟨k2, ?_⟩))
    rw [p2, show cnt = i by omega]
  · refine gw_ite (fun q => ?_) (fun q => ?_)
    · refine gw_if (Or.inl q) ?_
      refine gw_some (gs_inr (gq_I ⟨k2, ?_⟩))
      rw [q, al_le (show i ≤ cnt by omega) (bi_0 (p2.symm.trans q))]
      rfl
    · have ai : al G i = true := bi_1 (fun z => q (p2.trans z))
      rw [ei]
      obtain ⟨d, e, hd, he, s1, s2⟩ := hr i (by omega)
      have od := ofn (k := d) (by omega)
      have oe := ofn (k := e) (by omega)
      have on := ofn (k := n) (by omega)
      have hGi : G i = (!decide (Int32.ofNat e = Int32.ofNat n) || decide (cHold w Q (kR (M.2.1 66) d) (M.2.1 66 0) = M.2.1 66 (68 + i))) := by
        rw [← hG]
        show (!decide (M.2.1 66 (73 + i) = Int32.ofNat n) || decide (cHold w Q (kR (M.2.1 66) (M.2.1 66 (63 + i)).toInt.toNat) (M.2.1 66 0) = M.2.1 66 (68 + i))) = _
        rw [s1, s2, od, Int.toNat_natCast]
      have a1 : ((73 : Int32) + Int32.ofNat i).toInt = (73 : Int32).toInt + (Int32.ofNat i).toInt := gx_add (by omega) (by omega)
      have a2 : ((63 : Int32) + Int32.ofNat i).toInt = (63 : Int32).toInt + (Int32.ofNat i).toInt := gx_add (by omega) (by omega)
      have a3 : ((68 : Int32) + Int32.ofNat i).toInt = (68 : Int32).toInt + (Int32.ofNat i).toInt := gx_add (by omega) (by omega)
      have nx : (Int32.ofNat i + (1 : Int32)).toInt = (Int32.ofNat i).toInt + (1 : Int32).toInt := gx_add (by omega) (by omega)
      refine gw_gRa 66 (hg.c (r := 65) rfl) (hg.r (by decide)) ?_
      refine gw_aIw (73 + i) (hg.t (r := 66) rfl) (hg.l (r := 66) rfl) (by omega) (by omega) ?_
      rw [r66, s2]
      refine gw_j (fun q => km A0 M q.2 ∧ q.1 = bi (al G (i + 1))) (fun q ⟨kq, eq⟩ => ?_) (fun j7 h7 => ?_)
      · refine gw_some (gs_inl ⟨kq, ⟨by show 0 ≤ (Int32.ofNat i + (1 : Int32)).toInt; omega, by show (Int32.ofNat i + (1 : Int32)).toInt ≤ (cnt : Int); omega⟩, ?_⟩ (by show 100 - (Int32.ofNat i + (1 : Int32)).toInt < 100 - s.2.1.toInt; omega) (by show 0 ≤ 100 - (Int32.ofNat i + (1 : Int32)).toInt; omega))
        show q.1 = bi (al G (Int32.ofNat i + (1 : Int32)).toInt.toNat)
        rw [show (Int32.ofNat i + (1 : Int32)).toInt.toNat = i + 1 by omega]
        exact eq
      · refine gw_j (fun q => km A0 M q ∧ G i = true) (fun q ⟨kq, gq⟩ => h7 _ ⟨kq, ?_⟩) (fun j9 h9 => ?_)
        · show (1 : Int32) = bi (al G i && G i)
          rw [ai, gq]
          rfl
        · refine gw_ite (fun q5 => h9 _ ⟨k2, ?_⟩) (fun q5 => ?_)
          · rw [hGi, decide_eq_false q5]
            rfl
          · have q6 : Int32.ofNat e = Int32.ofNat n := by
              by_cases z : Int32.ofNat e = Int32.ofNat n
              · exact z
              · exact absurd z q5
            rw [decide_eq_true q6] at hGi
            replace hGi : G i = decide (cHold w Q (kR (M.2.1 66) d) (M.2.1 66 0) = M.2.1 66 (68 + i)) := hGi
            refine gw_gRa 66 (hg.c (r := 65) rfl) (hg.r (by decide)) ?_
            refine gw_aIw (63 + i) (hg.t (r := 66) rfl) (hg.l (r := 66) rfl) (by omega) (by omega) ?_
            rw [r66, s1]
            refine gw_if (hg.t (r := 65) rfl) ?_
            refine gw_bI (w_holds hw hd) (fun x13 m12 ⟨k12, e13⟩ => ?_)
            rw [r66] at e13
            have kk12 := k2.trans k12
            have hg12 := (h.k0 kk12).1.1
            refine gw_gRa 66 (hg12.c (r := 65) rfl) (hg12.r (by decide)) ?_
            refine gw_aIw (68 + i) (hg12.t (r := 66) rfl) (hg12.l (r := 66) rfl) (by omega) (by omega) ?_
            rw [kk12.row]
            refine gw_ite (fun q => h7 _ ⟨kk12, ?_⟩) (fun q => h9 _ ⟨kk12, ?_⟩)
            · show (0 : Int32) = bi (al G i && G i)
              rw [hGi, decide_eq_false (fun z => q (e13.trans z)), Bool.and_false]
              rfl
            · have q7 : x13 = M.2.1 66 (68 + i) := by
                by_cases z : x13 = M.2.1 66 (68 + i)
                · exact z
                · exact absurd z q
              rw [hGi]
              exact decide_eq_true (e13.symm.trans q7)
set_option maxHeartbeats 4000000 in
theorem w_areAs {M : gm_M} (h : MW w ss Q M) (hm : 0 ≤ (M.2.1 66 0).toInt ∧ (M.2.1 66 0).toInt ≤ 9999) {cnt sz : Nat} (hsz : (M.2.1 66 26).toInt = sz) (hcnt : (M.2.1 66 28).toInt = cnt) (hr : ∀ i : Nat, i < cnt → ∃ d e : Nat, d < 5 ∧ e ≤ 20 ∧ M.2.1 66 (63 + i) = Int32.ofNat d ∧ M.2.1 66 (73 + i) = Int32.ofNat e) : gwI (f_X12_areAsSeen 65 M) (fun x m => (km A1 M m ∧ rs m) ∧ x = bi (al (fun n => al (gF w Q (fun d => gN sz n (M.2.1 66 0) d (kR (M.2.1 66) d)) (M.2.1 66 0 + Int32.ofNat n) (M.2.1 66) n) cnt) 21)) := by
  have l0 : (0 : Int32).toInt = 0 := rfl
  have l1 : (1 : Int32).toInt = 1 := rfl
  have l20 : (20 : Int32).toInt = 20 := rfl
  have n28 := h.1.2.2.2.1
  generalize hB : (fun n => al (gF w Q (fun d => gN sz n (M.2.1 66 0) d (kR (M.2.1 66) d)) (M.2.1 66 0 + Int32.ofNat n) (M.2.1 66) n) cnt) = B
  refine gwI_of ?_
  unfold f_X12_areAsSeen
  refine gw_loop (fun s => km A1 M s.2.2 ∧ (0 ≤ s.2.1.toInt ∧ s.2.1.toInt ≤ 21) ∧ (s.2.2.2.1 66 0 = M.2.1 66 0 + Int32.ofNat s.2.1.toInt.toNat ∧ ∀ k : Nat, k < 5 → kR (s.2.2.2.1 66) k = gN sz s.2.1.toInt.toNat (M.2.1 66 0) k (kR (M.2.1 66) k)) ∧ s.1 = bi (al B s.2.1.toInt.toNat)) (fun s => 100 - s.2.1.toInt) (fun s ⟨k2, p1, ⟨p3, p4⟩, p2⟩ => ?_) 5000 ((1 : Int32), (0 : Int32), M) ⟨km.refl A1 M, ⟨by show 0 ≤ (0 : Int32).toInt; omega, by show (0 : Int32).toInt ≤ 21; omega⟩, ⟨itn_at (n := 0) ⟨hm.1, by omega⟩ (by omega), fun k _ => gN_0.symm⟩, rfl⟩ (by show 100 - (0 : Int32).toInt < ((5000 : Nat) : Int); omega) (by show 0 ≤ 100 - (0 : Int32).toInt; omega)
  obtain ⟨i, hi, ei⟩ : ∃ i : Nat, i ≤ 21 ∧ s.2.1 = Int32.ofNat i := ⟨s.2.1.toInt.toNat, by omega, (gx_of p1.1).symm⟩
  have oi := ofn (k := i) (by omega)
  have hS : s.2.1.toInt = i := by rw [ei]; exact oi
  rw [show s.2.1.toInt.toNat = i by omega] at p2 p3 p4
  have hw := h.k1 k2
  have hg := hw.1.1
  have fr : ∀ j : Nat, 26 ≤ j → s.2.2.2.1 66 j = M.2.1 66 j := fun j hj => k2.2.2.2.1 j (by unfold A1; omega)
  refine gw_j (fun _ => s.1 = bi (al B 21)) (fun _ hu => ?_) (fun j3 h3 => ?_)
  · refine gw_if (hg.t (r := 65) rfl) ?_
    refine gw_bV (s_X12_goesBack hw.1) (fun m4 ⟨k4, r4⟩ => ?_)
    refine gw_if (by rw [p2]; exact bi_01 _) ?_
    exact gw_some (gs_inr (gq_I ⟨⟨k2.trans k4, r4⟩, hu⟩))
  · refine gw_lt (fun g => h3 _ ?_) (fun g => ?_)
    · rw [p2, show i = 21 by omega]
    · refine gw_ite (fun q => h3 _ ?_) (fun q => ?_)
      · rw [q, al_le (show i ≤ 21 by omega) (bi_0 (p2.symm.trans q))]
        rfl
      · have ai : al B i = true := bi_1 (fun z => q (p2.trans z))
        rw [ei]
        refine gw_if (hg.t (r := 65) rfl) ?_
        refine gw_bI (w_isAs hw (n := i) (cnt := cnt) (by omega) (by rw [fr 28 (by omega)]; exact hcnt) (fun k hk => by rw [fr (63 + k) (by omega), fr (73 + k) (by omega)]; exact hr k hk)) (fun x7 m6 ⟨k6, e7⟩ => ?_)
        have h6 := hw.k0 k6
        have m0 := mi_add (mi := M.2.1 66 0) (n := i) ⟨hm.1, by omega⟩ (by omega)
        have r6 := k6.row
        refine gw_if (h6.1.1.t (r := 65) rfl) ?_
        refine gw_bV (w_goes h6 (by rw [r6, p3]; omega)) (fun m8 ⟨⟨k8, f8⟩, r8⟩ => ?_)
        rw [r6] at f8 r8
        have nx : (Int32.ofNat i + (1 : Int32)).toInt = (Int32.ofNat i).toInt + (1 : Int32).toInt := gx_add (by omega) (by omega)
        have t1 : (Int32.ofNat i + (1 : Int32)).toInt.toNat = i + 1 := by omega
        refine gw_some (gs_inl ⟨k2.trans (k6.w01.trans k8), ⟨by show 0 ≤ (Int32.ofNat i + (1 : Int32)).toInt; omega, by show (Int32.ofNat i + (1 : Int32)).toInt ≤ 21; omega⟩, ⟨?_, fun k hk => ?_⟩, ?_⟩ (by show 100 - (Int32.ofNat i + (1 : Int32)).toInt < 100 - s.2.1.toInt; omega) (by show 0 ≤ 100 - (Int32.ofNat i + (1 : Int32)).toInt; omega))
        · show m8.2.1 66 0 = M.2.1 66 0 + Int32.ofNat (Int32.ofNat i + (1 : Int32)).toInt.toNat
          rw [t1, f8, p3, ← itn_at ⟨hm.1, by omega⟩ i (by omega), ← itn_at ⟨hm.1, by omega⟩ (i + 1) (by omega)]
          rfl
        · show kR (m8.2.1 66) k = gN sz (Int32.ofNat i + (1 : Int32)).toInt.toNat _ k _
          rw [t1, r8 k hk, p4 k hk, fr 26 (by omega), p3]
          by_cases q : k < sz
          · rw [if_pos (by omega), gN_s q]
          · rw [if_neg (by omega)]; exact gN_o q
        · show x7 = bi (al B (Int32.ofNat i + (1 : Int32)).toInt.toNat)
          rw [t1, e7]
          show _ = bi (al B i && B i)
          rw [ai, ← hB, Bool.true_and]
          refine congrArg bi (al_eq cnt (fun k hk => ?_))
          obtain ⟨d, e, hd, he, s1, s2⟩ := hr k hk
          have od := ofn (k := d) (by omega)
          show (!decide (s.2.2.2.1 66 (73 + k) = Int32.ofNat i) || decide (cHold w Q (kR (s.2.2.2.1 66) (s.2.2.2.1 66 (63 + k)).toInt.toNat) (s.2.2.2.1 66 0) = s.2.2.2.1 66 (68 + k))) = (!decide (M.2.1 66 (73 + k) = Int32.ofNat i) || decide (cHold w Q (gN sz i (M.2.1 66 0) (M.2.1 66 (63 + k)).toInt.toNat (kR (M.2.1 66) (M.2.1 66 (63 + k)).toInt.toNat)) (M.2.1 66 0 + Int32.ofNat i) = M.2.1 66 (68 + k)))
          rw [fr (73 + k) (by omega), fr (63 + k) (by omega), fr (68 + k) (by omega), p3, s1, od, Int.toNat_natCast, p4 d hd]
theorem al_sw {B : Nat → Nat → Bool} {S : Nat → Bool} {cnt : Nat} (h : ∀ k : Nat, k < cnt → ∃ e : Nat, e ≤ 20 ∧ (∀ n : Nat, n ≤ 20 → n ≠ e → B n k = true) ∧ B e k = S k) : al (fun n => al (B n) cnt) 21 = al S cnt := by
  rw [Bool.eq_iff_iff, al_iff, al_iff]
  constructor
  · intro a k hk
    obtain ⟨e, e1, e2, e3⟩ := h k hk
    rw [← e3]
    exact (al_iff cnt).mp (a e (by omega)) k hk
  · intro a n hn
    show al (B n) cnt = true
    rw [al_iff]
    intro k hk
    obtain ⟨e, e1, e2, e3⟩ := h k hk
    by_cases q : n = e
    · rw [q, e3]; exact a k hk
    · exact e2 n (by omega) q
theorem seen_eq (h : REL μ) {M : gm_M} (e : ∀ j : Nat, 26 ≤ j → ¬ (38 ≤ j ∧ j < 43) → M.2.1 66 j = μ.2.1 66 j) {C : Nat → Nat → Int32} (hC : ∀ d : Nat, d < 5 → kR (M.2.1 66) d = C d) : al (fun n => al (gF w Q (fun d => gN (μ.2.1 66 26).toInt.toNat n (μ.2.1 66 0) d (kR (M.2.1 66) d)) (μ.2.1 66 0 + Int32.ofNat n) (M.2.1 66) n) (μ.2.1 66 28).toInt.toNat) 21 = al (sF w Q C (μ.2.1 66 0) (μ.2.1 66)) (μ.2.1 66 28).toInt.toNat := by
  refine al_sw (fun k hk => ?_)
  obtain ⟨d, e0, ⟨hd, hCd⟩, he, s1, s2, -⟩ := h.seen (i := k) (by omega)
  have n28 := h.mi.2.2.2.1
  have od := ofn (k := d) (by omega)
  have oe := ofn (k := e0) (by omega)
  have ds : d < (μ.2.1 66 26).toInt.toNat := by
    have := hCd.cnt hd
    rw [h.sz] at this
    omega
  have m63 : M.2.1 66 (63 + k) = Int32.ofNat d := by rw [e _ (by omega) (by omega)]; exact s1
  have m73 : M.2.1 66 (73 + k) = Int32.ofNat e0 := by rw [e _ (by omega) (by omega)]; exact s2
  have m68 : M.2.1 66 (68 + k) = μ.2.1 66 (68 + k) := e _ (by omega) (by omega)
  have gf : ∀ n : Nat, gF w Q (fun d => gN (μ.2.1 66 26).toInt.toNat n (μ.2.1 66 0) d (kR (M.2.1 66) d)) (μ.2.1 66 0 + Int32.ofNat n) (M.2.1 66) n k = (!decide (Int32.ofNat e0 = Int32.ofNat n) || decide (cHold w Q (cGoN n (C d) (μ.2.1 66 0)) (μ.2.1 66 0 + Int32.ofNat n) = μ.2.1 66 (68 + k))) := fun n => by
    show (!decide (M.2.1 66 (73 + k) = Int32.ofNat n) || decide (cHold w Q (gN (μ.2.1 66 26).toInt.toNat n (μ.2.1 66 0) (M.2.1 66 (63 + k)).toInt.toNat (kR (M.2.1 66) (M.2.1 66 (63 + k)).toInt.toNat)) (μ.2.1 66 0 + Int32.ofNat n) = M.2.1 66 (68 + k))) = _
    rw [m73, m68, m63, od, Int.toNat_natCast, gN_p ds, hC d hd]
  refine ⟨e0, he, fun n hn ne => ?_, ?_⟩
  · have on := ofn (k := n) (by omega)
    rw [gf n, decide_eq_false (fun z : Int32.ofNat e0 = Int32.ofNat n => ne (by have := congrArg Int32.toInt z; omega))]
    rfl
  · rw [gf e0, decide_eq_true (rfl : Int32.ofNat e0 = Int32.ofNat e0)]
    show decide _ = decide (cHold w Q (cGoN (μ.2.1 66 (73 + k)).toInt.toNat (C (μ.2.1 66 (63 + k)).toInt.toNat) (μ.2.1 66 0)) (μ.2.1 66 0 + μ.2.1 66 (73 + k)) = μ.2.1 66 (68 + k))
    rw [s1, s2, od, oe, Int.toNat_natCast, Int.toNat_natCast]
theorem kR_v {σ τ : Nat → Int32} {c d : Nat} (hc : c < 5) (hd : d < 5) (e : ∀ j : Nat, j ≠ 38 + c → τ j = σ j) : kR τ d = if d = c then kud (kR σ c) 2 (τ (38 + c)) else kR σ d := by
  funext k
  by_cases hdc : d = c
  · rw [if_pos hdc, hdc]
    unfold kud kR
    by_cases h0 : k = 0
    · rw [if_pos h0, if_neg (show ¬ k = 2 by omega), if_pos h0]
    · rw [if_neg h0]
      by_cases h1 : k = 1
      · rw [if_pos h1, if_neg (show ¬ k = 2 by omega), if_neg h0, if_pos h1, e _ (by omega)]
      · rw [if_neg h1]
        by_cases h2 : k = 2
        · rw [if_pos h2, if_pos h2]
        · rw [if_neg h2, if_neg h2, if_neg h0, if_neg h1, if_neg h2]
          by_cases h8 : k < 8
          · rw [if_pos h8, if_pos h8, e _ (by omega)]
          · rw [if_neg h8, if_neg h8]
            by_cases h12 : k < 12
            · rw [if_pos h12, if_pos h12, e _ (by omega)]
            · rw [if_neg h12, if_neg h12]
  · rw [if_neg hdc]
    unfold kR
    by_cases h0 : k = 0
    · rw [if_pos h0, if_pos h0]
    · rw [if_neg h0, if_neg h0]
      by_cases h1 : k = 1
      · rw [if_pos h1, if_pos h1, e _ (by omega)]
      · rw [if_neg h1, if_neg h1]
        by_cases h2 : k = 2
        · rw [if_pos h2, if_pos h2, e _ (by omega)]
        · rw [if_neg h2, if_neg h2]
          by_cases h8 : k < 8
          · rw [if_pos h8, if_pos h8, e _ (by omega)]
          · rw [if_neg h8, if_neg h8]
            by_cases h12 : k < 12
            · rw [if_pos h12, if_pos h12, e _ (by omega)]
            · rw [if_neg h12, if_neg h12]
end
end
section
/-! firm and had themselves -/
theorem rs.row2 {μ m5 M : gm_M} (g5 : kp μ m5) (k : km A2 m5 M) (r : rs M) {j : Nat} (hj : j < 26) : M.2.1 66 j = μ.2.1 66 j := by
  have r68 : M.2.1 68 = m5.2.1 68 := k.2.2.1 68 (by decide) (by decide) (by decide) (by decide) (by decide) (by decide) (by decide)
  rw [r j hj, r68]
  exact g5.2.2.2 j hj
def fm (G : Nat → Bool) : Nat → Int32 × Int32
  | 0 => (0, -5)
  | t + 1 => if G t = true then ((fm G t).1 + 1, Int32.ofNat (9 - t)) else fm G t
def hm (G : Nat → Bool) : Nat → Int32
  | 0 => 0
  | t + 1 => if G t = true then hm G t ||| ((1 : Int32) <<< (Int32.ofNat t &&& 31)) else hm G t
theorem kud_same {K : Nat → Int32} {j : Nat} : kud K j (K j) = K := by
  funext i
  unfold kud
  by_cases h : i = j
  · rw [if_pos h, h]
  · rw [if_neg h]
section
variable {μ : gm_M}
theorem kC_3 {t : Nat} : μ.2.1 t 3 = kC μ t 3 := rfl
theorem kC_2 {t : Nat} : μ.2.1 t 2 = kC μ t 2 := rfl
set_option maxHeartbeats 8000000 in
theorem N_firm (h : REL μ) {a b : Int32} : PR (f_X11_firm 1 a b μ) (f_X12_firm 65 a b) := by
  have hg := h.ci.1
  have e26 := h.sz.symm
  obtain ⟨w, ss, Q, ⟨hcw, hmw, -, -⟩, -, -⟩ := h.ex
  have v2 := h.vs.2.1
  have mn := h.mn
  have l0 : (0 : Int32).toInt = 0 := rfl
  have l1 : (1 : Int32).toInt = 1 := rfl
  have l9 : (9 : Int32).toInt = 9 := rfl
  have lm : (-1 : Int32).toInt = -1 := rfl
  have n28 := h.mi.n28
  have n26 := h.mi.n26
  obtain ⟨n, hn⟩ : ∃ n : Nat, (μ.2.1 66 28).toInt = n := ⟨(μ.2.1 66 28).toInt.toNat, by omega⟩
  have hnn : (μ.2.1 66 28).toInt.toNat = n := by omega
  by_cases hC : isC μ a
  · obtain ⟨c, hc, ea, oc⟩ := hC.at
    subst ea
    by_cases hb : (0 : Int32).toInt ≤ b.toInt ∧ b.toInt ≤ (1 : Int32).toInt
    · obtain ⟨D, hD⟩ : ∃ D : Nat → Nat → Nat → Int32, D = fun t d => if d = c then kud (kC μ (29 + 2 * d)) 2 (Int32.ofNat (9 - t)) else kC μ (29 + 2 * d) := ⟨_, rfl⟩
      obtain ⟨G, hG⟩ : ∃ G : Nat → Bool, G = fun t => al (sF w Q (D t) (μ.2.1 66 0) (μ.2.1 66)) n := ⟨_, rfl⟩
      refine PR.v h (if b ≠ 0 then (fm G 10).2 else (fm G 10).1) (gwI_of ?_) (fun m hm k => gwI_of ?_)
      · unfold f_X11_firm
        refine gw_if (hg.t (r := 1) rfl) ?_
        refine gw_nob h (fun _ => ?_) (fun q => absurd hC q)
        refine gw_ite (fun q => absurd rfl q) (fun _ => ?_)
        refine gw_out (fun _ => ?_) (fun q => absurd hb q)
        refine gw_if rfl ?_
        refine gw_loop (fun s => kc μ s.2.2.2 ∧ (-1 ≤ s.2.2.1.toInt ∧ s.2.2.1.toInt ≤ 9) ∧ (s.1, s.2.1) = fm G (9 - s.2.2.1.toInt).toNat) (fun s => s.2.2.1.toInt + 1) (fun s ⟨k2, pr, ef⟩ => ?_) 5000 ((0 : Int32), (-5 : Int32), (9 : Int32), μ) ⟨kc.refl μ, ⟨by show -1 ≤ (9 : Int32).toInt; omega, by show (9 : Int32).toInt ≤ 9; omega⟩, by show ((0 : Int32), (-5 : Int32)) = fm G (9 - (9 : Int32).toInt).toNat; rw [show (9 - (9 : Int32).toInt).toNat = 0 by omega]; rfl⟩ (by show (9 : Int32).toInt + 1 < ((5000 : Nat) : Int); omega) (by show 0 ≤ (9 : Int32).toInt + 1; omega)
        obtain ⟨t, ht, et⟩ : ∃ t : Nat, t ≤ 10 ∧ s.2.2.1.toInt = 9 - (t : Int) := ⟨(9 - s.2.2.1.toInt).toNat, by omega, by omega⟩
        rw [show (9 - s.2.2.1.toInt).toNat = t by omega] at ef
        refine gw_lt (fun g => ?_) (fun g => ?_)
        · have e10 : t = 10 := by omega
          subst e10
          refine gw_ite (fun q => ?_) (fun q => ?_)
          · exact gw_some (gs_inr (gq_I ⟨k2, by rw [if_pos q, ← ef]⟩))
          · exact gw_some (gs_inr (gq_I ⟨k2, by rw [if_neg q, ← ef]⟩))
        · have o9 := ofn (k := 9 - t) (by omega)
          have ev : s.2.2.1 = Int32.ofNat (9 - t) := Int32.toInt_inj.mp (by omega)
          have hm := h.kc k2
          have hwm := hcw.kc k2
          have gm := hwm.1.1
          have r15 := k2.row (show (15 : Nat) ≠ 1 ∧ 15 ≠ 5 ∧ 15 ≠ 6 ∧ 15 ≠ 7 ∧ 15 ≠ 63 ∧ 15 ≠ 64 by decide)
          have r66 := k2.row (show (66 : Nat) ≠ 1 ∧ 66 ≠ 5 ∧ 66 ≠ 6 ∧ 66 ≠ 7 ∧ 66 ≠ 63 ∧ 66 ≠ 64 by decide)
          have hK := k2.K hc
          refine gw_kid gm hc ?_
          refine gw_gIw (ict.c gm (ict_c hc)) ?_
          rw [kC_3, hK, ev]
          have hr3 := (h.row hc).1.2.2
          refine gw_if (gm.t (r := 1) rfl) ?_
          refine gw_bI (v_all hm hwm hc (v := Int32.ofNat (9 - t)) (p := kC μ (29 + 2 * c) 3) (by omega) hr3 (n := n) (by rw [r66]; exact hn) (C := D t) (fun d hd => ?_)) (fun x m10 ⟨k10, ex⟩ => ?_)
          · rw [hD]
            show (if d = c then kud (kC μ (29 + 2 * d)) 2 (Int32.ofNat (9 - t)) else kC μ (29 + 2 * d)) = _
            rw [k2.K hd]
            by_cases q : d = c
            · rw [if_pos q, if_pos q, q]
              have z : kud (kC μ (29 + 2 * c)) 2 (Int32.ofNat (9 - t)) 3 = kC μ (29 + 2 * c) 3 := rfl
              rw [← z, kud_same]
            · rw [if_neg q, if_neg q]
          · have hx : x = bi (G t) := by rw [ex, r15, r66, mn, hG]
            have nx : (Int32.ofNat (9 - t) + (-1 : Int32)).toInt = (Int32.ofNat (9 - t)).toInt + (-1 : Int32).toInt := gx_add (by omega) (by omega)
            obtain ⟨wd, hwd⟩ : ∃ v : Int32, v = Int32.ofNat (9 - t) + (-1 : Int32) := ⟨_, rfl⟩
            rw [← hwd]
            rw [← hwd] at nx
            have st : fm G (t + 1) = if G t = true then ((fm G t).1 + 1, Int32.ofNat (9 - t)) else fm G t := rfl
            rw [← ef] at st
            refine gw_j (fun q => q = fm G (t + 1)) (fun q eq => ?_) (fun j hj => ?_)
            · refine gw_some (gs_inl ⟨k2.trans k10, ⟨by show -1 ≤ wd.toInt; omega, by show wd.toInt ≤ 9; omega⟩, ?_⟩ (by show wd.toInt + 1 < s.2.2.1.toInt + 1; omega) (by show 0 ≤ wd.toInt + 1; omega))
              show (q.1, q.2) = fm G (9 - wd.toInt).toNat
              rw [show (9 - wd.toInt).toNat = t + 1 by omega]
              exact eq
            · refine gw_ite (fun q => hj _ ?_) (fun q => hj _ ?_)
              · rw [st, bi_0 (hx.symm.trans q), if_neg (by decide)]
              · rw [st, if_pos (bi_1 (fun z => q (hx.trans z)))]
      · have r66 := k.row (show (66 : Nat) ≠ 1 ∧ 66 ≠ 5 ∧ 66 ≠ 6 ∧ 66 ≠ 7 ∧ 66 ≠ 63 ∧ 66 ≠ 64 by decide)
        have hw : MW w ss Q m := ⟨hm.mi, by rw [r66]; exact hmw.2⟩
        unfold f_X12_firm
        refine gw_if hm.1.t65 ?_
        refine gw_isc (μ := μ) hm.mi (by rw [r66]; exact e26) (fun _ => ?_) (fun q => absurd hC q)
        refine gw_ite (fun q => absurd q (by decide)) (fun _ => ?_)
        refine gw_inn (fun _ => ?_) (fun q => absurd hb q)
        refine gw_if (by decide) ?_
        refine gw_rd hm.mi hc 38 rfl (by decide) ?_
        rw [r66]
        refine gw_if hm.1.t65 ?_
        refine gw_bV (s_X12_keeps hm.mi) (fun m5 g5 => ?_)
        have h5 := g5.mw hw
        have r5 : m5.2.1 66 = μ.2.1 66 := by rw [g5.2.2.1 66 (by decide), r66]
        have rs5 : rs m5 := g5.rs
        refine gw_loop (fun s => (km A2 m5 s.2.2.2 ∧ rs s.2.2.2 ∧ ∀ j : Nat, j ≠ 38 + c → s.2.2.2.2.1 66 j = μ.2.1 66 j) ∧ (-1 ≤ s.2.2.1.toInt ∧ s.2.2.1.toInt ≤ 9) ∧ (s.1, s.2.1) = fm G (9 - s.2.2.1.toInt).toNat) (fun s => s.2.2.1.toInt + 1) (fun s ⟨⟨k2, r2, f2⟩, pr, ef⟩ => ?_) 5000 ((0 : Int32), (-5 : Int32), (9 : Int32), m5) ⟨⟨km.refl A2 m5, rs5, fun j _ => by show m5.2.1 66 j = _; rw [r5]⟩, ⟨by show -1 ≤ (9 : Int32).toInt; omega, by show (9 : Int32).toInt ≤ 9; omega⟩, by show ((0 : Int32), (-5 : Int32)) = fm G (9 - (9 : Int32).toInt).toNat; rw [show (9 - (9 : Int32).toInt).toNat = 0 by omega]; rfl⟩ (by show (9 : Int32).toInt + 1 < ((5000 : Nat) : Int); omega) (by show 0 ≤ (9 : Int32).toInt + 1; omega)
        obtain ⟨t, ht, et⟩ : ∃ t : Nat, t ≤ 10 ∧ s.2.2.1.toInt = 9 - (t : Int) := ⟨(9 - s.2.2.1.toInt).toNat, by omega, by omega⟩
        rw [show (9 - s.2.2.1.toInt).toNat = t by omega] at ef
        have hs := h5.k2 k2
        have hgs := hs.1.1
        refine gw_lt (fun g => ?_) (fun g => ?_)
        · have e10 : t = 10 := by omega
          subst e10
          refine gw_gRa 66 (hgs.c (r := 65) rfl) (hgs.r (by decide)) ?_
          refine gw_wr hs.1 hc 38 rfl (by decide) ?_
          have kf : km A2 m5 (wI s.2.2.2 66 (38 + c) (μ.2.1 66 (38 + c))) := k2.ws rfl (by unfold A2; omega)
          have rf : rs (wI s.2.2.2 66 (38 + c) (μ.2.1 66 (38 + c))) := rs.ws r2 rfl (by omega)
          have hz : ∀ q : Nat, 38 ≤ q → q < 43 → (wI s.2.2.2 66 (38 + c) (μ.2.1 66 (38 + c))).2.1 66 q = m5.2.1 66 q := fun q _ _ => by
            rw [r5]
            by_cases z : q = 38 + c
            · rw [z, wI_e]
            · rw [wI_n _ _ _ _ z]; exact f2 q z
          have qf := qm.kp g5 (km.rest kf hz) rf
          refine gw_ite (fun q => ?_) (fun q => ?_)
          · exact gw_some (gs_inr (gq_I ⟨qf, by rw [if_pos q, ← ef]⟩))
          · exact gw_some (gs_inr (gq_I ⟨qf, by rw [if_neg q, ← ef]⟩))
        · have o9 := ofn (k := 9 - t) (by omega)
          have ev : s.2.2.1 = Int32.ofNat (9 - t) := Int32.toInt_inj.mp (by omega)
          rw [ev]
          refine gw_gRa 66 (hgs.c (r := 65) rfl) (hgs.r (by decide)) ?_
          refine gw_wr hs.1 hc 38 rfl (by decide) ?_
          have k3 : km A2 m5 (wI s.2.2.2 66 (38 + c) (Int32.ofNat (9 - t))) := k2.ws rfl (by unfold A2; omega)
          have f3 : ∀ j : Nat, j ≠ 38 + c → (wI s.2.2.2 66 (38 + c) (Int32.ofNat (9 - t))).2.1 66 j = μ.2.1 66 j := fun j hj => by rw [wI_n _ _ _ _ hj]; exact f2 j hj
          have v3 : (wI s.2.2.2 66 (38 + c) (Int32.ofNat (9 - t))).2.1 66 (38 + c) = Int32.ofNat (9 - t) := wI_e _ _ _ _
          generalize wI s.2.2.2 66 (38 + c) (Int32.ofNat (9 - t)) = M at *
          have hM := h5.k2 k3
          have eM : ∀ j : Nat, 26 ≤ j → ¬ (38 ≤ j ∧ j < 43) → M.2.1 66 j = μ.2.1 66 j := fun j _ hj => f3 j (by omega)
          have kM : ∀ d : Nat, d < 5 → kR (M.2.1 66) d = D t d := fun d hd => by
            rw [kR_v hc hd f3, v3, hD]
            show _ = if d = c then kud (kC μ (29 + 2 * d)) 2 (Int32.ofNat (9 - t)) else kC μ (29 + 2 * d)
            by_cases q : d = c
            · rw [if_pos q, if_pos q, q, (h.kk hc).1]
            · rw [if_neg q, if_neg q, (h.kk hd).1]
          refine gw_if (hM.1.1.t (r := 65) rfl) ?_
          refine gw_bI (w_areAs hM (by rw [f3 0 (by omega)]; exact v2) (cnt := n) (sz := (μ.2.1 66 26).toInt.toNat) (by rw [f3 26 (by omega)]; omega) (by rw [f3 28 (by omega)]; exact hn) (fun i hi => ?_)) (fun x15 m14 ⟨⟨k14, r14⟩, e15⟩ => ?_)
          · obtain ⟨d, e, ⟨hd, -⟩, he, s1, s2, -⟩ := h.seen (i := i) (by omega)
            exact ⟨d, e, hd, he, by rw [f3 _ (by omega)]; exact s1, by rw [f3 _ (by omega)]; exact s2⟩
          · have se := seen_eq (w := w) (Q := Q) h eM kM
            rw [hnn] at se
            rw [f3 0 (by omega), se] at e15
            have hx : x15 = bi (G t) := by rw [e15, hG]
            have k15 : km A2 m5 m14 := k3.trans k14.w12
            have f15 : ∀ j : Nat, j ≠ 38 + c → m14.2.1 66 j = μ.2.1 66 j := fun j hj => by
              by_cases q : j < 26
              · rw [rs.row2 g5 k15 r14 q, r66]
              · rw [k14.2.2.2.1 j (by unfold A1; omega)]; exact f3 j hj
            have nx : (Int32.ofNat (9 - t) + (-1 : Int32)).toInt = (Int32.ofNat (9 - t)).toInt + (-1 : Int32).toInt := gx_add (by omega) (by omega)
            obtain ⟨wd, hwd⟩ : ∃ v : Int32, v = Int32.ofNat (9 - t) + (-1 : Int32) := ⟨_, rfl⟩
            rw [← hwd]
            rw [← hwd] at nx
            have st : fm G (t + 1) = if G t = true then ((fm G t).1 + 1, Int32.ofNat (9 - t)) else fm G t := rfl
            rw [← ef] at st
            refine gw_j (fun q => s.1 + q = (fm G (t + 1)).1) (fun q eq => ?_) (fun j hj => ?_)
            · refine gw_j (fun q => q = (fm G (t + 1)).2) (fun q2 eq2 => ?_) (fun j hj => ?_)
              · refine gw_some (gs_inl ⟨⟨k15, r14, f15⟩, ⟨by show -1 ≤ wd.toInt; omega, by show wd.toInt ≤ 9; omega⟩, ?_⟩ (by show wd.toInt + 1 < s.2.2.1.toInt + 1; omega) (by show 0 ≤ wd.toInt + 1; omega))
                show (s.1 + q, q2) = fm G (9 - wd.toInt).toNat
                rw [show (9 - wd.toInt).toNat = t + 1 by omega, eq, eq2]
              · refine gw_ite (fun q => hj _ ?_) (fun q => hj _ ?_)
                · rw [st, bi_0 (hx.symm.trans q), if_neg (by decide)]
                · rw [st, if_pos (bi_1 (fun z => q (hx.trans z)))]
            · refine gw_ite (fun q => hj _ ?_) (fun q => hj _ ?_)
              · rw [st, bi_0 (hx.symm.trans q), if_neg (by decide), Int32.add_zero]
              · rw [st, if_pos (bi_1 (fun z => q (hx.trans z)))]
    · refine PR.u h (-1) (gwI_of ?_) (gwI_of ?_)
      · unfold f_X11_firm
        refine gw_if (hg.t (r := 1) rfl) ?_
        refine gw_nob h (fun _ => ?_) (fun q => absurd hC q)
        refine gw_ite (fun q => absurd rfl q) (fun _ => ?_)
        refine gw_out (fun q => absurd q hb) (fun _ => ?_)
        refine gw_ite (fun q => absurd q (by decide)) (fun _ => ?_)
        exact gw_some (gq_I ⟨rfl, rfl⟩)
      · unfold f_X12_firm
        refine gw_if h.1.t65 ?_
        refine gw_isc h.mi e26 (fun _ => ?_) (fun q => absurd hC q)
        refine gw_ite (fun q => absurd q (by decide)) (fun _ => ?_)
        refine gw_inn (fun q => absurd q hb) (fun _ => ?_)
        refine gw_ite (fun q => absurd rfl q) (fun _ => ?_)
        exact gw_some (gq_I ⟨qm.refl μ, rfl⟩)
  · refine PR.u h (-1) (gwI_of ?_) (gwI_of ?_)
    · unfold f_X11_firm
      refine gw_if (hg.t (r := 1) rfl) ?_
      refine gw_nob h (fun q => absurd q hC) (fun _ => ?_)
      refine gw_if (by decide) ?_
      exact gw_some (gq_I ⟨rfl, rfl⟩)
    · unfold f_X12_firm
      refine gw_if h.1.t65 ?_
      refine gw_isc h.mi e26 (fun q => absurd q hC) (fun _ => ?_)
      refine gw_if rfl ?_
      exact gw_some (gq_I ⟨qm.refl μ, rfl⟩)
set_option maxHeartbeats 8000000 in
theorem N_had (h : REL μ) {a : Int32} : PR (f_X11_had 1 a μ) (f_X12_had 65 a) := by
  have hg := h.ci.1
  have e26 := h.sz.symm
  obtain ⟨w, ss, Q, ⟨hcw, hmw, -, -⟩, -, -⟩ := h.ex
  have v2 := h.vs.2.1
  have mn := h.mn
  have l0 : (0 : Int32).toInt = 0 := rfl
  have l1 : (1 : Int32).toInt = 1 := rfl
  have l6 : (6 : Int32).toInt = 6 := rfl
  have n28 := h.mi.n28
  have n26 := h.mi.n26
  obtain ⟨n, hn⟩ : ∃ n : Nat, (μ.2.1 66 28).toInt = n := ⟨(μ.2.1 66 28).toInt.toNat, by omega⟩
  have hnn : (μ.2.1 66 28).toInt.toNat = n := by omega
  by_cases hC : isC μ a
  · obtain ⟨c, hc, ea, oc⟩ := hC.at
    subst ea
    obtain ⟨D, hD⟩ : ∃ D : Nat → Nat → Nat → Int32, D = fun t d => if d = c then kud (kC μ (29 + 2 * d)) 3 (Int32.ofNat t) else kC μ (29 + 2 * d) := ⟨_, rfl⟩
    obtain ⟨G, hG⟩ : ∃ G : Nat → Bool, G = fun t => al (sF w Q (D t) (μ.2.1 66 0) (μ.2.1 66)) n := ⟨_, rfl⟩
    refine PR.v h (hm G 7) (gwI_of ?_) (fun m hmm k => gwI_of ?_)
    · unfold f_X11_had
      refine gw_if (hg.t (r := 1) rfl) ?_
      refine gw_nob h (fun _ => ?_) (fun q => absurd hC q)
      refine gw_if rfl ?_
      refine gw_loop (fun s => kc μ s.2.2 ∧ (0 ≤ s.2.1.toInt ∧ s.2.1.toInt ≤ 7) ∧ s.1 = hm G s.2.1.toInt.toNat) (fun s => 100 - s.2.1.toInt) (fun s ⟨k2, p1, p2⟩ => ?_) 5000 ((0 : Int32), (0 : Int32), μ) ⟨kc.refl μ, ⟨by show 0 ≤ (0 : Int32).toInt; omega, by show (0 : Int32).toInt ≤ 7; omega⟩, rfl⟩ (by show 100 - (0 : Int32).toInt < ((5000 : Nat) : Int); omega) (by show 0 ≤ 100 - (0 : Int32).toInt; omega)
      obtain ⟨t, ht, et⟩ : ∃ t : Nat, t ≤ 7 ∧ s.2.1 = Int32.ofNat t := ⟨s.2.1.toInt.toNat, by omega, (gx_of p1.1).symm⟩
      have ot := ofn (k := t) (by omega)
      have hS : s.2.1.toInt = t := by rw [et]; exact ot
      rw [show s.2.1.toInt.toNat = t by omega] at p2
      refine gw_lt (fun g => ?_) (fun g => ?_)
      · exact gw_some (gs_inr (gq_I ⟨k2, by rw [p2, show t = 7 by omega]⟩))
      · have hmr := h.kc k2
        have hwm := hcw.kc k2
        have gm := hwm.1.1
        have r15 := k2.row (show (15 : Nat) ≠ 1 ∧ 15 ≠ 5 ∧ 15 ≠ 6 ∧ 15 ≠ 7 ∧ 15 ≠ 63 ∧ 15 ≠ 64 by decide)
        have r66 := k2.row (show (66 : Nat) ≠ 1 ∧ 66 ≠ 5 ∧ 66 ≠ 6 ∧ 66 ≠ 7 ∧ 66 ≠ 63 ∧ 66 ≠ 64 by decide)
        have hK := k2.K hc
        rw [et]
        refine gw_kid gm hc ?_
        refine gw_gIw (ict.c gm (ict_c hc)) ?_
        rw [kC_2, hK]
        have hr2 := (h.row hc).1.2.1
        refine gw_if (gm.t (r := 1) rfl) ?_
        refine gw_bI (v_all hmr hwm hc (v := kC μ (29 + 2 * c) 2) (p := Int32.ofNat t) hr2 (by omega) (n := n) (by rw [r66]; exact hn) (C := D t) (fun d hd => ?_)) (fun x m10 ⟨k10, ex⟩ => ?_)
        · rw [hD]
          show (if d = c then kud (kC μ (29 + 2 * d)) 3 (Int32.ofNat t) else kC μ (29 + 2 * d)) = _
          rw [k2.K hd]
          by_cases q : d = c
          · rw [if_pos q, if_pos q, q, kud_same]
          · rw [if_neg q, if_neg q]
        · have hx : x = bi (G t) := by rw [ex, r15, r66, mn, hG]
          have nx : (Int32.ofNat t + (1 : Int32)).toInt = (Int32.ofNat t).toInt + (1 : Int32).toInt := gx_add (by omega) (by omega)
          have st : hm G (t + 1) = if G t = true then hm G t ||| ((1 : Int32) <<< (Int32.ofNat t &&& 31)) else hm G t := rfl
          rw [← p2] at st
          refine gw_j (fun q => q = hm G (t + 1)) (fun q eq => ?_) (fun j hj => ?_)
          · refine gw_some (gs_inl ⟨k2.trans k10, ⟨by show 0 ≤ (Int32.ofNat t + (1 : Int32)).toInt; omega, by show (Int32.ofNat t + (1 : Int32)).toInt ≤ 7; omega⟩, ?_⟩ (by show 100 - (Int32.ofNat t + (1 : Int32)).toInt < 100 - s.2.1.toInt; omega) (by show 0 ≤ 100 - (Int32.ofNat t + (1 : Int32)).toInt; omega))
            show q = hm G (Int32.ofNat t + (1 : Int32)).toInt.toNat
            rw [show (Int32.ofNat t + (1 : Int32)).toInt.toNat = t + 1 by omega]
            exact eq
          · refine gw_ite (fun q => hj _ ?_) (fun q => hj _ ?_)
            · rw [st, bi_0 (hx.symm.trans q), if_neg (by decide)]
            · rw [st, if_pos (bi_1 (fun z => q (hx.trans z)))]
    · have r66 := k.row (show (66 : Nat) ≠ 1 ∧ 66 ≠ 5 ∧ 66 ≠ 6 ∧ 66 ≠ 7 ∧ 66 ≠ 63 ∧ 66 ≠ 64 by decide)
      have hw : MW w ss Q m := ⟨hmm.mi, by rw [r66]; exact hmw.2⟩
      unfold f_X12_had
      refine gw_if hmm.1.t65 ?_
      refine gw_isc (μ := μ) hmm.mi (by rw [r66]; exact e26) (fun _ => ?_) (fun q => absurd hC q)
      refine gw_if (by decide) ?_
      refine gw_if hmm.1.t65 ?_
      refine gw_bV (s_X12_keeps hmm.mi) (fun m5 g5 => ?_)
      have h5 := g5.mw hw
      have rs5 : rs m5 := g5.rs
      refine gw_loop (fun s => (km A1 m5 s.2.2 ∧ rs s.2.2) ∧ (0 ≤ s.2.1.toInt ∧ s.2.1.toInt ≤ 7) ∧ s.1 = hm G s.2.1.toInt.toNat) (fun s => 100 - s.2.1.toInt) (fun s ⟨⟨k2, r2⟩, p1, p2⟩ => ?_) 5000 ((0 : Int32), (0 : Int32), m5) ⟨⟨km.refl A1 m5, rs5⟩, ⟨by show 0 ≤ (0 : Int32).toInt; omega, by show (0 : Int32).toInt ≤ 7; omega⟩, rfl⟩ (by show 100 - (0 : Int32).toInt < ((5000 : Nat) : Int); omega) (by show 0 ≤ 100 - (0 : Int32).toInt; omega)
      obtain ⟨t, ht, et⟩ : ∃ t : Nat, t ≤ 7 ∧ s.2.1 = Int32.ofNat t := ⟨s.2.1.toInt.toNat, by omega, (gx_of p1.1).symm⟩
      have ot := ofn (k := t) (by omega)
      have hS : s.2.1.toInt = t := by rw [et]; exact ot
      rw [show s.2.1.toInt.toNat = t by omega] at p2
      have hs := h5.k1 k2
      have hgs := hs.1.1
      have c66 : s.2.2.2.1 66 = μ.2.1 66 := (rs.row g5 k2 r2).trans r66
      refine gw_lt (fun g => ?_) (fun g => ?_)
      · exact gw_some (gs_inr (gq_I ⟨qm.kp g5 k2 r2, by rw [p2, show t = 7 by omega]⟩))
      · rw [et]
        refine gw_gRa 66 (hgs.c (r := 65) rfl) (hgs.r (by decide)) ?_
        refine gw_wr hs.1 hc 1 rfl (by decide) ?_
        have k3 : km A1 m5 (wI s.2.2 66 (1 + c) (Int32.ofNat t)) := k2.ws rfl (by unfold A1; omega)
        have f3 : ∀ j : Nat, j ≠ 1 + c → (wI s.2.2 66 (1 + c) (Int32.ofNat t)).2.1 66 j = μ.2.1 66 j := fun j hj => by rw [wI_n _ _ _ _ hj, c66]
        have kM : ∀ d : Nat, d < 5 → kR ((wI s.2.2 66 (1 + c) (Int32.ofNat t)).2.1 66) d = D t d := fun d hd => by
          rw [kR_w hc hd (j := 3) (by decide) (by decide) (by omega), c66, hD]
          show _ = if d = c then kud (kC μ (29 + 2 * d)) 3 (Int32.ofNat t) else kC μ (29 + 2 * d)
          by_cases q : d = c
          · rw [if_pos q, if_pos q, q, (h.kk hc).1]
          · rw [if_neg q, if_neg q, (h.kk hd).1]
        generalize wI s.2.2 66 (1 + c) (Int32.ofNat t) = M at *
        have hM := h5.k1 k3
        have eM : ∀ j : Nat, 26 ≤ j → ¬ (38 ≤ j ∧ j < 43) → M.2.1 66 j = μ.2.1 66 j := fun j hj _ => f3 j (by omega)
        refine gw_if (hM.1.1.t (r := 65) rfl) ?_
        refine gw_bI (w_areAs hM (by rw [f3 0 (by omega)]; exact v2) (cnt := n) (sz := (μ.2.1 66 26).toInt.toNat) (by rw [f3 26 (by omega)]; omega) (by rw [f3 28 (by omega)]; exact hn) (fun i hi => ?_)) (fun x15 m14 ⟨⟨k14, r14⟩, e15⟩ => ?_)
        · obtain ⟨d, e, ⟨hd, -⟩, he, s1, s2, -⟩ := h.seen (i := i) (by omega)
          exact ⟨d, e, hd, he, by rw [f3 _ (by omega)]; exact s1, by rw [f3 _ (by omega)]; exact s2⟩
        · have se := seen_eq (w := w) (Q := Q) h eM kM
          rw [hnn] at se
          rw [f3 0 (by omega), se] at e15
          have hx : x15 = bi (G t) := by rw [e15, hG]
          have nx : (Int32.ofNat t + (1 : Int32)).toInt = (Int32.ofNat t).toInt + (1 : Int32).toInt := gx_add (by omega) (by omega)
          have st : hm G (t + 1) = if G t = true then hm G t ||| ((1 : Int32) <<< (Int32.ofNat t &&& 31)) else hm G t := rfl
          rw [← p2] at st
          refine gw_j (fun q => s.1 ||| q = hm G (t + 1)) (fun q eq => ?_) (fun j hj => ?_)
          · refine gw_some (gs_inl ⟨⟨k3.trans k14, r14⟩, ⟨by show 0 ≤ (Int32.ofNat t + (1 : Int32)).toInt; omega, by show (Int32.ofNat t + (1 : Int32)).toInt ≤ 7; omega⟩, ?_⟩ (by show 100 - (Int32.ofNat t + (1 : Int32)).toInt < 100 - s.2.1.toInt; omega) (by show 0 ≤ 100 - (Int32.ofNat t + (1 : Int32)).toInt; omega))
            show s.1 ||| q = hm G (Int32.ofNat t + (1 : Int32)).toInt.toNat
            rw [show (Int32.ofNat t + (1 : Int32)).toInt.toNat = t + 1 by omega]
            exact eq
          · refine gw_ite (fun q => hj _ ?_) (fun q => hj _ ?_)
            · rw [st, bi_0 (hx.symm.trans q), if_neg (by decide)]
              exact or0 _
            · rw [st, if_pos (bi_1 (fun z => q (hx.trans z)))]
  · refine PR.u h (-1) (gwI_of ?_) (gwI_of ?_)
    · unfold f_X11_had
      refine gw_if (hg.t (r := 1) rfl) ?_
      refine gw_nob h (fun q => absurd q hC) (fun _ => ?_)
      refine gw_ite (fun q => absurd q (by decide)) (fun _ => ?_)
      exact gw_some (gq_I ⟨rfl, rfl⟩)
    · unfold f_X12_had
      refine gw_if h.1.t65 ?_
      refine gw_isc h.mi e26 (fun q => absurd q hC) (fun _ => ?_)
      refine gw_ite (fun q => absurd rfl q) (fun _ => ?_)
      exact gw_some (gq_I ⟨qm.refl μ, rfl⟩)
end
end
