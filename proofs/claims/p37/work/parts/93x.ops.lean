section
/-! rows told, over REL -/
section
variable {μ : gm_M}
theorem cl_add (h : REL μ) {r j : Nat} {L : Int} (hr : (r = 23 ∧ j = 7 ∧ L = 5) ∨ (r = 25 ∧ j = 8 ∧ L = 8) ∨ (r = 27 ∧ j = 9 ∧ L = 8)) {a b c : Int32} {R : Int32 → gm_M → Prop} (hf : (μ.2.1 r 2).toInt < L → R (μ.2.1 r 2 + 1) (ad μ r a b c)) (hn : L ≤ (μ.2.1 r 2).toInt → R (-4) μ) : gw (gm_gR μ [16] 1 1 (fun v7 => gm_gR μ [13] v7 j (fun v8 => if gm_tag μ v8 = 12 then gm_bI (f_X7_isFull v8 μ) (fun x10 m9 => if x10 = 0 then gm_gR m9 [16] 1 1 (fun v11 => gm_gR m9 [13] v11 j (fun v12 => if gm_tag m9 v12 = 12 then gm_bI (f_X7_add v12 a b c m9) (fun x14 m13 => some (some (.int x14), m13)) else none)) else some (some (.int (-4 : Int32)), m9)) else none))) (gqI R) := by
  have hc := h.ci
  have hg := hc.1
  have l0 : (0 : Int32).toInt = 0 := rfl
  have n23 := hc.n23
  have n25 := hc.n25
  have n27 := hc.n27
  have e23 := hc.l23
  have e25 := hc.l25
  have e27 := hc.l27
  refine gw_gRa 15 (hg.c (r := 1) rfl) (hg.r (by decide)) ?_
  rcases hr with ⟨rfl, rfl, rfl⟩ | ⟨rfl, rfl, rfl⟩ | ⟨rfl, rfl, rfl⟩
  · refine gw_gRa 23 (hg.c (r := 15) rfl) (hg.r (by decide)) ?_
    refine gw_if (hg.t (r := 23) rfl) ?_
    refine gw_bI (s_isFull (hg.t (r := 23) rfl)) (fun x m ⟨em, hx⟩ => ?_)
    subst em
    refine gw_eq (fun g => ?_) (fun g => gw_some (gq_I (hn (by omega))))
    refine gw_gRa 15 (hg.c (r := 1) rfl) (hg.r (by decide)) ?_
    refine gw_gRa 23 (hg.c (r := 15) rfl) (hg.r (by decide)) ?_
    refine gw_if (hg.t (r := 23) rfl) ?_
    refine gw_bI (s_add (r := 23) 5 (hg.t rfl) (hg.t rfl) (hg.l rfl) (hg.r (by decide)) hc.l23 hc.n23.1 (by omega) (by decide)) (fun x m' ⟨ex, hm⟩ => ?_)
    subst ex
    rcases hm with ⟨q, em⟩ | ⟨q, em⟩
    · subst em; exact gw_some (gq_I (hf q))
    · exfalso; omega
  · refine gw_gRa 25 (hg.c (r := 15) rfl) (hg.r (by decide)) ?_
    refine gw_if (hg.t (r := 25) rfl) ?_
    refine gw_bI (s_isFull (hg.t (r := 25) rfl)) (fun x m ⟨em, hx⟩ => ?_)
    subst em
    refine gw_eq (fun g => ?_) (fun g => gw_some (gq_I (hn (by omega))))
    refine gw_gRa 15 (hg.c (r := 1) rfl) (hg.r (by decide)) ?_
    refine gw_gRa 25 (hg.c (r := 15) rfl) (hg.r (by decide)) ?_
    refine gw_if (hg.t (r := 25) rfl) ?_
    refine gw_bI (s_add (r := 25) 8 (hg.t rfl) (hg.t rfl) (hg.l rfl) (hg.r (by decide)) hc.l25 hc.n25.1 (by omega) (by decide)) (fun x m' ⟨ex, hm⟩ => ?_)
    subst ex
    rcases hm with ⟨q, em⟩ | ⟨q, em⟩
    · subst em; exact gw_some (gq_I (hf q))
    · exfalso; omega
  · refine gw_gRa 27 (hg.c (r := 15) rfl) (hg.r (by decide)) ?_
    refine gw_if (hg.t (r := 27) rfl) ?_
    refine gw_bI (s_isFull (hg.t (r := 27) rfl)) (fun x m ⟨em, hx⟩ => ?_)
    subst em
    refine gw_eq (fun g => ?_) (fun g => gw_some (gq_I (hn (by omega))))
    refine gw_gRa 15 (hg.c (r := 1) rfl) (hg.r (by decide)) ?_
    refine gw_gRa 27 (hg.c (r := 15) rfl) (hg.r (by decide)) ?_
    refine gw_if (hg.t (r := 27) rfl) ?_
    refine gw_bI (s_add (r := 27) 8 (hg.t rfl) (hg.t rfl) (hg.l rfl) (hg.r (by decide)) hc.l27 hc.n27.1 (by omega) (by decide)) (fun x m' ⟨ex, hm⟩ => ?_)
    subst ex
    rcases hm with ⟨q, em⟩ | ⟨q, em⟩
    · subst em; exact gw_some (gq_I (hf q))
    · exfalso; omega
theorem cl_clr (h : REL μ) {r j s : Nat} (hr : (r = 23 ∧ j = 7 ∧ s = 28) ∨ (r = 25 ∧ j = 8 ∧ s = 29) ∨ (r = 27 ∧ j = 9 ∧ s = 30)) {g : gm_M → Option (Option Value × gm_M)} (hG : g (wI μ r 2 0) = gm_gR (wI μ r 2 0) [17] 65 1 (fun v => gm_sI (wI μ r 2 0) v (Int32.ofNat s) (0 : Int32) (fun m => some (some (.int (0 : Int32)), m)))) : gw (gm_gR μ [16] 1 1 (fun v => gm_gR μ [13] v j (fun v8 => if gm_tag μ v8 = 12 then gm_bI (f_X7_clear v8 μ) (fun x m => some (some (.int x), m)) else none))) (gqI (fun x m => gm_tag m 65 = 17 ∧ gwI (g m) (fun y m2 => y = x ∧ REL m2))) := by
  have hg := h.ci.1
  have fin : ∀ (r s : Nat), ((r = 23 ∧ s = 28) ∨ (r = 25 ∧ s = 29) ∨ (r = 27 ∧ s = 30)) → g (wI μ r 2 0) = gm_gR (wI μ r 2 0) [17] 65 1 (fun v => gm_sI (wI μ r 2 0) v (Int32.ofNat s) (0 : Int32) (fun m => some (some (.int (0 : Int32)), m))) → gw (some (some (.int (0 : Int32)), wI μ r 2 0)) (gqI (fun x m => gm_tag m 65 = 17 ∧ gwI (g m) (fun y m2 => y = x ∧ REL m2))) := fun r s hq e => by
    refine gw_some (gq_I ⟨hg.t (r := 65) rfl, gwI_of ?_⟩)
    rw [e]
    refine gw_gRa 66 (hg.c (r := 65) rfl) (hg.r (by decide)) ?_
    refine gw_sIw s (hg.t (r := 66) rfl) (hg.l (r := 66) rfl) (ofn (by omega)) (by omega) ?_
    exact gw_some (gq_I ⟨rfl, R_clr h hq (A_clr h.1 hq)⟩)
  refine gw_gRa 15 (hg.c (r := 1) rfl) (hg.r (by decide)) ?_
  rcases hr with ⟨rfl, rfl, rfl⟩ | ⟨rfl, rfl, rfl⟩ | ⟨rfl, rfl, rfl⟩
  · refine gw_gRa 23 (hg.c (r := 15) rfl) (hg.r (by decide)) ?_
    refine gw_if (hg.t (r := 23) rfl) ?_
    refine gw_bI (s_clear (hg.t (r := 23) rfl)) (fun x m ⟨ex, em⟩ => ?_)
    subst ex
    subst em
    exact fin 23 28 (by omega) hG
  · refine gw_gRa 25 (hg.c (r := 15) rfl) (hg.r (by decide)) ?_
    refine gw_if (hg.t (r := 25) rfl) ?_
    refine gw_bI (s_clear (hg.t (r := 25) rfl)) (fun x m ⟨ex, em⟩ => ?_)
    subst ex
    subst em
    exact fin 25 29 (by omega) hG
  · refine gw_gRa 27 (hg.c (r := 15) rfl) (hg.r (by decide)) ?_
    refine gw_if (hg.t (r := 27) rfl) ?_
    refine gw_bI (s_clear (hg.t (r := 27) rfl)) (fun x m ⟨ex, em⟩ => ?_)
    subst ex
    subst em
    exact fin 27 30 (by omega) hG
set_option maxHeartbeats 4000000 in
theorem N_see (h : REL μ) {a b c : Int32} : PR (f_X11_see 1 a b c μ) (f_X12_see 65 a b c) := by
  have hg := h.ci.1
  have e26 := h.sz.symm
  have E28 : μ.2.1 23 2 = μ.2.1 66 28 := h.1.2.2.2.1.1.2.2.1
  have n28 := h.mi.n28
  have l0 : (0 : Int32).toInt = 0 := rfl
  have l5 : (5 : Int32).toInt = 5 := rfl
  have l20 : (20 : Int32).toInt = 20 := rfl
  have l28 : (28 : Int32).toInt = 28 := rfl
  have l63 : (63 : Int32).toInt = 63 := rfl
  have l68 : (68 : Int32).toInt = 68 := rfl
  have l73 : (73 : Int32).toInt = 73 := rfl
  obtain ⟨N, hN⟩ : ∃ N : Nat, (μ.2.1 66 28).toInt = N := ⟨(μ.2.1 66 28).toInt.toNat, by omega⟩
  refine gwI_of ?_
  unfold f_X11_see
  refine gw_ite (fun hm1 => ?_) (fun hm1 => ?_)
  · refine gw_if (hg.t (r := 1) rfl) ?_
    refine gw_nob h (fun hC => ?_) (fun nC => ?_)
    · rw [if_pos rfl]
      refine gw_out (fun hb => ?_) (fun nb => ?_)
      · rw [if_neg (by decide)]
        refine gw_out (fun hc => ?_) (fun nc => ?_)
        · rw [if_pos rfl]
          refine cl_add h (Or.inl ⟨rfl, rfl, rfl⟩) (fun hl => ?_) (fun hl => ?_)
          · rw [E28, hN] at hl
            have r66 : (ad μ 23 a b c).2.1 66 = μ.2.1 66 := ad_o (by decide) (by decide)
            have hM : MI (ad μ 23 a b c) := ⟨hg, by rw [r66]; exact h.mi.2⟩
            have hk := hC
            unfold isC at hk
            rw [h.sz] at hk
            have fin : ALL _ → REL _ := R_see h (a := a) (b := b) (c := c) hN (by omega) ⟨by omega, by omega⟩ hk.2.1
            refine ⟨hM.1.t (r := 65) rfl, gwI_of ?_⟩
            unfold f_X12_see
            refine gw_if hm1 ?_
            refine gw_if (hM.1.t (r := 65) rfl) ?_
            refine gw_isc (μ := μ) hM (by rw [r66]; exact e26) (fun _ => ?_) (fun q => absurd hC q)
            rw [if_pos (by decide)]
            refine gw_inn (fun _ => ?_) (fun q => absurd hb q)
            rw [if_neg (by decide)]
            refine gw_inn (fun _ => ?_) (fun q => absurd hc q)
            rw [if_pos (by decide)]
            have n1 : ((63 : Int32) + μ.2.1 66 28).toInt = (63 : Int32).toInt + (μ.2.1 66 28).toInt := gx_add (by omega) (by omega)
            have n2 : ((68 : Int32) + μ.2.1 66 28).toInt = (68 : Int32).toInt + (μ.2.1 66 28).toInt := gx_add (by omega) (by omega)
            have n3 : ((73 : Int32) + μ.2.1 66 28).toInt = (73 : Int32).toInt + (μ.2.1 66 28).toInt := gx_add (by omega) (by omega)
            have tc : [17].contains (gm_tag (ad μ 23 a b c) 65) = true := hM.1.c (r := 65) rfl
            have r1 : (ad μ 23 a b c).2.2 65 1 = 66 := hM.1.r (by decide)
            have tt : gm_tag (ad μ 23 a b c) 66 = 1 := hM.1.t (r := 66) rfl
            have tl : gm_len (ad μ 23 a b c) 66 = 925 := hM.1.l (r := 66) rfl
            refine gw_gRa 66 tc r1 ?_
            refine gw_aIw 28 tt tl l28 (by omega) ?_
            rw [r66]
            refine gw_if (fun e => by have := congrArg Int32.toInt e; omega) ?_
            refine gw_gRa 66 tc r1 ?_
            refine gw_gRa 66 tc r1 ?_
            refine gw_aIw 28 tt tl l28 (by omega) ?_
            rw [r66]
            refine gw_sIw (63 + N) tt tl (by omega) (by omega) ?_
            refine gw_gRa 66 tc r1 ?_
            refine gw_gRa 66 tc r1 ?_
            refine gw_aIw 28 tt tl l28 (by omega) ?_
            rw [wI_n _ _ _ _ (show (28 : Nat) ≠ 63 + N by omega), r66]
            refine gw_sIw (68 + N) tt tl (by omega) (by omega) ?_
            refine gw_gRa 66 tc r1 ?_
            refine gw_gRa 66 tc r1 ?_
            refine gw_aIw 28 tt tl l28 (by omega) ?_
            rw [wI_n _ _ _ _ (show (28 : Nat) ≠ 68 + N by omega), wI_n _ _ _ _ (show (28 : Nat) ≠ 63 + N by omega), r66]
            refine gw_sIw (73 + N) tt tl (by omega) (by omega) ?_
            refine gw_gRa 66 tc r1 ?_
            refine gw_aIw 28 tt tl l28 (by omega) ?_
            rw [wI_n _ _ _ _ (show (28 : Nat) ≠ 73 + N by omega), wI_n _ _ _ _ (show (28 : Nat) ≠ 68 + N by omega), wI_n _ _ _ _ (show (28 : Nat) ≠ 63 + N by omega), r66]
            refine gw_sIw 28 tt tl l28 (by omega) ?_
            refine gw_gRa 66 tc r1 ?_
            refine gw_aIw 28 tt tl l28 (by omega) ?_
            rw [wI_e]
            exact gw_some (gq_I ⟨by rw [E28], fin (A_see h.1 hN (by omega) ⟨hk.1, by omega⟩ (by omega))⟩)
          · rw [E28, hN] at hl
            refine ⟨h.1.t65, gwI_of ?_⟩
            unfold f_X12_see
            refine gw_if hm1 ?_
            refine gw_if h.1.t65 ?_
            refine gw_isc h.mi e26 (fun _ => ?_) (fun q => absurd hC q)
            rw [if_pos (by decide)]
            refine gw_inn (fun _ => ?_) (fun q => absurd hb q)
            rw [if_neg (by decide)]
            refine gw_inn (fun _ => ?_) (fun q => absurd hc q)
            rw [if_pos (by decide)]
            refine gw_gRa 66 (hg.c (r := 65) rfl) (hg.r (by decide)) ?_
            refine gw_aIw 28 (hg.t (r := 66) rfl) (hg.l (r := 66) rfl) l28 (by omega) ?_
            rw [show μ.2.1 66 28 = 5 from Int32.toInt_inj.mp (by omega), if_neg (by decide)]
            exact gw_some (gq_I ⟨rfl, h⟩)
        · rw [if_neg (by decide)]
          refine leaf h (gwI_of ?_)
          unfold f_X12_see
          refine gw_if hm1 ?_
          refine gw_if h.1.t65 ?_
          refine gw_isc h.mi e26 (fun _ => ?_) (fun q => absurd hC q)
          rw [if_pos (by decide)]
          refine gw_inn (fun _ => ?_) (fun q => absurd hb q)
          rw [if_neg (by decide)]
          refine gw_inn (fun q => absurd q nc) (fun _ => ?_)
          rw [if_neg (by decide)]
          exact gw_some (gq_I ⟨qm.refl μ, rfl⟩)
      · rw [if_pos (by decide)]
        refine leaf h (gwI_of ?_)
        unfold f_X12_see
        refine gw_if hm1 ?_
        refine gw_if h.1.t65 ?_
        refine gw_isc h.mi e26 (fun _ => ?_) (fun q => absurd hC q)
        rw [if_pos (by decide)]
        refine gw_inn (fun q => absurd q nb) (fun _ => ?_)
        rw [if_pos rfl]
        exact gw_some (gq_I ⟨qm.refl μ, rfl⟩)
    · rw [if_neg (by decide)]
      refine leaf h (gwI_of ?_)
      unfold f_X12_see
      refine gw_if hm1 ?_
      refine gw_if h.1.t65 ?_
      refine gw_isc h.mi e26 (fun q => absurd q nC) (fun _ => ?_)
      rw [if_neg (by decide)]
      exact gw_some (gq_I ⟨qm.refl μ, rfl⟩)
  · refine cl_clr h (Or.inl ⟨rfl, rfl, rfl⟩) ?_
    unfold f_X12_see
    rw [if_neg hm1]
    rfl
set_option maxHeartbeats 4000000 in
theorem N_book (h : REL μ) {a b : Int32} : PR (f_X11_book 1 a b μ) (f_X12_book 65 a b) := by
  have hg := h.ci.1
  have e26 := h.sz.symm
  have E30 : μ.2.1 27 2 = μ.2.1 66 30 := h.1.2.2.2.1.1.2.2.2.2
  have n30 := h.mi.n30
  have l0 : (0 : Int32).toInt = 0 := rfl
  have l8 : (8 : Int32).toInt = 8 := rfl
  have l30 : (30 : Int32).toInt = 30 := rfl
  have l94 : (94 : Int32).toInt = 94 := rfl
  have l102 : (102 : Int32).toInt = 102 := rfl
  obtain ⟨N, hN⟩ : ∃ N : Nat, (μ.2.1 66 30).toInt = N := ⟨(μ.2.1 66 30).toInt.toNat, by omega⟩
  refine gwI_of ?_
  unfold f_X11_book
  refine gw_ite (fun hm1 => ?_) (fun hm1 => ?_)
  · refine gw_if (hg.t (r := 1) rfl) ?_
    refine gw_nob h (fun hC => ?_) (fun nC => ?_)
    · rw [if_pos rfl]
      refine gw_out (fun hb => ?_) (fun nb => ?_)
      · rw [if_pos rfl]
        refine cl_add h (Or.inr (Or.inr ⟨rfl, rfl, rfl⟩)) (fun hl => ?_) (fun hl => ?_)
        · rw [E30, hN] at hl
          have r66 : (ad μ 27 a b 0).2.1 66 = μ.2.1 66 := ad_o (by decide) (by decide)
          have hM : MI (ad μ 27 a b 0) := ⟨hg, by rw [r66]; exact h.mi.2⟩
          have hk := hC
          unfold isC at hk
          rw [h.sz] at hk
          have fin : ALL _ → REL _ := R_book h (a := a) (b := b) (c := 0) hN (by omega) hk.2.1
          refine ⟨hM.1.t (r := 65) rfl, gwI_of ?_⟩
          unfold f_X12_book
          refine gw_if hm1 ?_
          refine gw_if (hM.1.t (r := 65) rfl) ?_
          refine gw_isc (μ := μ) hM (by rw [r66]; exact e26) (fun _ => ?_) (fun q => absurd hC q)
          rw [if_pos (by decide)]
          refine gw_inn (fun _ => ?_) (fun q => absurd hb q)
          rw [if_pos (by decide)]
          have n1 : ((94 : Int32) + μ.2.1 66 30).toInt = (94 : Int32).toInt + (μ.2.1 66 30).toInt := gx_add (by omega) (by omega)
          have n2 : ((102 : Int32) + μ.2.1 66 30).toInt = (102 : Int32).toInt + (μ.2.1 66 30).toInt := gx_add (by omega) (by omega)
          have tc : [17].contains (gm_tag (ad μ 27 a b 0) 65) = true := hM.1.c (r := 65) rfl
          have r1 : (ad μ 27 a b 0).2.2 65 1 = 66 := hM.1.r (by decide)
          have tt : gm_tag (ad μ 27 a b 0) 66 = 1 := hM.1.t (r := 66) rfl
          have tl : gm_len (ad μ 27 a b 0) 66 = 925 := hM.1.l (r := 66) rfl
          refine gw_gRa 66 tc r1 ?_
          refine gw_aIw 30 tt tl l30 (by omega) ?_
          rw [r66]
          refine gw_if (fun e => by have := congrArg Int32.toInt e; omega) ?_
          refine gw_gRa 66 tc r1 ?_
          refine gw_gRa 66 tc r1 ?_
          refine gw_aIw 30 tt tl l30 (by omega) ?_
          rw [r66]
          refine gw_sIw (94 + N) tt tl (by omega) (by omega) ?_
          refine gw_gRa 66 tc r1 ?_
          refine gw_gRa 66 tc r1 ?_
          refine gw_aIw 30 tt tl l30 (by omega) ?_
          rw [wI_n _ _ _ _ (show (30 : Nat) ≠ 94 + N by omega), r66]
          refine gw_sIw (102 + N) tt tl (by omega) (by omega) ?_
          refine gw_gRa 66 tc r1 ?_
          refine gw_aIw 30 tt tl l30 (by omega) ?_
          rw [wI_n _ _ _ _ (show (30 : Nat) ≠ 102 + N by omega), wI_n _ _ _ _ (show (30 : Nat) ≠ 94 + N by omega), r66]
          refine gw_sIw 30 tt tl l30 (by omega) ?_
          refine gw_gRa 66 tc r1 ?_
          refine gw_aIw 30 tt tl l30 (by omega) ?_
          rw [wI_e]
          exact gw_some (gq_I ⟨by rw [E30], fin (A_book h.1 hN (by omega) ⟨hk.1, by omega⟩)⟩)
        · rw [E30, hN] at hl
          refine ⟨h.1.t65, gwI_of ?_⟩
          unfold f_X12_book
          refine gw_if hm1 ?_
          refine gw_if h.1.t65 ?_
          refine gw_isc h.mi e26 (fun _ => ?_) (fun q => absurd hC q)
          rw [if_pos (by decide)]
          refine gw_inn (fun _ => ?_) (fun q => absurd hb q)
          rw [if_pos (by decide)]
          refine gw_gRa 66 (hg.c (r := 65) rfl) (hg.r (by decide)) ?_
          refine gw_aIw 30 (hg.t (r := 66) rfl) (hg.l (r := 66) rfl) l30 (by omega) ?_
          rw [show μ.2.1 66 30 = 8 from Int32.toInt_inj.mp (by omega), if_neg (by decide)]
          exact gw_some (gq_I ⟨rfl, h⟩)
      · rw [if_neg (by decide)]
        refine leaf h (gwI_of ?_)
        unfold f_X12_book
        refine gw_if hm1 ?_
        refine gw_if h.1.t65 ?_
        refine gw_isc h.mi e26 (fun _ => ?_) (fun q => absurd hC q)
        rw [if_pos (by decide)]
        refine gw_inn (fun q => absurd q nb) (fun _ => ?_)
        rw [if_neg (by decide)]
        exact gw_some (gq_I ⟨qm.refl μ, rfl⟩)
    · rw [if_neg (by decide)]
      refine leaf h (gwI_of ?_)
      unfold f_X12_book
      refine gw_if hm1 ?_
      refine gw_if h.1.t65 ?_
      refine gw_isc h.mi e26 (fun q => absurd q nC) (fun _ => ?_)
      rw [if_neg (by decide)]
      exact gw_some (gq_I ⟨qm.refl μ, rfl⟩)
  · refine cl_clr h (Or.inr (Or.inr ⟨rfl, rfl, rfl⟩)) ?_
    unfold f_X12_book
    rw [if_neg hm1]
    rfl
set_option maxHeartbeats 4000000 in
theorem N_plan (h : REL μ) {a b : Int32} : PR (f_X11_plan 1 a b μ) (f_X12_plan 65 a b) := by
  have hg := h.ci.1
  have e26 := h.sz.symm
  have E29 : μ.2.1 25 2 = μ.2.1 66 29 := h.1.2.2.2.1.1.2.2.2.1
  have n29 := h.mi.n29
  have l0 : (0 : Int32).toInt = 0 := rfl
  have l3 : (3 : Int32).toInt = 3 := rfl
  have l8 : (8 : Int32).toInt = 8 := rfl
  have l29 : (29 : Int32).toInt = 29 := rfl
  have l78 : (78 : Int32).toInt = 78 := rfl
  have l86 : (86 : Int32).toInt = 86 := rfl
  obtain ⟨N, hN⟩ : ∃ N : Nat, (μ.2.1 66 29).toInt = N := ⟨(μ.2.1 66 29).toInt.toNat, by omega⟩
  refine gwI_of ?_
  unfold f_X11_plan
  refine gw_ite (fun hm1 => ?_) (fun hm1 => ?_)
  · refine gw_out (fun ha => ?_) (fun na => ?_)
    · rw [if_neg (by decide)]
      refine gw_j (fun m => m = μ ∧ (a.toInt = 0 ∨ isC μ b)) (fun m ⟨em, hb⟩ => ?_) (fun j hj => ?_)
      · subst em
        refine cl_add h (Or.inr (Or.inl ⟨rfl, rfl, rfl⟩)) (fun hl => ?_) (fun hl => ?_)
        · rw [E29, hN] at hl
          have r66 : (ad m 25 a b 0).2.1 66 = m.2.1 66 := ad_o (by decide) (by decide)
          have hM : MI (ad m 25 a b 0) := ⟨hg, by rw [r66]; exact h.mi.2⟩
          have fin : ALL _ → REL _ := R_plan h (a := a) (b := b) (c := 0) (N := N) (by omega)
          refine ⟨hM.1.t (r := 65) rfl, gwI_of ?_⟩
          unfold f_X12_plan
          refine gw_if hm1 ?_
          refine gw_inn (fun _ => ?_) (fun q => absurd ha q)
          rw [if_neg (by decide)]
          refine gw_j (fun m2 => m2 = ad m 25 a b 0) (fun m2 em => ?_) (fun j hj => ?_)
          · subst em
            have n1 : ((78 : Int32) + m.2.1 66 29).toInt = (78 : Int32).toInt + (m.2.1 66 29).toInt := gx_add (by omega) (by omega)
            have n2 : ((86 : Int32) + m.2.1 66 29).toInt = (86 : Int32).toInt + (m.2.1 66 29).toInt := gx_add (by omega) (by omega)
            have tc : [17].contains (gm_tag (ad m 25 a b 0) 65) = true := hM.1.c (r := 65) rfl
            have r1 : (ad m 25 a b 0).2.2 65 1 = 66 := hM.1.r (by decide)
            have tt : gm_tag (ad m 25 a b 0) 66 = 1 := hM.1.t (r := 66) rfl
            have tl : gm_len (ad m 25 a b 0) 66 = 925 := hM.1.l (r := 66) rfl
            refine gw_gRa 66 tc r1 ?_
            refine gw_aIw 29 tt tl l29 (by omega) ?_
            rw [r66]
            refine gw_if (fun e => by have := congrArg Int32.toInt e; omega) ?_
            refine gw_gRa 66 tc r1 ?_
            refine gw_gRa 66 tc r1 ?_
            refine gw_aIw 29 tt tl l29 (by omega) ?_
            rw [r66]
            refine gw_sIw (78 + N) tt tl (by omega) (by omega) ?_
            refine gw_gRa 66 tc r1 ?_
            refine gw_gRa 66 tc r1 ?_
            refine gw_aIw 29 tt tl l29 (by omega) ?_
            rw [wI_n _ _ _ _ (show (29 : Nat) ≠ 78 + N by omega), r66]
            refine gw_sIw (86 + N) tt tl (by omega) (by omega) ?_
            refine gw_gRa 66 tc r1 ?_
            refine gw_aIw 29 tt tl l29 (by omega) ?_
            rw [wI_n _ _ _ _ (show (29 : Nat) ≠ 86 + N by omega), wI_n _ _ _ _ (show (29 : Nat) ≠ 78 + N by omega), r66]
            refine gw_sIw 29 tt tl l29 (by omega) ?_
            refine gw_gRa 66 tc r1 ?_
            refine gw_aIw 29 tt tl l29 (by omega) ?_
            rw [wI_e]
            exact gw_some (gq_I ⟨by rw [E29], fin (A_plan h.1 hN (by omega) ⟨by omega, by omega⟩ (fun z => by
              rcases hb with q | q
              · exact absurd q z
              · exact ⟨q.1, q.2.2⟩))⟩)
          · refine gw_le (fun _ => hj _ rfl) (fun g => ?_)
            refine gw_if (hM.1.t (r := 65) rfl) ?_
            have hC : isC m b := hb.resolve_left (by omega)
            refine gw_isc (μ := m) hM (by rw [r66]; exact e26) (fun _ => ?_) (fun q => absurd hC q)
            rw [if_pos (by decide)]
            exact hj _ rfl
        · rw [E29, hN] at hl
          refine ⟨h.1.t65, gwI_of ?_⟩
          unfold f_X12_plan
          refine gw_if hm1 ?_
          refine gw_inn (fun _ => ?_) (fun q => absurd ha q)
          rw [if_neg (by decide)]
          refine gw_j (fun m2 => m2 = m) (fun m2 em => ?_) (fun j hj => ?_)
          · subst em
            refine gw_gRa 66 (hg.c (r := 65) rfl) (hg.r (by decide)) ?_
            refine gw_aIw 29 (hg.t (r := 66) rfl) (hg.l (r := 66) rfl) l29 (by omega) ?_
            rw [show m2.2.1 66 29 = 8 from Int32.toInt_inj.mp (by omega), if_neg (by decide)]
            exact gw_some (gq_I ⟨rfl, h⟩)
          · refine gw_le (fun _ => hj _ rfl) (fun g => ?_)
            refine gw_if h.1.t65 ?_
            have hC : isC m b := hb.resolve_left (by omega)
            refine gw_isc h.mi e26 (fun _ => ?_) (fun q => absurd hC q)
            rw [if_pos (by decide)]
            exact hj _ rfl
      · refine gw_eq (fun g => hj _ ⟨rfl, Or.inl (by omega)⟩) (fun g => ?_)
        refine gw_if (hg.t (r := 1) rfl) ?_
        refine gw_nob h (fun hC => ?_) (fun nC => ?_)
        · rw [if_pos rfl]
          exact hj _ ⟨rfl, Or.inr hC⟩
        · rw [if_neg (by decide)]
          refine leaf h (gwI_of ?_)
          unfold f_X12_plan
          refine gw_if hm1 ?_
          refine gw_inn (fun _ => ?_) (fun q => absurd ha q)
          rw [if_neg (by decide)]
          refine gw_ji ?_
          refine gw_le (fun q => by exfalso; omega) (fun _ => ?_)
          refine gw_if h.1.t65 ?_
          refine gw_isc h.mi e26 (fun q => absurd q nC) (fun _ => ?_)
          rw [if_neg (by decide)]
          exact gw_some (gq_I ⟨qm.refl μ, rfl⟩)
    · rw [if_pos (by decide)]
      refine leaf h (gwI_of ?_)
      unfold f_X12_plan
      refine gw_if hm1 ?_
      refine gw_inn (fun q => absurd q na) (fun _ => ?_)
      rw [if_pos rfl]
      exact gw_some (gq_I ⟨qm.refl μ, rfl⟩)
  · refine cl_clr h (Or.inr (Or.inl ⟨rfl, rfl, rfl⟩)) ?_
    unfold f_X12_plan
    rw [if_neg hm1]
    rfl
end
set_option maxHeartbeats 4000000 in
theorem n_act {μ : gm_M} (h : ALL μ) (hR : REL μ) {a1 a2 a3 : Int32} : gwI (f_X11_act 1 a1 a2 a3 μ) (fun x m => gwI (f_X12_act 65 a1 a2 a3 m) (fun y m2 => y = x ∧ (ALL m2 → REL m2))) := by
  have E26 : μ.2.1 15 1 = μ.2.1 66 26 := h.2.2.2.1.1.2.1
  have hk : ∀ i : Nat, i < 5 → 0 ≤ (μ.2.1 66 (33 + i)).toInt ∧ (μ.2.1 66 (33 + i)).toInt < 7 := fun i hi => by
    have kd := h.kd i hi
    have kk := h.2.2.1.kd (a := 29 + 2 * i) (Or.inl (by unfold isch; omega))
    unfold kid at kk
    omega
  refine gwI_mono (c_act h) (fun x m hx => ?_)
  have H : ∀ l, tk μ l m → MI m ∧ m.2.1 66 = μ.2.1 66 := fun l t => by
    have r66 : m.2.1 66 = μ.2.1 66 := t.1.2.2.1 66 (by decide) (by decide)
    exact ⟨⟨t.s h.1.1, by rw [r66]; exact h.1.2⟩, r66⟩
  rcases hx with ⟨hi, hx, t⟩ | ⟨hi, hx, t⟩
  · obtain ⟨hM, r66⟩ := H _ t
    refine gwI_mono (m_act hM (by rw [r66]; exact hk)) (fun y m2 hy => ?_)
    rw [r66, ← E26] at hy
    rcases hy with ⟨gi, hy, f⟩ | ⟨gi, hy, f⟩
    · exact ⟨hy.trans hx.symm, R_act hR t f⟩
    · exact absurd gi hi
  · obtain ⟨hM, r66⟩ := H _ t
    refine gwI_mono (m_act hM (by rw [r66]; exact hk)) (fun y m2 hy => ?_)
    rw [r66, ← E26] at hy
    rcases hy with ⟨gi, hy, f⟩ | ⟨gi, hy, f⟩
    · exact absurd hi gi
    · exact ⟨hy.trans hx.symm, R_act hR t f⟩
theorem N_act {μ : gm_M} (h : REL μ) {a b c : Int32} : PR (f_X11_act 1 a b c μ) (f_X12_act 65 a b c) := PR.mk2 (L_act h.1) (gwI_mono (n_act h.1 h) (fun _ _ q => gwI_mono q (fun _ _ r => r.2)))
set_option maxHeartbeats 4000000 in
theorem n_trace {μ : gm_M} (h : ALL μ) (hR : REL μ) {a1 : Int32} : gwI (f_X11_trace 1 a1 μ) (fun x m => gwI (f_X12_trace 65 a1 m) (fun y m2 => y = x ∧ REL m2)) := by
  have hc := h.2.2.1
  have hg := hc.1
  have n3 := hc.n3
  have l3 := hc.l3
  obtain ⟨t1, t2⟩ := h.2.2.2.2.2.2
  have l0 : (0 : Int32).toInt = 0 := rfl
  have l1 : (1 : Int32).toInt = 1 := rfl
  have lk : (3 : Int32).toInt = 3 := rfl
  have l20 : (20 : Int32).toInt = 20 := rfl
  have M : (0 ≤ a1.toInt ∧ a1.toInt < (μ.2.1 3 2).toInt ∧ a1.toInt < 20 → gwI (f_X12_trace 65 a1 μ) (fun y m2 => y = μ.2.1 74 a1.toInt.toNat ∧ REL m2)) ∧ (¬ (0 ≤ a1.toInt ∧ a1.toInt < (μ.2.1 3 2).toInt ∧ a1.toInt < 20) → gwI (f_X12_trace 65 a1 μ) (fun y m2 => y = -1 ∧ REL m2)) := by
    rw [t1] at n3 ⊢
    have body : ∀ (R : Int32 → gm_M → Prop), (0 ≤ a1.toInt ∧ a1.toInt < (μ.2.1 65 19).toInt ∧ a1.toInt < 20 → R (μ.2.1 74 a1.toInt.toNat) μ) → (¬ (0 ≤ a1.toInt ∧ a1.toInt < (μ.2.1 65 19).toInt ∧ a1.toInt < 20) → R (-1) μ) → gwI (f_X12_trace 65 a1 μ) R := by
      intro R r1 r2
      refine gwI_of ?_
      unfold f_X12_trace
      refine gw_gIw (hg.c (r := 65) rfl) ?_
      refine gw_j (fun s => (s.toInt = 20 ∧ 20 ≤ (μ.2.1 65 19).toInt) ∨ (s.toInt = (μ.2.1 65 19).toInt ∧ (μ.2.1 65 19).toInt < 20)) (fun s hs => ?_) (fun j hj => ?_)
      · have n : (s - (1 : Int32)).toInt = s.toInt - (1 : Int32).toInt := gx_sub (by omega) (by omega)
        refine gw_bI s_X12_in (fun x m ⟨z, f⟩ => ?_)
        replace z := z.symm
        subst z
        refine gw_eq (fun g => gw_some (gq_I (r2 (by omega)))) (fun g => ?_)
        refine gw_gRa 74 (hg.c (r := 65) rfl) (hg.r (by decide)) ?_
        refine gw_aIw a1.toInt.toNat (hg.t (r := 74) rfl) (hg.l (r := 74) rfl) (by omega) (by omega) ?_
        exact gw_some (gq_I (r1 (by omega)))
      · refine gw_le (fun g => hj _ (Or.inl ⟨l20, by omega⟩)) (fun g => ?_)
        refine gw_gIw (hg.c (r := 65) rfl) ?_
        exact hj _ (Or.inr ⟨rfl, by omega⟩)
    exact ⟨fun q => body _ (fun _ => ⟨rfl, hR⟩) (fun q2 => absurd q q2), fun q => body _ (fun q2 => absurd q2 q) (fun _ => ⟨rfl, hR⟩)⟩
  refine gwI_of ?_
  unfold f_X11_trace
  refine gw_gRa 3 (hg.c (r := 1) rfl) (hg.r (by decide)) ?_
  refine gw_if (hg.t (r := 3) rfl) ?_
  refine gw_bI (s_kept hg n3.1 l3) (fun x m ⟨z, f⟩ => ?_)
  replace z := z.symm
  subst z
  refine gw_eq (fun g => gw_some (gq_I (M.2 (by omega)))) (fun g => ?_)
  refine gw_gRa 3 (hg.c (r := 1) rfl) (hg.r (by decide)) ?_
  refine gw_if (hg.t (r := 3) rfl) ?_
  have hin : 0 ≤ a1.toInt ∧ a1.toInt < (μ.2.1 3 2).toInt ∧ a1.toInt < 20 := by omega
  have C : gwI (f_X7_cell 3 a1 0 μ) (fun x m => m = μ ∧ x = μ.2.1 4 (3 * a1.toInt.toNat)) := by
    refine gwI_of ?_
    unfold f_X7_cell
    refine gw_if (hg.t (r := 3) rfl) ?_
    refine gw_bI (s_kept hg n3.1 l3) (fun x m ⟨z, f2⟩ => ?_)
    replace z := z.symm
    subst z
    refine gw_eq (fun g => ?_) (fun g => ?_)
    · exfalso; omega
    refine gw_lt (fun g => ?_) (fun g => ?_)
    · exfalso; omega
    refine gw_lt (fun g => ?_) (fun g => ?_)
    · refine gw_gRa 4 (hg.c (r := 3) rfl) (hg.r (by decide)) ?_
      have n1 : (a1 * (3 : Int32)).toInt = 3 * a1.toInt := gx_mulr 3 rfl (by omega) (by omega)
      have n2 : (a1 * (3 : Int32) + (0 : Int32)).toInt = (a1 * (3 : Int32)).toInt + (0 : Int32).toInt := gx_add (by omega) (by omega)
      refine gw_aIw (3 * a1.toInt.toNat) (hg.t (r := 4) rfl) (hg.l (r := 4) rfl) (by omega) (by omega) ?_
      exact gw_some (gq_I ⟨rfl, rfl⟩)
    · exfalso; omega
  refine gw_bI C (fun x6 m5 ⟨z, e⟩ => ?_)
  replace z := z.symm
  subst z
  refine gw_some (gq_I ?_)
  rw [e, t2 a1.toInt.toNat (by omega) (by omega)]
  exact M.1 hin
/-- who is under which kind -/
theorem N_trace {μ : gm_M} (h : REL μ) {a : Int32} : PR (f_X11_trace 1 a μ) (f_X12_trace 65 a) := PR.mk2 (L_trace h.1) (gwI_mono (n_trace h.1 h) (fun _ _ q => gwI_mono q (fun _ _ r _ => r.2)))
end
section
/-! an image, back to it -/
theorem kC_x {μ m : gm_M} {t u : Nat} (e1 : m.2.2 u 1 = μ.2.2 t 1) (e2 : ∀ j : Nat, j < 8 → j ≠ 1 → m.2.1 u j = μ.2.1 t j) (e3 : ∀ j : Nat, j < 4 → m.2.1 (u + 1) j = μ.2.1 (t + 1) j) : kC m u = kC μ t := by
  funext i
  unfold kC
  rw [e1]
  by_cases h0 : i = 1
  · rw [if_pos h0, if_pos h0]
  · rw [if_neg h0, if_neg h0]
    by_cases h1 : i < 8
    · rw [if_pos h1, if_pos h1, e2 i h1 h0]
    · rw [if_neg h1, if_neg h1]
      by_cases h2 : i < 12
      · rw [if_pos h2, if_pos h2, e3 _ (by omega)]
      · rw [if_neg h2, if_neg h2]
theorem kR_x {σ τ : Nat → Int32} {k : Nat} (hk : k < 5) (e2 : ∀ i : Nat, (1 ≤ i ∧ i < 26) ∨ (33 ≤ i ∧ i < 63) → τ i = σ i) : kR τ k = kR σ k := by
  funext j
  unfold kR
  by_cases h0 : j = 0
  · rw [if_pos h0, if_pos h0]
  · rw [if_neg h0, if_neg h0]
    by_cases h1 : j = 1
    · rw [if_pos h1, if_pos h1, e2 _ (by omega)]
    · rw [if_neg h1, if_neg h1]
      by_cases h2 : j = 2
      · rw [if_pos h2, if_pos h2, e2 _ (by omega)]
      · rw [if_neg h2, if_neg h2]
        by_cases h8 : j < 8
        · rw [if_pos h8, if_pos h8, e2 _ (by omega)]
        · rw [if_neg h8, if_neg h8]
          by_cases h12 : j < 12
          · rw [if_pos h12, if_pos h12, e2 _ (by omega)]
          · rw [if_neg h12, if_neg h12]
theorem HR.of9 {σ τ : Nat → Int32} {w sw : Int32} {P : List (List Int32 × Int32)} (h : HR σ w sw P) (e : ∀ k : Nat, k < 925 → τ k = σ k) : HR τ w sw P := by
  obtain ⟨h1, h2⟩ := h
  have hl := h1.2.2
  refine ⟨h1, ?_⟩
  rcases h2 with ⟨a, b⟩ | ⟨a, ha, e1, ⟨e2, e3⟩, e4, e5⟩
  · exact Or.inl ⟨by rw [e 32 (by omega)]; exact a, b⟩
  · exact Or.inr ⟨a, ha, by rw [e 32 (by omega)]; exact e1, ⟨by rw [e _ (by omega)]; exact e2, by rw [e _ (by omega)]; exact e3⟩, by rw [e _ (by omega)]; exact e4, fun i hi => by rw [e _ (by omega)]; exact e5 i hi⟩
/-- a scene's values, from one scene to the other -/
theorem VS.cp {s t c d : Nat} {μ m1 m2 : gm_M} {σ τ : Nat → Int32} (H0 : (s = 15 ∧ t = 39 ∧ c = 29 ∧ d = 53) ∨ (s = 39 ∧ t = 15 ∧ c = 53 ∧ d = 29)) (v : VS t d μ σ) (n31 : (σ 31).toInt ≤ 100) (aw : AfW μ (μ.2.2 t 6)) (g : scp s t c d μ m1) (e2 : m2.2.2 = m1.2.2) (er : ∀ r : Nat, (15 ≤ r ∧ r < 63) ∨ 75 ≤ r → m2.2.1 r = m1.2.1 r) (ep : ∀ k : Nat, k < 925 → τ k = σ k) : VS s c m2 τ := by
  obtain ⟨v1, v2, ⟨t1, t2, t3⟩, ⟨w1, w2⟩, ⟨w, sw, P, o1, o2, o3⟩, o4⟩ := v
  obtain ⟨-, ⟨g1, -⟩, g2, ⟨g3, g4, g5, g6⟩, g7, g8, g9⟩ := g
  have p0 := aw.1
  refine ⟨fun k hk => ?_, by rw [ep 0 (by omega)]; exact v2, ⟨by rw [er s (by omega), g5, ep 31 (by omega)]; exact t1, by rw [er s (by omega), g6, ep 27 (by omega)]; exact t2, fun i hi => ?_⟩, ⟨fun i h5 hi => ?_, fun i h8 hi => ?_⟩, ⟨w, sw, P, o1.of9 ep, ?_, o3⟩, by rw [ep 32 (by omega), ep 27 (by omega)]; exact o4⟩
  · obtain ⟨q1, q2, q3⟩ := g9 k hk
    have a : kC m2 (c + 2 * k) = kC μ (d + 2 * k) := kC_x (by rw [e2, q1]) (fun j j1 j2 => by rw [er _ (by omega)]; exact q2 j j1 j2) (fun j hj => by rw [er _ (by omega)]; exact q3 j hj)
    rw [a, kR_x (σ := σ) hk (fun i hi => ep i (by omega))]
    exact v1 k hk
  · rw [ep 31 (by omega)] at hi
    rw [er (s + 2) (by omega), g7 i (by omega), ep _ (by omega)]
    exact t3 i hi
  · rw [ep 28 (by omega)] at hi
    have q := (g8 8 (by omega)).2.2
    rw [er (s + 9) (by omega), ep (63 + i) (by omega), ep (68 + i) (by omega), ep (73 + i) (by omega), ep 26 (by omega)]
    show m1.2.1 (s + 8 + 1) (3 * i) = _ ∧ m1.2.1 (s + 8 + 1) (3 * i + 1) = _ ∧ m1.2.1 (s + 8 + 1) (3 * i + 2) = _ ∧ _
    rw [q _ (by omega), q _ (by omega), q _ (by omega)]
    exact w1 i h5 hi
  · rw [ep 30 (by omega)] at hi
    have q := (g8 12 (by omega)).2.2
    rw [er (s + 13) (by omega), ep (94 + i) (by omega), ep (102 + i) (by omega), ep 26 (by omega)]
    show m1.2.1 (s + 12 + 1) (3 * i) = _ ∧ m1.2.1 (s + 12 + 1) (3 * i + 1) = _ ∧ _
    rw [q _ (by omega), q _ (by omega)]
    exact w2 i h8 hi
  · rw [e2, g1]
    unfold AFC at o2 ⊢
    have z : ∀ x : Nat, x < 4 → m2.2.1 (μ.2.2 t 6 + x) = μ.2.1 (μ.2.2 t 6 + x) := fun x hx => (er _ (by omega)).trans (g2 _ (by omega) (by omega) (by omega) (fun k hk => by omega))
    have z0 := z 0 (by omega)
    rw [Nat.add_zero] at z0
    rw [z0, z 1 (by omega), z 2 (by omega), z 3 (by omega)]
    exact o2
theorem R_scp {s t c d p q : Nat} {μ m1 m2 : gm_M} (H : (s = 15 ∧ t = 39 ∧ c = 29 ∧ d = 53 ∧ p = 66 ∧ q = 67) ∨ (s = 39 ∧ t = 15 ∧ c = 53 ∧ d = 29 ∧ p = 67 ∧ q = 66)) (h : REL μ) (hf : p = 66 → μ.2.1 1 3 = 1) (g : scp s t c d μ m1) (e2 : m2.2.2 = m1.2.2) (er : ∀ r : Nat, r ≠ p → r ≠ 1 → r ≠ 65 → m2.2.1 r = m1.2.1 r) (ep : ∀ k : Nat, k < 925 → m2.2.1 p k = m1.2.1 q k) (hB : ALL m2) : REL m2 := by
  have H0 : (s = 15 ∧ t = 39 ∧ c = 29 ∧ d = 53) ∨ (s = 39 ∧ t = 15 ∧ c = 53 ∧ d = 29) := by omega
  have o : ∀ r : Nat, r ≠ s → r ≠ s + 2 → (r < s + 8 ∨ s + 13 < r) → (∀ k : Nat, k < 5 → r ≠ c + 2 * k ∧ r ≠ c + 2 * k + 1) → m1.2.1 r = μ.2.1 r := g.2.2.1
  have rf : ∀ r j : Nat, ¬ (r = s ∧ j = 6) → (∀ k : Nat, k < 5 → ¬ (r = c + 2 * k ∧ j = 1)) → m2.2.2 r j = μ.2.2 r j := fun r j r1 r2 => by rw [e2]; exact g.2.1.2 r j r1 r2
  have eq : m1.2.1 q = μ.2.1 q := o q (by omega) (by omega) (by omega) (fun k hk => by omega)
  have eq2 : m2.2.1 q = μ.2.1 q := (er q (by omega) (by omega) (by omega)).trans eq
  have kd : KD m2 := fun i hi => by rw [er _ (by omega) (by omega) (by omega), o _ (by omega) (by omega) (by omega) (fun k hk => by omega)]; exact h.2.1 i hi
  have row : ∀ r : Nat, r ≠ p → r ≠ 1 → r ≠ 65 → r ≠ s → r ≠ s + 2 → (r < s + 8 ∨ s + 13 < r) → (∀ k : Nat, k < 5 → r ≠ c + 2 * k ∧ r ≠ c + 2 * k + 1) → m2.2.1 r = μ.2.1 r := fun r a1 a2 a3 a4 a5 a6 a7 => (er r a1 a2 a3).trans (o r a4 a5 a6 a7)
  -- what was copied from stays
  have old : VS t d μ (μ.2.1 q) → AfW μ (μ.2.2 t 6) → VS t d m2 (m2.2.1 q) := fun v aw => by
    have p0 := aw.1
    rw [eq2]
    obtain ⟨v1, v2, v3, v4, v5⟩ := v
    exact ⟨v1.fr (fun k hk => kC_o (rf _ 1 (by omega) (fun k hk => by omega)) (row _ (by omega) (by omega) (by omega) (by omega) (by omega) (by omega) (fun k hk => by omega)) (fun j _ => by rw [row _ (by omega) (by omega) (by omega) (by omega) (by omega) (by omega) (fun k hk => by omega)])) (fun _ _ => rfl), v2, v3.fr ⟨by rw [row t (by omega) (by omega) (by omega) (by omega) (by omega) (by omega) (fun k hk => by omega)], by rw [row t (by omega) (by omega) (by omega) (by omega) (by omega) (by omega) (fun k hk => by omega)]⟩ (row _ (by omega) (by omega) (by omega) (by omega) (by omega) (by omega) (fun k hk => by omega)) (fun _ _ => rfl), v4.fr (row _ (by omega) (by omega) (by omega) (by omega) (by omega) (by omega) (fun k hk => by omega)) (row _ (by omega) (by omega) (by omega) (by omega) (by omega) (by omega) (fun k hk => by omega)) (fun _ _ => rfl) (Int.le_refl _), v5.fr (rf t 6 (by omega) (fun k hk => by omega)) (fun x hx => row _ (by omega) (by omega) (by omega) (by omega) (by omega) (by omega) (fun k hk => by omega)) (fun _ _ => rfl)⟩
  have new : VS t d μ (μ.2.1 q) → (μ.2.1 q 31).toInt ≤ 100 → AfW μ (μ.2.2 t 6) → VS s c m2 (m2.2.1 p) := fun v n31 aw => VS.cp H0 v n31 aw g e2 (fun r hr => er r (by omega) (by omega) (by omega)) (fun k hk => (ep k hk).trans (by rw [eq]))
  have n66 := h.mi.n31
  have n67 := (show MI (μ.1, fun r => if r = 66 then μ.2.1 67 else μ.2.1 r, μ.2.2) from ⟨h.mi.1.same rfl rfl, by show mI (if (66 : Nat) = 66 then μ.2.1 67 else μ.2.1 66); rw [if_pos rfl]; exact h.1.2.1⟩).n31
  have n67 : (μ.2.1 67 31).toInt ≤ 100 := by
    have := n67.2
    dsimp only at this
    rw [if_pos rfl] at this
    exact this
  rcases H with ⟨rfl, rfl, rfl, rfl, rfl, rfl⟩ | ⟨rfl, rfl, rfl, rfl, rfl, rfl⟩
  · have v := h.2.2.2 (hf rfl)
    exact ⟨hB, kd, new v n67 h.aw2, fun _ => old v h.aw2⟩
  · exact ⟨hB, kd, old h.vs h.aw, fun _ => new h.vs n66.2 h.aw⟩
section
variable {μ : gm_M}
theorem N_image (h : REL μ) : PR (f_X11_image 1 μ) (f_X12_image 65) := by
  refine PR.mk2 (L_image h.1) ?_
  refine gwI_mono (c_image h.ci) (fun x m ⟨m0, g, em, hx⟩ => ?_)
  have HH : ((39 : Nat) = 15 ∧ (15 : Nat) = 39 ∧ (53 : Nat) = 29 ∧ (29 : Nat) = 53) ∨ ((39 : Nat) = 39 ∧ (15 : Nat) = 15 ∧ (53 : Nat) = 53 ∧ (29 : Nat) = 29) := Or.inr ⟨rfl, rfl, rfl, rfl⟩
  have hs := scp.gS HH h.mi.1 g
  have r66 : m0.2.1 66 = μ.2.1 66 := g.2.2.1 66 (by omega) (by omega) (by omega) (fun k hk => by omega)
  subst em
  have hM : MI (wI m0 1 3 1) := ⟨hs, by rw [wI_o _ _ _ _ (by decide), r66]; exact h.mi.2⟩
  refine gwI_mono (m_image hM) (fun y m2 ⟨hy, e1, e2, er, e4, e19, ek⟩ => ?_)
  exact R_scp (s := 39) (t := 15) (c := 53) (d := 29) (p := 67) (q := 66) (Or.inr ⟨rfl, rfl, rfl, rfl, rfl, rfl⟩) h (fun e => absurd e (by decide)) g e2 (fun r r1 r2 r3 => by rw [er r r1 r3, wI_o _ _ _ _ r2]) (fun k hk => by rw [ek k hk, wI_o _ _ _ _ (by decide)])
theorem N_undo (h : REL μ) : PR (f_X11_undo 1 μ) (f_X12_undo 65) := by
  refine PR.mk2 (L_undo h.1) ?_
  have hg := h.mi.1
  have fl := h.1.2.2.2.2.2.1
  refine gwI_of ?_
  unfold f_X11_undo
  refine gw_gIw (hg.c (r := 1) rfl) ?_
  refine gw_ite (fun g => ?_) (fun g => ?_)
  · refine gw_gRa 15 (hg.c (r := 1) rfl) (hg.r (by decide)) ?_
    refine gw_gRa 39 (hg.c (r := 1) rfl) (hg.r (by decide)) ?_
    refine gw_if (hg.t (r := 15) rfl) ?_
    have HH : ((15 : Nat) = 15 ∧ (39 : Nat) = 39 ∧ (29 : Nat) = 29 ∧ (53 : Nat) = 53) ∨ ((15 : Nat) = 39 ∧ (39 : Nat) = 15 ∧ (29 : Nat) = 53 ∧ (53 : Nat) = 29) := Or.inl ⟨rfl, rfl, rfl, rfl⟩
    refine gw_bV (s_scopy hg HH) (fun m0 s => ?_)
    have hs := scp.gS HH hg s
    have r67 : m0.2.1 67 = μ.2.1 67 := s.2.2.1 67 (by omega) (by omega) (by omega) (fun k hk => by omega)
    have r65 : m0.2.1 65 = μ.2.1 65 := s.2.2.1 65 (by omega) (by omega) (by omega) (fun k hk => by omega)
    refine gw_gRa 15 (hs.c (r := 1) rfl) (hs.r (by decide)) ?_
    refine gw_gIw (hs.c (r := 15) rfl) ?_
    refine gw_some (gq_I ?_)
    refine gwI_mono (m_undo hs (by rw [r65, ← fl.1]; exact g)) (fun y m2 ⟨hy, e1, e2, er, ek⟩ => ?_)
    exact R_scp (s := 15) (t := 39) (c := 29) (d := 53) (p := 66) (q := 67) (Or.inl ⟨rfl, rfl, rfl, rfl, rfl, rfl⟩) h (fun _ => fl.2.resolve_left g) s e2 (fun r r1 _ _ => er r r1) ek
  · have g0 : μ.2.1 1 3 = 0 := Classical.byContradiction (fun q => g q)
    refine gw_some (gq_I ?_)
    refine gwI_of ?_
    unfold f_X12_undo
    refine gw_gIw (hg.c (r := 65) rfl) ?_
    rw [← fl.1, if_neg (fun q => q g0)]
    exact gw_some (gq_I (fun _ => h))
end
end
section
/-! minutes: agreed behind them -/
theorem itn_at {x : Int32} (h : 0 ≤ x.toInt ∧ x.toInt ≤ 100000) : ∀ n : Nat, n ≤ 1000 → itn n x = x + Int32.ofNat n
  | 0, _ => by
    apply Int32.toInt_inj.mp
    rw [mi_add h (by omega)]
    show x.toInt = _
    omega
  | n + 1, hn => by
    apply Int32.toInt_inj.mp
    have l1 : (1 : Int32).toInt = 1 := rfl
    have m0 := mi_add (n := n) h (by omega)
    rw [mi_add h (by omega)]
    show (itn n x + 1).toInt = _
    rw [itn_at h n (by omega), gx_add (by omega) (by omega)]
    omega
def gN (cnt i : Nat) (mi : Int32) (k : Nat) (K : Nat → Int32) : Nat → Int32 := if k < cnt then cGoN i K mi else K
theorem gN_0 {cnt : Nat} {mi : Int32} {k : Nat} {K : Nat → Int32} : gN cnt 0 mi k K = K := by unfold gN; split <;> rfl
theorem gN_s {cnt i : Nat} {mi : Int32} {k : Nat} {K : Nat → Int32} (h : k < cnt) : gN cnt (i + 1) mi k K = cGo (gN cnt i mi k K) (mi + Int32.ofNat i) := by
  unfold gN; rw [if_pos h, if_pos h]; rfl
theorem gN_o {cnt i j : Nat} {mi : Int32} {k : Nat} {K : Nat → Int32} (h : ¬ k < cnt) : gN cnt i mi k K = gN cnt j mi k K := by
  unfold gN; rw [if_neg h, if_neg h]
theorem RK.gn {cnt i : Nat} {mi : Int32} {k : Nat} {K : Nat → Int32} (h : RK K) (hm : 0 ≤ mi.toInt ∧ mi.toInt ≤ 100000) (hi : i ≤ 1000) : RK (gN cnt i mi k K) := by
  unfold gN
  split
  · exact h.goN hm i hi
  · exact h
theorem cps.cw {w : Int32} {P : List (List Int32 × Int32)} {i : Nat} {μ m : gm_M} (g : cps i μ m) (h : CW w P μ) : CW w P m := by
  have p0 := h.aw.1
  obtain ⟨h1, h2, h3, sw, h4⟩ := h
  have c := g.ci h1
  obtain ⟨-, g2, g3, -⟩ := g
  refine ⟨c, fun i hi => by rw [g3 _ (by omega) (by unfold isch; omega)]; exact h2 i hi, h3, sw, ?_⟩
  rw [g2]
  unfold AFC at h4 ⊢
  have z : ∀ x : Nat, x < 4 → m.2.1 (μ.2.2 15 6 + x) = μ.2.1 (μ.2.2 15 6 + x) := fun x hx => g3 _ (by omega) (by unfold isch; omega)
  have z0 := z 0 (by omega)
  rw [Nat.add_zero] at z0
  rw [z0, z 1 (by omega), z 2 (by omega), z 3 (by omega)]
  exact h4
theorem chg.kC {v : Nat} {μ m : gm_M} (g : chg v μ m) {k j : Nat} (hk : k < 5) (hv : v = 29 + 2 * j) (hkj : k ≠ j) : kC m (29 + 2 * k) = kC μ (29 + 2 * k) := by
  subst hv
  obtain ⟨-, g2, g3, -⟩ := g
  exact kC_o (by rw [g2]) (g3 _ (by omega)) (fun i _ => by rw [g3 _ (by omega)])
section
variable {w sw : Int32} {P : List (List Int32 × Int32)} {μ : gm_M}
set_option maxHeartbeats 4000000 in
theorem v_pass2 (h : CW w P μ) (hr : ∀ k : Nat, k < 5 → RK (kC μ (29 + 2 * k))) (hm : 0 ≤ (μ.2.1 15 0).toInt ∧ (μ.2.1 15 0).toInt ≤ 9999) {a : Int32} : gwI (f_X11_pass 1 a μ) (fun _ m => (0 ≤ a.toInt ∧ a.toInt ≤ 60) → (μ.2.1 15 0 + a).toInt ≤ 9999 → ∀ k : Nat, k < 5 → kC m (29 + 2 * k) = gN (μ.2.1 15 1).toInt.toNat a.toInt.toNat (μ.2.1 15 0) k (kC μ (29 + 2 * k))) := by
  refine gwI_of ?_
  unfold f_X11_pass
  have l0 : (0 : Int32).toInt = 0 := rfl
  have l1 : (1 : Int32).toInt = 1 := rfl
  have l60 : (60 : Int32).toInt = 60 := rfl
  have l9 : (9999 : Int32).toInt = 9999 := rfl
  have hg := h.1.1
  have N1 := h.1.n1
  refine gw_bI s_X11_isOutside (fun x2 m2 ⟨z2, f2⟩ => ?_)
  replace z2 := z2.symm
  subst z2
  refine gw_eq (fun g2 => ?_) (fun g2 => gw_some (gq_I (fun q _ => by exfalso; omega)))
  have hb : 0 ≤ a.toInt ∧ a.toInt ≤ 60 := by omega
  clear f2 g2
  refine gw_gRa 15 (hg.c (r := 1) rfl) (hg.r (by decide)) ?_
  refine gw_gIw (hg.c (r := 15) rfl) ?_
  refine gw_le (fun g4 => ?_) (fun g4 => gw_some (gq_I (fun _ q => by exfalso; omega)))
  obtain ⟨cnt, hcnt⟩ : ∃ cnt : Nat, (μ.2.1 15 1).toInt = cnt := ⟨(μ.2.1 15 1).toInt.toNat, by omega⟩
  rw [show (μ.2.1 15 1).toInt.toNat = cnt by omega]
  refine gw_loop (fun s => (0 ≤ s.1.toInt ∧ s.1.toInt ≤ a.toInt) ∧ cps s.1.toInt.toNat μ s.2 ∧ ∀ k : Nat, k < 5 → kC s.2 (29 + 2 * k) = gN cnt s.1.toInt.toNat (μ.2.1 15 0) k (kC μ (29 + 2 * k))) (fun s => 60 - s.1.toInt) (fun s ⟨q1, q2, q3⟩ => ?_) 5000 ((0 : Int32), μ) ⟨⟨by show 0 ≤ (0 : Int32).toInt; omega, by show (0 : Int32).toInt ≤ a.toInt; omega⟩, by show cps (0 : Int32).toInt.toNat μ μ; rw [show (0 : Int32).toInt.toNat = 0 by omega]; exact cps.refl μ, fun k _ => by show kC μ (29 + 2 * k) = gN cnt (0 : Int32).toInt.toNat (μ.2.1 15 0) k (kC μ (29 + 2 * k)); rw [show (0 : Int32).toInt.toNat = 0 by omega]; exact gN_0.symm⟩ (by show 60 - (0 : Int32).toInt < ((5000 : Nat) : Int); omega) (by show 0 ≤ 60 - (0 : Int32).toInt; omega)
  have hs := (q2.ci h.1).1
  obtain ⟨i, hi⟩ : ∃ i : Nat, s.1.toInt = i := ⟨s.1.toInt.toNat, by omega⟩
  refine gw_le (fun g => ?_) (fun g => ?_)
  · refine gw_gRa 15 (hs.c (r := 1) rfl) (hs.r (by decide)) ?_
    refine gw_gIw (hs.c (r := 15) rfl) ?_
    refine gw_some (gs_inr (gq_I (fun _ _ => ?_)))
    rw [show a.toInt.toNat = s.1.toInt.toNat by omega]
    exact q3
  · rw [show s.1.toInt.toNat = i by omega] at q2 q3
    refine gw_loop (fun t => (0 ≤ t.1.toInt ∧ t.1.toInt ≤ 5) ∧ cps i μ t.2 ∧ ∀ k : Nat, k < 5 → kC t.2 (29 + 2 * k) = gN cnt (if (k : Int) < t.1.toInt then i + 1 else i) (μ.2.1 15 0) k (kC μ (29 + 2 * k))) (fun t => 5 - t.1.toInt) (fun t ⟨p1, p2, p3⟩ => ?_) 5000 ((0 : Int32), s.2) ⟨⟨by show 0 ≤ (0 : Int32).toInt; omega, by show (0 : Int32).toInt ≤ 5; omega⟩, q2, fun k hk => by rw [if_neg (by show ¬ (k : Int) < (0 : Int32).toInt; omega)]; exact q3 k hk⟩ (by show 5 - (0 : Int32).toInt < ((5000 : Nat) : Int); omega) (by show 0 ≤ 5 - (0 : Int32).toInt; omega)
    have ht := p2.ci h.1
    have htg := ht.1
    have b1 := ht.n1
    have c1 : t.2.2.1 15 1 = μ.2.1 15 1 := p2.2.2.2.1 1 (by decide)
    have c0 : t.2.2.1 15 0 = μ.2.1 15 0 + Int32.ofNat i := p2.2.2.2.2.1.trans (itn_at ⟨hm.1, by omega⟩ i (by omega))
    have m0 := mi_add (mi := μ.2.1 15 0) (n := i) ⟨hm.1, by omega⟩ (by omega)
    refine gw_gRa 15 (htg.c (r := 1) rfl) (htg.r (by decide)) ?_
    refine gw_gIw (htg.c (r := 15) rfl) ?_
    rw [c1]
    refine gw_le (fun gg => ?_) (fun gg => ?_)
    · refine gw_gRa 15 (htg.c (r := 1) rfl) (htg.r (by decide)) ?_
      refine gw_gIw (htg.c (r := 15) rfl) ?_
      refine gw_pIw (htg.c (r := 15) rfl) ?_
      have n : (s.1 + (1 : Int32)).toInt = s.1.toInt + (1 : Int32).toInt := gx_add (by omega) (by omega)
      refine gw_some (gs_inr (gs_inl ⟨⟨by show 0 ≤ (s.1 + (1 : Int32)).toInt; omega, by show (s.1 + (1 : Int32)).toInt ≤ a.toInt; omega⟩, ?_, fun k hk => ?_⟩ (by show 60 - (s.1 + (1 : Int32)).toInt < 60 - s.1.toInt; omega) (by show 0 ≤ 60 - (s.1 + (1 : Int32)).toInt; omega)))
      · show cps (s.1 + (1 : Int32)).toInt.toNat μ _
        rw [show (s.1 + (1 : Int32)).toInt.toNat = i + 1 by omega]
        exact p2.mi
      · show kC (wI t.2 15 0 (t.2.2.1 15 0 + 1)) (29 + 2 * k) = gN cnt (s.1 + (1 : Int32)).toInt.toNat _ k _
        rw [show (s.1 + (1 : Int32)).toInt.toNat = i + 1 by omega, kC_o (μ := t.2) (m := wI t.2 15 0 (t.2.2.1 15 0 + 1)) (t := 29 + 2 * k) rfl (wI_o _ _ _ _ (by omega)) (fun j _ => by rw [wI_o _ _ _ _ (by omega)]), p3 k hk]
        by_cases q : (k : Int) < t.1.toInt
        · rw [if_pos q]
        · rw [if_neg q]; exact gN_o (by omega)
    · refine gw_gRa 15 (htg.c (r := 1) rfl) (htg.r (by decide)) ?_
      refine gw_gRa 16 (htg.c (r := 15) rfl) (htg.r (by decide)) ?_
      obtain ⟨j, hj⟩ : ∃ j : Nat, t.1.toInt = j := ⟨t.1.toInt.toNat, by omega⟩
      refine gw_aR (i := t.1) (htg.t (r := 16) rfl) (htg.l (r := 16) rfl) (by omega) (by omega) (fun v ev => ?_)
      rw [show t.1.toInt.toNat = j by omega, isch.at htg (by omega)] at ev
      subst ev
      have cv : isch (29 + 2 * j) := isch_c (by omega)
      refine gw_gRa 15 (htg.c (r := 1) rfl) (htg.r (by decide)) ?_
      refine gw_gIw (htg.c (r := 15) rfl) ?_
      refine gw_if (isch.t htg cv) ?_
      have e3 := p3 j (by omega)
      rw [if_neg (by omega)] at e3
      refine gw_bV (v_pass (p2.cw h) (Or.inl cv) (by rw [c0]; omega) (by rw [e3]; exact (hr j (by omega)).gn ⟨hm.1, by omega⟩ (by omega))) (fun m19 ⟨g19, k19, _⟩ => ?_)
      have n : (t.1 + (1 : Int32)).toInt = t.1.toInt + (1 : Int32).toInt := gx_add (by omega) (by omega)
      refine gw_some (gs_inl ⟨⟨by show 0 ≤ (t.1 + (1 : Int32)).toInt; omega, by show (t.1 + (1 : Int32)).toInt ≤ 5; omega⟩, p2.ch cv g19, fun k hk => ?_⟩ (by show 5 - (t.1 + (1 : Int32)).toInt < 5 - t.1.toInt; omega) (by show 0 ≤ 5 - (t.1 + (1 : Int32)).toInt; omega))
      show kC m19 (29 + 2 * k) = gN cnt (if (k : Int) < (t.1 + (1 : Int32)).toInt then i + 1 else i) _ k _
      by_cases q : k = j
      · rw [q, if_pos (by omega), k19, e3, c0]
        exact (gN_s (by omega)).symm
      · rw [g19.kC hk rfl q, p3 k hk]
        by_cases q2 : (k : Int) < t.1.toInt
        · rw [if_pos q2, if_pos (by omega)]
        · rw [if_neg q2, if_neg (by omega)]
/-! the reference -/
set_option maxHeartbeats 4000000 in
theorem w_goes (h : MW w sw P μ) (hm : 0 ≤ (μ.2.1 66 0).toInt) : gwV (f_X12_goes 65 μ) (fun m => (km A1 μ m ∧ m.2.1 66 0 = μ.2.1 66 0 + 1) ∧ ∀ k : Nat, k < 5 → kR (m.2.1 66) k = if (k : Int) < (μ.2.1 66 26).toInt then cGo (kR (μ.2.1 66) k) (μ.2.1 66 0) else kR (μ.2.1 66) k) := by
  refine gwV_of ?_
  unfold f_X12_goes
  have l0 : (0 : Int32).toInt = 0 := rfl
  have l1 : (1 : Int32).toInt = 1 := rfl
  have l26 : (26 : Int32).toInt = 26 := rfl
  have N := h.1.n26
  refine gw_loop (fun s => km A1 μ s.2 ∧ (0 ≤ s.1.toInt ∧ s.1.toInt ≤ 5) ∧ s.2.2.1 66 0 = μ.2.1 66 0 ∧ ∀ k : Nat, k < 5 → kR (s.2.2.1 66) k = if (k : Int) < s.1.toInt ∧ (k : Int) < (μ.2.1 66 26).toInt then cGo (kR (μ.2.1 66) k) (μ.2.1 66 0) else kR (μ.2.1 66) k) (fun s => 5 - s.1.toInt) (fun s ⟨k2, p1, p2, p3⟩ => ?_) 5000 ((0 : Int32), μ) ⟨km.refl A1 μ, ⟨by show 0 ≤ (0 : Int32).toInt; omega, by show (0 : Int32).toInt ≤ 5; omega⟩, rfl, fun k _ => by rw [if_neg (by show ¬ ((k : Int) < (0 : Int32).toInt ∧ _); omega)]⟩ (by show 5 - (0 : Int32).toInt < ((5000 : Nat) : Int); omega) (by show 0 ≤ 5 - (0 : Int32).toInt; omega)
  have hM := h.1.of1 k2
  have e26 : s.2.2.1 66 26 = μ.2.1 66 26 := k2.2.2.2.1 26 (by unfold A1; omega)
  refine gw_gRa 66 (hM.1.c (r := 65) rfl) (hM.1.r (by decide)) ?_
  refine gw_aIw 26 (hM.1.t (r := 66) rfl) (hM.1.l (r := 66) rfl) l26 (by omega) ?_
  rw [e26]
  refine gw_le (fun g => ?_) (fun g => ?_)
  · refine gw_gRa 66 (hM.1.c (r := 65) rfl) (hM.1.r (by decide)) ?_
    refine gw_aIw 0 (hM.1.t (r := 66) rfl) (hM.1.l (r := 66) rfl) l0 (by omega) ?_
    refine gw_sIw 0 (hM.1.t (r := 66) rfl) (hM.1.l (r := 66) rfl) l0 (by omega) ?_
    refine gw_some (gs_inr (gq_V ⟨⟨k2.ws rfl (by unfold A1; omega), by rw [wI_e, p2]⟩, fun k hk => ?_⟩))
    rw [kR_x (σ := s.2.2.1 66) hk (fun i hi => wI_n _ _ _ _ (by omega)), p3 k hk]
    by_cases q : (k : Int) < (μ.2.1 66 26).toInt
    · rw [if_pos ⟨by omega, q⟩, if_pos q]
    · rw [if_neg (fun z => q z.2), if_neg q]
  · obtain ⟨j, hj, ej⟩ : ∃ j : Nat, j < 5 ∧ s.1 = Int32.ofNat j := ⟨s.1.toInt.toNat, by omega, (gx_of p1.1).symm⟩
    have oj := ofn (k := j) (by omega)
    have e1 : s.1.toInt = j := by rw [ej]; exact oj
    refine gw_if (hM.1.t (r := 65) rfl) ?_
    rw [ej]
    refine gw_bV (w_goesFor (h.k1 k2) hj (by rw [p2]; exact hm)) (fun m8 ⟨g8, k8, o8⟩ => ?_)
    have n9 : (s.1 + (1 : Int32)).toInt = s.1.toInt + (1 : Int32).toInt := gx_add (by omega) (by omega)
    rw [← ej]
    refine gw_some (gs_inl ⟨k2.trans g8.w31, ⟨by show 0 ≤ (s.1 + (1 : Int32)).toInt; omega, by show (s.1 + (1 : Int32)).toInt ≤ 5; omega⟩, (g8.2.2.2.1 0 (by unfold A3; omega)).trans p2, fun k hk => ?_⟩ (by show 5 - (s.1 + (1 : Int32)).toInt < 5 - s.1.toInt; omega) (by show 0 ≤ 5 - (s.1 + (1 : Int32)).toInt; omega))
    show kR (m8.2.1 66) k = if (k : Int) < (s.1 + (1 : Int32)).toInt ∧ _ then _ else _
    by_cases q : k = j
    · subst q
      rw [k8, p3 k hk, p2, if_neg (by omega), if_pos ⟨by omega, by omega⟩]
    · rw [o8 k hk q, p3 k hk]
      by_cases q2 : (k : Int) < s.1.toInt ∧ (k : Int) < (μ.2.1 66 26).toInt
      · rw [if_pos q2, if_pos ⟨by omega, q2.2⟩]
      · rw [if_neg q2, if_neg (by omega)]
set_option maxHeartbeats 4000000 in
theorem w_goesOn (h : MW w sw P μ) (hm : 0 ≤ (μ.2.1 66 0).toInt ∧ (μ.2.1 66 0).toInt ≤ 9999) {a : Int32} (ha : 0 ≤ a.toInt ∧ a.toInt ≤ 100) : gwV (f_X12_goesOn 65 a μ) (fun m => (km A1 μ m ∧ m.2.1 66 0 = μ.2.1 66 0 + Int32.ofNat a.toInt.toNat) ∧ ∀ k : Nat, k < 5 → kR (m.2.1 66) k = gN (μ.2.1 66 26).toInt.toNat a.toInt.toNat (μ.2.1 66 0) k (kR (μ.2.1 66) k)) := by
  refine gwV_of ?_
  unfold f_X12_goesOn
  have l0 : (0 : Int32).toInt = 0 := rfl
  have l1 : (1 : Int32).toInt = 1 := rfl
  have N := h.1.n26
  obtain ⟨cnt, hcnt⟩ : ∃ cnt : Nat, (μ.2.1 66 26).toInt = cnt := ⟨(μ.2.1 66 26).toInt.toNat, by omega⟩
  rw [show (μ.2.1 66 26).toInt.toNat = cnt by omega]
  refine gw_loop (fun s => km A1 μ s.2 ∧ (0 ≤ s.1.toInt ∧ s.1.toInt ≤ a.toInt) ∧ s.2.2.1 66 0 = μ.2.1 66 0 + Int32.ofNat s.1.toInt.toNat ∧ ∀ k : Nat, k < 5 → kR (s.2.2.1 66) k = gN cnt s.1.toInt.toNat (μ.2.1 66 0) k (kR (μ.2.1 66) k)) (fun s => 100 - s.1.toInt) (fun s ⟨k2, p1, p2, p3⟩ => ?_) 5000 ((0 : Int32), μ) ⟨km.refl A1 μ, ⟨by show 0 ≤ (0 : Int32).toInt; omega, by show (0 : Int32).toInt ≤ a.toInt; omega⟩, by show μ.2.1 66 0 = μ.2.1 66 0 + Int32.ofNat (0 : Int32).toInt.toNat; rw [show (0 : Int32).toInt.toNat = 0 by omega]; exact itn_at (n := 0) ⟨hm.1, by omega⟩ (by omega), fun k _ => by show kR (μ.2.1 66) k = gN cnt (0 : Int32).toInt.toNat (μ.2.1 66 0) k (kR (μ.2.1 66) k); rw [show (0 : Int32).toInt.toNat = 0 by omega]; exact gN_0.symm⟩ (by show 100 - (0 : Int32).toInt < ((5000 : Nat) : Int); omega) (by show 0 ≤ 100 - (0 : Int32).toInt; omega)
  obtain ⟨i, hi⟩ : ∃ i : Nat, s.1.toInt = i := ⟨s.1.toInt.toNat, by omega⟩
  have m0 := mi_add (mi := μ.2.1 66 0) (n := i) ⟨hm.1, by omega⟩ (by omega)
  have hM := h.1.of1 k2
  have e26 : s.2.2.1 66 26 = μ.2.1 66 26 := k2.2.2.2.1 26 (by unfold A1; omega)
  rw [show s.1.toInt.toNat = i by omega] at p2 p3
  refine gw_le (fun g => ?_) (fun g => ?_)
  · rw [show a.toInt.toNat = i by omega]
    exact gw_some (gs_inr (gq_V ⟨⟨k2, p2⟩, p3⟩))
  · refine gw_if (hM.1.t (r := 65) rfl) ?_
    refine gw_bV (w_goes (h.k1 k2) (by rw [p2]; omega)) (fun m5 ⟨⟨g5, f5⟩, k5⟩ => ?_)
    have n6 : (s.1 + (1 : Int32)).toInt = s.1.toInt + (1 : Int32).toInt := gx_add (by omega) (by omega)
    refine gw_some (gs_inl ⟨k2.trans g5.w11, ⟨by show 0 ≤ (s.1 + (1 : Int32)).toInt; omega, by show (s.1 + (1 : Int32)).toInt ≤ a.toInt; omega⟩, ?_, fun k hk => ?_⟩ (by show 100 - (s.1 + (1 : Int32)).toInt < 100 - s.1.toInt; omega) (by show 0 ≤ 100 - (s.1 + (1 : Int32)).toInt; omega))
    · show m5.2.1 66 0 = μ.2.1 66 0 + Int32.ofNat (s.1 + (1 : Int32)).toInt.toNat
      rw [show (s.1 + (1 : Int32)).toInt.toNat = i + 1 by omega, f5, p2, ← itn_at ⟨hm.1, by omega⟩ i (by omega), ← itn_at ⟨hm.1, by omega⟩ (i + 1) (by omega)]
      rfl
    · show kR (m5.2.1 66) k = gN cnt (s.1 + (1 : Int32)).toInt.toNat _ k _
      rw [show (s.1 + (1 : Int32)).toInt.toNat = i + 1 by omega, k5 k hk, p3 k hk, e26, p2]
      by_cases q : k < cnt
      · rw [if_pos (by omega), gN_s q]
      · rw [if_neg (by omega)]; exact gN_o q
theorem w_pass2 (h : MW w sw P μ) (hm : 0 ≤ (μ.2.1 66 0).toInt ∧ (μ.2.1 66 0).toInt ≤ 9999) {a : Int32} : gwI (f_X12_pass 65 a μ) (fun _ m => (0 ≤ a.toInt ∧ a.toInt ≤ 60) → (μ.2.1 66 0 + a).toInt ≤ 9999 → (km A1 μ m ∧ m.2.1 66 0 = μ.2.1 66 0 + Int32.ofNat a.toInt.toNat) ∧ ∀ k : Nat, k < 5 → kR (m.2.1 66) k = gN (μ.2.1 66 26).toInt.toNat a.toInt.toNat (μ.2.1 66 0) k (kR (μ.2.1 66) k)) := by
  refine gwI_of ?_
  unfold f_X12_pass
  have l0 : (0 : Int32).toInt = 0 := rfl
  have l60 : (60 : Int32).toInt = 60 := rfl
  have l9 : (9999 : Int32).toInt = 9999 := rfl
  have hg := h.1.1
  refine gw_inn (fun g2 => ?_) (fun g2 => ?_)
  · rw [if_pos (by decide)]
    refine gw_gRa 66 (hg.c (r := 65) rfl) (hg.r (by decide)) ?_
    refine gw_aIw 0 (hg.t (r := 66) rfl) (hg.l (r := 66) rfl) l0 (by omega) ?_
    refine gw_le (fun g4 => ?_) (fun g4 => gw_some (gq_I (fun _ q => by exfalso; omega)))
    refine gw_if (hg.t (r := 65) rfl) ?_
    refine gw_bV (w_goesOn h hm (a := a) (by omega)) (fun m5 ⟨⟨k5, f5⟩, r5⟩ => ?_)
    have h5 := (h.1.of1 k5).1
    refine gw_gRa 66 (h5.c (r := 65) rfl) (h5.r (by decide)) ?_
    refine gw_aIw 0 (h5.t (r := 66) rfl) (h5.l (r := 66) rfl) l0 (by omega) ?_
    exact gw_some (gq_I (fun _ _ => ⟨⟨k5, f5⟩, r5⟩))
  · rw [if_neg (by decide)]
    exact gw_some (gq_I (fun q _ => by exfalso; omega))
theorem REL.row (h : REL μ) {k : Nat} (hk : k < 5) : RK (kC μ (29 + 2 * k)) := by rw [(h.kk hk).1]; exact (h.kk hk).2
/-- the class's side of what a pass leaves -/
theorem N_pass (h : REL μ) {a : Int32} : PR (f_X11_pass 1 a μ) (f_X12_pass 65 a) := by
  refine PR.mk2 (L_pass h.1) ?_
  have E0 := h.mn
  have E26 := h.sz
  obtain ⟨w, sw, P, ⟨hc, hw, -, -⟩, -⟩ := h.ex
  have v2 := h.vs.2.1
  have l0 : (0 : Int32).toInt = 0 := rfl
  have l60 : (60 : Int32).toInt = 60 := rfl
  refine gwI_mono (gwI_and (c_pass h.ci) (v_pass2 hc (fun k hk => h.row hk) (by rw [E0]; exact v2) (a := a))) (fun x m ⟨hx, kx⟩ => ?_)
  rcases hx with ⟨rfl, hx, q⟩ | ⟨rfl, hx, q1, q2⟩ | ⟨q1, q2, hx, g⟩
  · refine gwI_mono (m_pass h.mi) (fun y m2 hy => ?_)
    rcases hy with ⟨rfl, hy, p⟩ | ⟨rfl, hy, p1, p2⟩ | ⟨p1, p2, hy, hm, hm2⟩
    · exact fun _ => h
    all_goals (exfalso; omega)
  · refine gwI_mono (m_pass h.mi) (fun y m2 hy => ?_)
    rw [← E0] at hy
    rcases hy with ⟨rfl, hy, p⟩ | ⟨rfl, hy, p1, p2⟩ | ⟨p1, p2, hy, hm, hm2⟩
    · exfalso; omega
    · exact fun _ => h
    · exfalso; omega
  · have r66 : m.2.1 66 = μ.2.1 66 := g.2.2.1 66 (by omega) (by unfold isch; omega)
    have hM : MW w sw P m := ⟨⟨(g.ci h.ci).1, by rw [r66]; exact h.mi.2⟩, by rw [r66]; exact hw.2⟩
    refine gwI_mono (w_pass2 hM (by rw [r66]; exact v2) (a := a)) (fun y m2 hy hB => ?_)
    rw [r66, ← E0, ← E26] at hy
    obtain ⟨⟨k2, k0⟩, kr⟩ := hy q1 q2
    have kx := kx q1 q2
    have ri : m2.2.1 15 = m.2.1 15 := k2.2.2.1 15 (by decide) (by decide) (by decide) (by decide) (by decide) (by decide) (by decide)
    have row : ∀ r : Nat, (r ≠ 65 ∧ r ≠ 66 ∧ r ≠ 69 ∧ r ≠ 70 ∧ r ≠ 71 ∧ r ≠ 72 ∧ r ≠ 73) → m2.2.1 r = m.2.1 r := fun r q => k2.2.2.1 r q.1 q.2.1 q.2.2.1 q.2.2.2.1 q.2.2.2.2.1 q.2.2.2.2.2.1 q.2.2.2.2.2.2
    have ro : ∀ r : Nat, (r ≠ 65 ∧ r ≠ 66 ∧ r ≠ 69 ∧ r ≠ 70 ∧ r ≠ 71 ∧ r ≠ 72 ∧ r ≠ 73) → r ≠ 15 → ¬ isch r → m2.2.1 r = μ.2.1 r := fun r q q1 q2 => (row r q).trans (g.2.2.1 r q1 q2)
    have e2 : m2.2.2 = μ.2.2 := k2.2.1.trans g.2.1
    have ce : ∀ i : Nat, 26 ≤ i → m2.2.1 66 i = μ.2.1 66 i := fun i hi => by rw [k2.2.2.2.1 i (by unfold A1; omega), r66]
    obtain ⟨v1, -, v3, v4, -⟩ := h.vs
    have a0 := ofn (k := a.toInt.toNat) (by omega)
    have m0 := mi_add (mi := μ.2.1 15 0) (n := a.toInt.toNat) ⟨by rw [E0]; exact v2.1, by rw [E0]; omega⟩ (by omega)
    have ea : μ.2.1 15 0 + a = μ.2.1 15 0 + Int32.ofNat a.toInt.toNat := by rw [gx_of q1.1]
    rw [ea] at q2
    have v2' := v2
    rw [← E0] at v2'
    refine h.of hB (fun r hr => ro r (by unfold Qr at hr; omega) (by unfold Qr at hr; omega) (by unfold Qr at hr; unfold isch; omega)) (by rw [ro 1 (by omega) (by omega) (by unfold isch; omega)]) (fun r _ => by rw [e2]) ⟨fun k hk => ?_, by rw [k0]; omega, v3.fr ⟨by rw [ri, g.2.2.2.1 4 (by decide)], by rw [ri, g.2.2.2.1 5 (by decide)]⟩ (ro 17 (by omega) (by omega) (by unfold isch; omega)) (fun i hi => ce i (by omega)), v4.fr (ro 24 (by omega) (by omega) (by unfold isch; omega)) (ro 28 (by omega) (by omega) (by unfold isch; omega)) (fun i hi => ce i (by omega)) (by rw [ce 26 (by omega)]; exact Int.le_refl _), h.va (fun r hr => ro r (by unfold Qr at hr; omega) (by unfold Qr at hr; omega) (by unfold Qr at hr; unfold isch; omega)) (by rw [e2]) (fun i hi => ce i (by omega))⟩
    have c2 : kC m2 (29 + 2 * k) = kC m (29 + 2 * k) := kC_o (by rw [k2.2.1]) (row _ (by omega)) (fun j _ => by rw [row _ (by omega)])
    rw [c2, kx k hk, kr k hk, (v1 k hk).1]
    exact ⟨rfl, ((v1 k hk).2).gn ⟨v2'.1, by omega⟩ (by omega)⟩
end
end
section
/-! a breath: agreed behind it -/
theorem kud6 {k : Nat → Int32} {x : Int32} {j : Nat} (h : j ≠ 6) : kud k 6 x j = k j := if_neg h
theorem fv_6 {k : Nat → Int32} {x mi a : Int32} : fv (kud k 6 x) mi a = fv k mi a := by
  unfold fv
  rw [kud6 (k := k) (x := x) (j := 0) (by decide), kud6 (k := k) (x := x) (j := 1) (by decide), kud6 (k := k) (x := x) (j := 2) (by decide), kud6 (k := k) (x := x) (j := 3) (by decide), kud6 (k := k) (x := x) (j := 4) (by decide)]
theorem stp_6 {k : Nat → Int32} {x mi s : Int32} {S : List Bool} : stp (kud k 6 x) mi s S = stp k mi s S := by
  unfold stp; rw [fv_6]
theorem es_6 {k : Nat → Int32} {x mi : Int32} : ∀ (T : List Int32) (S : List Bool), es (kud k 6 x) mi T S = es k mi T S
  | [], S => rfl
  | s :: T, S => by
    show es (kud k 6 x) mi T (stp (kud k 6 x) mi s S) = es k mi T (stp k mi s S)
    rw [stp_6, es_6 T]
theorem cSum_6 {k : Nat → Int32} {x mi : Int32} : ∀ (P : List (List Int32 × Int32)) (a : Int32), cSum (kud k 6 x) mi P a = cSum k mi P a
  | [], a => rfl
  | q :: P, a => by
    show cSum (kud k 6 x) mi P (if (es (kud k 6 x) mi q.1 []).headD false = true then a + amt q.2 else a) = cSum k mi P (if (es k mi q.1 []).headD false = true then a + amt q.2 else a)
    rw [es_6, cSum_6 P]
theorem cHold_6 {k : Nat → Int32} {x w mi : Int32} {P : List (List Int32 × Int32)} : cHold w P (kud k 6 x) mi = cHold w P k mi := by
  unfold cHold cBear cSt
  rw [cSum_6, kud6 (k := k) (x := x) (j := 1) (by decide), kud6 (k := k) (x := x) (j := 3) (by decide), kud6 (k := k) (x := x) (j := 4) (by decide), kud6 (k := k) (x := x) (j := 5) (by decide)]
theorem cSt_b {k : Nat → Int32} {mi : Int32} {P : List (List Int32 × Int32)} (ok : okP P) (pl : P.length ≤ 10) : 1 ≤ (cSt k mi P).toInt ∧ (cSt k mi P).toInt ≤ 9900 := by
  have l30 : (30 : Int32).toInt = 30 := rfl
  have l1 : (1 : Int32).toInt = 1 := rfl
  have s := cSum_b (k := k) (mi := mi) P 30 1 ok (by omega) (by omega) (by omega)
  unfold cSt
  by_cases h : 1 < cSum k mi P 30
  · rw [if_pos h]; rw [Int32.lt_iff_toInt_lt] at h; omega
  · rw [if_neg h]; omega
theorem cHold_b {w : Int32} {P : List (List Int32 × Int32)} {k : Nat → Int32} (hk : RK k) (ok : okP P) (pl : P.length ≤ 10) (hw : 0 ≤ w.toInt ∧ w.toInt ≤ 99) (mi : Int32) : 0 ≤ (cHold w P k mi).toInt ∧ (cHold w P k mi).toInt ≤ 59400 := by
  obtain ⟨l0, l1, l2, l3, l4, l5, l6, l10, l99⟩ := i_lit
  have s := cSt_b (k := k) (mi := mi) ok pl
  obtain ⟨⟨-, -, h3⟩, ⟨h4, h5, -, -⟩, -⟩ := hk
  have m : 0 ≤ (k 3 * cSt k mi P).toInt ∧ (k 3 * cSt k mi P).toInt ≤ 59400 := by
    have e : (k 3).toInt = 0 ∨ (k 3).toInt = 1 ∨ (k 3).toInt = 2 ∨ (k 3).toInt = 3 ∨ (k 3).toInt = 4 ∨ (k 3).toInt = 5 ∨ (k 3).toInt = 6 := by omega
    rcases e with e | e | e | e | e | e | e
    all_goals (rw [gx_mul _ e (by omega) (by omega)]; omega)
  have d := idiv2 (x := k 5) h5.1
  have s1 : (k 3 * cSt k mi P - k 4).toInt = (k 3 * cSt k mi P).toInt - (k 4).toInt := gx_sub (by omega) (by omega)
  have s2 : (k 3 * cSt k mi P - k 4 - k 5 / 2).toInt = (k 3 * cSt k mi P - k 4).toInt - (k 5 / 2).toInt := gx_sub (by omega) (by omega)
  have s3 : (k 3 * cSt k mi P - k 4 - k 5 / 2 - w).toInt = (k 3 * cSt k mi P - k 4 - k 5 / 2).toInt - w.toInt := gx_sub (by omega) (by omega)
  have b : 0 ≤ (cBear w P k mi).toInt ∧ (cBear w P k mi).toInt ≤ 59400 := by
    unfold cBear
    rw [ab_i]
    split <;> omega
  unfold cHold
  split
  · have s4 : (cBear w P k mi - 10).toInt = (cBear w P k mi).toInt - (10 : Int32).toInt := gx_sub (by omega) (by omega)
    rw [ab_i]
    split <;> omega
  · exact b
def mn9 (y : Int32) : Int32 := if y < 9999 then y else 9999
theorem mn9_b {y : Int32} (h : 0 ≤ y.toInt) : 0 ≤ (mn9 y).toInt ∧ (mn9 y).toInt ≤ 9999 := by
  have l9 : (9999 : Int32).toInt = 9999 := rfl
  unfold mn9
  by_cases q : y < 9999
  · rw [if_pos q]; rw [Int32.lt_iff_toInt_lt] at q; omega
  · rw [if_neg q]; omega
def bl (k : Nat → Int32) (n H : Int32) : Nat → Int32 := if H < k 6 + n then kud (kud (kud k 6 (k 6 + n)) 7 (mn9 (k 7 + (k 6 + n) / 10))) 6 0 else kud k 6 (k 6 + n)
theorem bl_nums {k : Nat → Int32} (hk : RK k) {n : Int32} (hn : 1 ≤ n.toInt ∧ n.toInt ≤ 99) : (k 6 + n).toInt = (k 6).toInt + n.toInt ∧ 0 ≤ (k 7 + (k 6 + n) / 10).toInt := by
  obtain ⟨-, ⟨-, -, h6, h7⟩, -⟩ := hk
  have l10 : (10 : Int32).toInt = 10 := rfl
  have s : (k 6 + n).toInt = (k 6).toInt + n.toInt := gx_add (by omega) (by omega)
  have d : ((k 6 + n) / 10).toInt = (k 6 + n).toInt / 10 := by
    rw [gx_div (by decide), l10, Int.tdiv_eq_ediv_of_nonneg (by omega)]
  refine ⟨s, ?_⟩
  rw [gx_add (by omega) (by omega)]
  omega
theorem RK.bln {k : Nat → Int32} (hk : RK k) {n H : Int32} (hn : 1 ≤ n.toInt ∧ n.toInt ≤ 99) (hH : 0 ≤ H.toInt ∧ H.toInt ≤ 59400) : RK (bl k n H) := by
  obtain ⟨b1, b2⟩ := bl_nums hk hn
  have l0 : (0 : Int32).toInt = 0 := rfl
  have h6 := hk.2.1.2.2.1
  unfold bl
  by_cases q : H < k 6 + n
  · rw [if_pos q]
    have e : kud (kud (kud k 6 (k 6 + n)) 7 (mn9 (k 7 + (k 6 + n) / 10))) 6 0 = kud (kud k 7 (mn9 (k 7 + (k 6 + n) / 10))) 6 0 := by
      funext i
      unfold kud
      by_cases q6 : i = 6
      · rw [if_pos q6, if_pos q6]
      · rw [if_neg q6, if_neg q6, if_neg q6]
    rw [e]
    have m := mn9_b b2
    exact (hk.u (j := 7) (Or.inr (Or.inr (Or.inr (Or.inr (Or.inr ⟨rfl, m⟩)))))).u (j := 6) (Or.inr (Or.inr (Or.inr (Or.inr (Or.inl ⟨rfl, by omega, by omega⟩)))))
  · rw [if_neg q]
    rw [Int32.lt_iff_toInt_lt] at q
    exact hk.u (j := 6) (Or.inr (Or.inr (Or.inr (Or.inr (Or.inl ⟨rfl, by omega, by omega⟩)))))
section
variable {w sw : Int32} {P : List (List Int32 × Int32)} {μ : gm_M} {c t : Nat}
theorem v_breathe (hg : gS μ) (ht : ict t) {n H : Int32} : gwI (f_X2_breathe t n H μ) (fun x m => x = (if H < kC μ t 6 + n then 1 else 0) ∧ chg t μ m ∧ kC m t = bl (kC μ t) n H) := by
  have tc := ict.c hg ht
  refine gwI_of ?_
  unfold f_X2_breathe
  have g6 : kC μ t 6 = μ.2.1 t 6 := rfl
  have g7 : kC μ t 7 = μ.2.1 t 7 := rfl
  have r0 := chg.refl t μ
  refine gw_gIw tc ?_
  refine gw_pIw tc ?_
  refine gw_gIw tc ?_
  rw [wI_e, ← g6]
  refine gw_ite (fun c => ?_) (fun c => ?_)
  · refine gw_gIw tc ?_
    refine gw_gIw tc ?_
    rw [wI_e, wI_n _ _ _ _ (show (7 : Nat) ≠ 6 by decide), ← g7]
    refine gw_dv (by decide) ?_
    refine gw_pIw tc ?_
    refine gw_pIw tc ?_
    refine gw_if (Or.inr rfl) ?_
    refine gw_some (gq_I ⟨by rw [if_pos c], ((r0.w rfl (by decide)).w rfl (by decide)).w rfl (by decide), ?_⟩)
    rw [kC_w (by decide) (by decide), kC_w (by decide) (by decide), kC_w (by decide) (by decide), bl, if_pos c]; rfl
  · refine gw_if (Or.inl rfl) ?_
    refine gw_some (gq_I ⟨by rw [if_neg c], r0.w rfl (by decide), ?_⟩)
    rw [kC_w (by decide) (by decide), bl, if_neg c]
theorem v_holdsNow (h : CW w P μ) (hc : c < 5) : gwI (f_X11_holdsNow 1 (Int32.ofNat c) μ) (fun x m => x = cHold w P (kC μ (29 + 2 * c)) (μ.2.1 15 0) ∧ m = μ) := by
  have hg := h.1.1
  refine gwI_of ?_
  unfold f_X11_holdsNow
  refine gw_kid hg hc ?_
  refine gw_gRa 15 (hg.c (r := 1) rfl) (hg.r (by decide)) ?_
  refine gw_gR (hg.c (r := 15) rfl) (fun q eq => ?_)
  subst eq
  refine gw_gRa 15 (hg.c (r := 1) rfl) (hg.r (by decide)) ?_
  refine gw_gIw (hg.c (r := 15) rfl) ?_
  refine gw_if (isch.t hg (isch_c hc)) ?_
  refine gw_bI (v_holds h (ict_c hc) _) (fun x m ⟨ex, em⟩ => ?_)
  exact gw_some (gq_I ⟨ex, em⟩)
theorem m_w9 {x : Int32} (h : 0 ≤ x.toInt) : gwI (f_X12_within x 0 9999 μ) (fun y m => m = μ ∧ y = mn9 x) := by
  have l0 : (0 : Int32).toInt = 0 := rfl
  have l9 : (9999 : Int32).toInt = 9999 := rfl
  refine gwI_of ?_
  unfold f_X12_within mn9
  refine gw_le (fun g => ?_) (fun g => by exfalso; omega)
  refine gw_le (fun g2 => gw_some (gq_I ⟨rfl, ?_⟩)) (fun g2 => gw_some (gq_I ⟨rfl, ?_⟩))
  · by_cases q : x < 9999
    · rw [if_pos q]
    · rw [if_neg q]
      rw [Int32.lt_iff_toInt_lt] at q
      exact Int32.toInt_inj.mp (by omega)
  · rw [if_neg (by rw [Int32.lt_iff_toInt_lt]; omega)]
set_option maxHeartbeats 2000000 in
theorem w_blows (h : MW w sw P μ) (hc : c < 5) {n : Int32} (hk : RK (kR (μ.2.1 66) c)) (hn : 1 ≤ n.toInt ∧ n.toInt ≤ 99) : gwI (f_X12_blows 65 (Int32.ofNat c) n μ) (fun x m => km A3 μ m ∧ x = (if cHold w P (kR (μ.2.1 66) c) (μ.2.1 66 0) < kR (μ.2.1 66) c 6 + n then 1 else 0) ∧ kR (m.2.1 66) c = bl (kR (μ.2.1 66) c) n (cHold w P (kR (μ.2.1 66) c) (μ.2.1 66 0)) ∧ oth c μ m) := by
  have oc := ofn (k := c) (by omega)
  refine gwI_mono (gwI_and (s_X12_blows h.1 (a1 := Int32.ofNat c) (a2 := n) ⟨by omega, by omega⟩) (S := fun x m => x = (if cHold w P (kR (μ.2.1 66) c) (μ.2.1 66 0) < kR (μ.2.1 66) c 6 + n then 1 else 0) ∧ kR (m.2.1 66) c = bl (kR (μ.2.1 66) c) n (cHold w P (kR (μ.2.1 66) c) (μ.2.1 66 0)) ∧ oth c μ m) ?_) (fun x m ⟨⟨a, _⟩, b⟩ => ⟨a, b⟩)
  refine gwI_of ?_
  unfold f_X12_blows
  have e6 : kR (μ.2.1 66) c 6 = μ.2.1 66 (16 + c) := rfl
  have e7 : kR (μ.2.1 66) c 7 = μ.2.1 66 (21 + c) := rfl
  have o0 : oth c μ μ := fun _ _ _ => rfl
  have i6 : 16 + c = 5 * 6 - 14 + c := by omega
  have i7 : 21 + c = 5 * 7 - 14 + c := by omega
  refine gw_gRa 66 (h.1.1.c (r := 65) rfl) (h.1.1.r (by decide)) ?_
  refine gw_aIw (16 + c) (h.1.1.t (r := 66) rfl) (h.1.1.l (r := 66) rfl) (ixc hc 16 16 rfl (by decide)) (by omega) ?_
  rw [← e6]
  refine gw_wr h.1 hc 16 rfl (by decide) ?_
  generalize hb : kR (μ.2.1 66) c 6 + n = b
  have k1 : kR ((wI μ 66 (16 + c) b).2.1 66) c = kud (kR (μ.2.1 66) c) 6 b := by
    rw [kR_w hc hc (j := 6) (by decide) (by decide) i6, if_pos rfl]
  have o1 : oth c μ (wI μ 66 (16 + c) b) := o0.wr hc (j := 6) (by decide) (by decide) i6
  have hM : MW w sw P (wI μ 66 (16 + c) b) := h.k1 ((km.refl A1 μ).ws rfl (by unfold A1; omega))
  have n0 : (wI μ 66 (16 + c) b).2.1 66 0 = μ.2.1 66 0 := wI_n _ _ _ _ (by omega)
  have n16 : (wI μ 66 (16 + c) b).2.1 66 (16 + c) = b := wI_e _ _ _ _
  have n21 : (wI μ 66 (16 + c) b).2.1 66 (21 + c) = μ.2.1 66 (21 + c) := wI_n _ _ _ _ (by omega)
  generalize wI μ 66 (16 + c) b = M at *
  refine gw_rd hM.1 hc 16 rfl (by decide) ?_
  rw [n16]
  refine gw_if (hM.1.1.t (r := 65) rfl) ?_
  refine gw_bI (w_holds hM hc) (fun x m6 ⟨k6, ex⟩ => ?_)
  subst ex
  rw [k1, cHold_6, n0]
  have r6 := k6.row
  have M6 : MI m6 := hM.1.of2 k6.w02
  refine gw_ite (fun g => ?_) (fun g => ?_)
  · refine gw_gRa 66 (M6.1.c (r := 65) rfl) (M6.1.r (by decide)) ?_
    refine gw_rd M6 hc 21 rfl (by decide) ?_
    refine gw_rd M6 hc 16 rfl (by decide) ?_
    rw [r6, n16, n21, ← e7]
    refine gw_dv (by decide) ?_
    refine gw_bI (m_w9 (by rw [← hb]; exact (bl_nums hk hn).2)) (fun y m' ⟨em, ey⟩ => ?_)
    subst em
    subst ey
    refine gw_wr M6 hc 21 rfl (by decide) ?_
    have M7 : MI (wI m' 66 (21 + c) (mn9 (kR (μ.2.1 66) c 7 + b / 10))) := M6.of1 ((km.refl A1 m').ws rfl (by unfold A1; omega))
    refine gw_gRa 66 (M7.1.c (r := 65) rfl) (M7.1.r (by decide)) ?_
    refine gw_wr M7 hc 16 rfl (by decide) ?_
    refine gw_if (Or.inr rfl) ?_
    refine gw_some (gq_I ⟨by rw [if_pos g], ?_, ?_⟩)
    · rw [kR_w hc hc (j := 6) (by decide) (by decide) i6, if_pos rfl, kR_w hc hc (j := 7) (by decide) (by decide) i7, if_pos rfl, r6, k1, bl, hb, if_pos g]
    · have o6 : oth c μ m' := fun d hd hdc => by rw [r6]; exact o1 d hd hdc
      exact (o6.wr hc (j := 7) (by decide) (by decide) i7).wr hc (j := 6) (by decide) (by decide) i6
  · refine gw_if (Or.inl rfl) ?_
    refine gw_some (gq_I ⟨by rw [if_neg g], ?_, fun d hd hdc => by rw [r6]; exact o1 d hd hdc⟩)
    rw [r6, k1, bl, hb, if_neg g]
set_option maxHeartbeats 4000000 in
theorem N_blow (h : REL μ) {a n : Int32} : PR (f_X11_blow 1 a n μ) (f_X12_blow 65 a n) := by
  refine PR.mk (c_blow h.1) (fun m k => m_blow k) ?_
  have hg := h.ci.1
  have e26 := h.sz.symm
  obtain ⟨w, sw, P, ⟨hcw, hmw, -, -⟩, hw, -⟩ := h.ex
  have l1 : (1 : Int32).toInt = 1 := rfl
  have l99 : (99 : Int32).toInt = 99 := rfl
  refine gwI_of ?_
  unfold f_X11_blow
  -- a refusal on both sides
  have no : ∀ (y : Int32), (ALL μ → gwI (f_X12_blow 65 a n μ) (fun z m2 => z = y ∧ m2 = μ)) → gw (some (some (.int y), μ)) (gqI (fun x m => ALL m → gwI (f_X12_blow 65 a n m) (fun y m2 => y = x ∧ (ALL m2 → REL m2)))) := fun y q =>
    gw_some (gq_I (fun hA => gwI_mono (q hA) (fun z m2 ⟨e1, e2⟩ => ⟨e1, fun _ => by rw [e2]; exact h⟩)))
  refine gw_if (hg.t (r := 1) rfl) ?_
  refine gw_nob h (fun hC => ?_) (fun nC => ?_)
  · rw [if_pos rfl]
    refine gw_out (fun hn => ?_) (fun nn => ?_)
    · rw [if_pos rfl]
      obtain ⟨c, hc, ea, oc⟩ := hC.at
      subst ea
      have tc := ict.c hg (ict_c hc)
      obtain ⟨ke, kr⟩ := h.kk hc
      have e3 : μ.2.1 (29 + 2 * c) 3 = μ.2.1 66 (1 + c) := (show kC μ (29 + 2 * c) 3 = kR (μ.2.1 66) c 3 by rw [ke])
      refine gw_kid hg hc ?_
      refine gw_gIw tc ?_
      refine gw_ite (fun g3 => ?_) (fun g3 => ?_)
      · refine gw_if (hg.t (r := 1) rfl) ?_
        refine gw_bI (v_holdsNow hcw hc) (fun x m ⟨ex, em⟩ => ?_)
        subst em
        subst ex
        refine gw_if (ict.t hg (ict_c hc)) ?_
        refine gw_bI (v_breathe hg (ict_c hc)) (fun x m1 ⟨ex, g1, k1⟩ => ?_)
        have hH := cHold_b kr hcw.2.2.1.1 hcw.2.2.1.2.1 hw (m.2.1 66 0)
        rw [ke, h.mn] at k1 ex
        have r66 : m1.2.1 66 = m.2.1 66 := g1.2.2.1 66 (by omega)
        have tc1 : [7].contains (gm_tag m1 (29 + 2 * c)) = true := by rw [show gm_tag m1 (29 + 2 * c) = gm_tag m (29 + 2 * c) by unfold gm_tag; rw [g1.1]]; exact tc
        have fin : ∀ (x0 : Int32), (x = 0 → x0 = bl (kR (m.2.1 66) c) n (cHold w P (kR (m.2.1 66) c) (m.2.1 66 0)) 6) → (x ≠ 0 → x0 = -6) → gw (some (some (.int x0), m1)) (gqI (fun x m' => ALL m' → gwI (f_X12_blow 65 (Int32.ofNat c) n m') (fun y m2 => y = x ∧ (ALL m2 → REL m2)))) := fun x0 f1 f2 => by
          refine gw_some (gq_I (fun hA => gwI_of ?_))
          have hM : MW w sw P m1 := ⟨hA.1, by rw [r66]; exact hmw.2⟩
          unfold f_X12_blow
          refine gw_if hA.t65 ?_
          refine gw_isc (μ := m) hA.1 (by rw [r66]; exact e26) (fun _ => ?_) (fun q => absurd hC q)
          rw [if_pos (by decide)]
          refine gw_inn (fun _ => ?_) (fun q => absurd hn q)
          rw [if_pos (by decide)]
          refine gw_rd hA.1 hc 1 rfl (by decide) ?_
          rw [r66, ← e3]
          refine gw_if g3 ?_
          refine gw_if hA.t65 ?_
          refine gw_bI (w_blows hM hc (by rw [r66]; exact kr) (n := n) (by omega)) (fun z m7 ⟨g7, ez, kz, oz⟩ => ?_)
          rw [r66, ← ex] at ez
          rw [r66] at kz
          have fn : ∀ y : Int32, y = x0 → gw (some (some (.int y), m7)) (gqI (fun y m2 => y = x0 ∧ (ALL m2 → REL m2))) := fun y ey => by
            refine gw_some (gq_I ⟨ey, fun hB => ?_⟩)
            have ro : ∀ r : Nat, (r ≠ 65 ∧ r ≠ 66 ∧ r ≠ 69 ∧ r ≠ 70 ∧ r ≠ 71 ∧ r ≠ 72 ∧ r ≠ 73) → m7.2.1 r = m1.2.1 r := fun r q => g7.2.2.1 r q.1 q.2.1 q.2.2.1 q.2.2.2.1 q.2.2.2.2.1 q.2.2.2.2.2.1 q.2.2.2.2.2.2
            refine h.one hc hB (fun r r1 r2 r3 => (ro r (by omega)).trans (g1.2.2.1 r r1)) (g7.2.1.trans g1.2.1) (fun i hi => by rw [g7.2.2.2.1 i (by unfold A3; omega), r66]) (fun d hd hdc => by rw [oz d hd hdc, r66]) ⟨?_, ?_⟩
            · rw [kz, kC_o (μ := m1) (m := m7) (t := 29 + 2 * c) (by rw [g7.2.1]) (ro _ (by omega)) (fun j _ => by rw [ro _ (by omega)]), k1]
            · rw [kz]; exact kr.bln ⟨by omega, by omega⟩ hH
          refine gw_ite (fun gz => ?_) (fun gz => ?_)
          · refine gw_rd (hA.1.of1 g7.w31) hc 16 rfl (by decide) ?_
            refine fn _ ?_
            have e16 : m7.2.1 66 (16 + c) = kR (m7.2.1 66) c 6 := rfl
            rw [e16, kz]
            exact (f1 (by rw [← ez]; exact gz)).symm
          · exact fn _ (f2 (by rw [← ez]; exact gz)).symm
        refine gw_ite (fun gx => ?_) (fun gx => ?_)
        · refine gw_gIw tc1 ?_
          refine fin _ (fun _ => ?_) (fun q => absurd gx q)
          have e6 : m1.2.1 (29 + 2 * c) 6 = kC m1 (29 + 2 * c) 6 := rfl
          rw [e6, k1]
        · exact fin _ (fun q => absurd q gx) (fun _ => rfl)
      · refine no _ (fun hA => gwI_of ?_)
        unfold f_X12_blow
        refine gw_if hA.t65 ?_
        refine gw_isc hA.1 e26 (fun _ => ?_) (fun q => absurd hC q)
        rw [if_pos (by decide)]
        refine gw_inn (fun _ => ?_) (fun q => absurd hn q)
        rw [if_pos (by decide)]
        refine gw_rd hA.1 hc 1 rfl (by decide) ?_
        rw [← e3, if_neg g3]
        exact gw_some (gq_I ⟨rfl, rfl⟩)
    · rw [if_neg (by decide)]
      refine no _ (fun hA => gwI_of ?_)
      unfold f_X12_blow
      refine gw_if hA.t65 ?_
      refine gw_isc hA.1 e26 (fun _ => ?_) (fun q => absurd hC q)
      rw [if_pos (by decide)]
      refine gw_inn (fun q => absurd q nn) (fun _ => ?_)
      rw [if_neg (by decide)]
      exact gw_some (gq_I ⟨rfl, rfl⟩)
  · rw [if_neg (by decide)]
    refine no _ (fun hA => gwI_of ?_)
    unfold f_X12_blow
    refine gw_if hA.t65 ?_
    refine gw_isc hA.1 e26 (fun q => absurd q nC) (fun _ => ?_)
    rw [if_neg (by decide)]
    exact gw_some (gq_I ⟨rfl, rfl⟩)
end
end
