/-! rows told, over REL -/
section
variable {μ : gm_M}
theorem cl_add (h : REL μ) {r j : Nat} {L : Int} (hr : (r = 23 ∧ j = 7 ∧ L = 5) ∨ (r = 25 ∧ j = 8 ∧ L = 8) ∨ (r = 27 ∧ j = 9 ∧ L = 8)) {a b c : Int32} {R : Int32 → gm_M → Prop} (hf : (μ.2.1 r 2).toInt < L → R (μ.2.1 r 2 + 1) (ad μ r a b c)) (hn : L ≤ (μ.2.1 r 2).toInt → R (-4) μ) : gw (gm_gR μ [16] 1 1 (fun v7 => gm_gR μ [13] v7 j (fun v8 => if gm_tag μ v8 = 12 then gm_bI (f_X7_isFull v8 μ) (fun x10 m9 => if x10 = 0 then gm_gR m9 [16] 1 1 (fun v11 => gm_gR m9 [13] v11 j (fun v12 => if gm_tag m9 v12 = 12 then gm_bI (f_X7_add v12 a b c m9) (fun x14 m13 => some (some (.int x14), m13)) else none)) else some (some (.int (-4 : Int32)), m9)) else none))) (gqI R) := by
  have hc := h.ci
  have hg := hc.1
  have l0 : (0 : Int32).toInt = 0 := rfl
  have n23 := hc.n23
  have n25 := hc.n25
  have n27 := hc.n27
  have e23 := hc.l23
  have e25 := hc.l25
  have e27 := hc.l27
  refine gw_gRa 15 (hg.c (r := 1) rfl) (hg.r (by decide)) ?_
  rcases hr with ⟨rfl, rfl, rfl⟩ | ⟨rfl, rfl, rfl⟩ | ⟨rfl, rfl, rfl⟩
  · refine gw_gRa 23 (hg.c (r := 15) rfl) (hg.r (by decide)) ?_
    refine gw_if (hg.t (r := 23) rfl) ?_
    refine gw_bI (s_isFull (hg.t (r := 23) rfl)) (fun x m ⟨em, hx⟩ => ?_)
    subst em
    refine gw_eq (fun g => ?_) (fun g => gw_some (gq_I (hn (by omega))))
    refine gw_gRa 15 (hg.c (r := 1) rfl) (hg.r (by decide)) ?_
    refine gw_gRa 23 (hg.c (r := 15) rfl) (hg.r (by decide)) ?_
    refine gw_if (hg.t (r := 23) rfl) ?_
    refine gw_bI (s_add (r := 23) 5 (hg.t rfl) (hg.t rfl) (hg.l rfl) (hg.r (by decide)) hc.l23 hc.n23.1 (by omega) (by decide)) (fun x m' ⟨ex, hm⟩ => ?_)
    subst ex
    rcases hm with ⟨q, em⟩ | ⟨q, em⟩
    · subst em; exact gw_some (gq_I (hf q))
    · exfalso; omega
  · refine gw_gRa 25 (hg.c (r := 15) rfl) (hg.r (by decide)) ?_
    refine gw_if (hg.t (r := 25) rfl) ?_
    refine gw_bI (s_isFull (hg.t (r := 25) rfl)) (fun x m ⟨em, hx⟩ => ?_)
    subst em
    refine gw_eq (fun g => ?_) (fun g => gw_some (gq_I (hn (by omega))))
    refine gw_gRa 15 (hg.c (r := 1) rfl) (hg.r (by decide)) ?_
    refine gw_gRa 25 (hg.c (r := 15) rfl) (hg.r (by decide)) ?_
    refine gw_if (hg.t (r := 25) rfl) ?_
    refine gw_bI (s_add (r := 25) 8 (hg.t rfl) (hg.t rfl) (hg.l rfl) (hg.r (by decide)) hc.l25 hc.n25.1 (by omega) (by decide)) (fun x m' ⟨ex, hm⟩ => ?_)
    subst ex
    rcases hm with ⟨q, em⟩ | ⟨q, em⟩
    · subst em; exact gw_some (gq_I (hf q))
    · exfalso; omega
  · refine gw_gRa 27 (hg.c (r := 15) rfl) (hg.r (by decide)) ?_
    refine gw_if (hg.t (r := 27) rfl) ?_
    refine gw_bI (s_isFull (hg.t (r := 27) rfl)) (fun x m ⟨em, hx⟩ => ?_)
    subst em
    refine gw_eq (fun g => ?_) (fun g => gw_some (gq_I (hn (by omega))))
    refine gw_gRa 15 (hg.c (r := 1) rfl) (hg.r (by decide)) ?_
    refine gw_gRa 27 (hg.c (r := 15) rfl) (hg.r (by decide)) ?_
    refine gw_if (hg.t (r := 27) rfl) ?_
    refine gw_bI (s_add (r := 27) 8 (hg.t rfl) (hg.t rfl) (hg.l rfl) (hg.r (by decide)) hc.l27 hc.n27.1 (by omega) (by decide)) (fun x m' ⟨ex, hm⟩ => ?_)
    subst ex
    rcases hm with ⟨q, em⟩ | ⟨q, em⟩
    · subst em; exact gw_some (gq_I (hf q))
    · exfalso; omega
theorem cl_clr (h : REL μ) {r j s : Nat} (hr : (r = 23 ∧ j = 7 ∧ s = 28) ∨ (r = 25 ∧ j = 8 ∧ s = 29) ∨ (r = 27 ∧ j = 9 ∧ s = 30)) {g : gm_M → Option (Option Value × gm_M)} (hG : g (wI μ r 2 0) = gm_gR (wI μ r 2 0) [17] 65 1 (fun v => gm_sI (wI μ r 2 0) v (Int32.ofNat s) (0 : Int32) (fun m => some (some (.int (0 : Int32)), m)))) : gw (gm_gR μ [16] 1 1 (fun v => gm_gR μ [13] v j (fun v8 => if gm_tag μ v8 = 12 then gm_bI (f_X7_clear v8 μ) (fun x m => some (some (.int x), m)) else none))) (gqI (fun x m => gm_tag m 65 = 17 ∧ gwI (g m) (fun y m2 => y = x ∧ REL m2))) := by
  have hg := h.ci.1
  have fin : ∀ (r s : Nat), ((r = 23 ∧ s = 28) ∨ (r = 25 ∧ s = 29) ∨ (r = 27 ∧ s = 30)) → g (wI μ r 2 0) = gm_gR (wI μ r 2 0) [17] 65 1 (fun v => gm_sI (wI μ r 2 0) v (Int32.ofNat s) (0 : Int32) (fun m => some (some (.int (0 : Int32)), m))) → gw (some (some (.int (0 : Int32)), wI μ r 2 0)) (gqI (fun x m => gm_tag m 65 = 17 ∧ gwI (g m) (fun y m2 => y = x ∧ REL m2))) := fun r s hq e => by
    refine gw_some (gq_I ⟨hg.t (r := 65) rfl, gwI_of ?_⟩)
    rw [e]
    refine gw_gRa 66 (hg.c (r := 65) rfl) (hg.r (by decide)) ?_
    refine gw_sIw s (hg.t (r := 66) rfl) (hg.l (r := 66) rfl) (ofn (by omega)) (by omega) ?_
    exact gw_some (gq_I ⟨rfl, R_clr h hq (A_clr h.1 hq)⟩)
  refine gw_gRa 15 (hg.c (r := 1) rfl) (hg.r (by decide)) ?_
  rcases hr with ⟨rfl, rfl, rfl⟩ | ⟨rfl, rfl, rfl⟩ | ⟨rfl, rfl, rfl⟩
  · refine gw_gRa 23 (hg.c (r := 15) rfl) (hg.r (by decide)) ?_
    refine gw_if (hg.t (r := 23) rfl) ?_
    refine gw_bI (s_clear (hg.t (r := 23) rfl)) (fun x m ⟨ex, em⟩ => ?_)
    subst ex
    subst em
    exact fin 23 28 (by omega) hG
  · refine gw_gRa 25 (hg.c (r := 15) rfl) (hg.r (by decide)) ?_
    refine gw_if (hg.t (r := 25) rfl) ?_
    refine gw_bI (s_clear (hg.t (r := 25) rfl)) (fun x m ⟨ex, em⟩ => ?_)
    subst ex
    subst em
    exact fin 25 29 (by omega) hG
  · refine gw_gRa 27 (hg.c (r := 15) rfl) (hg.r (by decide)) ?_
    refine gw_if (hg.t (r := 27) rfl) ?_
    refine gw_bI (s_clear (hg.t (r := 27) rfl)) (fun x m ⟨ex, em⟩ => ?_)
    subst ex
    subst em
    exact fin 27 30 (by omega) hG
set_option maxHeartbeats 4000000 in
theorem N_see (h : REL μ) {a b c : Int32} : PR (f_X11_see 1 a b c μ) (f_X12_see 65 a b c) := by
  have hg := h.ci.1
  have e26 := h.sz.symm
  have E28 : μ.2.1 23 2 = μ.2.1 66 28 := h.1.2.2.2.1.1.2.2.1
  have n28 := h.mi.n28
  have l0 : (0 : Int32).toInt = 0 := rfl
  have l5 : (5 : Int32).toInt = 5 := rfl
  have l20 : (20 : Int32).toInt = 20 := rfl
  have l28 : (28 : Int32).toInt = 28 := rfl
  have l63 : (63 : Int32).toInt = 63 := rfl
  have l68 : (68 : Int32).toInt = 68 := rfl
  have l73 : (73 : Int32).toInt = 73 := rfl
  obtain ⟨N, hN⟩ : ∃ N : Nat, (μ.2.1 66 28).toInt = N := ⟨(μ.2.1 66 28).toInt.toNat, by omega⟩
  refine gwI_of ?_
  unfold f_X11_see
  refine gw_ite (fun hm1 => ?_) (fun hm1 => ?_)
  · refine gw_if (hg.t (r := 1) rfl) ?_
    refine gw_nob h (fun hC => ?_) (fun nC => ?_)
    · rw [if_pos rfl]
      refine gw_out (fun hb => ?_) (fun nb => ?_)
      · rw [if_neg (by decide)]
        refine gw_out (fun hc => ?_) (fun nc => ?_)
        · rw [if_pos rfl]
          refine cl_add h (Or.inl ⟨rfl, rfl, rfl⟩) (fun hl => ?_) (fun hl => ?_)
          · rw [E28, hN] at hl
            have r66 : (ad μ 23 a b c).2.1 66 = μ.2.1 66 := ad_o (by decide) (by decide)
            have hM : MI (ad μ 23 a b c) := ⟨hg, by rw [r66]; exact h.mi.2⟩
            have hk := hC
            unfold isC at hk
            rw [h.sz] at hk
            have fin : ALL _ → REL _ := R_see h (a := a) (b := b) (c := c) hN (by omega) ⟨by omega, by omega⟩ hk.2.1
            refine ⟨hM.1.t (r := 65) rfl, gwI_of ?_⟩
            unfold f_X12_see
            refine gw_if hm1 ?_
            refine gw_if (hM.1.t (r := 65) rfl) ?_
            refine gw_isc (μ := μ) hM (by rw [r66]; exact e26) (fun _ => ?_) (fun q => absurd hC q)
            rw [if_pos (by decide)]
            refine gw_inn (fun _ => ?_) (fun q => absurd hb q)
            rw [if_neg (by decide)]
            refine gw_inn (fun _ => ?_) (fun q => absurd hc q)
            rw [if_pos (by decide)]
            have n1 : ((63 : Int32) + μ.2.1 66 28).toInt = (63 : Int32).toInt + (μ.2.1 66 28).toInt := gx_add (by omega) (by omega)
            have n2 : ((68 : Int32) + μ.2.1 66 28).toInt = (68 : Int32).toInt + (μ.2.1 66 28).toInt := gx_add (by omega) (by omega)
            have n3 : ((73 : Int32) + μ.2.1 66 28).toInt = (73 : Int32).toInt + (μ.2.1 66 28).toInt := gx_add (by omega) (by omega)
            have tc : [17].contains (gm_tag (ad μ 23 a b c) 65) = true := hM.1.c (r := 65) rfl
            have r1 : (ad μ 23 a b c).2.2 65 1 = 66 := hM.1.r (by decide)
            have tt : gm_tag (ad μ 23 a b c) 66 = 1 := hM.1.t (r := 66) rfl
            have tl : gm_len (ad μ 23 a b c) 66 = 925 := hM.1.l (r := 66) rfl
            refine gw_gRa 66 tc r1 ?_
            refine gw_aIw 28 tt tl l28 (by omega) ?_
            rw [r66]
            refine gw_if (fun e => by have := congrArg Int32.toInt e; omega) ?_
            refine gw_gRa 66 tc r1 ?_
            refine gw_gRa 66 tc r1 ?_
            refine gw_aIw 28 tt tl l28 (by omega) ?_
            rw [r66]
            refine gw_sIw (63 + N) tt tl (by omega) (by omega) ?_
            refine gw_gRa 66 tc r1 ?_
            refine gw_gRa 66 tc r1 ?_
            refine gw_aIw 28 tt tl l28 (by omega) ?_
            rw [wI_n _ _ _ _ (show (28 : Nat) ≠ 63 + N by omega), r66]
            refine gw_sIw (68 + N) tt tl (by omega) (by omega) ?_
            refine gw_gRa 66 tc r1 ?_
            refine gw_gRa 66 tc r1 ?_
            refine gw_aIw 28 tt tl l28 (by omega) ?_
            rw [wI_n _ _ _ _ (show (28 : Nat) ≠ 68 + N by omega), wI_n _ _ _ _ (show (28 : Nat) ≠ 63 + N by omega), r66]
            refine gw_sIw (73 + N) tt tl (by omega) (by omega) ?_
            refine gw_gRa 66 tc r1 ?_
            refine gw_aIw 28 tt tl l28 (by omega) ?_
            rw [wI_n _ _ _ _ (show (28 : Nat) ≠ 73 + N by omega), wI_n _ _ _ _ (show (28 : Nat) ≠ 68 + N by omega), wI_n _ _ _ _ (show (28 : Nat) ≠ 63 + N by omega), r66]
            refine gw_sIw 28 tt tl l28 (by omega) ?_
            refine gw_gRa 66 tc r1 ?_
            refine gw_aIw 28 tt tl l28 (by omega) ?_
            rw [wI_e]
            exact gw_some (gq_I ⟨by rw [E28], fin (A_see h.1 hN (by omega) ⟨hk.1, by omega⟩ (by omega))⟩)
          · rw [E28, hN] at hl
            refine ⟨h.1.t65, gwI_of ?_⟩
            unfold f_X12_see
            refine gw_if hm1 ?_
            refine gw_if h.1.t65 ?_
            refine gw_isc h.mi e26 (fun _ => ?_) (fun q => absurd hC q)
            rw [if_pos (by decide)]
            refine gw_inn (fun _ => ?_) (fun q => absurd hb q)
            rw [if_neg (by decide)]
            refine gw_inn (fun _ => ?_) (fun q => absurd hc q)
            rw [if_pos (by decide)]
            refine gw_gRa 66 (hg.c (r := 65) rfl) (hg.r (by decide)) ?_
            refine gw_aIw 28 (hg.t (r := 66) rfl) (hg.l (r := 66) rfl) l28 (by omega) ?_
            rw [show μ.2.1 66 28 = 5 from Int32.toInt_inj.mp (by omega), if_neg (by decide)]
            exact gw_some (gq_I ⟨rfl, h⟩)
        · rw [if_neg (by decide)]
          refine leaf h (gwI_of ?_)
          unfold f_X12_see
          refine gw_if hm1 ?_
          refine gw_if h.1.t65 ?_
          refine gw_isc h.mi e26 (fun _ => ?_) (fun q => absurd hC q)
          rw [if_pos (by decide)]
          refine gw_inn (fun _ => ?_) (fun q => absurd hb q)
          rw [if_neg (by decide)]
          refine gw_inn (fun q => absurd q nc) (fun _ => ?_)
          rw [if_neg (by decide)]
          exact gw_some (gq_I ⟨qm.refl μ, rfl⟩)
      · rw [if_pos (by decide)]
        refine leaf h (gwI_of ?_)
        unfold f_X12_see
        refine gw_if hm1 ?_
        refine gw_if h.1.t65 ?_
        refine gw_isc h.mi e26 (fun _ => ?_) (fun q => absurd hC q)
        rw [if_pos (by decide)]
        refine gw_inn (fun q => absurd q nb) (fun _ => ?_)
        rw [if_pos rfl]
        exact gw_some (gq_I ⟨qm.refl μ, rfl⟩)
    · rw [if_neg (by decide)]
      refine leaf h (gwI_of ?_)
      unfold f_X12_see
      refine gw_if hm1 ?_
      refine gw_if h.1.t65 ?_
      refine gw_isc h.mi e26 (fun q => absurd q nC) (fun _ => ?_)
      rw [if_neg (by decide)]
      exact gw_some (gq_I ⟨qm.refl μ, rfl⟩)
  · refine cl_clr h (Or.inl ⟨rfl, rfl, rfl⟩) ?_
    unfold f_X12_see
    rw [if_neg hm1]
    rfl
set_option maxHeartbeats 4000000 in
theorem N_book (h : REL μ) {a b : Int32} : PR (f_X11_book 1 a b μ) (f_X12_book 65 a b) := by
  have hg := h.ci.1
  have e26 := h.sz.symm
  have E30 : μ.2.1 27 2 = μ.2.1 66 30 := h.1.2.2.2.1.1.2.2.2.2
  have n30 := h.mi.n30
  have l0 : (0 : Int32).toInt = 0 := rfl
  have l8 : (8 : Int32).toInt = 8 := rfl
  have l30 : (30 : Int32).toInt = 30 := rfl
  have l94 : (94 : Int32).toInt = 94 := rfl
  have l102 : (102 : Int32).toInt = 102 := rfl
  obtain ⟨N, hN⟩ : ∃ N : Nat, (μ.2.1 66 30).toInt = N := ⟨(μ.2.1 66 30).toInt.toNat, by omega⟩
  refine gwI_of ?_
  unfold f_X11_book
  refine gw_ite (fun hm1 => ?_) (fun hm1 => ?_)
  · refine gw_if (hg.t (r := 1) rfl) ?_
    refine gw_nob h (fun hC => ?_) (fun nC => ?_)
    · rw [if_pos rfl]
      refine gw_out (fun hb => ?_) (fun nb => ?_)
      · rw [if_pos rfl]
        refine cl_add h (Or.inr (Or.inr ⟨rfl, rfl, rfl⟩)) (fun hl => ?_) (fun hl => ?_)
        · rw [E30, hN] at hl
          have r66 : (ad μ 27 a b 0).2.1 66 = μ.2.1 66 := ad_o (by decide) (by decide)
          have hM : MI (ad μ 27 a b 0) := ⟨hg, by rw [r66]; exact h.mi.2⟩
          have hk := hC
          unfold isC at hk
          rw [h.sz] at hk
          have fin : ALL _ → REL _ := R_book h (a := a) (b := b) (c := 0) hN (by omega) hk.2.1
          refine ⟨hM.1.t (r := 65) rfl, gwI_of ?_⟩
          unfold f_X12_book
          refine gw_if hm1 ?_
          refine gw_if (hM.1.t (r := 65) rfl) ?_
          refine gw_isc (μ := μ) hM (by rw [r66]; exact e26) (fun _ => ?_) (fun q => absurd hC q)
          rw [if_pos (by decide)]
          refine gw_inn (fun _ => ?_) (fun q => absurd hb q)
          rw [if_pos (by decide)]
          have n1 : ((94 : Int32) + μ.2.1 66 30).toInt = (94 : Int32).toInt + (μ.2.1 66 30).toInt := gx_add (by omega) (by omega)
          have n2 : ((102 : Int32) + μ.2.1 66 30).toInt = (102 : Int32).toInt + (μ.2.1 66 30).toInt := gx_add (by omega) (by omega)
          have tc : [17].contains (gm_tag (ad μ 27 a b 0) 65) = true := hM.1.c (r := 65) rfl
          have r1 : (ad μ 27 a b 0).2.2 65 1 = 66 := hM.1.r (by decide)
          have tt : gm_tag (ad μ 27 a b 0) 66 = 1 := hM.1.t (r := 66) rfl
          have tl : gm_len (ad μ 27 a b 0) 66 = 925 := hM.1.l (r := 66) rfl
          refine gw_gRa 66 tc r1 ?_
          refine gw_aIw 30 tt tl l30 (by omega) ?_
          rw [r66]
          refine gw_if (fun e => by have := congrArg Int32.toInt e; omega) ?_
          refine gw_gRa 66 tc r1 ?_
          refine gw_gRa 66 tc r1 ?_
          refine gw_aIw 30 tt tl l30 (by omega) ?_
          rw [r66]
          refine gw_sIw (94 + N) tt tl (by omega) (by omega) ?_
          refine gw_gRa 66 tc r1 ?_
          refine gw_gRa 66 tc r1 ?_
          refine gw_aIw 30 tt tl l30 (by omega) ?_
          rw [wI_n _ _ _ _ (show (30 : Nat) ≠ 94 + N by omega), r66]
          refine gw_sIw (102 + N) tt tl (by omega) (by omega) ?_
          refine gw_gRa 66 tc r1 ?_
          refine gw_aIw 30 tt tl l30 (by omega) ?_
          rw [wI_n _ _ _ _ (show (30 : Nat) ≠ 102 + N by omega), wI_n _ _ _ _ (show (30 : Nat) ≠ 94 + N by omega), r66]
          refine gw_sIw 30 tt tl l30 (by omega) ?_
          refine gw_gRa 66 tc r1 ?_
          refine gw_aIw 30 tt tl l30 (by omega) ?_
          rw [wI_e]
          exact gw_some (gq_I ⟨by rw [E30], fin (A_book h.1 hN (by omega) ⟨hk.1, by omega⟩)⟩)
        · rw [E30, hN] at hl
          refine ⟨h.1.t65, gwI_of ?_⟩
          unfold f_X12_book
          refine gw_if hm1 ?_
          refine gw_if h.1.t65 ?_
          refine gw_isc h.mi e26 (fun _ => ?_) (fun q => absurd hC q)
          rw [if_pos (by decide)]
          refine gw_inn (fun _ => ?_) (fun q => absurd hb q)
          rw [if_pos (by decide)]
          refine gw_gRa 66 (hg.c (r := 65) rfl) (hg.r (by decide)) ?_
          refine gw_aIw 30 (hg.t (r := 66) rfl) (hg.l (r := 66) rfl) l30 (by omega) ?_
          rw [show μ.2.1 66 30 = 8 from Int32.toInt_inj.mp (by omega), if_neg (by decide)]
          exact gw_some (gq_I ⟨rfl, h⟩)
      · rw [if_neg (by decide)]
        refine leaf h (gwI_of ?_)
        unfold f_X12_book
        refine gw_if hm1 ?_
        refine gw_if h.1.t65 ?_
        refine gw_isc h.mi e26 (fun _ => ?_) (fun q => absurd hC q)
        rw [if_pos (by decide)]
        refine gw_inn (fun q => absurd q nb) (fun _ => ?_)
        rw [if_neg (by decide)]
        exact gw_some (gq_I ⟨qm.refl μ, rfl⟩)
    · rw [if_neg (by decide)]
      refine leaf h (gwI_of ?_)
      unfold f_X12_book
      refine gw_if hm1 ?_
      refine gw_if h.1.t65 ?_
      refine gw_isc h.mi e26 (fun q => absurd q nC) (fun _ => ?_)
      rw [if_neg (by decide)]
      exact gw_some (gq_I ⟨qm.refl μ, rfl⟩)
  · refine cl_clr h (Or.inr (Or.inr ⟨rfl, rfl, rfl⟩)) ?_
    unfold f_X12_book
    rw [if_neg hm1]
    rfl
set_option maxHeartbeats 4000000 in
theorem N_plan (h : REL μ) {a b : Int32} : PR (f_X11_plan 1 a b μ) (f_X12_plan 65 a b) := by
  have hg := h.ci.1
  have e26 := h.sz.symm
  have E29 : μ.2.1 25 2 = μ.2.1 66 29 := h.1.2.2.2.1.1.2.2.2.1
  have n29 := h.mi.n29
  have l0 : (0 : Int32).toInt = 0 := rfl
  have l3 : (3 : Int32).toInt = 3 := rfl
  have l8 : (8 : Int32).toInt = 8 := rfl
  have l29 : (29 : Int32).toInt = 29 := rfl
  have l78 : (78 : Int32).toInt = 78 := rfl
  have l86 : (86 : Int32).toInt = 86 := rfl
  obtain ⟨N, hN⟩ : ∃ N : Nat, (μ.2.1 66 29).toInt = N := ⟨(μ.2.1 66 29).toInt.toNat, by omega⟩
  refine gwI_of ?_
  unfold f_X11_plan
  refine gw_ite (fun hm1 => ?_) (fun hm1 => ?_)
  · refine gw_out (fun ha => ?_) (fun na => ?_)
    · rw [if_neg (by decide)]
      refine gw_j (fun m => m = μ ∧ (a.toInt = 0 ∨ isC μ b)) (fun m ⟨em, hb⟩ => ?_) (fun j hj => ?_)
      · subst em
        refine cl_add h (Or.inr (Or.inl ⟨rfl, rfl, rfl⟩)) (fun hl => ?_) (fun hl => ?_)
        · rw [E29, hN] at hl
          have r66 : (ad m 25 a b 0).2.1 66 = m.2.1 66 := ad_o (by decide) (by decide)
          have hM : MI (ad m 25 a b 0) := ⟨hg, by rw [r66]; exact h.mi.2⟩
          have fin : ALL _ → REL _ := R_plan h (a := a) (b := b) (c := 0) (N := N) (by omega)
          refine ⟨hM.1.t (r := 65) rfl, gwI_of ?_⟩
          unfold f_X12_plan
          refine gw_if hm1 ?_
          refine gw_inn (fun _ => ?_) (fun q => absurd ha q)
          rw [if_neg (by decide)]
          refine gw_j (fun m2 => m2 = ad m 25 a b 0) (fun m2 em => ?_) (fun j hj => ?_)
          · subst em
            have n1 : ((78 : Int32) + m.2.1 66 29).toInt = (78 : Int32).toInt + (m.2.1 66 29).toInt := gx_add (by omega) (by omega)
            have n2 : ((86 : Int32) + m.2.1 66 29).toInt = (86 : Int32).toInt + (m.2.1 66 29).toInt := gx_add (by omega) (by omega)
            have tc : [17].contains (gm_tag (ad m 25 a b 0) 65) = true := hM.1.c (r := 65) rfl
            have r1 : (ad m 25 a b 0).2.2 65 1 = 66 := hM.1.r (by decide)
            have tt : gm_tag (ad m 25 a b 0) 66 = 1 := hM.1.t (r := 66) rfl
            have tl : gm_len (ad m 25 a b 0) 66 = 925 := hM.1.l (r := 66) rfl
            refine gw_gRa 66 tc r1 ?_
            refine gw_aIw 29 tt tl l29 (by omega) ?_
            rw [r66]
            refine gw_if (fun e => by have := congrArg Int32.toInt e; omega) ?_
            refine gw_gRa 66 tc r1 ?_
            refine gw_gRa 66 tc r1 ?_
            refine gw_aIw 29 tt tl l29 (by omega) ?_
            rw [r66]
            refine gw_sIw (78 + N) tt tl (by omega) (by omega) ?_
            refine gw_gRa 66 tc r1 ?_
            refine gw_gRa 66 tc r1 ?_
            refine gw_aIw 29 tt tl l29 (by omega) ?_
            rw [wI_n _ _ _ _ (show (29 : Nat) ≠ 78 + N by omega), r66]
            refine gw_sIw (86 + N) tt tl (by omega) (by omega) ?_
            refine gw_gRa 66 tc r1 ?_
            refine gw_aIw 29 tt tl l29 (by omega) ?_
            rw [wI_n _ _ _ _ (show (29 : Nat) ≠ 86 + N by omega), wI_n _ _ _ _ (show (29 : Nat) ≠ 78 + N by omega), r66]
            refine gw_sIw 29 tt tl l29 (by omega) ?_
            refine gw_gRa 66 tc r1 ?_
            refine gw_aIw 29 tt tl l29 (by omega) ?_
            rw [wI_e]
            exact gw_some (gq_I ⟨by rw [E29], fin (A_plan h.1 hN (by omega) ⟨by omega, by omega⟩ (fun z => by
              rcases hb with q | q
              · exact absurd q z
              · exact ⟨q.1, q.2.2⟩))⟩)
          · refine gw_le (fun _ => hj _ rfl) (fun g => ?_)
            refine gw_if (hM.1.t (r := 65) rfl) ?_
            have hC : isC m b := hb.resolve_left (by omega)
            refine gw_isc (μ := m) hM (by rw [r66]; exact e26) (fun _ => ?_) (fun q => absurd hC q)
            rw [if_pos (by decide)]
            exact hj _ rfl
        · rw [E29, hN] at hl
          refine ⟨h.1.t65, gwI_of ?_⟩
          unfold f_X12_plan
          refine gw_if hm1 ?_
          refine gw_inn (fun _ => ?_) (fun q => absurd ha q)
          rw [if_neg (by decide)]
          refine gw_j (fun m2 => m2 = m) (fun m2 em => ?_) (fun j hj => ?_)
          · subst em
            refine gw_gRa 66 (hg.c (r := 65) rfl) (hg.r (by decide)) ?_
            refine gw_aIw 29 (hg.t (r := 66) rfl) (hg.l (r := 66) rfl) l29 (by omega) ?_
            rw [show m2.2.1 66 29 = 8 from Int32.toInt_inj.mp (by omega), if_neg (by decide)]
            exact gw_some (gq_I ⟨rfl, h⟩)
          · refine gw_le (fun _ => hj _ rfl) (fun g => ?_)
            refine gw_if h.1.t65 ?_
            have hC : isC m b := hb.resolve_left (by omega)
            refine gw_isc h.mi e26 (fun _ => ?_) (fun q => absurd hC q)
            rw [if_pos (by decide)]
            exact hj _ rfl
      · refine gw_eq (fun g => hj _ ⟨rfl, Or.inl (by omega)⟩) (fun g => ?_)
        refine gw_if (hg.t (r := 1) rfl) ?_
        refine gw_nob h (fun hC => ?_) (fun nC => ?_)
        · rw [if_pos rfl]
          exact hj _ ⟨rfl, Or.inr hC⟩
        · rw [if_neg (by decide)]
          refine leaf h (gwI_of ?_)
          unfold f_X12_plan
          refine gw_if hm1 ?_
          refine gw_inn (fun _ => ?_) (fun q => absurd ha q)
          rw [if_neg (by decide)]
          refine gw_ji ?_
          refine gw_le (fun q => by exfalso; omega) (fun _ => ?_)
          refine gw_if h.1.t65 ?_
          refine gw_isc h.mi e26 (fun q => absurd q nC) (fun _ => ?_)
          rw [if_neg (by decide)]
          exact gw_some (gq_I ⟨qm.refl μ, rfl⟩)
    · rw [if_pos (by decide)]
      refine leaf h (gwI_of ?_)
      unfold f_X12_plan
      refine gw_if hm1 ?_
      refine gw_inn (fun q => absurd q na) (fun _ => ?_)
      rw [if_pos rfl]
      exact gw_some (gq_I ⟨qm.refl μ, rfl⟩)
  · refine cl_clr h (Or.inr (Or.inl ⟨rfl, rfl, rfl⟩)) ?_
    unfold f_X12_plan
    rw [if_neg hm1]
    rfl
end
set_option maxHeartbeats 4000000 in
theorem n_act {μ : gm_M} (h : ALL μ) (hR : REL μ) {a1 a2 a3 : Int32} : gwI (f_X11_act 1 a1 a2 a3 μ) (fun x m => gwI (f_X12_act 65 a1 a2 a3 m) (fun y m2 => y = x ∧ (ALL m2 → REL m2))) := by
  have E26 : μ.2.1 15 1 = μ.2.1 66 26 := h.2.2.2.1.1.2.1
  have hk : ∀ i : Nat, i < 5 → 0 ≤ (μ.2.1 66 (33 + i)).toInt ∧ (μ.2.1 66 (33 + i)).toInt < 7 := fun i hi => by
    have kd := h.kd i hi
    have kk := h.2.2.1.kd (a := 29 + 2 * i) (Or.inl (by unfold isch; omega))
    unfold kid at kk
    omega
  refine gwI_mono (c_act h) (fun x m hx => ?_)
  have H : ∀ l, tk μ l m → MI m ∧ m.2.1 66 = μ.2.1 66 := fun l t => by
    have r66 : m.2.1 66 = μ.2.1 66 := t.1.2.2.1 66 (by decide) (by decide)
    exact ⟨⟨t.s h.1.1, by rw [r66]; exact h.1.2⟩, r66⟩
  rcases hx with ⟨hi, hx, t⟩ | ⟨hi, hx, t⟩
  · obtain ⟨hM, r66⟩ := H _ t
    refine gwI_mono (m_act hM (by rw [r66]; exact hk)) (fun y m2 hy => ?_)
    rw [r66, ← E26] at hy
    rcases hy with ⟨gi, hy, f⟩ | ⟨gi, hy, f⟩
    · exact ⟨hy.trans hx.symm, R_act hR t f⟩
    · exact absurd gi hi
  · obtain ⟨hM, r66⟩ := H _ t
    refine gwI_mono (m_act hM (by rw [r66]; exact hk)) (fun y m2 hy => ?_)
    rw [r66, ← E26] at hy
    rcases hy with ⟨gi, hy, f⟩ | ⟨gi, hy, f⟩
    · exact absurd hi gi
    · exact ⟨hy.trans hx.symm, R_act hR t f⟩
theorem N_act {μ : gm_M} (h : REL μ) {a b c : Int32} : PR (f_X11_act 1 a b c μ) (f_X12_act 65 a b c) := PR.mk2 (L_act h.1) (gwI_mono (n_act h.1 h) (fun _ _ q => gwI_mono q (fun _ _ r => r.2)))
set_option maxHeartbeats 4000000 in
theorem n_trace {μ : gm_M} (h : ALL μ) (hR : REL μ) {a1 : Int32} : gwI (f_X11_trace 1 a1 μ) (fun x m => gwI (f_X12_trace 65 a1 m) (fun y m2 => y = x ∧ REL m2)) := by
  have hc := h.2.2.1
  have hg := hc.1
  have n3 := hc.n3
  have l3 := hc.l3
  obtain ⟨t1, t2⟩ := h.2.2.2.2.2.2
  have l0 : (0 : Int32).toInt = 0 := rfl
  have l1 : (1 : Int32).toInt = 1 := rfl
  have lk : (3 : Int32).toInt = 3 := rfl
  have l20 : (20 : Int32).toInt = 20 := rfl
  have M : (0 ≤ a1.toInt ∧ a1.toInt < (μ.2.1 3 2).toInt ∧ a1.toInt < 20 → gwI (f_X12_trace 65 a1 μ) (fun y m2 => y = μ.2.1 74 a1.toInt.toNat ∧ REL m2)) ∧ (¬ (0 ≤ a1.toInt ∧ a1.toInt < (μ.2.1 3 2).toInt ∧ a1.toInt < 20) → gwI (f_X12_trace 65 a1 μ) (fun y m2 => y = -1 ∧ REL m2)) := by
    rw [t1] at n3 ⊢
    have body : ∀ (R : Int32 → gm_M → Prop), (0 ≤ a1.toInt ∧ a1.toInt < (μ.2.1 65 19).toInt ∧ a1.toInt < 20 → R (μ.2.1 74 a1.toInt.toNat) μ) → (¬ (0 ≤ a1.toInt ∧ a1.toInt < (μ.2.1 65 19).toInt ∧ a1.toInt < 20) → R (-1) μ) → gwI (f_X12_trace 65 a1 μ) R := by
      intro R r1 r2
      refine gwI_of ?_
      unfold f_X12_trace
      refine gw_gIw (hg.c (r := 65) rfl) ?_
      refine gw_j (fun s => (s.toInt = 20 ∧ 20 ≤ (μ.2.1 65 19).toInt) ∨ (s.toInt = (μ.2.1 65 19).toInt ∧ (μ.2.1 65 19).toInt < 20)) (fun s hs => ?_) (fun j hj => ?_)
      · have n : (s - (1 : Int32)).toInt = s.toInt - (1 : Int32).toInt := gx_sub (by omega) (by omega)
        refine gw_bI s_X12_in (fun x m ⟨z, f⟩ => ?_)
        replace z := z.symm
        subst z
        refine gw_eq (fun g => gw_some (gq_I (r2 (by omega)))) (fun g => ?_)
        refine gw_gRa 74 (hg.c (r := 65) rfl) (hg.r (by decide)) ?_
        refine gw_aIw a1.toInt.toNat (hg.t (r := 74) rfl) (hg.l (r := 74) rfl) (by omega) (by omega) ?_
        exact gw_some (gq_I (r1 (by omega)))
      · refine gw_le (fun g => hj _ (Or.inl ⟨l20, by omega⟩)) (fun g => ?_)
        refine gw_gIw (hg.c (r := 65) rfl) ?_
        exact hj _ (Or.inr ⟨rfl, by omega⟩)
    exact ⟨fun q => body _ (fun _ => ⟨rfl, hR⟩) (fun q2 => absurd q q2), fun q => body _ (fun q2 => absurd q2 q) (fun _ => ⟨rfl, hR⟩)⟩
  refine gwI_of ?_
  unfold f_X11_trace
  refine gw_gRa 3 (hg.c (r := 1) rfl) (hg.r (by decide)) ?_
  refine gw_if (hg.t (r := 3) rfl) ?_
  refine gw_bI (s_kept hg n3.1 l3) (fun x m ⟨z, f⟩ => ?_)
  replace z := z.symm
  subst z
  refine gw_eq (fun g => gw_some (gq_I (M.2 (by omega)))) (fun g => ?_)
  refine gw_gRa 3 (hg.c (r := 1) rfl) (hg.r (by decide)) ?_
  refine gw_if (hg.t (r := 3) rfl) ?_
  have hin : 0 ≤ a1.toInt ∧ a1.toInt < (μ.2.1 3 2).toInt ∧ a1.toInt < 20 := by omega
  have C : gwI (f_X7_cell 3 a1 0 μ) (fun x m => m = μ ∧ x = μ.2.1 4 (3 * a1.toInt.toNat)) := by
    refine gwI_of ?_
    unfold f_X7_cell
    refine gw_if (hg.t (r := 3) rfl) ?_
    refine gw_bI (s_kept hg n3.1 l3) (fun x m ⟨z, f2⟩ => ?_)
    replace z := z.symm
    subst z
    refine gw_eq (fun g => ?_) (fun g => ?_)
    · exfalso; omega
    refine gw_lt (fun g => ?_) (fun g => ?_)
    · exfalso; omega
    refine gw_lt (fun g => ?_) (fun g => ?_)
    · refine gw_gRa 4 (hg.c (r := 3) rfl) (hg.r (by decide)) ?_
      have n1 : (a1 * (3 : Int32)).toInt = 3 * a1.toInt := gx_mulr 3 rfl (by omega) (by omega)
      have n2 : (a1 * (3 : Int32) + (0 : Int32)).toInt = (a1 * (3 : Int32)).toInt + (0 : Int32).toInt := gx_add (by omega) (by omega)
      refine gw_aIw (3 * a1.toInt.toNat) (hg.t (r := 4) rfl) (hg.l (r := 4) rfl) (by omega) (by omega) ?_
      exact gw_some (gq_I ⟨rfl, rfl⟩)
    · exfalso; omega
  refine gw_bI C (fun x6 m5 ⟨z, e⟩ => ?_)
  replace z := z.symm
  subst z
  refine gw_some (gq_I ?_)
  rw [e, t2 a1.toInt.toNat (by omega) (by omega)]
  exact M.1 hin
/-- who is under which kind -/
theorem N_trace {μ : gm_M} (h : REL μ) {a : Int32} : PR (f_X11_trace 1 a μ) (f_X12_trace 65 a) := PR.mk2 (L_trace h.1) (gwI_mono (n_trace h.1 h) (fun _ _ q => gwI_mono q (fun _ _ r _ => r.2)))
