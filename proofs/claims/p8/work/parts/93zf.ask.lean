/-! askings that look at children as they stand: alike -/
section
variable {μ : gm_M}
set_option maxHeartbeats 4000000 in
theorem N_count (h : REL μ) {a : Int32} : PR (f_X11_count 1 a μ) (f_X12_count 65 a) := by
  have hg := h.ci.1
  have nm := h.1.2.2.2.1.1
  have t := h.vs.2.2.1
  have l0 : (0 : Int32).toInt = 0 := rfl
  have l5 : (5 : Int32).toInt = 5 := rfl
  have lt := h.1.2.2.2.2.2.2.1
  have ref : ∀ (k : Nat) (v : Int32), k ≤ 5 → a = Int32.ofNat k → μ.2.1 66 (26 + k) = v → gwI (f_X12_count 65 a μ) (fun y m2 => qm μ m2 ∧ y = v) := fun k v hk ea ev => by
    have ok := ofn (k := k) (by omega)
    refine gwI_of ?_
    unfold f_X12_count
    refine gw_if (fun e => by rw [e] at ea; have := congrArg Int32.toInt ea; rw [ok] at this; have l6 : (6 : Int32).toInt = 6 := rfl; omega) ?_
    rw [ea]
    refine gw_inn (fun _ => ?_) (fun q => absurd ⟨by omega, by omega⟩ q)
    rw [if_neg (by decide)]
    refine gw_gRa 66 (hg.c (r := 65) rfl) (hg.r (by decide)) ?_
    have n1 : ((26 : Int32) + Int32.ofNat k).toInt = (26 : Int32).toInt + (Int32.ofNat k).toInt := gx_add (by have l26 : (26 : Int32).toInt = 26 := rfl; omega) (by have l26 : (26 : Int32).toInt = 26 := rfl; omega)
    have l26 : (26 : Int32).toInt = 26 := rfl
    refine gw_aIw (26 + k) (hg.t (r := 66) rfl) (hg.l (r := 66) rfl) (by omega) (by omega) ?_
    exact gw_some (gq_I ⟨qm.refl μ, ev⟩)
  refine gwI_of ?_
  unfold f_X11_count
  refine gw_ite (fun e => ?_) (fun e0 => ?_)
  · refine gw_gRa 15 (hg.c (r := 1) rfl) (hg.r (by decide)) ?_
    refine gw_gIw (hg.c (r := 15) rfl) ?_
    exact leaf h (ref 0 _ (by decide) e nm.2.1.symm)
  refine gw_ite (fun e => ?_) (fun e1 => ?_)
  · refine gw_gRa 15 (hg.c (r := 1) rfl) (hg.r (by decide)) ?_
    refine gw_gIw (hg.c (r := 15) rfl) ?_
    exact leaf h (ref 1 _ (by decide) e t.2.1.symm)
  refine gw_ite (fun e => ?_) (fun e2 => ?_)
  · refine gw_gRa 15 (hg.c (r := 1) rfl) (hg.r (by decide)) ?_
    refine gw_gRa 23 (hg.c (r := 15) rfl) (hg.r (by decide)) ?_
    refine gw_gIw (hg.c (r := 23) rfl) ?_
    exact leaf h (ref 2 _ (by decide) e nm.2.2.1.symm)
  refine gw_ite (fun e => ?_) (fun e3 => ?_)
  · refine gw_gRa 15 (hg.c (r := 1) rfl) (hg.r (by decide)) ?_
    refine gw_gRa 25 (hg.c (r := 15) rfl) (hg.r (by decide)) ?_
    refine gw_gIw (hg.c (r := 25) rfl) ?_
    exact leaf h (ref 3 _ (by decide) e nm.2.2.2.1.symm)
  refine gw_ite (fun e => ?_) (fun e4 => ?_)
  · refine gw_gRa 15 (hg.c (r := 1) rfl) (hg.r (by decide)) ?_
    refine gw_gRa 27 (hg.c (r := 15) rfl) (hg.r (by decide)) ?_
    refine gw_gIw (hg.c (r := 27) rfl) ?_
    exact leaf h (ref 4 _ (by decide) e nm.2.2.2.2.symm)
  refine gw_ite (fun e => ?_) (fun e5 => ?_)
  · refine gw_gRa 15 (hg.c (r := 1) rfl) (hg.r (by decide)) ?_
    refine gw_gIw (hg.c (r := 15) rfl) ?_
    exact leaf h (ref 5 _ (by decide) e t.1.symm)
  refine gw_ite (fun e => ?_) (fun e6 => ?_)
  · refine gw_gRa 3 (hg.c (r := 1) rfl) (hg.r (by decide)) ?_
    refine gw_gIw (hg.c (r := 3) rfl) ?_
    refine leaf h (gwI_of ?_)
    unfold f_X12_count
    rw [e, if_neg (by decide)]
    refine gw_gIw (hg.c (r := 65) rfl) ?_
    exact gw_some (gq_I ⟨qm.refl μ, lt.symm⟩)
  · refine leaf h (gwI_of ?_)
    unfold f_X12_count
    refine gw_if e6 ?_
    refine gw_inn (fun q => ?_) (fun _ => ?_)
    · exfalso
      obtain ⟨k, hk, ek⟩ : ∃ k : Nat, k ≤ 5 ∧ a = Int32.ofNat k := ⟨a.toInt.toNat, by omega, (gx_of (by omega)).symm⟩
      obtain rfl | rfl | rfl | rfl | rfl | rfl : k = 0 ∨ k = 1 ∨ k = 2 ∨ k = 3 ∨ k = 4 ∨ k = 5 := by omega
      · exact e0 ek
      · exact e1 ek
      · exact e2 ek
      · exact e3 ek
      · exact e4 ek
      · exact e5 ek
    · rw [if_pos rfl]
      exact gw_some (gq_I ⟨qm.refl μ, rfl⟩)
set_option maxHeartbeats 4000000 in
theorem N_clean (h : REL μ) {a n : Int32} : PR (f_X11_clean 1 a n μ) (f_X12_clean 65 a n) := by
  have hg := h.ci.1
  have e26 := h.sz.symm
  have l1 : (1 : Int32).toInt = 1 := rfl
  have l99 : (99 : Int32).toInt = 99 := rfl
  refine gwI_of ?_
  unfold f_X11_clean
  refine gw_if (hg.t (r := 1) rfl) ?_
  refine gw_nob h (fun hC => ?_) (fun nC => ?_)
  · rw [if_pos rfl]
    refine gw_out (fun hn => ?_) (fun nn => ?_)
    · rw [if_pos rfl]
      obtain ⟨c, hc, ea, oc⟩ := hC.at
      subst ea
      have tc := ict.c hg (ict_c hc)
      obtain ⟨ke, kr⟩ := h.kk hc
      have e7 : μ.2.1 (29 + 2 * c) 7 = μ.2.1 66 (21 + c) := (show kC μ (29 + 2 * c) 7 = kR (μ.2.1 66) c 7 by rw [ke])
      refine gw_kid hg hc ?_
      refine gw_gIw tc ?_
      refine gw_dv (by omega) ?_
      refine leaf h (gwI_of ?_)
      unfold f_X12_clean
      refine gw_if h.1.t65 ?_
      refine gw_isc h.mi e26 (fun _ => ?_) (fun q => absurd hC q)
      rw [if_pos (by decide)]
      refine gw_inn (fun _ => ?_) (fun q => absurd hn q)
      rw [if_neg (by decide)]
      refine gw_rd h.mi hc 21 rfl (by decide) ?_
      refine gw_dv (by omega) ?_
      exact gw_some (gq_I ⟨qm.refl μ, by rw [e7]⟩)
    · rw [if_neg (by decide)]
      refine leaf h (gwI_of ?_)
      unfold f_X12_clean
      refine gw_if h.1.t65 ?_
      refine gw_isc h.mi e26 (fun _ => ?_) (fun q => absurd hC q)
      rw [if_pos (by decide)]
      refine gw_inn (fun q => absurd q nn) (fun _ => ?_)
      rw [if_pos rfl]
      exact gw_some (gq_I ⟨qm.refl μ, rfl⟩)
  · rw [if_neg (by decide)]
    refine leaf h (gwI_of ?_)
    unfold f_X12_clean
    refine gw_if h.1.t65 ?_
    refine gw_isc h.mi e26 (fun q => absurd q nC) (fun _ => ?_)
    rw [if_neg (by decide)]
    exact gw_some (gq_I ⟨qm.refl μ, rfl⟩)
theorem w_slackOf {w sw : Int32} {Q : List (List Int32 × Int32)} {c : Nat} (h : MW w sw Q μ) (hc : c < 5) : gwI (f_X12_slackOf 65 (Int32.ofNat c) μ) (fun x m => km A0 μ m ∧ x = cHold w Q (kR (μ.2.1 66) c) (μ.2.1 66 0) - kR (μ.2.1 66) c 6) := by
  refine gwI_of ?_
  unfold f_X12_slackOf
  refine gw_if (h.1.1.t (r := 65) rfl) ?_
  refine gw_bI (w_holds h hc) (fun x m ⟨k, ex⟩ => ?_)
  subst ex
  refine gw_rd (h.1.of2 k.w02) hc 16 rfl (by decide) ?_
  exact gw_some (gq_I ⟨k, by rw [k.row]; rfl⟩)
set_option maxHeartbeats 4000000 in
theorem N_slack (h : REL μ) {a : Int32} : PR (f_X11_slack 1 a μ) (f_X12_slack 65 a) := by
  have hg := h.ci.1
  have e26 := h.sz.symm
  obtain ⟨w, sw, Q, ⟨hcw, hmw, -, -⟩, -⟩ := h.ex
  refine gwI_of ?_
  unfold f_X11_slack
  refine gw_if (hg.t (r := 1) rfl) ?_
  refine gw_nob h (fun hC => ?_) (fun nC => ?_)
  · rw [if_pos rfl]
    obtain ⟨c, hc, ea, oc⟩ := hC.at
    subst ea
    have tc := ict.c hg (ict_c hc)
    obtain ⟨ke, kr⟩ := h.kk hc
    refine gw_if (hg.t (r := 1) rfl) ?_
    refine gw_bI (v_holdsNow hcw hc) (fun x m ⟨ex, em⟩ => ?_)
    subst em
    subst ex
    refine gw_kid hg hc ?_
    refine gw_gIw tc ?_
    refine leaf h (gwI_of ?_)
    unfold f_X12_slack
    refine gw_if h.1.t65 ?_
    refine gw_isc h.mi e26 (fun _ => ?_) (fun q => absurd hC q)
    rw [if_neg (by decide)]
    refine gw_if h.1.t65 ?_
    refine gw_bI (w_slackOf hmw hc) (fun x m2 ⟨k, ex⟩ => ?_)
    refine gw_some (gq_I ⟨qm.of0 k, ?_⟩)
    rw [ex, ← ke, h.mn]; rfl
  · rw [if_neg (by decide)]
    refine leaf h (gwI_of ?_)
    unfold f_X12_slack
    refine gw_if h.1.t65 ?_
    refine gw_isc h.mi e26 (fun q => absurd q nC) (fun _ => ?_)
    rw [if_pos rfl]
    exact gw_some (gq_I ⟨qm.refl μ, rfl⟩)
set_option maxHeartbeats 4000000 in
theorem N_breaths (h : REL μ) {a n : Int32} : PR (f_X11_breaths 1 a n μ) (f_X12_breaths 65 a n) := by
  have hg := h.ci.1
  have e26 := h.sz.symm
  have l1 : (1 : Int32).toInt = 1 := rfl
  have l99 : (99 : Int32).toInt = 99 := rfl
  obtain ⟨w, sw, Q, ⟨hcw, hmw, -, -⟩, -⟩ := h.ex
  refine gwI_of ?_
  unfold f_X11_breaths
  refine gw_if (hg.t (r := 1) rfl) ?_
  refine gw_nob h (fun hC => ?_) (fun nC => ?_)
  · rw [if_pos rfl]
    refine gw_out (fun hn => ?_) (fun nn => ?_)
    · rw [if_pos rfl]
      obtain ⟨c, hc, ea, oc⟩ := hC.at
      subst ea
      have tc := ict.c hg (ict_c hc)
      obtain ⟨ke, kr⟩ := h.kk hc
      refine gw_if (hg.t (r := 1) rfl) ?_
      refine gw_bI (v_holdsNow hcw hc) (fun x m ⟨ex, em⟩ => ?_)
      subst em
      subst ex
      refine gw_kid hg hc ?_
      refine gw_gIw tc ?_
      refine gw_dv (by omega) ?_
      rw [mx0]
      refine leaf h (gwI_of ?_)
      unfold f_X12_breaths
      refine gw_if h.1.t65 ?_
      refine gw_isc h.mi e26 (fun _ => ?_) (fun q => absurd hC q)
      rw [if_pos (by decide)]
      refine gw_inn (fun _ => ?_) (fun q => absurd hn q)
      rw [if_neg (by decide)]
      refine gw_if h.1.t65 ?_
      refine gw_bI (w_slackOf hmw hc) (fun x m2 ⟨k, ex⟩ => ?_)
      refine gw_bI (m_ab _) (fun y m3 ⟨ey, em⟩ => ?_)
      subst em
      refine gw_dv (by omega) ?_
      refine gw_some (gq_I ⟨qm.of0 k, ?_⟩)
      rw [ey, ex, ← ke, h.mn]; rfl
    · rw [if_neg (by decide)]
      refine leaf h (gwI_of ?_)
      unfold f_X12_breaths
      refine gw_if h.1.t65 ?_
      refine gw_isc h.mi e26 (fun _ => ?_) (fun q => absurd hC q)
      rw [if_pos (by decide)]
      refine gw_inn (fun q => absurd q nn) (fun _ => ?_)
      rw [if_pos rfl]
      exact gw_some (gq_I ⟨qm.refl μ, rfl⟩)
  · rw [if_neg (by decide)]
    refine leaf h (gwI_of ?_)
    unfold f_X12_breaths
    refine gw_if h.1.t65 ?_
    refine gw_isc h.mi e26 (fun q => absurd q nC) (fun _ => ?_)
    rw [if_neg (by decide)]
    exact gw_some (gq_I ⟨qm.refl μ, rfl⟩)
set_option maxHeartbeats 8000000 in
theorem N_of (h : REL μ) {a b : Int32} : PR (f_X11_of 1 a b μ) (f_X12_of 65 a b) := by
  have hg := h.ci.1
  have e26 := h.sz.symm
  have l0 : (0 : Int32).toInt = 0 := rfl
  have l10 : (10 : Int32).toInt = 10 := rfl
  obtain ⟨w, sw, Q, ⟨hcw, hmw, -, -⟩, -⟩ := h.ex
  have v2 := h.vs.2.1
  have mn := h.mn
  refine gwI_of ?_
  unfold f_X11_of
  refine gw_if (hg.t (r := 1) rfl) ?_
  refine gw_nob h (fun hC => ?_) (fun nC => ?_)
  · rw [if_pos rfl]
    obtain ⟨c, hc, ea, oc⟩ := hC.at
    subst ea
    have tc := ict.c hg (ict_c hc)
    obtain ⟨ke, kr⟩ := h.kk hc
    have kj : ∀ j : Nat, kR (μ.2.1 66) c j = kC μ (29 + 2 * c) j := fun j => by rw [ke]
    refine gw_kid hg hc ?_
    refine gw_ite (fun e => ?_) (fun e0 => ?_)
    · subst e
      refine gw_gR tc (fun q eq => ?_)
      have hq : kid q := by rw [eq]; exact h.ci.2.2.2.1 _ (Or.inl (ict_c hc))
      refine gw_gIw (by rcases kid.t hg hq with z | z | z | z | z | z | z <;> rw [z] <;> decide) ?_
      rw [h.2.1.at hq]
      refine leaf h (gwI_of ?_)
      unfold f_X12_of
      refine gw_if h.1.t65 ?_
      refine gw_isc h.mi e26 (fun _ => ?_) (fun q => absurd hC q)
      rw [if_neg (by decide)]
      refine gw_inn (fun _ => ?_) (fun q => absurd ⟨by decide, by decide⟩ q)
      rw [if_pos (by decide)]
      rw [if_pos rfl]
      refine gw_rd h.mi hc 33 rfl (by decide) ?_
      refine gw_some (gq_I ⟨qm.refl μ, ?_⟩)
      show kR (μ.2.1 66) c 1 = _
      rw [kj 1, eq]; rfl
    refine gw_ite (fun e => ?_) (fun e1 => ?_)
    · subst e
      refine gw_gIw tc ?_
      refine leaf h (gwI_of ?_)
      unfold f_X12_of
      refine gw_if h.1.t65 ?_
      refine gw_isc h.mi e26 (fun _ => ?_) (fun q => absurd hC q)
      rw [if_neg (by decide)]
      refine gw_inn (fun _ => ?_) (fun q => absurd ⟨by decide, by decide⟩ q)
      rw [if_pos (by decide)]
      rw [if_neg (by decide)]
      rw [if_pos rfl]
      refine gw_rd h.mi hc 38 rfl (by decide) ?_
      exact gw_some (gq_I ⟨qm.refl μ, kj 2⟩)
    refine gw_ite (fun e => ?_) (fun e2 => ?_)
    · subst e
      refine gw_gIw tc ?_
      refine leaf h (gwI_of ?_)
      unfold f_X12_of
      refine gw_if h.1.t65 ?_
      refine gw_isc h.mi e26 (fun _ => ?_) (fun q => absurd hC q)
      rw [if_neg (by decide)]
      refine gw_inn (fun _ => ?_) (fun q => absurd ⟨by decide, by decide⟩ q)
      rw [if_pos (by decide)]
      rw [if_neg (by decide), if_neg (by decide), if_neg (by decide), if_neg (by decide), if_neg (by decide), if_neg (by decide)]
      rw [show (1 : Int32) + (5 : Int32) * ((2 : Int32) - (2 : Int32)) = 1 by decide]
      refine gw_rd h.mi hc 1 rfl (by decide) ?_
      exact gw_some (gq_I ⟨qm.refl μ, kj 3⟩)
    refine gw_ite (fun e => ?_) (fun e3 => ?_)
    · subst e
      refine gw_gIw tc ?_
      refine leaf h (gwI_of ?_)
      unfold f_X12_of
      refine gw_if h.1.t65 ?_
      refine gw_isc h.mi e26 (fun _ => ?_) (fun q => absurd hC q)
      rw [if_neg (by decide)]
      refine gw_inn (fun _ => ?_) (fun q => absurd ⟨by decide, by decide⟩ q)
      rw [if_pos (by decide)]
      rw [if_neg (by decide), if_neg (by decide), if_neg (by decide), if_neg (by decide), if_neg (by decide), if_neg (by decide)]
      rw [show (1 : Int32) + (5 : Int32) * ((3 : Int32) - (2 : Int32)) = 6 by decide]
      refine gw_rd h.mi hc 6 rfl (by decide) ?_
      exact gw_some (gq_I ⟨qm.refl μ, kj 4⟩)
    refine gw_ite (fun e => ?_) (fun e4 => ?_)
    · subst e
      refine gw_gIw tc ?_
      refine leaf h (gwI_of ?_)
      unfold f_X12_of
      refine gw_if h.1.t65 ?_
      refine gw_isc h.mi e26 (fun _ => ?_) (fun q => absurd hC q)
      rw [if_neg (by decide)]
      refine gw_inn (fun _ => ?_) (fun q => absurd ⟨by decide, by decide⟩ q)
      rw [if_pos (by decide)]
      rw [if_neg (by decide), if_neg (by decide), if_neg (by decide), if_neg (by decide), if_neg (by decide), if_neg (by decide)]
      rw [show (1 : Int32) + (5 : Int32) * ((4 : Int32) - (2 : Int32)) = 11 by decide]
      refine gw_rd h.mi hc 11 rfl (by decide) ?_
      exact gw_some (gq_I ⟨qm.refl μ, kj 5⟩)
    refine gw_ite (fun e => ?_) (fun e5 => ?_)
    · subst e
      refine gw_gIw tc ?_
      refine leaf h (gwI_of ?_)
      unfold f_X12_of
      refine gw_if h.1.t65 ?_
      refine gw_isc h.mi e26 (fun _ => ?_) (fun q => absurd hC q)
      rw [if_neg (by decide)]
      refine gw_inn (fun _ => ?_) (fun q => absurd ⟨by decide, by decide⟩ q)
      rw [if_pos (by decide)]
      rw [if_neg (by decide), if_neg (by decide), if_neg (by decide), if_neg (by decide), if_neg (by decide), if_neg (by decide)]
      rw [show (1 : Int32) + (5 : Int32) * ((5 : Int32) - (2 : Int32)) = 16 by decide]
      refine gw_rd h.mi hc 16 rfl (by decide) ?_
      exact gw_some (gq_I ⟨qm.refl μ, kj 6⟩)
    refine gw_ite (fun e => ?_) (fun e6 => ?_)
    · subst e
      refine gw_gIw tc ?_
      refine leaf h (gwI_of ?_)
      unfold f_X12_of
      refine gw_if h.1.t65 ?_
      refine gw_isc h.mi e26 (fun _ => ?_) (fun q => absurd hC q)
      rw [if_neg (by decide)]
      refine gw_inn (fun _ => ?_) (fun q => absurd ⟨by decide, by decide⟩ q)
      rw [if_pos (by decide)]
      rw [if_neg (by decide), if_neg (by decide), if_neg (by decide), if_neg (by decide), if_neg (by decide), if_neg (by decide)]
      rw [show (1 : Int32) + (5 : Int32) * ((6 : Int32) - (2 : Int32)) = 21 by decide]
      refine gw_rd h.mi hc 21 rfl (by decide) ?_
      exact gw_some (gq_I ⟨qm.refl μ, kj 7⟩)
    refine gw_ite (fun e => ?_) (fun e7 => ?_)
    · subst e
      refine gw_gRa 15 (hg.c (r := 1) rfl) (hg.r (by decide)) ?_
      refine gw_gR (hg.c (r := 15) rfl) (fun q eq => ?_)
      subst eq
      refine gw_gRa 15 (hg.c (r := 1) rfl) (hg.r (by decide)) ?_
      refine gw_gIw (hg.c (r := 15) rfl) ?_
      refine gw_if hcw.aw.t ?_
      obtain ⟨c1, c2, ⟨p1, p2, p3⟩, sw2, c4⟩ := id hcw
      refine gw_bI (v_stretch hg c2 hcw.aw (ict_c hc) (hcw.kid (ict_c hc)) p1 p2 p3 c4 (μ.2.1 15 0)) (fun x m ⟨ex, em⟩ => ?_)
      subst em
      subst ex
      refine leaf h (gwI_of ?_)
      unfold f_X12_of
      refine gw_if h.1.t65 ?_
      refine gw_isc h.mi e26 (fun _ => ?_) (fun q => absurd hC q)
      rw [if_neg (by decide)]
      refine gw_inn (fun _ => ?_) (fun q => absurd ⟨by decide, by decide⟩ q)
      rw [if_pos (by decide)]
      rw [if_neg (by decide), if_neg (by decide)]
      rw [if_pos rfl]
      refine gw_if h.1.t65 ?_
      refine gw_bI (w_stretch hmw hc) (fun y m2 ⟨k, ey⟩ => ?_)
      refine gw_some (gq_I ⟨qm.of0 k, ?_⟩)
      rw [ey, ← ke, mn]
    refine gw_ite (fun e => ?_) (fun e8 => ?_)
    · subst e
      refine gw_gR tc (fun q eq => ?_)
      subst eq
      refine gw_gRa 15 (hg.c (r := 1) rfl) (hg.r (by decide)) ?_
      refine gw_gIw (hg.c (r := 15) rfl) ?_
      refine gw_bI (v_chew hcw (ict_c hc) (by rw [mn]; exact v2.1)) (fun x m ⟨ex, em⟩ => ?_)
      subst em
      subst ex
      refine leaf h (gwI_of ?_)
      unfold f_X12_of
      refine gw_if h.1.t65 ?_
      refine gw_isc h.mi e26 (fun _ => ?_) (fun q => absurd hC q)
      rw [if_neg (by decide)]
      refine gw_inn (fun _ => ?_) (fun q => absurd ⟨by decide, by decide⟩ q)
      rw [if_pos (by decide)]
      rw [if_neg (by decide), if_neg (by decide), if_neg (by decide)]
      rw [if_pos rfl]
      refine gw_if h.1.t65 ?_
      refine gw_bI (w_chew hmw hc v2.1) (fun y m2 ⟨k, ey⟩ => ?_)
      subst k
      refine gw_some (gq_I ⟨qm.refl _, ?_⟩)
      rw [ey, ← ke, mn]
    refine gw_ite (fun e => ?_) (fun e9 => ?_)
    · subst e
      refine gw_gR tc (fun q eq => ?_)
      subst eq
      refine gw_bI (v_tire hcw (ict_c hc)) (fun x m ⟨ex, em⟩ => ?_)
      subst em
      subst ex
      refine leaf h (gwI_of ?_)
      unfold f_X12_of
      refine gw_if h.1.t65 ?_
      refine gw_isc h.mi e26 (fun _ => ?_) (fun q => absurd hC q)
      rw [if_neg (by decide)]
      refine gw_inn (fun _ => ?_) (fun q => absurd ⟨by decide, by decide⟩ q)
      rw [if_pos (by decide)]
      rw [if_neg (by decide), if_neg (by decide), if_neg (by decide), if_neg (by decide)]
      rw [if_pos rfl]
      refine gw_if h.1.t65 ?_
      refine gw_bI (w_tire hmw hc) (fun y m2 ⟨k, ey⟩ => ?_)
      subst k
      refine gw_some (gq_I ⟨qm.refl _, ?_⟩)
      rw [ey, ← ke]
    refine gw_ite (fun e => ?_) (fun e10 => ?_)
    · subst e
      refine gw_if (hg.t (r := 1) rfl) ?_
      refine gw_bI (v_holdsNow hcw hc) (fun x m ⟨ex, em⟩ => ?_)
      subst em
      subst ex
      refine leaf h (gwI_of ?_)
      unfold f_X12_of
      refine gw_if h.1.t65 ?_
      refine gw_isc h.mi e26 (fun _ => ?_) (fun q => absurd hC q)
      rw [if_neg (by decide)]
      refine gw_inn (fun _ => ?_) (fun q => absurd ⟨by decide, by decide⟩ q)
      rw [if_pos (by decide)]
      rw [if_neg (by decide), if_neg (by decide), if_neg (by decide), if_neg (by decide), if_neg (by decide)]
      rw [if_pos rfl]
      refine gw_if h.1.t65 ?_
      refine gw_bI (w_holds hmw hc) (fun y m2 ⟨k, ey⟩ => ?_)
      refine gw_some (gq_I ⟨qm.of0 k, ?_⟩)
      rw [ey, ← ke, mn]
    refine leaf h (gwI_of ?_)
    unfold f_X12_of
    refine gw_if h.1.t65 ?_
    refine gw_isc h.mi e26 (fun _ => ?_) (fun q => absurd hC q)
    rw [if_neg (by decide)]
    refine gw_inn (fun q => ?_) (fun _ => ?_)
    · exfalso
      obtain ⟨k, hk, ek⟩ : ∃ k : Nat, k ≤ 10 ∧ b = Int32.ofNat k := ⟨b.toInt.toNat, by omega, (gx_of (by omega)).symm⟩
      obtain rfl | rfl | rfl | rfl | rfl | rfl | rfl | rfl | rfl | rfl | rfl : k = 0 ∨ k = 1 ∨ k = 2 ∨ k = 3 ∨ k = 4 ∨ k = 5 ∨ k = 6 ∨ k = 7 ∨ k = 8 ∨ k = 9 ∨ k = 10 := by omega
      · exact e0 ek
      · exact e1 ek
      · exact e2 ek
      · exact e3 ek
      · exact e4 ek
      · exact e5 ek
      · exact e6 ek
      · exact e7 ek
      · exact e8 ek
      · exact e9 ek
      · exact e10 ek
    · rw [if_neg (by decide)]
      exact gw_some (gq_I ⟨qm.refl μ, rfl⟩)
  · rw [if_neg (by decide)]
    refine leaf h (gwI_of ?_)
    unfold f_X12_of
    refine gw_if h.1.t65 ?_
    refine gw_isc h.mi e26 (fun q => absurd q nC) (fun _ => ?_)
    rw [if_pos rfl]
    exact gw_some (gq_I ⟨qm.refl μ, rfl⟩)
end
