section
set_option maxHeartbeats 2000000 in
theorem c_set {μ : gm_M} (h : ALL μ) {a1 : Int32} {a2 : Int32} {a3 : Int32} : gwI (f_X11_set 1 a1 a2 a3 μ) (fun _ m => ALL m) := by
  refine gwI_of ?_
  unfold f_X11_set
  have hc := h.2.2.1
  have lm2 : (-2 : Int32).toInt = -2 := rfl
  have lm1 : (-1 : Int32).toInt = -1 := rfl
  have l0 : (0 : Int32).toInt = 0 := rfl
  have l1 : (1 : Int32).toInt = 1 := rfl
  have l2 : (2 : Int32).toInt = 2 := rfl
  have l6 : (6 : Int32).toInt = 6 := rfl
  have l99 : (99 : Int32).toInt = 99 := rfl
  have l999 : (999 : Int32).toInt = 999 := rfl
  refine gw_if (hc.1.t (r := 1) rfl) ?_
  refine gw_bI (s_X11_isNobody hc ) (fun x1 m1 ⟨z1, f1⟩ => ?_)
  replace z1 := z1.symm
  subst z1
  refine gw_ne (fun h5_2 => ?_) (fun h5_2 => ?_)
  ·
    exact gw_some (gq_I (by first | (exfalso; omega) | exact h | exact A_chg h (k := a1.toInt.toNat) (by omega) (by rw [← hv]; exact (chg.refl _ _).w  (by decide))))
  ·
    refine gw_bI (s_X11_isOutside ) (fun x3 m3 ⟨z3, f3⟩ => ?_)
    replace z3 := z3.symm
    subst z3
    refine gw_eq (fun h14_4 => ?_) (fun h14_4 => ?_)
    ·
      refine gw_gRa 15 (hc.1.c (r := 1) rfl) (hc.1.r (by decide)) ?_
      refine gw_gRa 16 (hc.1.c (r := 15) rfl) (hc.1.r (by decide)) ?_
      refine gw_aR (i := a1) (hc.1.t (r := 16) rfl) (hc.1.l (r := 16) rfl) (by omega) (by omega) (fun v5 ev5 => ?_)
      have cv5 : isch v5 := by rw [ev5]; exact isch.of hc.1 (by omega) (by omega)
      have hv := h.ch (by omega) (by omega) ev5
      refine gw_ji ?_
      refine gw_ne (fun h31_6 => ?_) (fun h31_6 => ?_)
      ·
        refine gw_ne (fun h41_7 => ?_) (fun h41_7 => ?_)
        ·
          refine gw_bI (s_X11_isOutside ) (fun x8 m8 ⟨z8, f8⟩ => ?_)
          replace z8 := z8.symm
          subst z8
          refine gw_eq (fun h61_9 => ?_) (fun h61_9 => ?_)
          ·
            refine gw_ne (fun h68_10 => ?_) (fun h68_10 => ?_)
            ·
              refine gw_ne (fun h89_11 => ?_) (fun h89_11 => ?_)
              ·
                refine gw_gI (ict.c hc.1 (Or.inl cv5)) (fun v12 ev12 => ?_)
                refine gw_pI (ict.c hc.1 (Or.inl cv5)) (fun m13 em13 => ?_)
                have sm13 := gS.w hc.1 em13
                have rm13 : m13.2.1 66 = μ.2.1 66 := r66w rfl em13 (ict.n66 (Or.inl cv5)).1
                exact gw_some (gq_I (by first | (exfalso; omega) | exact h | exact A_chg h (k := a1.toInt.toNat) (by omega) (by rw [← hv]; exact (chg.refl _ _).w em13 (by decide))))
              ·
                refine gw_gI (ict.c hc.1 (Or.inl cv5)) (fun v14 ev14 => ?_)
                refine gw_pI (ict.c hc.1 (Or.inl cv5)) (fun m15 em15 => ?_)
                have sm15 := gS.w hc.1 em15
                have rm15 : m15.2.1 66 = μ.2.1 66 := r66w rfl em15 (ict.n66 (Or.inl cv5)).1
                exact gw_some (gq_I (by first | (exfalso; omega) | exact h | exact A_chg h (k := a1.toInt.toNat) (by omega) (by rw [← hv]; exact (chg.refl _ _).w em15 (by decide))))
            ·
              refine gw_gI (ict.c hc.1 (Or.inl cv5)) (fun v16 ev16 => ?_)
              refine gw_pI (ict.c hc.1 (Or.inl cv5)) (fun m17 em17 => ?_)
              have sm17 := gS.w hc.1 em17
              have rm17 : m17.2.1 66 = μ.2.1 66 := r66w rfl em17 (ict.n66 (Or.inl cv5)).1
              exact gw_some (gq_I (by first | (exfalso; omega) | exact h | exact A_chg h (k := a1.toInt.toNat) (by omega) (by rw [← hv]; exact (chg.refl _ _).w em17 (by decide))))
          ·
            exact gw_some (gq_I (by first | (exfalso; omega) | exact h | exact A_chg h (k := a1.toInt.toNat) (by omega) (by rw [← hv]; exact (chg.refl _ _).w  (by decide))))
        ·
          refine gw_bI (s_X11_isOutside ) (fun x18 m18 ⟨z18, f18⟩ => ?_)
          replace z18 := z18.symm
          subst z18
          refine gw_eq (fun h61_19 => ?_) (fun h61_19 => ?_)
          ·
            refine gw_ne (fun h68_20 => ?_) (fun h68_20 => ?_)
            ·
              refine gw_ne (fun h89_21 => ?_) (fun h89_21 => ?_)
              ·
                refine gw_gI (ict.c hc.1 (Or.inl cv5)) (fun v22 ev22 => ?_)
                refine gw_pI (ict.c hc.1 (Or.inl cv5)) (fun m23 em23 => ?_)
                have sm23 := gS.w hc.1 em23
                have rm23 : m23.2.1 66 = μ.2.1 66 := r66w rfl em23 (ict.n66 (Or.inl cv5)).1
                exact gw_some (gq_I (by first | (exfalso; omega) | exact h | exact A_chg h (k := a1.toInt.toNat) (by omega) (by rw [← hv]; exact (chg.refl _ _).w em23 (by decide))))
              ·
                refine gw_gI (ict.c hc.1 (Or.inl cv5)) (fun v24 ev24 => ?_)
                refine gw_pI (ict.c hc.1 (Or.inl cv5)) (fun m25 em25 => ?_)
                have sm25 := gS.w hc.1 em25
                have rm25 : m25.2.1 66 = μ.2.1 66 := r66w rfl em25 (ict.n66 (Or.inl cv5)).1
                exact gw_some (gq_I (by first | (exfalso; omega) | exact h | exact A_chg h (k := a1.toInt.toNat) (by omega) (by rw [← hv]; exact (chg.refl _ _).w em25 (by decide))))
            ·
              refine gw_gI (ict.c hc.1 (Or.inl cv5)) (fun v26 ev26 => ?_)
              refine gw_pI (ict.c hc.1 (Or.inl cv5)) (fun m27 em27 => ?_)
              have sm27 := gS.w hc.1 em27
              have rm27 : m27.2.1 66 = μ.2.1 66 := r66w rfl em27 (ict.n66 (Or.inl cv5)).1
              exact gw_some (gq_I (by first | (exfalso; omega) | exact h | exact A_chg h (k := a1.toInt.toNat) (by omega) (by rw [← hv]; exact (chg.refl _ _).w em27 (by decide))))
          ·
            exact gw_some (gq_I (by first | (exfalso; omega) | exact h | exact A_chg h (k := a1.toInt.toNat) (by omega) (by rw [← hv]; exact (chg.refl _ _).w  (by decide))))
      ·
        refine gw_bI (s_X11_isOutside ) (fun x28 m28 ⟨z28, f28⟩ => ?_)
        replace z28 := z28.symm
        subst z28
        refine gw_eq (fun h61_29 => ?_) (fun h61_29 => ?_)
        ·
          refine gw_ne (fun h68_30 => ?_) (fun h68_30 => ?_)
          ·
            refine gw_ne (fun h89_31 => ?_) (fun h89_31 => ?_)
            ·
              refine gw_gI (ict.c hc.1 (Or.inl cv5)) (fun v32 ev32 => ?_)
              refine gw_pI (ict.c hc.1 (Or.inl cv5)) (fun m33 em33 => ?_)
              have sm33 := gS.w hc.1 em33
              have rm33 : m33.2.1 66 = μ.2.1 66 := r66w rfl em33 (ict.n66 (Or.inl cv5)).1
              exact gw_some (gq_I (by first | (exfalso; omega) | exact h | exact A_chg h (k := a1.toInt.toNat) (by omega) (by rw [← hv]; exact (chg.refl _ _).w em33 (by decide))))
            ·
              refine gw_gI (ict.c hc.1 (Or.inl cv5)) (fun v34 ev34 => ?_)
              refine gw_pI (ict.c hc.1 (Or.inl cv5)) (fun m35 em35 => ?_)
              have sm35 := gS.w hc.1 em35
              have rm35 : m35.2.1 66 = μ.2.1 66 := r66w rfl em35 (ict.n66 (Or.inl cv5)).1
              exact gw_some (gq_I (by first | (exfalso; omega) | exact h | exact A_chg h (k := a1.toInt.toNat) (by omega) (by rw [← hv]; exact (chg.refl _ _).w em35 (by decide))))
          ·
            refine gw_gI (ict.c hc.1 (Or.inl cv5)) (fun v36 ev36 => ?_)
            refine gw_pI (ict.c hc.1 (Or.inl cv5)) (fun m37 em37 => ?_)
            have sm37 := gS.w hc.1 em37
            have rm37 : m37.2.1 66 = μ.2.1 66 := r66w rfl em37 (ict.n66 (Or.inl cv5)).1
            exact gw_some (gq_I (by first | (exfalso; omega) | exact h | exact A_chg h (k := a1.toInt.toNat) (by omega) (by rw [← hv]; exact (chg.refl _ _).w em37 (by decide))))
        ·
          exact gw_some (gq_I (by first | (exfalso; omega) | exact h | exact A_chg h (k := a1.toInt.toNat) (by omega) (by rw [← hv]; exact (chg.refl _ _).w  (by decide))))
    ·
      exact gw_some (gq_I (by first | (exfalso; omega) | exact h | exact A_chg h (k := a1.toInt.toNat) (by omega) (by rw [← hv]; exact (chg.refl _ _).w  (by decide))))
set_option maxHeartbeats 2000000 in
theorem m_set {μ : gm_M} (h : ALL μ) {a1 : Int32} {a2 : Int32} {a3 : Int32} : gwI (f_X12_set 65 a1 a2 a3 μ) (fun _ m => ALL m) := by
  refine gwI_of ?_
  unfold f_X12_set
  have hm := h.1
  have lm2 : (-2 : Int32).toInt = -2 := rfl
  have lm1 : (-1 : Int32).toInt = -1 := rfl
  have l0 : (0 : Int32).toInt = 0 := rfl
  have l1 : (1 : Int32).toInt = 1 := rfl
  have l2 : (2 : Int32).toInt = 2 := rfl
  have l5 : (5 : Int32).toInt = 5 := rfl
  have l6 : (6 : Int32).toInt = 6 := rfl
  have l99 : (99 : Int32).toInt = 99 := rfl
  have l999 : (999 : Int32).toInt = 999 := rfl
  refine gw_if (hm.1.t (r := 65) rfl) ?_
  refine gw_bI (s_X12_isChild hm ) (fun x1 m1 ⟨z1, f1⟩ => ?_)
  replace z1 := z1.symm
  subst z1
  refine gw_eq (fun h5_2 => ?_) (fun h5_2 => ?_)
  ·
    exact gw_some (gq_I (by first | (exfalso; omega) | exact h | exact A_km3 h ((km.refl A3 μ).ws  (by unfold A3; omega))))
  ·
    refine gw_bI (s_X12_in ) (fun x3 m3 ⟨z3, f3⟩ => ?_)
    replace z3 := z3.symm
    subst z3
    refine gw_ne (fun h14_4 => ?_) (fun h14_4 => ?_)
    ·
      refine gw_ji ?_
      refine gw_ne (fun h22_5 => ?_) (fun h22_5 => ?_)
      ·
        refine gw_ne (fun h32_6 => ?_) (fun h32_6 => ?_)
        ·
          refine gw_bI (s_X12_in ) (fun x7 m7 ⟨z7, f7⟩ => ?_)
          replace z7 := z7.symm
          subst z7
          refine gw_ne (fun h46_8 => ?_) (fun h46_8 => ?_)
          ·
            refine gw_gRa 66 (hm.1.c (r := 65) rfl) (hm.1.r (by decide)) ?_
            have n9 : ((5 : Int32) * a2).toInt = 5 * a2.toInt := gx_mul 5 rfl (by omega) (by omega)
            have n10 : ((1 : Int32) + ((5 : Int32) * a2)).toInt = (1 : Int32).toInt + ((5 : Int32) * a2).toInt := gx_add (by omega) (by omega)
            have n11 : (((1 : Int32) + ((5 : Int32) * a2)) + a1).toInt = ((1 : Int32) + ((5 : Int32) * a2)).toInt + a1.toInt := gx_add (by omega) (by omega)
            refine gw_aI (i := (((1 : Int32) + ((5 : Int32) * a2)) + a1)) (hm.1.t (r := 66) rfl) (hm.1.l (r := 66) rfl) (by omega) (by omega) (fun v12 ev12 => ?_)
            refine gw_gRa 66 (hm.1.c (r := 65) rfl) (hm.1.r (by decide)) ?_
            have n13 : ((5 : Int32) * a2).toInt = 5 * a2.toInt := gx_mul 5 rfl (by omega) (by omega)
            have n14 : ((1 : Int32) + ((5 : Int32) * a2)).toInt = (1 : Int32).toInt + ((5 : Int32) * a2).toInt := gx_add (by omega) (by omega)
            have n15 : (((1 : Int32) + ((5 : Int32) * a2)) + a1).toInt = ((1 : Int32) + ((5 : Int32) * a2)).toInt + a1.toInt := gx_add (by omega) (by omega)
            refine gw_sI (i := (((1 : Int32) + ((5 : Int32) * a2)) + a1)) (hm.1.t (r := 66) rfl) (hm.1.l (r := 66) rfl) (by omega) (by omega) (fun m16 em16 => ?_)
            have sm16 := gS.w hm.1 em16
            exact gw_some (gq_I (by first | (exfalso; omega) | exact h | exact A_km3 h ((km.refl A3 μ).ws em16 (by unfold A3; omega))))
          ·
            exact gw_some (gq_I (by first | (exfalso; omega) | exact h | exact A_km3 h ((km.refl A3 μ).ws  (by unfold A3; omega))))
        ·
          refine gw_bI (s_X12_in ) (fun x17 m17 ⟨z17, f17⟩ => ?_)
          replace z17 := z17.symm
          subst z17
          refine gw_ne (fun h46_18 => ?_) (fun h46_18 => ?_)
          ·
            refine gw_gRa 66 (hm.1.c (r := 65) rfl) (hm.1.r (by decide)) ?_
            have n19 : ((5 : Int32) * a2).toInt = 5 * a2.toInt := gx_mul 5 rfl (by omega) (by omega)
            have n20 : ((1 : Int32) + ((5 : Int32) * a2)).toInt = (1 : Int32).toInt + ((5 : Int32) * a2).toInt := gx_add (by omega) (by omega)
            have n21 : (((1 : Int32) + ((5 : Int32) * a2)) + a1).toInt = ((1 : Int32) + ((5 : Int32) * a2)).toInt + a1.toInt := gx_add (by omega) (by omega)
            refine gw_aI (i := (((1 : Int32) + ((5 : Int32) * a2)) + a1)) (hm.1.t (r := 66) rfl) (hm.1.l (r := 66) rfl) (by omega) (by omega) (fun v22 ev22 => ?_)
            refine gw_gRa 66 (hm.1.c (r := 65) rfl) (hm.1.r (by decide)) ?_
            have n23 : ((5 : Int32) * a2).toInt = 5 * a2.toInt := gx_mul 5 rfl (by omega) (by omega)
            have n24 : ((1 : Int32) + ((5 : Int32) * a2)).toInt = (1 : Int32).toInt + ((5 : Int32) * a2).toInt := gx_add (by omega) (by omega)
            have n25 : (((1 : Int32) + ((5 : Int32) * a2)) + a1).toInt = ((1 : Int32) + ((5 : Int32) * a2)).toInt + a1.toInt := gx_add (by omega) (by omega)
            refine gw_sI (i := (((1 : Int32) + ((5 : Int32) * a2)) + a1)) (hm.1.t (r := 66) rfl) (hm.1.l (r := 66) rfl) (by omega) (by omega) (fun m26 em26 => ?_)
            have sm26 := gS.w hm.1 em26
            exact gw_some (gq_I (by first | (exfalso; omega) | exact h | exact A_km3 h ((km.refl A3 μ).ws em26 (by unfold A3; omega))))
          ·
            exact gw_some (gq_I (by first | (exfalso; omega) | exact h | exact A_km3 h ((km.refl A3 μ).ws  (by unfold A3; omega))))
      ·
        refine gw_bI (s_X12_in ) (fun x27 m27 ⟨z27, f27⟩ => ?_)
        replace z27 := z27.symm
        subst z27
        refine gw_ne (fun h46_28 => ?_) (fun h46_28 => ?_)
        ·
          refine gw_gRa 66 (hm.1.c (r := 65) rfl) (hm.1.r (by decide)) ?_
          have n29 : ((5 : Int32) * a2).toInt = 5 * a2.toInt := gx_mul 5 rfl (by omega) (by omega)
          have n30 : ((1 : Int32) + ((5 : Int32) * a2)).toInt = (1 : Int32).toInt + ((5 : Int32) * a2).toInt := gx_add (by omega) (by omega)
          have n31 : (((1 : Int32) + ((5 : Int32) * a2)) + a1).toInt = ((1 : Int32) + ((5 : Int32) * a2)).toInt + a1.toInt := gx_add (by omega) (by omega)
          refine gw_aI (i := (((1 : Int32) + ((5 : Int32) * a2)) + a1)) (hm.1.t (r := 66) rfl) (hm.1.l (r := 66) rfl) (by omega) (by omega) (fun v32 ev32 => ?_)
          refine gw_gRa 66 (hm.1.c (r := 65) rfl) (hm.1.r (by decide)) ?_
          have n33 : ((5 : Int32) * a2).toInt = 5 * a2.toInt := gx_mul 5 rfl (by omega) (by omega)
          have n34 : ((1 : Int32) + ((5 : Int32) * a2)).toInt = (1 : Int32).toInt + ((5 : Int32) * a2).toInt := gx_add (by omega) (by omega)
          have n35 : (((1 : Int32) + ((5 : Int32) * a2)) + a1).toInt = ((1 : Int32) + ((5 : Int32) * a2)).toInt + a1.toInt := gx_add (by omega) (by omega)
          refine gw_sI (i := (((1 : Int32) + ((5 : Int32) * a2)) + a1)) (hm.1.t (r := 66) rfl) (hm.1.l (r := 66) rfl) (by omega) (by omega) (fun m36 em36 => ?_)
          have sm36 := gS.w hm.1 em36
          exact gw_some (gq_I (by first | (exfalso; omega) | exact h | exact A_km3 h ((km.refl A3 μ).ws em36 (by unfold A3; omega))))
        ·
          exact gw_some (gq_I (by first | (exfalso; omega) | exact h | exact A_km3 h ((km.refl A3 μ).ws  (by unfold A3; omega))))
    ·
      exact gw_some (gq_I (by first | (exfalso; omega) | exact h | exact A_km3 h ((km.refl A3 μ).ws  (by unfold A3; omega))))
set_option maxHeartbeats 2000000 in
theorem c_blow {μ : gm_M} (h : ALL μ) {a1 : Int32} {a2 : Int32} : gwI (f_X11_blow 1 a1 a2 μ) (fun _ m => ALL m) := by
  refine gwI_of ?_
  unfold f_X11_blow
  have hc := h.2.2.1
  have lm6 : (-6 : Int32).toInt = -6 := rfl
  have lm3 : (-3 : Int32).toInt = -3 := rfl
  have lm2 : (-2 : Int32).toInt = -2 := rfl
  have lm1 : (-1 : Int32).toInt = -1 := rfl
  have l0 : (0 : Int32).toInt = 0 := rfl
  have l1 : (1 : Int32).toInt = 1 := rfl
  have l99 : (99 : Int32).toInt = 99 := rfl
  refine gw_if (hc.1.t (r := 1) rfl) ?_
  refine gw_bI (s_X11_isNobody hc ) (fun x1 m1 ⟨z1, f1⟩ => ?_)
  replace z1 := z1.symm
  subst z1
  refine gw_eq (fun h5_2 => ?_) (fun h5_2 => ?_)
  ·
    refine gw_bI (s_X11_isOutside ) (fun x3 m3 ⟨z3, f3⟩ => ?_)
    replace z3 := z3.symm
    subst z3
    refine gw_eq (fun h17_4 => ?_) (fun h17_4 => ?_)
    ·
      refine gw_gRa 15 (hc.1.c (r := 1) rfl) (hc.1.r (by decide)) ?_
      refine gw_gRa 16 (hc.1.c (r := 15) rfl) (hc.1.r (by decide)) ?_
      refine gw_aR (i := a1) (hc.1.t (r := 16) rfl) (hc.1.l (r := 16) rfl) (by omega) (by omega) (fun v5 ev5 => ?_)
      have cv5 : isch v5 := by rw [ev5]; exact isch.of hc.1 (by omega) (by omega)
      have hv := h.ch (by omega) (by omega) ev5
      refine gw_gI (ict.c hc.1 (Or.inl cv5)) (fun v6 ev6 => ?_)
      refine gw_ne (fun h37_7 => ?_) (fun h37_7 => ?_)
      ·
        refine gw_if (hc.1.t (r := 1) rfl) ?_
        refine gw_bI (s_X11_holdsNow hc (by omega)) (fun x8 m8 z8 => ?_)
        replace z8 := z8.symm
        subst z8
        refine gw_if (ict.t hc.1 (Or.inl cv5)) ?_
        refine gw_bI (s_X2_breathe hc (Or.inl cv5)) (fun x9 m9 z9 => ?_)
        obtain ⟨ZG, ZF⟩ := z9
        refine gw_eq (fun h57_10 => ?_) (fun h57_10 => ?_)
        ·
          refine gw_gI (ict.c (And.intro (hc.1.same ZG.1 ZG.2.1) True.intro : _ ∧ True).1 (Or.inl cv5)) (fun v11 ev11 => ?_)
          exact gw_some (gq_I (by first | (exfalso; omega) | exact h | exact A_chg h (k := a1.toInt.toNat) (by omega) (by rw [← hv]; exact ZG)))
        ·
          exact gw_some (gq_I (by first | (exfalso; omega) | exact h | exact A_chg h (k := a1.toInt.toNat) (by omega) (by rw [← hv]; exact ZG)))
      ·
        exact gw_some (gq_I (by first | (exfalso; omega) | exact h | exact A_chg h (k := a1.toInt.toNat) (by omega) (by rw [← hv]; exact ZG)))
    ·
      exact gw_some (gq_I (by first | (exfalso; omega) | exact h | exact A_chg h (k := a1.toInt.toNat) (by omega) (by rw [← hv]; exact ZG)))
  ·
    exact gw_some (gq_I (by first | (exfalso; omega) | exact h | exact A_chg h (k := a1.toInt.toNat) (by omega) (by rw [← hv]; exact ZG)))
set_option maxHeartbeats 2000000 in
theorem m_blow {μ : gm_M} (h : ALL μ) {a1 : Int32} {a2 : Int32} : gwI (f_X12_blow 65 a1 a2 μ) (fun _ m => ALL m) := by
  refine gwI_of ?_
  unfold f_X12_blow
  have hm := h.1
  have lm6 : (-6 : Int32).toInt = -6 := rfl
  have lm3 : (-3 : Int32).toInt = -3 := rfl
  have lm2 : (-2 : Int32).toInt = -2 := rfl
  have lm1 : (-1 : Int32).toInt = -1 := rfl
  have l0 : (0 : Int32).toInt = 0 := rfl
  have l1 : (1 : Int32).toInt = 1 := rfl
  have l16 : (16 : Int32).toInt = 16 := rfl
  have l99 : (99 : Int32).toInt = 99 := rfl
  refine gw_if (hm.1.t (r := 65) rfl) ?_
  refine gw_bI (s_X12_isChild hm ) (fun x1 m1 ⟨z1, f1⟩ => ?_)
  replace z1 := z1.symm
  subst z1
  refine gw_ne (fun h5_2 => ?_) (fun h5_2 => ?_)
  ·
    refine gw_bI (s_X12_in ) (fun x3 m3 ⟨z3, f3⟩ => ?_)
    replace z3 := z3.symm
    subst z3
    refine gw_ne (fun h17_4 => ?_) (fun h17_4 => ?_)
    ·
      refine gw_gRa 66 (hm.1.c (r := 65) rfl) (hm.1.r (by decide)) ?_
      have n5 : ((1 : Int32) + a1).toInt = (1 : Int32).toInt + a1.toInt := gx_add (by omega) (by omega)
      refine gw_aI (i := ((1 : Int32) + a1)) (hm.1.t (r := 66) rfl) (hm.1.l (r := 66) rfl) (by omega) (by omega) (fun v6 ev6 => ?_)
      refine gw_ne (fun h31_7 => ?_) (fun h31_7 => ?_)
      ·
        refine gw_if (hm.1.t (r := 65) rfl) ?_
        refine gw_bI (s_X12_blows hm (by omega)) (fun x8 m8 ⟨z8, f8⟩ => ?_)
        obtain ⟨ZG, ZF⟩ : _ ∧ _ := ⟨z8, f8⟩
        refine gw_eq (fun h43_9 => ?_) (fun h43_9 => ?_)
        ·
          refine gw_gRa 66 ((And.intro (hm.1.same z8.1 z8.2.1) True.intro : _ ∧ True).1.c (r := 65) rfl) ((And.intro (hm.1.same z8.1 z8.2.1) True.intro : _ ∧ True).1.r (by decide)) ?_
          have n10 : ((16 : Int32) + a1).toInt = (16 : Int32).toInt + a1.toInt := gx_add (by omega) (by omega)
          refine gw_aI (i := ((16 : Int32) + a1)) ((And.intro (hm.1.same z8.1 z8.2.1) True.intro : _ ∧ True).1.t (r := 66) rfl) ((And.intro (hm.1.same z8.1 z8.2.1) True.intro : _ ∧ True).1.l (r := 66) rfl) (by omega) (by omega) (fun v11 ev11 => ?_)
          exact gw_some (gq_I (by first | (exfalso; omega) | exact h | exact A_km3 h ZG))
        ·
          exact gw_some (gq_I (by first | (exfalso; omega) | exact h | exact A_km3 h ZG))
      ·
        exact gw_some (gq_I (by first | (exfalso; omega) | exact h | exact A_km3 h ZG))
    ·
      exact gw_some (gq_I (by first | (exfalso; omega) | exact h | exact A_km3 h ZG))
  ·
    exact gw_some (gq_I (by first | (exfalso; omega) | exact h | exact A_km3 h ZG))
set_option maxHeartbeats 2000000 in
theorem c_feed {μ : gm_M} (h : ALL μ) {a1 : Int32} : gwI (f_X11_feed 1 a1 μ) (fun _ m => ALL m) := by
  refine gwI_of ?_
  unfold f_X11_feed
  have hc := h.2.2.1
  have lm4 : (-4 : Int32).toInt = -4 := rfl
  have lm2 : (-2 : Int32).toInt = -2 := rfl
  have l0 : (0 : Int32).toInt = 0 := rfl
  have l1 : (1 : Int32).toInt = 1 := rfl
  have l127 : (127 : Int32).toInt = 127 := rfl
  have N4 := hc.n4
  refine gw_bI (s_X11_isOutside ) (fun x1 m1 ⟨z1, f1⟩ => ?_)
  replace z1 := z1.symm
  subst z1
  refine gw_eq (fun h7_2 => ?_) (fun h7_2 => ?_)
  ·
    refine gw_gRa 15 (hc.1.c (r := 1) rfl) (hc.1.r (by decide)) ?_
    refine gw_gI (hc.1.c (r := 15) rfl) (fun v3 ev3 => ?_)
    have bv3 := hc.n4
    have dv3 : v3.toInt = (μ.2.1 15 4).toInt := by rw [ev3]
    refine gw_gRa 15 (hc.1.c (r := 1) rfl) (hc.1.r (by decide)) ?_
    refine gw_gRa 17 (hc.1.c (r := 15) rfl) (hc.1.r (by decide)) ?_
    refine gw_al (hc.1.t (r := 17) rfl) (hc.1.l (r := 17) rfl) ?_
    have lo4 : (Int32.ofNat 100).toInt = 100 := rfl
    refine gw_lt (fun h28_5 => ?_) (fun h28_5 => ?_)
    ·
      refine gw_gRa 15 (hc.1.c (r := 1) rfl) (hc.1.r (by decide)) ?_
      refine gw_gRa 17 (hc.1.c (r := 15) rfl) (hc.1.r (by decide)) ?_
      refine gw_gRa 15 (hc.1.c (r := 1) rfl) (hc.1.r (by decide)) ?_
      refine gw_gI (hc.1.c (r := 15) rfl) (fun v6 ev6 => ?_)
      have bv6 := hc.n4
      have dv6 : v6.toInt = (μ.2.1 15 4).toInt := by rw [ev6]
      refine gw_sI (i := v6) (hc.1.t (r := 17) rfl) (hc.1.l (r := 17) rfl) (by omega) (by omega) (fun m7 em7 => ?_)
      have sm7 := gS.w hc.1 em7
      have rm7 : m7.2.1 66 = μ.2.1 66 := r66w rfl em7 (by decide)
      refine gw_gRa 15 ((And.intro sm7 True.intro : _ ∧ True).1.c (r := 1) rfl) ((And.intro sm7 True.intro : _ ∧ True).1.r (by decide)) ?_
      refine gw_gI ((And.intro sm7 True.intro : _ ∧ True).1.c (r := 15) rfl) (fun v8 ev8 => ?_)
      have wv8 : v8.toInt = (μ.2.1 15 4).toInt := by rw [ev8, rdo em7 (by decide)]
      have nv8 : (v8 + (1 : Int32)).toInt = v8.toInt + (1 : Int32).toInt := gx_add (by omega) (by omega)
      refine gw_pI ((And.intro sm7 True.intro : _ ∧ True).1.c (r := 15) rfl) (fun m9 em9 => ?_)
      have sm9 := gS.w sm7 em9
      have rm9 : m9.2.1 66 = μ.2.1 66 := r66w rm7 em9 (by decide)
      refine gw_gRa 15 ((And.intro sm9 True.intro : _ ∧ True).1.c (r := 1) rfl) ((And.intro sm9 True.intro : _ ∧ True).1.r (by decide)) ?_
      refine gw_gI ((And.intro sm9 True.intro : _ ∧ True).1.c (r := 15) rfl) (fun v10 ev10 => ?_)
      exact gw_some (gq_I (by first | (exfalso; omega) | exact h | (subst em9; subst em7; exact A_feedc h (by omega) (by omega) _)))
    ·
      exact gw_some (gq_I (by first | (exfalso; omega) | exact h | (skip; exact A_feedc h (by omega) (by omega) _)))
  ·
    exact gw_some (gq_I (by first | (exfalso; omega) | exact h | (skip; exact A_feedc h (by omega) (by omega) _)))
set_option maxHeartbeats 2000000 in
theorem m_feed {μ : gm_M} (h : ALL μ) {a1 : Int32} : gwI (f_X12_feed 65 a1 μ) (fun _ m => ALL m) := by
  refine gwI_of ?_
  unfold f_X12_feed
  have hm := h.1
  have lm4 : (-4 : Int32).toInt = -4 := rfl
  have lm2 : (-2 : Int32).toInt = -2 := rfl
  have l0 : (0 : Int32).toInt = 0 := rfl
  have l1 : (1 : Int32).toInt = 1 := rfl
  have l31 : (31 : Int32).toInt = 31 := rfl
  have l100 : (100 : Int32).toInt = 100 := rfl
  have l110 : (110 : Int32).toInt = 110 := rfl
  have l127 : (127 : Int32).toInt = 127 := rfl
  have N31 := hm.n31
  have T_μ : μ.2.1 66 31 = μ.2.1 66 31 := rfl
  refine gw_bI (s_X12_in ) (fun x1 m1 ⟨z1, f1⟩ => ?_)
  replace z1 := z1.symm
  subst z1
  refine gw_ne (fun h7_2 => ?_) (fun h7_2 => ?_)
  ·
    refine gw_gRa 66 (hm.1.c (r := 65) rfl) (hm.1.r (by decide)) ?_
    refine gw_aI (i := (31 : Int32)) (hm.1.t (r := 66) rfl) (hm.1.l (r := 66) rfl) (by omega) (by omega) (fun v3 ev3 => ?_)
    have cv3 : v3 = μ.2.1 66 31 := ev3
    have bv3 := hm.n31
    have dv3 : v3.toInt = (μ.2.1 66 31).toInt := by rw [cv3]
    rw [← dv3] at bv3
    have wv3 : v3 = μ.2.1 66 31 := ev3.trans T_μ
    have uv3 : v3.toInt = (μ.2.1 66 31).toInt := by rw [wv3]
    refine gw_ne (fun h22_4 => ?_) (fun h22_4 => ?_)
    ·
      refine gw_gRa 66 (hm.1.c (r := 65) rfl) (hm.1.r (by decide)) ?_
      refine gw_gRa 66 (hm.1.c (r := 65) rfl) (hm.1.r (by decide)) ?_
      refine gw_aI (i := (31 : Int32)) (hm.1.t (r := 66) rfl) (hm.1.l (r := 66) rfl) (by omega) (by omega) (fun v5 ev5 => ?_)
      have cv5 : v5 = μ.2.1 66 31 := ev5
      have bv5 := hm.n31
      have dv5 : v5.toInt = (μ.2.1 66 31).toInt := by rw [cv5]
      rw [← dv5] at bv5
      have wv5 : v5 = μ.2.1 66 31 := ev5.trans T_μ
      have uv5 : v5.toInt = (μ.2.1 66 31).toInt := by rw [wv5]
      have n6 : ((110 : Int32) + v5).toInt = (110 : Int32).toInt + v5.toInt := gx_add (by omega) (by omega)
      refine gw_sI (i := ((110 : Int32) + v5)) (hm.1.t (r := 66) rfl) (hm.1.l (r := 66) rfl) (by omega) (by omega) (fun m7 em7 => ?_)
      have sm7 := gS.w hm.1 em7
      rw [show ((110 : Int32) + v5).toInt.toNat = 110 + (μ.2.1 66 31).toInt.toNat from by omega] at em7
      have T_m7 : m7.2.1 66 31 = μ.2.1 66 31 := (rdn em7 (by omega)).trans T_μ
      refine gw_gRa 66 ((And.intro sm7 True.intro : _ ∧ True).1.c (r := 65) rfl) ((And.intro sm7 True.intro : _ ∧ True).1.r (by decide)) ?_
      refine gw_aI (i := (31 : Int32)) ((And.intro sm7 True.intro : _ ∧ True).1.t (r := 66) rfl) ((And.intro sm7 True.intro : _ ∧ True).1.l (r := 66) rfl) (by omega) (by omega) (fun v8 ev8 => ?_)
      have cv8 : v8 = m7.2.1 66 31 := ev8
      have wv8 : v8 = μ.2.1 66 31 := ev8.trans T_m7
      have uv8 : v8.toInt = (μ.2.1 66 31).toInt := by rw [wv8]
      refine gw_sI (i := (31 : Int32)) ((And.intro sm7 True.intro : _ ∧ True).1.t (r := 66) rfl) ((And.intro sm7 True.intro : _ ∧ True).1.l (r := 66) rfl) (by omega) (by omega) (fun m9 em9 => ?_)
      have sm9 := gS.w sm7 em9
      rw [show (31 : Int32).toInt.toNat = 31 from by omega] at em9
      rw [wv8] at em9
      refine gw_gRa 66 ((And.intro sm9 True.intro : _ ∧ True).1.c (r := 65) rfl) ((And.intro sm9 True.intro : _ ∧ True).1.r (by decide)) ?_
      refine gw_aI (i := (31 : Int32)) ((And.intro sm9 True.intro : _ ∧ True).1.t (r := 66) rfl) ((And.intro sm9 True.intro : _ ∧ True).1.l (r := 66) rfl) (by omega) (by omega) (fun v10 ev10 => ?_)
      have cv10 : v10 = m9.2.1 66 31 := ev10
      exact gw_some (gq_I (by first | (exfalso; omega) | exact h | (subst em9; subst em7; exact A_feedm h (by omega) (by omega) _)))
    ·
      exact gw_some (gq_I (by first | (exfalso; omega) | exact h | (skip; exact A_feedm h (by omega) (by omega) _)))
  ·
    exact gw_some (gq_I (by first | (exfalso; omega) | exact h | (skip; exact A_feedm h (by omega) (by omega) _)))
end
section
/-! the two sides, one asking after the other -/
def QI (z : Option (Option Value × gm_M)) (g : gm_M → Option (Option Value × gm_M)) : Prop := gwI z (fun _ m => gm_tag m 65 = 17 ∧ gwI (g m) (fun _ m2 => ALL m2))
def QL (z : Option (Option Value × gm_M)) (g : gm_M → Option (Option Value × gm_M)) : Prop := gwL z (fun _ m => gm_tag m 65 = 17 ∧ gwL (g m) (fun _ m2 => ALL m2))
def PI (z : Option (Option Value × gm_M)) (g : gm_M → Option (Option Value × gm_M)) : Prop := gwI z (fun x m => gm_tag m 65 = 17 ∧ gwI (g m) (fun y m2 => y = x ∧ ALL m2))
def PL (z : Option (Option Value × gm_M)) (g : gm_M → Option (Option Value × gm_M)) : Prop := gwL z (fun x m => gm_tag m 65 = 17 ∧ gwL (g m) (fun y m2 => y = x ∧ ALL m2))
theorem ALL.t65 {μ : gm_M} (h : ALL μ) : gm_tag μ 65 = 17 := h.1.1.t (r := 65) rfl
theorem PI.q {z : Option (Option Value × gm_M)} {g : gm_M → Option (Option Value × gm_M)} (h : PI z g) : QI z g := by
  refine gwI_mono h (fun x m ⟨a, b⟩ => ⟨a, gwI_mono b (fun y m2 c => c.2)⟩)
theorem QI.kq {μ : gm_M} {z : Option (Option Value × gm_M)} {g : gm_M → Option (Option Value × gm_M)} (h : ALL μ) (h1 : gwI z (fun _ m => kc μ m)) (h2 : ∀ m, MI m → gwI (g m) (fun _ m2 => qm m m2)) : QI z g := by
  refine gwI_mono h1 (fun x m a => ?_)
  have hm := h.kc a
  exact ⟨hm.t65, gwI_mono (h2 m hm.1) (fun y m2 b => hm.qm b)⟩
theorem QL.kq {μ : gm_M} {z : Option (Option Value × gm_M)} {g : gm_M → Option (Option Value × gm_M)} (h : ALL μ) (h1 : gwL z (fun _ m => kc μ m)) (h2 : ∀ m, MI m → gwL (g m) (fun _ m2 => qm m m2)) : QL z g := by
  obtain ⟨x, m, e, a⟩ := h1
  have hm := h.kc a
  obtain ⟨y, m2, e2, b⟩ := h2 m hm.1
  exact ⟨x, m, e, hm.t65, y, m2, e2, hm.qm b⟩
theorem QI.cm {z : Option (Option Value × gm_M)} {g : gm_M → Option (Option Value × gm_M)} (h1 : gwI z (fun _ m => ALL m)) (h2 : ∀ m, ALL m → gwI (g m) (fun _ m2 => ALL m2)) : QI z g := by
  refine gwI_mono h1 (fun x m a => ⟨a.t65, h2 m a⟩)
theorem gwI_and {z : Option (Option Value × gm_M)} {R S : Int32 → gm_M → Prop} (h : gwI z R) (k : gwI z S) : gwI z (fun x m => R x m ∧ S x m) := by
  obtain ⟨x, m, e, a⟩ := h
  obtain ⟨x2, m2, e2, b⟩ := k
  rw [e] at e2
  injection e2 with e3
  injection e3 with e4 e5
  injection e4 with e6
  injection e6 with e7
  subst e7; subst e5
  exact ⟨x, m, e, a, b⟩
theorem PI.of {z : Option (Option Value × gm_M)} {g : gm_M → Option (Option Value × gm_M)} (h : gwI z (fun x m => gwI (g m) (fun y m2 => y = x ∧ ALL m2))) (t : ∀ m R, gwI (g m) R → gm_tag m 65 = 17) : PI z g :=
  gwI_mono h (fun x m a => ⟨t m _ a, a⟩)
theorem nR {β : Type} {m : gm_M} (h : ¬ gm_tag m 65 = 17) (j : Nat) (f : Nat → Option β) : gm_gR m [17] 65 j f = none := by
  unfold gm_gR; rw [if_neg (fun e => h (by simpa using e))]
theorem ngI {β : Type} {m : gm_M} (h : ¬ gm_tag m 65 = 17) (j : Nat) (f : Int32 → Option β) : gm_gI m [17] 65 j f = none := by
  unfold gm_gI; rw [if_neg (fun e => h (by simpa using e))]
theorem npI {β : Type} {m : gm_M} (h : ¬ gm_tag m 65 = 17) (j : Nat) (x : Int32) (f : gm_M → Option β) : gm_pI m [17] 65 j x f = none := by
  unfold gm_pI; rw [if_neg (fun e => h (by simpa using e))]
theorem T_row {m : gm_M} {a b c : Int32} {R : Int32 → gm_M → Prop} (h : gwI (f_X12_row 65 a b c m) R) : gm_tag m 65 = 17 := by
  by_cases hn : gm_tag m 65 = 17
  · exact hn
  · obtain ⟨x, m2, e, -⟩ := h
    unfold f_X12_row at e
    rw [if_neg hn] at e; cases e
theorem T_as {m : gm_M} {a b : Int32} {R : Int32 → gm_M → Prop} (h : gwI (f_X12_as 65 a b m) R) : gm_tag m 65 = 17 := by
  by_cases hn : gm_tag m 65 = 17
  · exact hn
  · obtain ⟨x, m2, e, -⟩ := h
    unfold f_X12_as at e
    rw [if_neg hn] at e; cases e
theorem T_see {m : gm_M} {a b c : Int32} {R : Int32 → gm_M → Prop} (h : gwI (f_X12_see 65 a b c m) R) : gm_tag m 65 = 17 := by
  by_cases hn : gm_tag m 65 = 17
  · exact hn
  · obtain ⟨x, m2, e, -⟩ := h
    unfold f_X12_see at e
    by_cases ha : a ≠ (-1 : Int32)
    · rw [if_pos ha, if_neg hn] at e; cases e
    · rw [if_neg ha, nR hn] at e; cases e
theorem T_book {m : gm_M} {a b : Int32} {R : Int32 → gm_M → Prop} (h : gwI (f_X12_book 65 a b m) R) : gm_tag m 65 = 17 := by
  by_cases hn : gm_tag m 65 = 17
  · exact hn
  · obtain ⟨x, m2, e, -⟩ := h
    unfold f_X12_book at e
    by_cases ha : a ≠ (-1 : Int32)
    · rw [if_pos ha, if_neg hn] at e; cases e
    · rw [if_neg ha, nR hn] at e; cases e
theorem T_trace {m : gm_M} {a : Int32} {R : Int32 → gm_M → Prop} (h : gwI (f_X12_trace 65 a m) R) : gm_tag m 65 = 17 := by
  by_cases hn : gm_tag m 65 = 17
  · exact hn
  · obtain ⟨x, m2, e, -⟩ := h
    unfold f_X12_trace at e
    rw [ngI hn] at e; cases e
theorem T_undo {m : gm_M} {R : Int32 → gm_M → Prop} (h : gwI (f_X12_undo 65 m) R) : gm_tag m 65 = 17 := by
  by_cases hn : gm_tag m 65 = 17
  · exact hn
  · obtain ⟨x, m2, e, -⟩ := h
    unfold f_X12_undo at e
    rw [ngI hn] at e; cases e
theorem T_act {m : gm_M} {a b c : Int32} {R : Int32 → gm_M → Prop} (h : gwI (f_X12_act 65 a b c m) R) : gm_tag m 65 = 17 := by
  by_cases hn : gm_tag m 65 = 17
  · exact hn
  · obtain ⟨x, m2, e, -⟩ := h
    unfold f_X12_act at e
    rw [npI hn] at e; cases e
theorem T_image {m : gm_M} {R : Int32 → gm_M → Prop} (h : gwI (f_X12_image 65 m) R) : gm_tag m 65 = 17 := by
  by_cases hn : gm_tag m 65 = 17
  · exact hn
  · obtain ⟨x, m2, e, -⟩ := h
    unfold f_X12_image at e
    rw [show (5000 : Nat) = 4999 + 1 from rfl] at e
    unfold gm_loop at e
    dsimp only at e
    rw [if_neg (by decide), nR hn] at e
    cases e
theorem T_in {β : Type} {m : gm_M} {a b c : Int32} (h1 : b.toInt ≤ a.toInt) (h2 : a.toInt ≤ c.toInt) (f : Int32 → gm_M → Option β) : ∃ x : Int32, x ≠ 0 ∧ gm_bI (f_X12_in a b c m) f = f x m := by
  obtain ⟨x, m1, e, rfl, q⟩ := s_X12_in (μ := m) (a0 := a) (a1 := b) (a2 := c)
  refine ⟨x, fun hx => ?_, by rw [e]; rfl⟩
  have l0 : (0 : Int32).toInt = 0 := rfl
  subst hx
  omega
theorem T_pass {m : gm_M} {a : Int32} {R : Int32 → gm_M → Prop} (h0 : 0 ≤ a.toInt) (h1 : a.toInt ≤ 60) (h : gwI (f_X12_pass 65 a m) R) : gm_tag m 65 = 17 := by
  by_cases hn : gm_tag m 65 = 17
  · exact hn
  · obtain ⟨x, m2, e, -⟩ := h
    unfold f_X12_pass at e
    obtain ⟨y, hy, ey⟩ := T_in (m := m) (a := a) (b := 0) (c := 60) h0 h1 (β := Option Value × gm_M) _
    rw [ey, if_pos hy, nR hn] at e; cases e
theorem T_child {m : gm_M} {a b : Int32} {R : Int32 → gm_M → Prop} (h0 : 0 ≤ a.toInt ∧ a.toInt ≤ 6) (h1 : 0 ≤ b.toInt ∧ b.toInt ≤ 9) (h : gwI (f_X12_child 65 a b m) R) : gm_tag m 65 = 17 := by
  by_cases hn : gm_tag m 65 = 17
  · exact hn
  · obtain ⟨x, m2, e, -⟩ := h
    unfold f_X12_child at e
    obtain ⟨y, hy, ey⟩ := T_in (m := m) (a := a) (b := 0) (c := 6) h0.1 h0.2 (β := Option Value × gm_M) _
    rw [ey, if_pos hy] at e
    obtain ⟨z, hz, ez⟩ := T_in (m := m) (a := b) (b := 0) (c := 9) h1.1 h1.2 (β := Option Value × gm_M) _
    rw [ez, if_pos hz, nR hn] at e; cases e
theorem T_plan {m : gm_M} {a b : Int32} {R : Int32 → gm_M → Prop} (h0 : a = -1 ∨ (0 ≤ a.toInt ∧ a.toInt ≤ 3)) (h : gwI (f_X12_plan 65 a b m) R) : gm_tag m 65 = 17 := by
  by_cases hn : gm_tag m 65 = 17
  · exact hn
  · obtain ⟨x, m2, e, -⟩ := h
    unfold f_X12_plan at e
    rcases h0 with h0 | h0
    · rw [if_neg (fun g => g h0), nR hn] at e; cases e
    · have ha : a ≠ (-1 : Int32) := fun g => by
        rw [g] at h0
        exact absurd h0.1 (by decide)
      rw [if_pos ha] at e
      obtain ⟨y, hy, ey⟩ := T_in (m := m) (a := a) (b := 0) (c := 3) h0.1 h0.2 (β := Option Value × gm_M) _
      rw [ey, if_neg hy] at e
      unfold gm_j at e
      dsimp only at e
      by_cases h3 : a ≤ 0
      · rw [if_pos h3, nR hn] at e; cases e
      · rw [if_neg h3, if_neg hn] at e; cases e
theorem plan_bad {μ : gm_M} {a b : Int32} (ha : a ≠ -1) (h : a.toInt < 0 ∨ 3 < a.toInt) : gwI (f_X11_plan 1 a b μ) (fun _ m => m = μ) := by
  refine gwI_of ?_
  unfold f_X11_plan
  refine gw_if ha ?_
  have l3 : (3 : Int32).toInt = 3 := rfl
  have l0 : (0 : Int32).toInt = 0 := rfl
  refine gw_bI (s_X11_isOutside) (fun x m ⟨e, q⟩ => ?_)
  subst e
  refine gw_ne (fun _ => gw_some (gq_I rfl)) (fun g => ?_)
  exfalso
  omega
theorem L_child {μ : gm_M} (h : ALL μ) {a b : Int32} : PI (f_X11_child 1 a b μ) (f_X12_child 65 a b) := by
  refine gwI_mono (gwI_and (p_child h) (c_child h)) (fun x m ⟨c, d⟩ => ⟨?_, c⟩)
  rcases d with ⟨rfl, _⟩ | ⟨rfl, _⟩ | ⟨rfl, _⟩ | ⟨q1, q2, _⟩
  · exact h.t65
  · exact h.t65
  · exact h.t65
  · exact T_child (by omega) (by omega) c
theorem L_pass {μ : gm_M} (h : ALL μ) {a : Int32} : PI (f_X11_pass 1 a μ) (f_X12_pass 65 a) := by
  refine gwI_mono (gwI_and (p_pass h) (c_pass h.2.2.1)) (fun x m ⟨c, d⟩ => ⟨?_, c⟩)
  rcases d with ⟨rfl, _⟩ | ⟨rfl, _⟩ | ⟨q1, _⟩
  · exact h.t65
  · exact h.t65
  · exact T_pass q1.1 q1.2 c
theorem L_row {μ : gm_M} (h : ALL μ) {a b c : Int32} : PI (f_X11_row 1 a b c μ) (f_X12_row 65 a b c) := PI.of (p_row h) (fun _ _ k => T_row k)
theorem L_act {μ : gm_M} (h : ALL μ) {a b c : Int32} : PI (f_X11_act 1 a b c μ) (f_X12_act 65 a b c) := PI.of (p_act h) (fun _ _ k => T_act k)
theorem L_as {μ : gm_M} (h : ALL μ) {a b : Int32} : PI (f_X11_as 1 a b μ) (f_X12_as 65 a b) := PI.of (p_as h) (fun _ _ k => T_as k)
theorem L_trace {μ : gm_M} (h : ALL μ) {a : Int32} : PI (f_X11_trace 1 a μ) (f_X12_trace 65 a) := PI.of (p_trace h) (fun _ _ k => T_trace k)
theorem L_image {μ : gm_M} (h : ALL μ) : PI (f_X11_image 1 μ) (f_X12_image 65) := PI.of (p_image h) (fun _ _ k => T_image k)
theorem L_undo {μ : gm_M} (h : ALL μ) : PI (f_X11_undo 1 μ) (f_X12_undo 65) := PI.of (p_undo h) (fun _ _ k => T_undo k)
theorem L_feed {μ : gm_M} (h : ALL μ) {a : Int32} : QI (f_X11_feed 1 a μ) (f_X12_feed 65 a) := QI.cm (c_feed h) (fun _ k => m_feed k)
theorem L_afternoon {μ : gm_M} (h : ALL μ) : QI (f_X11_afternoon 1 μ) (f_X12_afternoon 65) := QI.cm (c_afternoon h) (fun _ k => m_afternoon k)
theorem L_set {μ : gm_M} (h : ALL μ) {a b c : Int32} : QI (f_X11_set 1 a b c μ) (f_X12_set 65 a b c) := QI.cm (c_set h) (fun _ k => m_set k)
theorem L_blow {μ : gm_M} (h : ALL μ) {a b : Int32} : QI (f_X11_blow 1 a b μ) (f_X12_blow 65 a b) := QI.cm (c_blow h) (fun _ k => m_blow k)
theorem L_of {μ : gm_M} (h : ALL μ) {a b : Int32} : QI (f_X11_of 1 a b μ) (f_X12_of 65 a b) := QI.kq h (s_X11_of h.2.2.1) (fun _ k => s_X12_of k)
theorem L_told {μ : gm_M} (h : ALL μ) {a : Int32} : QI (f_X11_told 1 a μ) (f_X12_told 65 a) := QI.kq h (s_X11_told h.2.2.1) (fun _ k => s_X12_told k)
theorem L_on {μ : gm_M} (h : ALL μ) {a b : Int32} : QI (f_X11_on 1 a b μ) (f_X12_on 65 a b) := QI.kq h (s_X11_on h.2.2.1) (fun _ k => s_X12_on k)
theorem L_when {μ : gm_M} (h : ALL μ) {a b : Int32} : QI (f_X11_when 1 a b μ) (f_X12_when 65 a b) := QI.kq h (s_X11_when h.2.2.1) (fun _ k => s_X12_when k)
theorem L_soon {μ : gm_M} (h : ALL μ) {a b : Int32} : QI (f_X11_soon 1 a b μ) (f_X12_soon 65 a b) := QI.kq h (s_X11_soon h.2.2.1) (fun _ k => s_X12_soon k)
theorem L_pieces {μ : gm_M} (h : ALL μ) {a b : Int32} : QI (f_X11_pieces 1 a b μ) (f_X12_pieces 65 a b) := QI.kq h (s_X11_pieces h.2.2.1) (fun _ k => s_X12_pieces k)
theorem L_breaths {μ : gm_M} (h : ALL μ) {a b : Int32} : QI (f_X11_breaths 1 a b μ) (f_X12_breaths 65 a b) := QI.kq h (s_X11_breaths h.2.2.1) (fun _ k => s_X12_breaths k)
theorem L_slack {μ : gm_M} (h : ALL μ) {a : Int32} : QI (f_X11_slack 1 a μ) (f_X12_slack 65 a) := QI.kq h (s_X11_slack h.2.2.1) (fun _ k => s_X12_slack k)
theorem L_likely {μ : gm_M} (h : ALL μ) {a b c : Int32} : QL (f_X11_likely 1 a b c μ) (f_X12_likely 65 a b c) := QL.kq h (s_X11_likely h.2.2.1) (fun _ k => s_X12_likely k)
theorem L_dare {μ : gm_M} (h : ALL μ) {a : Int32} : QI (f_X11_dare 1 a μ) (f_X12_dare 65 a) := QI.kq h (s_X11_dare h.2.2.1) (fun _ k => s_X12_dare k)
theorem L_first {μ : gm_M} (h : ALL μ) : QI (f_X11_first 1 μ) (f_X12_first 65) := QI.kq h (s_X11_first h.2.2.1) (fun _ k => s_X12_first k)
theorem L_beats {μ : gm_M} (h : ALL μ) {a b c : Int32} : QL (f_X11_beats 1 a b c μ) (f_X12_beats 65 a b c) := QL.kq h (s_X11_beats h.2.2.1) (fun _ k => s_X12_beats k)
theorem L_swap {μ : gm_M} (h : ALL μ) : QI (f_X11_swap 1 μ) (f_X12_swap 65) := QI.kq h (s_X11_swap h.2.2.1) (fun _ k => s_X12_swap k)
theorem L_order {μ : gm_M} (h : ALL μ) {a : Int32} : QI (f_X11_order 1 a μ) (f_X12_order 65 a) := QI.kq h (s_X11_order h.2.2.1) (fun _ k => s_X12_order k)
theorem L_clean {μ : gm_M} (h : ALL μ) {a b : Int32} : QI (f_X11_clean 1 a b μ) (f_X12_clean 65 a b) := QI.kq h (s_X11_clean h.2.2.1) (fun _ k => s_X12_clean k)
theorem L_who {μ : gm_M} (h : ALL μ) {a b : Int32} : QI (f_X11_who 1 a b μ) (f_X12_who 65 a b) := QI.kq h (s_X11_who h.2.2.1) (fun _ k => s_X12_who k)
theorem L_firm {μ : gm_M} (h : ALL μ) {a b : Int32} : QI (f_X11_firm 1 a b μ) (f_X12_firm 65 a b) := QI.kq h (s_X11_firm h.2.2.1) (fun _ k => s_X12_firm k)
theorem L_had {μ : gm_M} (h : ALL μ) {a : Int32} : QI (f_X11_had 1 a μ) (f_X12_had 65 a) := QI.kq h (s_X11_had h.2.2.1) (fun _ k => s_X12_had k)
theorem L_mean {μ : gm_M} (h : ALL μ) {a b : Int32} : QL (f_X11_mean 1 a b μ) (f_X12_mean 65 a b) := QL.kq h (s_X11_mean h.2.2.1) (fun _ k => s_X12_mean k)
theorem L_done {μ : gm_M} (h : ALL μ) {a : Int32} : QI (f_X11_done 1 a μ) (f_X12_done 65 a) := QI.kq h (s_X11_done h.2.2.1) (fun _ k => s_X12_done k)
theorem L_looked {μ : gm_M} (h : ALL μ) : QI (f_X11_looked 1 μ) (f_X12_looked 65) := QI.kq h (s_X11_looked h.2.2.1) (fun _ k => s_X12_looked k)
theorem L_count {μ : gm_M} (h : ALL μ) {a : Int32} : QI (f_X11_count 1 a μ) (f_X12_count 65 a) := QI.kq h (s_X11_count h.2.2.1) (fun _ k => s_X12_count k)
end
section
/-! the memory behind both constructors is in the relation -/
def gi_in (x : Int32) (a b : Int) : Bool := decide (a ≤ x.toInt) && decide (x.toInt ≤ b)
theorem gi_ins {x : Int32} {a b : Int} (h : gi_in x a b = true) : a ≤ x.toInt ∧ x.toInt ≤ b := by
  unfold gi_in at h
  rw [Bool.and_eq_true, decide_eq_true_eq, decide_eq_true_eq] at h
  exact h
def gi_all (n : Nat) (f : Nat → Bool) : Bool := (List.range n).all f
theorem gi_alls {n : Nat} {f : Nat → Bool} (h : gi_all n f = true) (k : Nat) (hk : k < n) : f k = true := by
  unfold gi_all at h
  exact List.all_eq_true.mp h k (List.mem_range.mpr hk)
def gi_mIb (σ : Nat → Int32) : Bool := gi_in (σ 26) 0 5 && gi_in (σ 27) 0 5 && gi_in (σ 28) 0 5 && gi_in (σ 29) 0 8 && gi_in (σ 30) 0 8 && gi_in (σ 31) 0 100 && gi_in (σ 32) (-1) 4 && gi_all 5 (fun k => gi_in (σ (63 + k)) 0 4) && gi_all 8 (fun k => gi_in (σ (78 + k)) 0 3 && gi_in (σ (86 + k)) 0 4) && gi_all 8 (fun k => gi_in (σ (94 + k)) 0 4) && gi_all 5 (fun k => gi_in (σ (220 + k)) 0 0)
theorem gi_mI {σ : Nat → Int32} (h : gi_mIb σ = true) : mI σ := by
  unfold gi_mIb at h
  simp only [Bool.and_eq_true] at h
  obtain ⟨⟨⟨⟨⟨⟨⟨⟨⟨⟨h1, h2⟩, h3⟩, h4⟩, h5⟩, h6⟩, h7⟩, h8⟩, h9⟩, h10⟩, h11⟩ := h
  refine ⟨gi_ins h1, gi_ins h2, gi_ins h3, gi_ins h4, gi_ins h5, gi_ins h6, gi_ins h7, fun k hk => gi_ins (gi_alls h8 k hk), fun k hk => ?_, fun k hk => gi_ins (gi_alls h10 k hk), fun k hk => ?_⟩
  · have q := gi_alls h9 k hk
    rw [Bool.and_eq_true] at q
    exact ⟨gi_ins q.1, fun _ => gi_ins q.2⟩
  · have q := gi_ins (gi_alls h11 k hk)
    exact ⟨q.1, by omega, fun _ => 0, rfl, fun i hi => by omega⟩
def gi_afb (μ : gm_M) (a : Nat) : Bool := decide (a = 18 ∨ a = 42 ∨ 75 ≤ a) && decide (μ.1[a]? = some (5, 10)) && decide (μ.1[a + 1]? = some (1, 10)) && decide (μ.1[a + 2]? = some (1, 10)) && decide (μ.1[a + 3]? = some (1, 100)) && decide (μ.2.2 a 3 = a + 1) && decide (μ.2.2 a 4 = a + 2) && decide (μ.2.2 a 5 = a + 3) && gi_in (μ.2.1 a 2) 0 10 && gi_all 10 (fun k => gi_in (μ.2.1 (a + 2) k) 0 100)
theorem gi_af {μ : gm_M} {a : Nat} (h : gi_afb μ a = true) : AfW μ a := by
  unfold gi_afb at h
  simp only [Bool.and_eq_true, decide_eq_true_eq] at h
  obtain ⟨⟨⟨⟨⟨⟨⟨⟨⟨h1, h2⟩, h3⟩, h4⟩, h5⟩, h6⟩, h7⟩, h8⟩, h9⟩, h10⟩ := h
  exact ⟨h1, ⟨h2, h3, h4, h5⟩, ⟨h6, h7, h8⟩, gi_ins h9, fun k hk => gi_ins (gi_alls h10 k hk)⟩
def gi_scb (μ : gm_M) (s : Nat) : Bool := gi_in (μ.2.1 s 1) 0 5 && gi_in (μ.2.1 s 4) 0 100 && gi_in (μ.2.1 s 5) 0 5 && gi_afb μ (μ.2.2 s 6) && gi_in (μ.2.1 (s + 8) 2) 0 5 && gi_in (μ.2.1 (s + 10) 2) 0 8 && gi_in (μ.2.1 (s + 12) 2) 0 8 && gi_in (μ.2.1 (s + 8) 0) 5 5 && gi_in (μ.2.1 (s + 10) 0) 8 8 && gi_in (μ.2.1 (s + 12) 0) 8 8 && gi_all 5 (fun k => decide ((μ.2.1 (s + 9) (3 * k + 2)).toInt ≤ 60))
theorem gi_eq {x : Int32} {a : Int} (h : gi_in x a a = true) : x.toInt = a := by
  have := gi_ins h
  omega
theorem gi_sc {μ : gm_M} {s : Nat} (h : gi_scb μ s = true) : scI μ s := by
  unfold gi_scb at h
  simp only [Bool.and_eq_true] at h
  obtain ⟨⟨⟨⟨⟨⟨⟨⟨⟨⟨h1, h2⟩, h3⟩, h4⟩, h5⟩, h6⟩, h7⟩, h8⟩, h9⟩, h10⟩, h11⟩ := h
  exact ⟨gi_ins h1, gi_ins h2, gi_ins h3, gi_af h4, gi_ins h5, gi_ins h6, gi_ins h7, gi_eq h8, gi_eq h9, gi_eq h10, fun k hk => of_decide_eq_true (gi_alls h11 k hk)⟩
def gi_nmb (μ : gm_M) (s c : Nat) (σ : Nat → Int32) : Bool := decide (μ.2.1 s 0 = σ 0) && decide (μ.2.1 s 1 = σ 26) && decide (μ.2.1 (s + 8) 2 = σ 28) && decide (μ.2.1 (s + 10) 2 = σ 29) && decide (μ.2.1 (s + 12) 2 = σ 30) && gi_all 5 (fun k => decide (μ.2.1 (c + 2 * k) 0 = Int32.ofNat k) && decide (((μ.2.2 (c + 2 * k) 1 : Nat) : Int) = 8 + (σ (33 + k)).toInt) && decide (μ.2.1 (c + 2 * k) 2 = σ (38 + k)) && gi_all 4 (fun j => decide (μ.2.1 (c + 2 * k + 1) j = σ (43 + 4 * k + j))))
theorem gi_nm {μ : gm_M} {s c : Nat} {σ : Nat → Int32} (h : gi_nmb μ s c σ = true) : nm μ s c σ := by
  unfold gi_nmb at h
  simp only [Bool.and_eq_true, decide_eq_true_eq] at h
  obtain ⟨⟨⟨⟨⟨h1, h2⟩, h3⟩, h4⟩, h5⟩, h6⟩ := h
  refine ⟨⟨h1, h2, h3, h4, h5⟩, fun k hk => ?_⟩
  have q := gi_alls h6 k hk
  simp only [Bool.and_eq_true, decide_eq_true_eq] at q
  obtain ⟨⟨⟨q1, q2⟩, q3⟩, q4⟩ := q
  exact ⟨⟨q1, q2, q3⟩, fun j hj => of_decide_eq_true (gi_alls q4 j hj)⟩
theorem ALL_0 : ALL gi5 := by
  have h3 : (gi5.2.1 3 2).toInt = 0 := by decide +kernel
  refine ⟨⟨gS_0, gi_mI (by decide +kernel)⟩, gi_mI (by decide +kernel), ⟨gS_0, gi_sc (by decide +kernel), gi_sc (by decide +kernel), fun a ha => ?_, ⟨by omega, by omega⟩, by decide +kernel⟩, gi_nm (by decide +kernel), gi_nm (by decide +kernel), ⟨by decide +kernel, Or.inl (by decide +kernel)⟩, by decide +kernel, fun i _ hi => by omega⟩
  unfold icl ict isch at ha
  have hk : ∀ b : Nat, [29, 31, 33, 35, 37, 63, 53, 55, 57, 59, 61].contains b = true → kid (gi5.2.2 b 1) := fun b hb => by
    have q : ([29, 31, 33, 35, 37, 63, 53, 55, 57, 59, 61] : List Nat).all (fun b => decide (8 ≤ gi5.2.2 b 1) && decide (gi5.2.2 b 1 ≤ 14)) = true := by decide +kernel
    have r := List.all_eq_true.mp q b (by simpa using hb)
    rw [Bool.and_eq_true, decide_eq_true_eq, decide_eq_true_eq] at r
    exact r
  refine hk a ?_
  rcases ha with ((rfl | rfl | rfl | rfl | rfl) | rfl) | rfl | rfl | rfl | rfl | rfl <;> rfl
end
