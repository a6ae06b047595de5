set_option maxHeartbeats 2000000 in
theorem c_set {μ : gm_M} (h : ALL μ) {a1 : Int32} {a2 : Int32} {a3 : Int32} : gwI (f_X11_set 1 a1 a2 a3 μ) (fun _ m => ALL m) := by
  refine gwI_of ?_
  unfold f_X11_set
  have hc := h.2.2.1
  have lm2 : (-2 : Int32).toInt = -2 := rfl
  have lm1 : (-1 : Int32).toInt = -1 := rfl
  have l0 : (0 : Int32).toInt = 0 := rfl
  have l1 : (1 : Int32).toInt = 1 := rfl
  have l2 : (2 : Int32).toInt = 2 := rfl
  have l6 : (6 : Int32).toInt = 6 := rfl
  have l99 : (99 : Int32).toInt = 99 := rfl
  have l999 : (999 : Int32).toInt = 999 := rfl
  refine gw_if (hc.1.t (r := 1) rfl) ?_
  refine gw_bI (s_X11_isNobody hc ) (fun x1 m1 ⟨z1, f1⟩ => ?_)
  replace z1 := z1.symm
  subst z1
  refine gw_ne (fun h5_2 => ?_) (fun h5_2 => ?_)
  ·
    exact gw_some (gq_I (by first | (exfalso; omega) | exact h | exact A_chg h (k := a1.toInt.toNat) (by omega) (by rw [← hv]; exact (chg.refl _ _).w  (by decide))))
  ·
    refine gw_bI (s_X11_isOutside ) (fun x3 m3 ⟨z3, f3⟩ => ?_)
    replace z3 := z3.symm
    subst z3
    refine gw_eq (fun h14_4 => ?_) (fun h14_4 => ?_)
    ·
      refine gw_gRa 15 (hc.1.c (r := 1) rfl) (hc.1.r (by decide)) ?_
      refine gw_gRa 16 (hc.1.c (r := 15) rfl) (hc.1.r (by decide)) ?_
      refine gw_aR (i := a1) (hc.1.t (r := 16) rfl) (hc.1.l (r := 16) rfl) (by omega) (by omega) (fun v5 ev5 => ?_)
      have cv5 : isch v5 := by rw [ev5]; exact isch.of hc.1 (by omega) (by omega)
      have hv := h.ch (by omega) (by omega) ev5
      refine gw_ji ?_
      refine gw_ne (fun h31_6 => ?_) (fun h31_6 => ?_)
      ·
        refine gw_ne (fun h41_7 => ?_) (fun h41_7 => ?_)
        ·
          refine gw_bI (s_X11_isOutside ) (fun x8 m8 ⟨z8, f8⟩ => ?_)
          replace z8 := z8.symm
          subst z8
          refine gw_eq (fun h61_9 => ?_) (fun h61_9 => ?_)
          ·
            refine gw_ne (fun h68_10 => ?_) (fun h68_10 => ?_)
            ·
              refine gw_ne (fun h89_11 => ?_) (fun h89_11 => ?_)
              ·
                refine gw_gI (ict.c hc.1 (Or.inl cv5)) (fun v12 ev12 => ?_)
                refine gw_pI (ict.c hc.1 (Or.inl cv5)) (fun m13 em13 => ?_)
                have sm13 := gS.w hc.1 em13
                have rm13 : m13.2.1 66 = μ.2.1 66 := r66w rfl em13 (ict.n66 (Or.inl cv5)).1
                exact gw_some (gq_I (by first | (exfalso; omega) | exact h | exact A_chg h (k := a1.toInt.toNat) (by omega) (by rw [← hv]; exact (chg.refl _ _).w em13 (by decide))))
              ·
                refine gw_gI (ict.c hc.1 (Or.inl cv5)) (fun v14 ev14 => ?_)
                refine gw_pI (ict.c hc.1 (Or.inl cv5)) (fun m15 em15 => ?_)
                have sm15 := gS.w hc.1 em15
                have rm15 : m15.2.1 66 = μ.2.1 66 := r66w rfl em15 (ict.n66 (Or.inl cv5)).1
                exact gw_some (gq_I (by first | (exfalso; omega) | exact h | exact A_chg h (k := a1.toInt.toNat) (by omega) (by rw [← hv]; exact (chg.refl _ _).w em15 (by decide))))
            ·
              refine gw_gI (ict.c hc.1 (Or.inl cv5)) (fun v16 ev16 => ?_)
              refine gw_pI (ict.c hc.1 (Or.inl cv5)) (fun m17 em17 => ?_)
              have sm17 := gS.w hc.1 em17
              have rm17 : m17.2.1 66 = μ.2.1 66 := r66w rfl em17 (ict.n66 (Or.inl cv5)).1
              exact gw_some (gq_I (by first | (exfalso; omega) | exact h | exact A_chg h (k := a1.toInt.toNat) (by omega) (by rw [← hv]; exact (chg.refl _ _).w em17 (by decide))))
          ·
            exact gw_some (gq_I (by first | (exfalso; omega) | exact h | exact A_chg h (k := a1.toInt.toNat) (by omega) (by rw [← hv]; exact (chg.refl _ _).w  (by decide))))
        ·
          refine gw_bI (s_X11_isOutside ) (fun x18 m18 ⟨z18, f18⟩ => ?_)
          replace z18 := z18.symm
          subst z18
          refine gw_eq (fun h61_19 => ?_) (fun h61_19 => ?_)
          ·
            refine gw_ne (fun h68_20 => ?_) (fun h68_20 => ?_)
            ·
              refine gw_ne (fun h89_21 => ?_) (fun h89_21 => ?_)
              ·
                refine gw_gI (ict.c hc.1 (Or.inl cv5)) (fun v22 ev22 => ?_)
                refine gw_pI (ict.c hc.1 (Or.inl cv5)) (fun m23 em23 => ?_)
                have sm23 := gS.w hc.1 em23
                have rm23 : m23.2.1 66 = μ.2.1 66 := r66w rfl em23 (ict.n66 (Or.inl cv5)).1
                exact gw_some (gq_I (by first | (exfalso; omega) | exact h | exact A_chg h (k := a1.toInt.toNat) (by omega) (by rw [← hv]; exact (chg.refl _ _).w em23 (by decide))))
              ·
                refine gw_gI (ict.c hc.1 (Or.inl cv5)) (fun v24 ev24 => ?_)
                refine gw_pI (ict.c hc.1 (Or.inl cv5)) (fun m25 em25 => ?_)
                have sm25 := gS.w hc.1 em25
                have rm25 : m25.2.1 66 = μ.2.1 66 := r66w rfl em25 (ict.n66 (Or.inl cv5)).1
                exact gw_some (gq_I (by first | (exfalso; omega) | exact h | exact A_chg h (k := a1.toInt.toNat) (by omega) (by rw [← hv]; exact (chg.refl _ _).w em25 (by decide))))
            ·
              refine gw_gI (ict.c hc.1 (Or.inl cv5)) (fun v26 ev26 => ?_)
              refine gw_pI (ict.c hc.1 (Or.inl cv5)) (fun m27 em27 => ?_)
              have sm27 := gS.w hc.1 em27
              have rm27 : m27.2.1 66 = μ.2.1 66 := r66w rfl em27 (ict.n66 (Or.inl cv5)).1
              exact gw_some (gq_I (by first | (exfalso; omega) | exact h | exact A_chg h (k := a1.toInt.toNat) (by omega) (by rw [← hv]; exact (chg.refl _ _).w em27 (by decide))))
          ·
            exact gw_some (gq_I (by first | (exfalso; omega) | exact h | exact A_chg h (k := a1.toInt.toNat) (by omega) (by rw [← hv]; exact (chg.refl _ _).w  (by decide))))
      ·
        refine gw_bI (s_X11_isOutside ) (fun x28 m28 ⟨z28, f28⟩ => ?_)
        replace z28 := z28.symm
        subst z28
        refine gw_eq (fun h61_29 => ?_) (fun h61_29 => ?_)
        ·
          refine gw_ne (fun h68_30 => ?_) (fun h68_30 => ?_)
          ·
            refine gw_ne (fun h89_31 => ?_) (fun h89_31 => ?_)
            ·
              refine gw_gI (ict.c hc.1 (Or.inl cv5)) (fun v32 ev32 => ?_)
              refine gw_pI (ict.c hc.1 (Or.inl cv5)) (fun m33 em33 => ?_)
              have sm33 := gS.w hc.1 em33
              have rm33 : m33.2.1 66 = μ.2.1 66 := r66w rfl em33 (ict.n66 (Or.inl cv5)).1
              exact gw_some (gq_I (by first | (exfalso; omega) | exact h | exact A_chg h (k := a1.toInt.toNat) (by omega) (by rw [← hv]; exact (chg.refl _ _).w em33 (by decide))))
            ·
              refine gw_gI (ict.c hc.1 (Or.inl cv5)) (fun v34 ev34 => ?_)
              refine gw_pI (ict.c hc.1 (Or.inl cv5)) (fun m35 em35 => ?_)
              have sm35 := gS.w hc.1 em35
              have rm35 : m35.2.1 66 = μ.2.1 66 := r66w rfl em35 (ict.n66 (Or.inl cv5)).1
              exact gw_some (gq_I (by first | (exfalso; omega) | exact h | exact A_chg h (k := a1.toInt.toNat) (by omega) (by rw [← hv]; exact (chg.refl _ _).w em35 (by decide))))
          ·
            refine gw_gI (ict.c hc.1 (Or.inl cv5)) (fun v36 ev36 => ?_)
            refine gw_pI (ict.c hc.1 (Or.inl cv5)) (fun m37 em37 => ?_)
            have sm37 := gS.w hc.1 em37
            have rm37 : m37.2.1 66 = μ.2.1 66 := r66w rfl em37 (ict.n66 (Or.inl cv5)).1
            exact gw_some (gq_I (by first | (exfalso; omega) | exact h | exact A_chg h (k := a1.toInt.toNat) (by omega) (by rw [← hv]; exact (chg.refl _ _).w em37 (by decide))))
        ·
          exact gw_some (gq_I (by first | (exfalso; omega) | exact h | exact A_chg h (k := a1.toInt.toNat) (by omega) (by rw [← hv]; exact (chg.refl _ _).w  (by decide))))
    ·
      exact gw_some (gq_I (by first | (exfalso; omega) | exact h | exact A_chg h (k := a1.toInt.toNat) (by omega) (by rw [← hv]; exact (chg.refl _ _).w  (by decide))))
set_option maxHeartbeats 2000000 in
theorem m_set {μ : gm_M} (h : ALL μ) {a1 : Int32} {a2 : Int32} {a3 : Int32} : gwI (f_X12_set 65 a1 a2 a3 μ) (fun _ m => ALL m) := by
  refine gwI_of ?_
  unfold f_X12_set
  have hm := h.1
  have lm2 : (-2 : Int32).toInt = -2 := rfl
  have lm1 : (-1 : Int32).toInt = -1 := rfl
  have l0 : (0 : Int32).toInt = 0 := rfl
  have l1 : (1 : Int32).toInt = 1 := rfl
  have l2 : (2 : Int32).toInt = 2 := rfl
  have l5 : (5 : Int32).toInt = 5 := rfl
  have l6 : (6 : Int32).toInt = 6 := rfl
  have l99 : (99 : Int32).toInt = 99 := rfl
  have l999 : (999 : Int32).toInt = 999 := rfl
  refine gw_if (hm.1.t (r := 65) rfl) ?_
  refine gw_bI (s_X12_isChild hm ) (fun x1 m1 ⟨z1, f1⟩ => ?_)
  replace z1 := z1.symm
  subst z1
  refine gw_eq (fun h5_2 => ?_) (fun h5_2 => ?_)
  ·
    exact gw_some (gq_I (by first | (exfalso; omega) | exact h | exact A_km3 h ((km.refl A3 μ).ws  (by unfold A3; omega))))
  ·
    refine gw_bI (s_X12_in ) (fun x3 m3 ⟨z3, f3⟩ => ?_)
    replace z3 := z3.symm
    subst z3
    refine gw_ne (fun h14_4 => ?_) (fun h14_4 => ?_)
    ·
      refine gw_ji ?_
      refine gw_ne (fun h22_5 => ?_) (fun h22_5 => ?_)
      ·
        refine gw_ne (fun h32_6 => ?_) (fun h32_6 => ?_)
        ·
          refine gw_bI (s_X12_in ) (fun x7 m7 ⟨z7, f7⟩ => ?_)
          replace z7 := z7.symm
          subst z7
          refine gw_ne (fun h46_8 => ?_) (fun h46_8 => ?_)
          ·
            refine gw_gRa 66 (hm.1.c (r := 65) rfl) (hm.1.r (by decide)) ?_
            have n9 : ((5 : Int32) * a2).toInt = 5 * a2.toInt := gx_mul 5 rfl (by omega) (by omega)
            have n10 : ((1 : Int32) + ((5 : Int32) * a2)).toInt = (1 : Int32).toInt + ((5 : Int32) * a2).toInt := gx_add (by omega) (by omega)
            have n11 : (((1 : Int32) + ((5 : Int32) * a2)) + a1).toInt = ((1 : Int32) + ((5 : Int32) * a2)).toInt + a1.toInt := gx_add (by omega) (by omega)
            refine gw_aI (i := (((1 : Int32) + ((5 : Int32) * a2)) + a1)) (hm.1.t (r := 66) rfl) (hm.1.l (r := 66) rfl) (by omega) (by omega) (fun v12 ev12 => ?_)
            refine gw_gRa 66 (hm.1.c (r := 65) rfl) (hm.1.r (by decide)) ?_
            have n13 : ((5 : Int32) * a2).toInt = 5 * a2.toInt := gx_mul 5 rfl (by omega) (by omega)
            have n14 : ((1 : Int32) + ((5 : Int32) * a2)).toInt = (1 : Int32).toInt + ((5 : Int32) * a2).toInt := gx_add (by omega) (by omega)
            have n15 : (((1 : Int32) + ((5 : Int32) * a2)) + a1).toInt = ((1 : Int32) + ((5 : Int32) * a2)).toInt + a1.toInt := gx_add (by omega) (by omega)
            refine gw_sI (i := (((1 : Int32) + ((5 : Int32) * a2)) + a1)) (hm.1.t (r := 66) rfl) (hm.1.l (r := 66) rfl) (by omega) (by omega) (fun m16 em16 => ?_)
            have sm16 := gS.w hm.1 em16
            exact gw_some (gq_I (by first | (exfalso; omega) | exact h | exact A_km3 h ((km.refl A3 μ).ws em16 (by unfold A3; omega))))
          ·
            exact gw_some (gq_I (by first | (exfalso; omega) | exact h | exact A_km3 h ((km.refl A3 μ).ws  (by unfold A3; omega))))
        ·
          refine gw_bI (s_X12_in ) (fun x17 m17 ⟨z17, f17⟩ => ?_)
          replace z17 := z17.symm
          subst z17
          refine gw_ne (fun h46_18 => ?_) (fun h46_18 => ?_)
          ·
            refine gw_gRa 66 (hm.1.c (r := 65) rfl) (hm.1.r (by decide)) ?_
            have n19 : ((5 : Int32) * a2).toInt = 5 * a2.toInt := gx_mul 5 rfl (by omega) (by omega)
            have n20 : ((1 : Int32) + ((5 : Int32) * a2)).toInt = (1 : Int32).toInt + ((5 : Int32) * a2).toInt := gx_add (by omega) (by omega)
            have n21 : (((1 : Int32) + ((5 : Int32) * a2)) + a1).toInt = ((1 : Int32) + ((5 : Int32) * a2)).toInt + a1.toInt := gx_add (by omega) (by omega)
            refine gw_aI (i := (((1 : Int32) + ((5 : Int32) * a2)) + a1)) (hm.1.t (r := 66) rfl) (hm.1.l (r := 66) rfl) (by omega) (by omega) (fun v22 ev22 => ?_)
            refine gw_gRa 66 (hm.1.c (r := 65) rfl) (hm.1.r (by decide)) ?_
            have n23 : ((5 : Int32) * a2).toInt = 5 * a2.toInt := gx_mul 5 rfl (by omega) (by omega)
            have n24 : ((1 : Int32) + ((5 : Int32) * a2)).toInt = (1 : Int32).toInt + ((5 : Int32) * a2).toInt := gx_add (by omega) (by omega)
            have n25 : (((1 : Int32) + ((5 : Int32) * a2)) + a1).toInt = ((1 : Int32) + ((5 : Int32) * a2)).toInt + a1.toInt := gx_add (by omega) (by omega)
            refine gw_sI (i := (((1 : Int32) + ((5 : Int32) * a2)) + a1)) (hm.1.t (r := 66) rfl) (hm.1.l (r := 66) rfl) (by omega) (by omega) (fun m26 em26 => ?_)
            have sm26 := gS.w hm.1 em26
            exact gw_some (gq_I (by first | (exfalso; omega) | exact h | exact A_km3 h ((km.refl A3 μ).ws em26 (by unfold A3; omega))))
          ·
            exact gw_some (gq_I (by first | (exfalso; omega) | exact h | exact A_km3 h ((km.refl A3 μ).ws  (by unfold A3; omega))))
      ·
        refine gw_bI (s_X12_in ) (fun x27 m27 ⟨z27, f27⟩ => ?_)
        replace z27 := z27.symm
        subst z27
        refine gw_ne (fun h46_28 => ?_) (fun h46_28 => ?_)
        ·
          refine gw_gRa 66 (hm.1.c (r := 65) rfl) (hm.1.r (by decide)) ?_
          have n29 : ((5 : Int32) * a2).toInt = 5 * a2.toInt := gx_mul 5 rfl (by omega) (by omega)
          have n30 : ((1 : Int32) + ((5 : Int32) * a2)).toInt = (1 : Int32).toInt + ((5 : Int32) * a2).toInt := gx_add (by omega) (by omega)
          have n31 : (((1 : Int32) + ((5 : Int32) * a2)) + a1).toInt = ((1 : Int32) + ((5 : Int32) * a2)).toInt + a1.toInt := gx_add (by omega) (by omega)
          refine gw_aI (i := (((1 : Int32) + ((5 : Int32) * a2)) + a1)) (hm.1.t (r := 66) rfl) (hm.1.l (r := 66) rfl) (by omega) (by omega) (fun v32 ev32 => ?_)
          refine gw_gRa 66 (hm.1.c (r := 65) rfl) (hm.1.r (by decide)) ?_
          have n33 : ((5 : Int32) * a2).toInt = 5 * a2.toInt := gx_mul 5 rfl (by omega) (by omega)
          have n34 : ((1 : Int32) + ((5 : Int32) * a2)).toInt = (1 : Int32).toInt + ((5 : Int32) * a2).toInt := gx_add (by omega) (by omega)
          have n35 : (((1 : Int32) + ((5 : Int32) * a2)) + a1).toInt = ((1 : Int32) + ((5 : Int32) * a2)).toInt + a1.toInt := gx_add (by omega) (by omega)
          refine gw_sI (i := (((1 : Int32) + ((5 : Int32) * a2)) + a1)) (hm.1.t (r := 66) rfl) (hm.1.l (r := 66) rfl) (by omega) (by omega) (fun m36 em36 => ?_)
          have sm36 := gS.w hm.1 em36
          exact gw_some (gq_I (by first | (exfalso; omega) | exact h | exact A_km3 h ((km.refl A3 μ).ws em36 (by unfold A3; omega))))
        ·
          exact gw_some (gq_I (by first | (exfalso; omega) | exact h | exact A_km3 h ((km.refl A3 μ).ws  (by unfold A3; omega))))
    ·
      exact gw_some (gq_I (by first | (exfalso; omega) | exact h | exact A_km3 h ((km.refl A3 μ).ws  (by unfold A3; omega))))
set_option maxHeartbeats 2000000 in
theorem c_blow {μ : gm_M} (h : ALL μ) {a1 : Int32} {a2 : Int32} : gwI (f_X11_blow 1 a1 a2 μ) (fun _ m => ALL m) := by
  refine gwI_of ?_
  unfold f_X11_blow
  have hc := h.2.2.1
  have lm6 : (-6 : Int32).toInt = -6 := rfl
  have lm3 : (-3 : Int32).toInt = -3 := rfl
  have lm2 : (-2 : Int32).toInt = -2 := rfl
  have lm1 : (-1 : Int32).toInt = -1 := rfl
  have l0 : (0 : Int32).toInt = 0 := rfl
  have l1 : (1 : Int32).toInt = 1 := rfl
  have l99 : (99 : Int32).toInt = 99 := rfl
  refine gw_if (hc.1.t (r := 1) rfl) ?_
  refine gw_bI (s_X11_isNobody hc ) (fun x1 m1 ⟨z1, f1⟩ => ?_)
  replace z1 := z1.symm
  subst z1
  refine gw_eq (fun h5_2 => ?_) (fun h5_2 => ?_)
  ·
    refine gw_bI (s_X11_isOutside ) (fun x3 m3 ⟨z3, f3⟩ => ?_)
    replace z3 := z3.symm
    subst z3
    refine gw_eq (fun h17_4 => ?_) (fun h17_4 => ?_)
    ·
      refine gw_gRa 15 (hc.1.c (r := 1) rfl) (hc.1.r (by decide)) ?_
      refine gw_gRa 16 (hc.1.c (r := 15) rfl) (hc.1.r (by decide)) ?_
      refine gw_aR (i := a1) (hc.1.t (r := 16) rfl) (hc.1.l (r := 16) rfl) (by omega) (by omega) (fun v5 ev5 => ?_)
      have cv5 : isch v5 := by rw [ev5]; exact isch.of hc.1 (by omega) (by omega)
      have hv := h.ch (by omega) (by omega) ev5
      refine gw_gI (ict.c hc.1 (Or.inl cv5)) (fun v6 ev6 => ?_)
      refine gw_ne (fun h37_7 => ?_) (fun h37_7 => ?_)
      ·
        refine gw_if (hc.1.t (r := 1) rfl) ?_
        refine gw_bI (s_X11_holdsNow hc (by omega)) (fun x8 m8 z8 => ?_)
        replace z8 := z8.symm
        subst z8
        refine gw_if (ict.t hc.1 (Or.inl cv5)) ?_
        refine gw_bI (s_X2_breathe hc (Or.inl cv5)) (fun x9 m9 z9 => ?_)
        obtain ⟨ZG, ZF⟩ := z9
        refine gw_eq (fun h57_10 => ?_) (fun h57_10 => ?_)
        ·
          refine gw_gI (ict.c (And.intro (hc.1.same ZG.1 ZG.2.1) True.intro : _ ∧ True).1 (Or.inl cv5)) (fun v11 ev11 => ?_)
          exact gw_some (gq_I (by first | (exfalso; omega) | exact h | exact A_chg h (k := a1.toInt.toNat) (by omega) (by rw [← hv]; exact ZG)))
        ·
          exact gw_some (gq_I (by first | (exfalso; omega) | exact h | exact A_chg h (k := a1.toInt.toNat) (by omega) (by rw [← hv]; exact ZG)))
      ·
        exact gw_some (gq_I (by first | (exfalso; omega) | exact h | exact A_chg h (k := a1.toInt.toNat) (by omega) (by rw [← hv]; exact ZG)))
    ·
      exact gw_some (gq_I (by first | (exfalso; omega) | exact h | exact A_chg h (k := a1.toInt.toNat) (by omega) (by rw [← hv]; exact ZG)))
  ·
    exact gw_some (gq_I (by first | (exfalso; omega) | exact h | exact A_chg h (k := a1.toInt.toNat) (by omega) (by rw [← hv]; exact ZG)))
set_option maxHeartbeats 2000000 in
theorem m_blow {μ : gm_M} (h : ALL μ) {a1 : Int32} {a2 : Int32} : gwI (f_X12_blow 65 a1 a2 μ) (fun _ m => ALL m) := by
  refine gwI_of ?_
  unfold f_X12_blow
  have hm := h.1
  have lm6 : (-6 : Int32).toInt = -6 := rfl
  have lm3 : (-3 : Int32).toInt = -3 := rfl
  have lm2 : (-2 : Int32).toInt = -2 := rfl
  have lm1 : (-1 : Int32).toInt = -1 := rfl
  have l0 : (0 : Int32).toInt = 0 := rfl
  have l1 : (1 : Int32).toInt = 1 := rfl
  have l16 : (16 : Int32).toInt = 16 := rfl
  have l99 : (99 : Int32).toInt = 99 := rfl
  refine gw_if (hm.1.t (r := 65) rfl) ?_
  refine gw_bI (s_X12_isChild hm ) (fun x1 m1 ⟨z1, f1⟩ => ?_)
  replace z1 := z1.symm
  subst z1
  refine gw_ne (fun h5_2 => ?_) (fun h5_2 => ?_)
  ·
    refine gw_bI (s_X12_in ) (fun x3 m3 ⟨z3, f3⟩ => ?_)
    replace z3 := z3.symm
    subst z3
    refine gw_ne (fun h17_4 => ?_) (fun h17_4 => ?_)
    ·
      refine gw_gRa 66 (hm.1.c (r := 65) rfl) (hm.1.r (by decide)) ?_
      have n5 : ((1 : Int32) + a1).toInt = (1 : Int32).toInt + a1.toInt := gx_add (by omega) (by omega)
      refine gw_aI (i := ((1 : Int32) + a1)) (hm.1.t (r := 66) rfl) (hm.1.l (r := 66) rfl) (by omega) (by omega) (fun v6 ev6 => ?_)
      refine gw_ne (fun h31_7 => ?_) (fun h31_7 => ?_)
      ·
        refine gw_if (hm.1.t (r := 65) rfl) ?_
        refine gw_bI (s_X12_blows hm (by omega)) (fun x8 m8 ⟨z8, f8⟩ => ?_)
        obtain ⟨ZG, ZF⟩ : _ ∧ _ := ⟨z8, f8⟩
        refine gw_eq (fun h43_9 => ?_) (fun h43_9 => ?_)
        ·
          refine gw_gRa 66 ((And.intro (hm.1.same z8.1 z8.2.1) True.intro : _ ∧ True).1.c (r := 65) rfl) ((And.intro (hm.1.same z8.1 z8.2.1) True.intro : _ ∧ True).1.r (by decide)) ?_
          have n10 : ((16 : Int32) + a1).toInt = (16 : Int32).toInt + a1.toInt := gx_add (by omega) (by omega)
          refine gw_aI (i := ((16 : Int32) + a1)) ((And.intro (hm.1.same z8.1 z8.2.1) True.intro : _ ∧ True).1.t (r := 66) rfl) ((And.intro (hm.1.same z8.1 z8.2.1) True.intro : _ ∧ True).1.l (r := 66) rfl) (by omega) (by omega) (fun v11 ev11 => ?_)
          exact gw_some (gq_I (by first | (exfalso; omega) | exact h | exact A_km3 h ZG))
        ·
          exact gw_some (gq_I (by first | (exfalso; omega) | exact h | exact A_km3 h ZG))
      ·
        exact gw_some (gq_I (by first | (exfalso; omega) | exact h | exact A_km3 h ZG))
    ·
      exact gw_some (gq_I (by first | (exfalso; omega) | exact h | exact A_km3 h ZG))
  ·
    exact gw_some (gq_I (by first | (exfalso; omega) | exact h | exact A_km3 h ZG))
set_option maxHeartbeats 2000000 in
theorem c_feed {μ : gm_M} (h : ALL μ) {a1 : Int32} : gwI (f_X11_feed 1 a1 μ) (fun _ m => ALL m) := by
  refine gwI_of ?_
  unfold f_X11_feed
  have hc := h.2.2.1
  have lm4 : (-4 : Int32).toInt = -4 := rfl
  have lm2 : (-2 : Int32).toInt = -2 := rfl
  have l0 : (0 : Int32).toInt = 0 := rfl
  have l1 : (1 : Int32).toInt = 1 := rfl
  have l127 : (127 : Int32).toInt = 127 := rfl
  have N4 := hc.n4
  refine gw_bI (s_X11_isOutside ) (fun x1 m1 ⟨z1, f1⟩ => ?_)
  replace z1 := z1.symm
  subst z1
  refine gw_eq (fun h7_2 => ?_) (fun h7_2 => ?_)
  ·
    refine gw_gRa 15 (hc.1.c (r := 1) rfl) (hc.1.r (by decide)) ?_
    refine gw_gI (hc.1.c (r := 15) rfl) (fun v3 ev3 => ?_)
    have bv3 := hc.n4
    have dv3 : v3.toInt = (μ.2.1 15 4).toInt := by rw [ev3]
    refine gw_gRa 15 (hc.1.c (r := 1) rfl) (hc.1.r (by decide)) ?_
    refine gw_gRa 17 (hc.1.c (r := 15) rfl) (hc.1.r (by decide)) ?_
    refine gw_al (hc.1.t (r := 17) rfl) (hc.1.l (r := 17) rfl) ?_
    have lo4 : (Int32.ofNat 100).toInt = 100 := rfl
    refine gw_lt (fun h28_5 => ?_) (fun h28_5 => ?_)
    ·
      refine gw_gRa 15 (hc.1.c (r := 1) rfl) (hc.1.r (by decide)) ?_
      refine gw_gRa 17 (hc.1.c (r := 15) rfl) (hc.1.r (by decide)) ?_
      refine gw_gRa 15 (hc.1.c (r := 1) rfl) (hc.1.r (by decide)) ?_
      refine gw_gI (hc.1.c (r := 15) rfl) (fun v6 ev6 => ?_)
      have bv6 := hc.n4
      have dv6 : v6.toInt = (μ.2.1 15 4).toInt := by rw [ev6]
      refine gw_sI (i := v6) (hc.1.t (r := 17) rfl) (hc.1.l (r := 17) rfl) (by omega) (by omega) (fun m7 em7 => ?_)
      have sm7 := gS.w hc.1 em7
      have rm7 : m7.2.1 66 = μ.2.1 66 := r66w rfl em7 (by decide)
      refine gw_gRa 15 ((And.intro sm7 True.intro : _ ∧ True).1.c (r := 1) rfl) ((And.intro sm7 True.intro : _ ∧ True).1.r (by decide)) ?_
      refine gw_gI ((And.intro sm7 True.intro : _ ∧ True).1.c (r := 15) rfl) (fun v8 ev8 => ?_)
      have wv8 : v8.toInt = (μ.2.1 15 4).toInt := by rw [ev8, rdo em7 (by decide)]
      have nv8 : (v8 + (1 : Int32)).toInt = v8.toInt + (1 : Int32).toInt := gx_add (by omega) (by omega)
      refine gw_pI ((And.intro sm7 True.intro : _ ∧ True).1.c (r := 15) rfl) (fun m9 em9 => ?_)
      have sm9 := gS.w sm7 em9
      have rm9 : m9.2.1 66 = μ.2.1 66 := r66w rm7 em9 (by decide)
      refine gw_gRa 15 ((And.intro sm9 True.intro : _ ∧ True).1.c (r := 1) rfl) ((And.intro sm9 True.intro : _ ∧ True).1.r (by decide)) ?_
      refine gw_gI ((And.intro sm9 True.intro : _ ∧ True).1.c (r := 15) rfl) (fun v10 ev10 => ?_)
      exact gw_some (gq_I (by first | (exfalso; omega) | exact h | (subst em9; subst em7; exact A_feedc h (by omega) (by omega) _)))
    ·
      exact gw_some (gq_I (by first | (exfalso; omega) | exact h | (skip; exact A_feedc h (by omega) (by omega) _)))
  ·
    exact gw_some (gq_I (by first | (exfalso; omega) | exact h | (skip; exact A_feedc h (by omega) (by omega) _)))
set_option maxHeartbeats 2000000 in
theorem m_feed {μ : gm_M} (h : ALL μ) {a1 : Int32} : gwI (f_X12_feed 65 a1 μ) (fun _ m => ALL m) := by
  refine gwI_of ?_
  unfold f_X12_feed
  have hm := h.1
  have lm4 : (-4 : Int32).toInt = -4 := rfl
  have lm2 : (-2 : Int32).toInt = -2 := rfl
  have l0 : (0 : Int32).toInt = 0 := rfl
  have l1 : (1 : Int32).toInt = 1 := rfl
  have l31 : (31 : Int32).toInt = 31 := rfl
  have l100 : (100 : Int32).toInt = 100 := rfl
  have l110 : (110 : Int32).toInt = 110 := rfl
  have l127 : (127 : Int32).toInt = 127 := rfl
  have N31 := hm.n31
  have T_μ : μ.2.1 66 31 = μ.2.1 66 31 := rfl
  refine gw_bI (s_X12_in ) (fun x1 m1 ⟨z1, f1⟩ => ?_)
  replace z1 := z1.symm
  subst z1
  refine gw_ne (fun h7_2 => ?_) (fun h7_2 => ?_)
  ·
    refine gw_gRa 66 (hm.1.c (r := 65) rfl) (hm.1.r (by decide)) ?_
    refine gw_aI (i := (31 : Int32)) (hm.1.t (r := 66) rfl) (hm.1.l (r := 66) rfl) (by omega) (by omega) (fun v3 ev3 => ?_)
    have cv3 : v3 = μ.2.1 66 31 := ev3
    have bv3 := hm.n31
    have dv3 : v3.toInt = (μ.2.1 66 31).toInt := by rw [cv3]
    rw [← dv3] at bv3
    have wv3 : v3 = μ.2.1 66 31 := ev3.trans T_μ
    have uv3 : v3.toInt = (μ.2.1 66 31).toInt := by rw [wv3]
    refine gw_ne (fun h22_4 => ?_) (fun h22_4 => ?_)
    ·
      refine gw_gRa 66 (hm.1.c (r := 65) rfl) (hm.1.r (by decide)) ?_
      refine gw_gRa 66 (hm.1.c (r := 65) rfl) (hm.1.r (by decide)) ?_
      refine gw_aI (i := (31 : Int32)) (hm.1.t (r := 66) rfl) (hm.1.l (r := 66) rfl) (by omega) (by omega) (fun v5 ev5 => ?_)
      have cv5 : v5 = μ.2.1 66 31 := ev5
      have bv5 := hm.n31
      have dv5 : v5.toInt = (μ.2.1 66 31).toInt := by rw [cv5]
      rw [← dv5] at bv5
      have wv5 : v5 = μ.2.1 66 31 := ev5.trans T_μ
      have uv5 : v5.toInt = (μ.2.1 66 31).toInt := by rw [wv5]
      have n6 : ((110 : Int32) + v5).toInt = (110 : Int32).toInt + v5.toInt := gx_add (by omega) (by omega)
      refine gw_sI (i := ((110 : Int32) + v5)) (hm.1.t (r := 66) rfl) (hm.1.l (r := 66) rfl) (by omega) (by omega) (fun m7 em7 => ?_)
      have sm7 := gS.w hm.1 em7
      rw [show ((110 : Int32) + v5).toInt.toNat = 110 + (μ.2.1 66 31).toInt.toNat from by omega] at em7
      have T_m7 : m7.2.1 66 31 = μ.2.1 66 31 := (rdn em7 (by omega)).trans T_μ
      refine gw_gRa 66 ((And.intro sm7 True.intro : _ ∧ True).1.c (r := 65) rfl) ((And.intro sm7 True.intro : _ ∧ True).1.r (by decide)) ?_
      refine gw_aI (i := (31 : Int32)) ((And.intro sm7 True.intro : _ ∧ True).1.t (r := 66) rfl) ((And.intro sm7 True.intro : _ ∧ True).1.l (r := 66) rfl) (by omega) (by omega) (fun v8 ev8 => ?_)
      have cv8 : v8 = m7.2.1 66 31 := ev8
      have wv8 : v8 = μ.2.1 66 31 := ev8.trans T_m7
      have uv8 : v8.toInt = (μ.2.1 66 31).toInt := by rw [wv8]
      refine gw_sI (i := (31 : Int32)) ((And.intro sm7 True.intro : _ ∧ True).1.t (r := 66) rfl) ((And.intro sm7 True.intro : _ ∧ True).1.l (r := 66) rfl) (by omega) (by omega) (fun m9 em9 => ?_)
      have sm9 := gS.w sm7 em9
      rw [show (31 : Int32).toInt.toNat = 31 from by omega] at em9
      rw [wv8] at em9
      refine gw_gRa 66 ((And.intro sm9 True.intro : _ ∧ True).1.c (r := 65) rfl) ((And.intro sm9 True.intro : _ ∧ True).1.r (by decide)) ?_
      refine gw_aI (i := (31 : Int32)) ((And.intro sm9 True.intro : _ ∧ True).1.t (r := 66) rfl) ((And.intro sm9 True.intro : _ ∧ True).1.l (r := 66) rfl) (by omega) (by omega) (fun v10 ev10 => ?_)
      have cv10 : v10 = m9.2.1 66 31 := ev10
      exact gw_some (gq_I (by first | (exfalso; omega) | exact h | (subst em9; subst em7; exact A_feedm h (by omega) (by omega) _)))
    ·
      exact gw_some (gq_I (by first | (exfalso; omega) | exact h | (skip; exact A_feedm h (by omega) (by omega) _)))
  ·
    exact gw_some (gq_I (by first | (exfalso; omega) | exact h | (skip; exact A_feedm h (by omega) (by omega) _)))
