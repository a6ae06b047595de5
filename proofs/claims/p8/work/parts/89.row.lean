set_option maxHeartbeats 2000000 in
theorem p_row {μ : gm_M} (h : ALL μ) {a1 : Int32} {a2 : Int32} {a3 : Int32} : gwI (f_X11_row 1 a1 a2 a3 μ) (fun x m => gwI (f_X12_row 65 a1 a2 a3 m) (fun y m2 => y = x ∧ ALL m2)) := by
  refine gwI_of ?_
  unfold f_X11_row
  have hc := h.2.2.1
  have lm3 : (-3 : Int32).toInt = -3 := rfl
  have lm2 : (-2 : Int32).toInt = -2 := rfl
  have lm1 : (-1 : Int32).toInt = -1 := rfl
  have l0 : (0 : Int32).toInt = 0 := rfl
  have l3 : (3 : Int32).toInt = 3 := rfl
  have l4 : (4 : Int32).toInt = 4 := rfl
  have l6 : (6 : Int32).toInt = 6 := rfl
  have l9 : (9 : Int32).toInt = 9 := rfl
  have l33 : (33 : Int32).toInt = 33 := rfl
  have l43 : (43 : Int32).toInt = 43 := rfl
  have L26 := h.n26
  refine gw_if (hc.1.t (r := 1) rfl) ?_
  refine gw_bI (s_X11_isNobody hc ) (fun x1 m1 ⟨z1, f1⟩ => ?_)
  replace z1 := z1.symm
  subst z1
  refine gw_ne (fun h5_2 => ?_) (fun h5_2 => ?_)
  ·
    refine gw_some (gq_I ?_)
    have hm := h.1
    refine gwI_of ?_
    unfold f_X12_row
    refine gw_if (hm.1.t (r := 65) rfl) ?_
    refine gw_bI (s_X12_isChild hm ) (fun x3 m3 ⟨z3, f3⟩ => ?_)
    replace z3 := z3.symm
    subst z3
    refine gw_eq (fun h5_4 => ?_) (fun h5_4 => ?_)
    ·
      exact gw_some (gq_I (by first | (exfalso; omega) | exact ⟨rfl, h⟩ | (refine ⟨by rw [VAL, VALC, hv]; exact (h.rw _ _ (by omega) (by omega)).symm, ?_⟩; skip; rw [hv]; exact A_row h (by omega) (by omega) _)))
    ·
      refine gw_bI (s_X12_in ) (fun x5 m5 ⟨z5, f5⟩ => ?_)
      replace z5 := z5.symm
      subst z5
      refine gw_ne (fun h14_6 => ?_) (fun h14_6 => ?_)
      ·
        refine gw_bI (s_X12_in ) (fun x7 m7 ⟨z7, f7⟩ => ?_)
        replace z7 := z7.symm
        subst z7
        refine gw_ne (fun h26_8 => ?_) (fun h26_8 => ?_)
        ·
          refine gw_gRa 66 (hm.1.c (r := 65) rfl) (hm.1.r (by decide)) ?_
          have n9 : ((33 : Int32) + a1).toInt = (33 : Int32).toInt + a1.toInt := gx_add (by omega) (by omega)
          refine gw_aI (i := ((33 : Int32) + a1)) (hm.1.t (r := 66) rfl) (hm.1.l (r := 66) rfl) (by omega) (by omega) (fun v10 ev10 => ?_)
          have KD : v10.toInt = (μ.2.1 66 (33 + a1.toInt.toNat)).toInt := by rw [ev10, show ((33 : Int32) + a1).toInt.toNat = 33 + a1.toInt.toNat from by omega]
          refine gw_eq (fun h43_11 => ?_) (fun h43_11 => ?_)
          ·
            refine gw_gRa 66 (hm.1.c (r := 65) rfl) (hm.1.r (by decide)) ?_
            have n12 : ((4 : Int32) * a1).toInt = 4 * a1.toInt := gx_mul 4 rfl (by omega) (by omega)
            have n13 : ((43 : Int32) + ((4 : Int32) * a1)).toInt = (43 : Int32).toInt + ((4 : Int32) * a1).toInt := gx_add (by omega) (by omega)
            have n14 : (((43 : Int32) + ((4 : Int32) * a1)) + a2).toInt = ((43 : Int32) + ((4 : Int32) * a1)).toInt + a2.toInt := gx_add (by omega) (by omega)
            refine gw_aI (i := (((43 : Int32) + ((4 : Int32) * a1)) + a2)) (hm.1.t (r := 66) rfl) (hm.1.l (r := 66) rfl) (by omega) (by omega) (fun v15 ev15 => ?_)
            have VAL : v15 = μ.2.1 66 (43 + 4 * a1.toInt.toNat + a2.toInt.toNat) := by rw [ev15, show (((43 : Int32) + ((4 : Int32) * a1)) + a2).toInt.toNat = 43 + 4 * a1.toInt.toNat + a2.toInt.toNat from by omega]
            refine gw_gRa 66 (hm.1.c (r := 65) rfl) (hm.1.r (by decide)) ?_
            have n16 : ((4 : Int32) * a1).toInt = 4 * a1.toInt := gx_mul 4 rfl (by omega) (by omega)
            have n17 : ((43 : Int32) + ((4 : Int32) * a1)).toInt = (43 : Int32).toInt + ((4 : Int32) * a1).toInt := gx_add (by omega) (by omega)
            have n18 : (((43 : Int32) + ((4 : Int32) * a1)) + a2).toInt = ((43 : Int32) + ((4 : Int32) * a1)).toInt + a2.toInt := gx_add (by omega) (by omega)
            refine gw_sI (i := (((43 : Int32) + ((4 : Int32) * a1)) + a2)) (hm.1.t (r := 66) rfl) (hm.1.l (r := 66) rfl) (by omega) (by omega) (fun m19 em19 => ?_)
            have sm19 := gS.w hc.1 em19
            rw [show (((43 : Int32) + ((4 : Int32) * a1)) + a2).toInt.toNat = 43 + 4 * a1.toInt.toNat + a2.toInt.toNat from by omega] at em19
            exact gw_some (gq_I (by first | (exfalso; omega) | exact ⟨rfl, h⟩ | (refine ⟨by rw [VAL, VALC, hv]; exact (h.rw _ _ (by omega) (by omega)).symm, ?_⟩; subst em19; rw [hv]; exact A_row h (by omega) (by omega) _)))
          ·
            exact gw_some (gq_I (by first | (exfalso; omega) | exact ⟨rfl, h⟩ | (refine ⟨by rw [VAL, VALC, hv]; exact (h.rw _ _ (by omega) (by omega)).symm, ?_⟩; skip; rw [hv]; exact A_row h (by omega) (by omega) _)))
        ·
          exact gw_some (gq_I (by first | (exfalso; omega) | exact ⟨rfl, h⟩ | (refine ⟨by rw [VAL, VALC, hv]; exact (h.rw _ _ (by omega) (by omega)).symm, ?_⟩; skip; rw [hv]; exact A_row h (by omega) (by omega) _)))
      ·
        exact gw_some (gq_I (by first | (exfalso; omega) | exact ⟨rfl, h⟩ | (refine ⟨by rw [VAL, VALC, hv]; exact (h.rw _ _ (by omega) (by omega)).symm, ?_⟩; skip; rw [hv]; exact A_row h (by omega) (by omega) _)))
  ·
    refine gw_bI (s_X11_isOutside ) (fun x20 m20 ⟨z20, f20⟩ => ?_)
    replace z20 := z20.symm
    subst z20
    refine gw_eq (fun h14_21 => ?_) (fun h14_21 => ?_)
    ·
      refine gw_bI (s_X11_isOutside ) (fun x22 m22 ⟨z22, f22⟩ => ?_)
      replace z22 := z22.symm
      subst z22
      refine gw_eq (fun h26_23 => ?_) (fun h26_23 => ?_)
      ·
        refine gw_gRa 15 (hc.1.c (r := 1) rfl) (hc.1.r (by decide)) ?_
        refine gw_gRa 16 (hc.1.c (r := 15) rfl) (hc.1.r (by decide)) ?_
        refine gw_aR (i := a1) (hc.1.t (r := 16) rfl) (hc.1.l (r := 16) rfl) (by omega) (by omega) (fun v24 ev24 => ?_)
        have cv24 : isch v24 := by rw [ev24]; exact isch.of hc.1 (by omega) (by omega)
        have hv := h.ch (by omega) (by omega) ev24
        refine gw_gR (ict.c hc.1 (Or.inl cv24)) (fun v25 ev25 => ?_)
        have cv25 : kid v25 := by rw [ev25]; exact hc.kd (Or.inl cv24)
        have kk : ((v25 : Nat) : Int) = 8 + (μ.2.1 66 (33 + a1.toInt.toNat)).toInt := by rw [ev25, hv]; exact h.kd _ (by omega)
        refine gw_io (by rcases kid.t hc.1 cv25 with q | q | q | q | q | q | q <;> rw [q] <;> decide) (fun v26 iv26 => ?_)
        have jv26 : v26.toInt = 0 ∨ v26.toInt = 1 := iv26.elim (fun q => Or.inr q.1) (fun q => Or.inl q.1)
        have k15 := kid15 hc.1 cv25 iv26
        refine gw_ne (fun h51_27 => ?_) (fun h51_27 => ?_)
        ·
          refine gw_gRa (v24 + 1) (ict.c hc.1 (Or.inl cv24)) (ict.row hc.1 (Or.inl cv24)) ?_
          refine gw_aI (i := a2) (ict.rt hc.1 (Or.inl cv24)) (ict.rl hc.1 (Or.inl cv24)) (by omega) (by omega) (fun v29 ev29 => ?_)
          have VALC := ev29
          refine gw_gRa (v24 + 1) (ict.c hc.1 (Or.inl cv24)) (ict.row hc.1 (Or.inl cv24)) ?_
          refine gw_sI (i := a2) (ict.rt hc.1 (Or.inl cv24)) (ict.rl hc.1 (Or.inl cv24)) (by omega) (by omega) (fun m31 em31 => ?_)
          have sm31 := gS.w hc.1 em31
          have rm31 : m31.2.1 66 = μ.2.1 66 := r66w rfl em31 (ict.n66 (Or.inl cv24)).2
          refine gw_some (gq_I ?_)
          have hm : MI m31 := ⟨sm31, by rw [rm31]; exact h.1.2⟩
          refine gwI_of ?_
          unfold f_X12_row
          refine gw_if (hm.1.t (r := 65) rfl) ?_
          refine gw_bI (s_X12_isChild hm ) (fun x32 m32 ⟨z32, f32⟩ => ?_)
          replace z32 := z32.symm
          subst z32
          rw [rm31] at f32
          refine gw_eq (fun h5_33 => ?_) (fun h5_33 => ?_)
          ·
            exact gw_some (gq_I (by first | (exfalso; omega) | exact ⟨rfl, h⟩ | (refine ⟨by rw [VAL, VALC, hv]; exact (h.rw _ _ (by omega) (by omega)).symm, ?_⟩; subst em31; rw [hv]; exact A_row h (by omega) (by omega) _)))
          ·
            refine gw_bI (s_X12_in ) (fun x34 m34 ⟨z34, f34⟩ => ?_)
            replace z34 := z34.symm
            subst z34
            refine gw_ne (fun h14_35 => ?_) (fun h14_35 => ?_)
            ·
              refine gw_bI (s_X12_in ) (fun x36 m36 ⟨z36, f36⟩ => ?_)
              replace z36 := z36.symm
              subst z36
              refine gw_ne (fun h26_37 => ?_) (fun h26_37 => ?_)
              ·
                refine gw_gRa 66 (hm.1.c (r := 65) rfl) (hm.1.r (by decide)) ?_
                have n38 : ((33 : Int32) + a1).toInt = (33 : Int32).toInt + a1.toInt := gx_add (by omega) (by omega)
                refine gw_aI (i := ((33 : Int32) + a1)) (hm.1.t (r := 66) rfl) (hm.1.l (r := 66) rfl) (by omega) (by omega) (fun v39 ev39 => ?_)
                have KD : v39.toInt = (μ.2.1 66 (33 + a1.toInt.toNat)).toInt := by rw [ev39, rm31, show ((33 : Int32) + a1).toInt.toNat = 33 + a1.toInt.toNat from by omega]
                refine gw_eq (fun h43_40 => ?_) (fun h43_40 => ?_)
                ·
                  refine gw_gRa 66 (hm.1.c (r := 65) rfl) (hm.1.r (by decide)) ?_
                  have n41 : ((4 : Int32) * a1).toInt = 4 * a1.toInt := gx_mul 4 rfl (by omega) (by omega)
                  have n42 : ((43 : Int32) + ((4 : Int32) * a1)).toInt = (43 : Int32).toInt + ((4 : Int32) * a1).toInt := gx_add (by omega) (by omega)
                  have n43 : (((43 : Int32) + ((4 : Int32) * a1)) + a2).toInt = ((43 : Int32) + ((4 : Int32) * a1)).toInt + a2.toInt := gx_add (by omega) (by omega)
                  refine gw_aI (i := (((43 : Int32) + ((4 : Int32) * a1)) + a2)) (hm.1.t (r := 66) rfl) (hm.1.l (r := 66) rfl) (by omega) (by omega) (fun v44 ev44 => ?_)
                  have VAL : v44 = μ.2.1 66 (43 + 4 * a1.toInt.toNat + a2.toInt.toNat) := by rw [ev44, rm31, show (((43 : Int32) + ((4 : Int32) * a1)) + a2).toInt.toNat = 43 + 4 * a1.toInt.toNat + a2.toInt.toNat from by omega]
                  refine gw_gRa 66 (hm.1.c (r := 65) rfl) (hm.1.r (by decide)) ?_
                  have n45 : ((4 : Int32) * a1).toInt = 4 * a1.toInt := gx_mul 4 rfl (by omega) (by omega)
                  have n46 : ((43 : Int32) + ((4 : Int32) * a1)).toInt = (43 : Int32).toInt + ((4 : Int32) * a1).toInt := gx_add (by omega) (by omega)
                  have n47 : (((43 : Int32) + ((4 : Int32) * a1)) + a2).toInt = ((43 : Int32) + ((4 : Int32) * a1)).toInt + a2.toInt := gx_add (by omega) (by omega)
                  refine gw_sI (i := (((43 : Int32) + ((4 : Int32) * a1)) + a2)) (hm.1.t (r := 66) rfl) (hm.1.l (r := 66) rfl) (by omega) (by omega) (fun m48 em48 => ?_)
                  have sm48 := gS.w sm31 em48
                  rw [show (((43 : Int32) + ((4 : Int32) * a1)) + a2).toInt.toNat = 43 + 4 * a1.toInt.toNat + a2.toInt.toNat from by omega] at em48
                  exact gw_some (gq_I (by first | (exfalso; omega) | exact ⟨rfl, h⟩ | (refine ⟨by rw [VAL, VALC, hv]; exact (h.rw _ _ (by omega) (by omega)).symm, ?_⟩; subst em48; subst em31; rw [hv]; exact A_row h (by omega) (by omega) _)))
                ·
                  exact gw_some (gq_I (by first | (exfalso; omega) | exact ⟨rfl, h⟩ | (refine ⟨by rw [VAL, VALC, hv]; exact (h.rw _ _ (by omega) (by omega)).symm, ?_⟩; subst em31; rw [hv]; exact A_row h (by omega) (by omega) _)))
              ·
                exact gw_some (gq_I (by first | (exfalso; omega) | exact ⟨rfl, h⟩ | (refine ⟨by rw [VAL, VALC, hv]; exact (h.rw _ _ (by omega) (by omega)).symm, ?_⟩; subst em31; rw [hv]; exact A_row h (by omega) (by omega) _)))
            ·
              exact gw_some (gq_I (by first | (exfalso; omega) | exact ⟨rfl, h⟩ | (refine ⟨by rw [VAL, VALC, hv]; exact (h.rw _ _ (by omega) (by omega)).symm, ?_⟩; subst em31; rw [hv]; exact A_row h (by omega) (by omega) _)))
        ·
          refine gw_some (gq_I ?_)
          have hm := h.1
          refine gwI_of ?_
          unfold f_X12_row
          refine gw_if (hm.1.t (r := 65) rfl) ?_
          refine gw_bI (s_X12_isChild hm ) (fun x49 m49 ⟨z49, f49⟩ => ?_)
          replace z49 := z49.symm
          subst z49
          refine gw_eq (fun h5_50 => ?_) (fun h5_50 => ?_)
          ·
            exact gw_some (gq_I (by first | (exfalso; omega) | exact ⟨rfl, h⟩ | (refine ⟨by rw [VAL, VALC, hv]; exact (h.rw _ _ (by omega) (by omega)).symm, ?_⟩; skip; rw [hv]; exact A_row h (by omega) (by omega) _)))
          ·
            refine gw_bI (s_X12_in ) (fun x51 m51 ⟨z51, f51⟩ => ?_)
            replace z51 := z51.symm
            subst z51
            refine gw_ne (fun h14_52 => ?_) (fun h14_52 => ?_)
            ·
              refine gw_bI (s_X12_in ) (fun x53 m53 ⟨z53, f53⟩ => ?_)
              replace z53 := z53.symm
              subst z53
              refine gw_ne (fun h26_54 => ?_) (fun h26_54 => ?_)
              ·
                refine gw_gRa 66 (hm.1.c (r := 65) rfl) (hm.1.r (by decide)) ?_
                have n55 : ((33 : Int32) + a1).toInt = (33 : Int32).toInt + a1.toInt := gx_add (by omega) (by omega)
                refine gw_aI (i := ((33 : Int32) + a1)) (hm.1.t (r := 66) rfl) (hm.1.l (r := 66) rfl) (by omega) (by omega) (fun v56 ev56 => ?_)
                have KD : v56.toInt = (μ.2.1 66 (33 + a1.toInt.toNat)).toInt := by rw [ev56, show ((33 : Int32) + a1).toInt.toNat = 33 + a1.toInt.toNat from by omega]
                refine gw_eq (fun h43_57 => ?_) (fun h43_57 => ?_)
                ·
                  refine gw_gRa 66 (hm.1.c (r := 65) rfl) (hm.1.r (by decide)) ?_
                  have n58 : ((4 : Int32) * a1).toInt = 4 * a1.toInt := gx_mul 4 rfl (by omega) (by omega)
                  have n59 : ((43 : Int32) + ((4 : Int32) * a1)).toInt = (43 : Int32).toInt + ((4 : Int32) * a1).toInt := gx_add (by omega) (by omega)
                  have n60 : (((43 : Int32) + ((4 : Int32) * a1)) + a2).toInt = ((43 : Int32) + ((4 : Int32) * a1)).toInt + a2.toInt := gx_add (by omega) (by omega)
                  refine gw_aI (i := (((43 : Int32) + ((4 : Int32) * a1)) + a2)) (hm.1.t (r := 66) rfl) (hm.1.l (r := 66) rfl) (by omega) (by omega) (fun v61 ev61 => ?_)
                  have VAL : v61 = μ.2.1 66 (43 + 4 * a1.toInt.toNat + a2.toInt.toNat) := by rw [ev61, show (((43 : Int32) + ((4 : Int32) * a1)) + a2).toInt.toNat = 43 + 4 * a1.toInt.toNat + a2.toInt.toNat from by omega]
                  refine gw_gRa 66 (hm.1.c (r := 65) rfl) (hm.1.r (by decide)) ?_
                  have n62 : ((4 : Int32) * a1).toInt = 4 * a1.toInt := gx_mul 4 rfl (by omega) (by omega)
                  have n63 : ((43 : Int32) + ((4 : Int32) * a1)).toInt = (43 : Int32).toInt + ((4 : Int32) * a1).toInt := gx_add (by omega) (by omega)
                  have n64 : (((43 : Int32) + ((4 : Int32) * a1)) + a2).toInt = ((43 : Int32) + ((4 : Int32) * a1)).toInt + a2.toInt := gx_add (by omega) (by omega)
                  refine gw_sI (i := (((43 : Int32) + ((4 : Int32) * a1)) + a2)) (hm.1.t (r := 66) rfl) (hm.1.l (r := 66) rfl) (by omega) (by omega) (fun m65 em65 => ?_)
                  have sm65 := gS.w hc.1 em65
                  rw [show (((43 : Int32) + ((4 : Int32) * a1)) + a2).toInt.toNat = 43 + 4 * a1.toInt.toNat + a2.toInt.toNat from by omega] at em65
                  exact gw_some (gq_I (by first | (exfalso; omega) | exact ⟨rfl, h⟩ | (refine ⟨by rw [VAL, VALC, hv]; exact (h.rw _ _ (by omega) (by omega)).symm, ?_⟩; subst em65; rw [hv]; exact A_row h (by omega) (by omega) _)))
                ·
                  exact gw_some (gq_I (by first | (exfalso; omega) | exact ⟨rfl, h⟩ | (refine ⟨by rw [VAL, VALC, hv]; exact (h.rw _ _ (by omega) (by omega)).symm, ?_⟩; skip; rw [hv]; exact A_row h (by omega) (by omega) _)))
              ·
                exact gw_some (gq_I (by first | (exfalso; omega) | exact ⟨rfl, h⟩ | (refine ⟨by rw [VAL, VALC, hv]; exact (h.rw _ _ (by omega) (by omega)).symm, ?_⟩; skip; rw [hv]; exact A_row h (by omega) (by omega) _)))
            ·
              exact gw_some (gq_I (by first | (exfalso; omega) | exact ⟨rfl, h⟩ | (refine ⟨by rw [VAL, VALC, hv]; exact (h.rw _ _ (by omega) (by omega)).symm, ?_⟩; skip; rw [hv]; exact A_row h (by omega) (by omega) _)))
      ·
        refine gw_some (gq_I ?_)
        have hm := h.1
        refine gwI_of ?_
        unfold f_X12_row
        refine gw_if (hm.1.t (r := 65) rfl) ?_
        refine gw_bI (s_X12_isChild hm ) (fun x66 m66 ⟨z66, f66⟩ => ?_)
        replace z66 := z66.symm
        subst z66
        refine gw_eq (fun h5_67 => ?_) (fun h5_67 => ?_)
        ·
          exact gw_some (gq_I (by first | (exfalso; omega) | exact ⟨rfl, h⟩ | (refine ⟨by rw [VAL, VALC, hv]; exact (h.rw _ _ (by omega) (by omega)).symm, ?_⟩; skip; rw [hv]; exact A_row h (by omega) (by omega) _)))
        ·
          refine gw_bI (s_X12_in ) (fun x68 m68 ⟨z68, f68⟩ => ?_)
          replace z68 := z68.symm
          subst z68
          refine gw_ne (fun h14_69 => ?_) (fun h14_69 => ?_)
          ·
            refine gw_bI (s_X12_in ) (fun x70 m70 ⟨z70, f70⟩ => ?_)
            replace z70 := z70.symm
            subst z70
            refine gw_ne (fun h26_71 => ?_) (fun h26_71 => ?_)
            ·
              refine gw_gRa 66 (hm.1.c (r := 65) rfl) (hm.1.r (by decide)) ?_
              have n72 : ((33 : Int32) + a1).toInt = (33 : Int32).toInt + a1.toInt := gx_add (by omega) (by omega)
              refine gw_aI (i := ((33 : Int32) + a1)) (hm.1.t (r := 66) rfl) (hm.1.l (r := 66) rfl) (by omega) (by omega) (fun v73 ev73 => ?_)
              have KD : v73.toInt = (μ.2.1 66 (33 + a1.toInt.toNat)).toInt := by rw [ev73, show ((33 : Int32) + a1).toInt.toNat = 33 + a1.toInt.toNat from by omega]
              refine gw_eq (fun h43_74 => ?_) (fun h43_74 => ?_)
              ·
                refine gw_gRa 66 (hm.1.c (r := 65) rfl) (hm.1.r (by decide)) ?_
                have n75 : ((4 : Int32) * a1).toInt = 4 * a1.toInt := gx_mul 4 rfl (by omega) (by omega)
                have n76 : ((43 : Int32) + ((4 : Int32) * a1)).toInt = (43 : Int32).toInt + ((4 : Int32) * a1).toInt := gx_add (by omega) (by omega)
                have n77 : (((43 : Int32) + ((4 : Int32) * a1)) + a2).toInt = ((43 : Int32) + ((4 : Int32) * a1)).toInt + a2.toInt := gx_add (by omega) (by omega)
                refine gw_aI (i := (((43 : Int32) + ((4 : Int32) * a1)) + a2)) (hm.1.t (r := 66) rfl) (hm.1.l (r := 66) rfl) (by omega) (by omega) (fun v78 ev78 => ?_)
                have VAL : v78 = μ.2.1 66 (43 + 4 * a1.toInt.toNat + a2.toInt.toNat) := by rw [ev78, show (((43 : Int32) + ((4 : Int32) * a1)) + a2).toInt.toNat = 43 + 4 * a1.toInt.toNat + a2.toInt.toNat from by omega]
                refine gw_gRa 66 (hm.1.c (r := 65) rfl) (hm.1.r (by decide)) ?_
                have n79 : ((4 : Int32) * a1).toInt = 4 * a1.toInt := gx_mul 4 rfl (by omega) (by omega)
                have n80 : ((43 : Int32) + ((4 : Int32) * a1)).toInt = (43 : Int32).toInt + ((4 : Int32) * a1).toInt := gx_add (by omega) (by omega)
                have n81 : (((43 : Int32) + ((4 : Int32) * a1)) + a2).toInt = ((43 : Int32) + ((4 : Int32) * a1)).toInt + a2.toInt := gx_add (by omega) (by omega)
                refine gw_sI (i := (((43 : Int32) + ((4 : Int32) * a1)) + a2)) (hm.1.t (r := 66) rfl) (hm.1.l (r := 66) rfl) (by omega) (by omega) (fun m82 em82 => ?_)
                have sm82 := gS.w hc.1 em82
                rw [show (((43 : Int32) + ((4 : Int32) * a1)) + a2).toInt.toNat = 43 + 4 * a1.toInt.toNat + a2.toInt.toNat from by omega] at em82
                exact gw_some (gq_I (by first | (exfalso; omega) | exact ⟨rfl, h⟩ | (refine ⟨by rw [VAL, VALC, hv]; exact (h.rw _ _ (by omega) (by omega)).symm, ?_⟩; subst em82; rw [hv]; exact A_row h (by omega) (by omega) _)))
              ·
                exact gw_some (gq_I (by first | (exfalso; omega) | exact ⟨rfl, h⟩ | (refine ⟨by rw [VAL, VALC, hv]; exact (h.rw _ _ (by omega) (by omega)).symm, ?_⟩; skip; rw [hv]; exact A_row h (by omega) (by omega) _)))
            ·
              exact gw_some (gq_I (by first | (exfalso; omega) | exact ⟨rfl, h⟩ | (refine ⟨by rw [VAL, VALC, hv]; exact (h.rw _ _ (by omega) (by omega)).symm, ?_⟩; skip; rw [hv]; exact A_row h (by omega) (by omega) _)))
          ·
            exact gw_some (gq_I (by first | (exfalso; omega) | exact ⟨rfl, h⟩ | (refine ⟨by rw [VAL, VALC, hv]; exact (h.rw _ _ (by omega) (by omega)).symm, ?_⟩; skip; rw [hv]; exact A_row h (by omega) (by omega) _)))
    ·
      refine gw_some (gq_I ?_)
      have hm := h.1
      refine gwI_of ?_
      unfold f_X12_row
      refine gw_if (hm.1.t (r := 65) rfl) ?_
      refine gw_bI (s_X12_isChild hm ) (fun x83 m83 ⟨z83, f83⟩ => ?_)
      replace z83 := z83.symm
      subst z83
      refine gw_eq (fun h5_84 => ?_) (fun h5_84 => ?_)
      ·
        exact gw_some (gq_I (by first | (exfalso; omega) | exact ⟨rfl, h⟩ | (refine ⟨by rw [VAL, VALC, hv]; exact (h.rw _ _ (by omega) (by omega)).symm, ?_⟩; skip; rw [hv]; exact A_row h (by omega) (by omega) _)))
      ·
        refine gw_bI (s_X12_in ) (fun x85 m85 ⟨z85, f85⟩ => ?_)
        replace z85 := z85.symm
        subst z85
        refine gw_ne (fun h14_86 => ?_) (fun h14_86 => ?_)
        ·
          refine gw_bI (s_X12_in ) (fun x87 m87 ⟨z87, f87⟩ => ?_)
          replace z87 := z87.symm
          subst z87
          refine gw_ne (fun h26_88 => ?_) (fun h26_88 => ?_)
          ·
            refine gw_gRa 66 (hm.1.c (r := 65) rfl) (hm.1.r (by decide)) ?_
            have n89 : ((33 : Int32) + a1).toInt = (33 : Int32).toInt + a1.toInt := gx_add (by omega) (by omega)
            refine gw_aI (i := ((33 : Int32) + a1)) (hm.1.t (r := 66) rfl) (hm.1.l (r := 66) rfl) (by omega) (by omega) (fun v90 ev90 => ?_)
            have KD : v90.toInt = (μ.2.1 66 (33 + a1.toInt.toNat)).toInt := by rw [ev90, show ((33 : Int32) + a1).toInt.toNat = 33 + a1.toInt.toNat from by omega]
            refine gw_eq (fun h43_91 => ?_) (fun h43_91 => ?_)
            ·
              refine gw_gRa 66 (hm.1.c (r := 65) rfl) (hm.1.r (by decide)) ?_
              have n92 : ((4 : Int32) * a1).toInt = 4 * a1.toInt := gx_mul 4 rfl (by omega) (by omega)
              have n93 : ((43 : Int32) + ((4 : Int32) * a1)).toInt = (43 : Int32).toInt + ((4 : Int32) * a1).toInt := gx_add (by omega) (by omega)
              have n94 : (((43 : Int32) + ((4 : Int32) * a1)) + a2).toInt = ((43 : Int32) + ((4 : Int32) * a1)).toInt + a2.toInt := gx_add (by omega) (by omega)
              refine gw_aI (i := (((43 : Int32) + ((4 : Int32) * a1)) + a2)) (hm.1.t (r := 66) rfl) (hm.1.l (r := 66) rfl) (by omega) (by omega) (fun v95 ev95 => ?_)
              have VAL : v95 = μ.2.1 66 (43 + 4 * a1.toInt.toNat + a2.toInt.toNat) := by rw [ev95, show (((43 : Int32) + ((4 : Int32) * a1)) + a2).toInt.toNat = 43 + 4 * a1.toInt.toNat + a2.toInt.toNat from by omega]
              refine gw_gRa 66 (hm.1.c (r := 65) rfl) (hm.1.r (by decide)) ?_
              have n96 : ((4 : Int32) * a1).toInt = 4 * a1.toInt := gx_mul 4 rfl (by omega) (by omega)
              have n97 : ((43 : Int32) + ((4 : Int32) * a1)).toInt = (43 : Int32).toInt + ((4 : Int32) * a1).toInt := gx_add (by omega) (by omega)
              have n98 : (((43 : Int32) + ((4 : Int32) * a1)) + a2).toInt = ((43 : Int32) + ((4 : Int32) * a1)).toInt + a2.toInt := gx_add (by omega) (by omega)
              refine gw_sI (i := (((43 : Int32) + ((4 : Int32) * a1)) + a2)) (hm.1.t (r := 66) rfl) (hm.1.l (r := 66) rfl) (by omega) (by omega) (fun m99 em99 => ?_)
              have sm99 := gS.w hc.1 em99
              rw [show (((43 : Int32) + ((4 : Int32) * a1)) + a2).toInt.toNat = 43 + 4 * a1.toInt.toNat + a2.toInt.toNat from by omega] at em99
              exact gw_some (gq_I (by first | (exfalso; omega) | exact ⟨rfl, h⟩ | (refine ⟨by rw [VAL, VALC, hv]; exact (h.rw _ _ (by omega) (by omega)).symm, ?_⟩; subst em99; rw [hv]; exact A_row h (by omega) (by omega) _)))
            ·
              exact gw_some (gq_I (by first | (exfalso; omega) | exact ⟨rfl, h⟩ | (refine ⟨by rw [VAL, VALC, hv]; exact (h.rw _ _ (by omega) (by omega)).symm, ?_⟩; skip; rw [hv]; exact A_row h (by omega) (by omega) _)))
          ·
            exact gw_some (gq_I (by first | (exfalso; omega) | exact ⟨rfl, h⟩ | (refine ⟨by rw [VAL, VALC, hv]; exact (h.rw _ _ (by omega) (by omega)).symm, ?_⟩; skip; rw [hv]; exact A_row h (by omega) (by omega) _)))
        ·
          exact gw_some (gq_I (by first | (exfalso; omega) | exact ⟨rfl, h⟩ | (refine ⟨by rw [VAL, VALC, hv]; exact (h.rw _ _ (by omega) (by omega)).symm, ?_⟩; skip; rw [hv]; exact A_row h (by omega) (by omega) _)))
