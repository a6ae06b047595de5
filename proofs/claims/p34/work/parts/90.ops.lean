set_option maxHeartbeats 2000000 in
theorem p_see {μ : gm_M} (h : ALL μ) {a1 : Int32} {a2 : Int32} {a3 : Int32} : gwI (f_X11_see 1 a1 a2 a3 μ) (fun x m => gwI (f_X12_see 65 a1 a2 a3 m) (fun y m2 => y = x ∧ ALL m2)) := by
  refine gwI_of ?_
  unfold f_X11_see
  have hc := h.2.2.1
  have lm4 : (-4 : Int32).toInt = -4 := rfl
  have lm2 : (-2 : Int32).toInt = -2 := rfl
  have lm1 : (-1 : Int32).toInt = -1 := rfl
  have l0 : (0 : Int32).toInt = 0 := rfl
  have l1 : (1 : Int32).toInt = 1 := rfl
  have l5 : (5 : Int32).toInt = 5 := rfl
  have l20 : (20 : Int32).toInt = 20 := rfl
  have l28 : (28 : Int32).toInt = 28 := rfl
  have l63 : (63 : Int32).toInt = 63 := rfl
  have l68 : (68 : Int32).toInt = 68 := rfl
  have l73 : (73 : Int32).toInt = 73 := rfl
  have l999 : (999 : Int32).toInt = 999 := rfl
  have L26 := h.n26
  have L28 := h.n28
  have N28 := hc.n23
  have LL := hc.l23
  have E28 : μ.2.1 23 2 = μ.2.1 66 28 := h.2.2.2.1.1.2.2.1
  refine gw_ne (fun h2_1 => ?_) (fun h2_1 => ?_)
  ·
    refine gw_if (hc.1.t (r := 1) rfl) ?_
    refine gw_bI (s_X11_isNobody hc ) (fun x2 m2 ⟨z2, f2⟩ => ?_)
    replace z2 := z2.symm
    subst z2
    refine gw_eq (fun h21_3 => ?_) (fun h21_3 => ?_)
    ·
      refine gw_bI (s_X11_isOutside ) (fun x4 m4 ⟨z4, f4⟩ => ?_)
      replace z4 := z4.symm
      subst z4
      refine gw_ne (fun h34_5 => ?_) (fun h34_5 => ?_)
      ·
        refine gw_some (gq_I ?_)
        have hm := h.1
        have T_μ : μ.2.1 66 28 = μ.2.1 66 28 := by rfl
        refine gwI_of ?_
        unfold f_X12_see
        refine gw_ne (fun h2_6 => ?_) (fun h2_6 => ?_)
        ·
          refine gw_if (hm.1.t (r := 65) rfl) ?_
          refine gw_bI (s_X12_isChild hm ) (fun x7 m7 ⟨z7, f7⟩ => ?_)
          replace z7 := z7.symm
          subst z7
          refine gw_ne (fun h20_8 => ?_) (fun h20_8 => ?_)
          ·
            refine gw_bI (s_X12_in ) (fun x9 m9 ⟨z9, f9⟩ => ?_)
            replace z9 := z9.symm
            subst z9
            refine gw_eq (fun h33_10 => ?_) (fun h33_10 => ?_)
            ·
              exact gw_some (gq_I (by first | (exfalso; omega) | exact ⟨rfl, h⟩ | (refine ⟨VX.symm, ?_⟩; skip; exact A_clr h (by decide)) | (refine ⟨by rw [VY, VX, E28], ?_⟩; skip; exact A_see h (by omega) (by omega) (by omega) (by omega))))
            ·
              refine gw_bI (s_X12_in ) (fun x11 m11 ⟨z11, f11⟩ => ?_)
              replace z11 := z11.symm
              subst z11
              refine gw_ne (fun h43_12 => ?_) (fun h43_12 => ?_)
              ·
                refine gw_gRa 66 (hm.1.c (r := 65) rfl) (hm.1.r (by decide)) ?_
                refine gw_aI (i := (28 : Int32)) (hm.1.t (r := 66) rfl) (hm.1.l (r := 66) rfl) (by omega) (by omega) (fun v13 ev13 => ?_)
                have cv13 : v13 = μ.2.1 66 28 := ev13
                have bv13 := hm.n28
                have dv13 : v13.toInt = (μ.2.1 66 28).toInt := by rw [cv13]
                rw [← dv13] at bv13
                have wv13 : v13 = μ.2.1 66 28 := ev13.trans T_μ
                have uv13 : v13.toInt = (μ.2.1 66 28).toInt := by rw [wv13]
                refine gw_ne (fun h57_14 => ?_) (fun h57_14 => ?_)
                ·
                  refine gw_gRa 66 (hm.1.c (r := 65) rfl) (hm.1.r (by decide)) ?_
                  refine gw_gRa 66 (hm.1.c (r := 65) rfl) (hm.1.r (by decide)) ?_
                  refine gw_aI (i := (28 : Int32)) (hm.1.t (r := 66) rfl) (hm.1.l (r := 66) rfl) (by omega) (by omega) (fun v15 ev15 => ?_)
                  have cv15 : v15 = μ.2.1 66 28 := ev15
                  have bv15 := hm.n28
                  have dv15 : v15.toInt = (μ.2.1 66 28).toInt := by rw [cv15]
                  rw [← dv15] at bv15
                  have wv15 : v15 = μ.2.1 66 28 := ev15.trans T_μ
                  have uv15 : v15.toInt = (μ.2.1 66 28).toInt := by rw [wv15]
                  have n16 : ((63 : Int32) + v15).toInt = (63 : Int32).toInt + v15.toInt := gx_add (by omega) (by omega)
                  refine gw_sI (i := ((63 : Int32) + v15)) (hm.1.t (r := 66) rfl) (hm.1.l (r := 66) rfl) (by omega) (by omega) (fun m17 em17 => ?_)
                  have sm17 := gS.w hc.1 em17
                  rw [show ((63 : Int32) + v15).toInt.toNat = 63 + (μ.2.1 66 28).toInt.toNat from by omega] at em17
                  have T_m17 : m17.2.1 66 28 = μ.2.1 66 28 := (rdn em17 (by omega)).trans T_μ
                  refine gw_gRa 66 ((And.intro sm17 True.intro : _ ∧ True).1.c (r := 65) rfl) ((And.intro sm17 True.intro : _ ∧ True).1.r (by decide)) ?_
                  refine gw_gRa 66 ((And.intro sm17 True.intro : _ ∧ True).1.c (r := 65) rfl) ((And.intro sm17 True.intro : _ ∧ True).1.r (by decide)) ?_
                  refine gw_aI (i := (28 : Int32)) ((And.intro sm17 True.intro : _ ∧ True).1.t (r := 66) rfl) ((And.intro sm17 True.intro : _ ∧ True).1.l (r := 66) rfl) (by omega) (by omega) (fun v18 ev18 => ?_)
                  have cv18 : v18 = m17.2.1 66 28 := ev18
                  have wv18 : v18 = μ.2.1 66 28 := ev18.trans T_m17
                  have uv18 : v18.toInt = (μ.2.1 66 28).toInt := by rw [wv18]
                  have n19 : ((68 : Int32) + v18).toInt = (68 : Int32).toInt + v18.toInt := gx_add (by omega) (by omega)
                  refine gw_sI (i := ((68 : Int32) + v18)) ((And.intro sm17 True.intro : _ ∧ True).1.t (r := 66) rfl) ((And.intro sm17 True.intro : _ ∧ True).1.l (r := 66) rfl) (by omega) (by omega) (fun m20 em20 => ?_)
                  have sm20 := gS.w sm17 em20
                  rw [show ((68 : Int32) + v18).toInt.toNat = 68 + (μ.2.1 66 28).toInt.toNat from by omega] at em20
                  have T_m20 : m20.2.1 66 28 = μ.2.1 66 28 := (rdn em20 (by omega)).trans T_m17
                  refine gw_gRa 66 ((And.intro sm20 True.intro : _ ∧ True).1.c (r := 65) rfl) ((And.intro sm20 True.intro : _ ∧ True).1.r (by decide)) ?_
                  refine gw_gRa 66 ((And.intro sm20 True.intro : _ ∧ True).1.c (r := 65) rfl) ((And.intro sm20 True.intro : _ ∧ True).1.r (by decide)) ?_
                  refine gw_aI (i := (28 : Int32)) ((And.intro sm20 True.intro : _ ∧ True).1.t (r := 66) rfl) ((And.intro sm20 True.intro : _ ∧ True).1.l (r := 66) rfl) (by omega) (by omega) (fun v21 ev21 => ?_)
                  have cv21 : v21 = m20.2.1 66 28 := ev21
                  have wv21 : v21 = μ.2.1 66 28 := ev21.trans T_m20
                  have uv21 : v21.toInt = (μ.2.1 66 28).toInt := by rw [wv21]
                  have n22 : ((73 : Int32) + v21).toInt = (73 : Int32).toInt + v21.toInt := gx_add (by omega) (by omega)
                  refine gw_sI (i := ((73 : Int32) + v21)) ((And.intro sm20 True.intro : _ ∧ True).1.t (r := 66) rfl) ((And.intro sm20 True.intro : _ ∧ True).1.l (r := 66) rfl) (by omega) (by omega) (fun m23 em23 => ?_)
                  have sm23 := gS.w sm20 em23
                  rw [show ((73 : Int32) + v21).toInt.toNat = 73 + (μ.2.1 66 28).toInt.toNat from by omega] at em23
                  have T_m23 : m23.2.1 66 28 = μ.2.1 66 28 := (rdn em23 (by omega)).trans T_m20
                  refine gw_gRa 66 ((And.intro sm23 True.intro : _ ∧ True).1.c (r := 65) rfl) ((And.intro sm23 True.intro : _ ∧ True).1.r (by decide)) ?_
                  refine gw_aI (i := (28 : Int32)) ((And.intro sm23 True.intro : _ ∧ True).1.t (r := 66) rfl) ((And.intro sm23 True.intro : _ ∧ True).1.l (r := 66) rfl) (by omega) (by omega) (fun v24 ev24 => ?_)
                  have cv24 : v24 = m23.2.1 66 28 := ev24
                  have wv24 : v24 = μ.2.1 66 28 := ev24.trans T_m23
                  have uv24 : v24.toInt = (μ.2.1 66 28).toInt := by rw [wv24]
                  refine gw_sI (i := (28 : Int32)) ((And.intro sm23 True.intro : _ ∧ True).1.t (r := 66) rfl) ((And.intro sm23 True.intro : _ ∧ True).1.l (r := 66) rfl) (by omega) (by omega) (fun m25 em25 => ?_)
                  have sm25 := gS.w sm23 em25
                  rw [show (28 : Int32).toInt.toNat = 28 from by omega] at em25
                  rw [wv24] at em25
                  have VS := rde em25
                  refine gw_gRa 66 ((And.intro sm25 True.intro : _ ∧ True).1.c (r := 65) rfl) ((And.intro sm25 True.intro : _ ∧ True).1.r (by decide)) ?_
                  refine gw_aI (i := (28 : Int32)) ((And.intro sm25 True.intro : _ ∧ True).1.t (r := 66) rfl) ((And.intro sm25 True.intro : _ ∧ True).1.l (r := 66) rfl) (by omega) (by omega) (fun v26 ev26 => ?_)
                  have cv26 : v26 = m25.2.1 66 28 := ev26
                  have VY := ev26.trans VS
                  exact gw_some (gq_I (by first | (exfalso; omega) | exact ⟨rfl, h⟩ | (refine ⟨VX.symm, ?_⟩; subst em25; subst em23; subst em20; subst em17; exact A_clr h (by decide)) | (refine ⟨by rw [VY, VX, E28], ?_⟩; subst em25; subst em23; subst em20; subst em17; exact A_see h (by omega) (by omega) (by omega) (by omega))))
                ·
                  exact gw_some (gq_I (by first | (exfalso; omega) | exact ⟨rfl, h⟩ | (refine ⟨VX.symm, ?_⟩; skip; exact A_clr h (by decide)) | (refine ⟨by rw [VY, VX, E28], ?_⟩; skip; exact A_see h (by omega) (by omega) (by omega) (by omega))))
              ·
                exact gw_some (gq_I (by first | (exfalso; omega) | exact ⟨rfl, h⟩ | (refine ⟨VX.symm, ?_⟩; skip; exact A_clr h (by decide)) | (refine ⟨by rw [VY, VX, E28], ?_⟩; skip; exact A_see h (by omega) (by omega) (by omega) (by omega))))
          ·
            exact gw_some (gq_I (by first | (exfalso; omega) | exact ⟨rfl, h⟩ | (refine ⟨VX.symm, ?_⟩; skip; exact A_clr h (by decide)) | (refine ⟨by rw [VY, VX, E28], ?_⟩; skip; exact A_see h (by omega) (by omega) (by omega) (by omega))))
        ·
          refine gw_gRa 66 (hm.1.c (r := 65) rfl) (hm.1.r (by decide)) ?_
          refine gw_sI (i := (28 : Int32)) (hm.1.t (r := 66) rfl) (hm.1.l (r := 66) rfl) (by omega) (by omega) (fun m27 em27 => ?_)
          have sm27 := gS.w hc.1 em27
          rw [show (28 : Int32).toInt.toNat = 28 from by omega] at em27
          exact gw_some (gq_I (by first | (exfalso; omega) | exact ⟨rfl, h⟩ | (refine ⟨VX.symm, ?_⟩; subst em27; exact A_clr h (by decide)) | (refine ⟨by rw [VY, VX, E28], ?_⟩; subst em27; exact A_see h (by omega) (by omega) (by omega) (by omega))))
      ·
        refine gw_bI (s_X11_isOutside ) (fun x28 m28 ⟨z28, f28⟩ => ?_)
        replace z28 := z28.symm
        subst z28
        refine gw_eq (fun h44_29 => ?_) (fun h44_29 => ?_)
        ·
          refine gw_gRa 15 (hc.1.c (r := 1) rfl) (hc.1.r (by decide)) ?_
          refine gw_gRa 23 (hc.1.c (r := 15) rfl) (hc.1.r (by decide)) ?_
          refine gw_if (hc.1.t (r := 23) rfl) ?_
          refine gw_bI (s_isFull (r := 23) (hc.1.t rfl)) (fun x30 m30 z30 => ?_)
          obtain ⟨zz, FF⟩ := z30
          replace zz := zz.symm
          subst zz
          refine gw_eq (fun h60_31 => ?_) (fun h60_31 => ?_)
          ·
            refine gw_gRa 15 (hc.1.c (r := 1) rfl) (hc.1.r (by decide)) ?_
            refine gw_gRa 23 (hc.1.c (r := 15) rfl) (hc.1.r (by decide)) ?_
            refine gw_if (hc.1.t (r := 23) rfl) ?_
            refine gw_bI (s_add (r := 23) 5 (hc.1.t rfl) (hc.1.t rfl) (hc.1.l rfl) (hc.1.r (by decide)) hc.l23 hc.n23.1 (by omega) (by decide)) (fun x32 m32 z32 => ?_)
            obtain ⟨VX, ZD⟩ := z32
            have ZM : m32 = ad μ 23 a1 a2 a3 := by rcases ZD with ⟨-, q⟩ | ⟨q, -⟩; exact q; exfalso; omega
            have GS : gS m32 := by rw [ZM]; exact hc.1
            have R6 : m32.2.1 66 = μ.2.1 66 := by rw [ZM]; exact ad_o (by decide) (by decide)
            refine gw_some (gq_I ?_)
            have hm : MI m32 := ⟨GS, by rw [R6]; exact h.1.2⟩
            have T_m32 : m32.2.1 66 28 = μ.2.1 66 28 := by rw [R6]
            refine gwI_of ?_
            unfold f_X12_see
            refine gw_ne (fun h2_33 => ?_) (fun h2_33 => ?_)
            ·
              refine gw_if (hm.1.t (r := 65) rfl) ?_
              refine gw_bI (s_X12_isChild hm ) (fun x34 m34 ⟨z34, f34⟩ => ?_)
              replace z34 := z34.symm
              subst z34
              rw [R6] at f34
              refine gw_ne (fun h20_35 => ?_) (fun h20_35 => ?_)
              ·
                refine gw_bI (s_X12_in ) (fun x36 m36 ⟨z36, f36⟩ => ?_)
                replace z36 := z36.symm
                subst z36
                refine gw_eq (fun h33_37 => ?_) (fun h33_37 => ?_)
                ·
                  exact gw_some (gq_I (by first | (exfalso; omega) | exact ⟨rfl, h⟩ | (refine ⟨VX.symm, ?_⟩; subst ZM; exact A_clr h (by decide)) | (refine ⟨by rw [VY, VX, E28], ?_⟩; subst ZM; exact A_see h (by omega) (by omega) (by omega) (by omega))))
                ·
                  refine gw_bI (s_X12_in ) (fun x38 m38 ⟨z38, f38⟩ => ?_)
                  replace z38 := z38.symm
                  subst z38
                  refine gw_ne (fun h43_39 => ?_) (fun h43_39 => ?_)
                  ·
                    refine gw_gRa 66 (hm.1.c (r := 65) rfl) (hm.1.r (by decide)) ?_
                    refine gw_aI (i := (28 : Int32)) (hm.1.t (r := 66) rfl) (hm.1.l (r := 66) rfl) (by omega) (by omega) (fun v40 ev40 => ?_)
                    have cv40 : v40 = m32.2.1 66 28 := ev40
                    have bv40 := hm.n28
                    have dv40 : v40.toInt = (m32.2.1 66 28).toInt := by rw [cv40]
                    have yv40 : v40.toInt = (μ.2.1 66 28).toInt := by rw [dv40, R6]
                    rw [← dv40] at bv40
                    have wv40 : v40 = μ.2.1 66 28 := ev40.trans T_m32
                    have uv40 : v40.toInt = (μ.2.1 66 28).toInt := by rw [wv40]
                    refine gw_ne (fun h57_41 => ?_) (fun h57_41 => ?_)
                    ·
                      refine gw_gRa 66 (hm.1.c (r := 65) rfl) (hm.1.r (by decide)) ?_
                      refine gw_gRa 66 (hm.1.c (r := 65) rfl) (hm.1.r (by decide)) ?_
                      refine gw_aI (i := (28 : Int32)) (hm.1.t (r := 66) rfl) (hm.1.l (r := 66) rfl) (by omega) (by omega) (fun v42 ev42 => ?_)
                      have cv42 : v42 = m32.2.1 66 28 := ev42
                      have bv42 := hm.n28
                      have dv42 : v42.toInt = (m32.2.1 66 28).toInt := by rw [cv42]
                      have yv42 : v42.toInt = (μ.2.1 66 28).toInt := by rw [dv42, R6]
                      rw [← dv42] at bv42
                      have wv42 : v42 = μ.2.1 66 28 := ev42.trans T_m32
                      have uv42 : v42.toInt = (μ.2.1 66 28).toInt := by rw [wv42]
                      have n43 : ((63 : Int32) + v42).toInt = (63 : Int32).toInt + v42.toInt := gx_add (by omega) (by omega)
                      refine gw_sI (i := ((63 : Int32) + v42)) (hm.1.t (r := 66) rfl) (hm.1.l (r := 66) rfl) (by omega) (by omega) (fun m44 em44 => ?_)
                      have sm44 := gS.w GS em44
                      rw [show ((63 : Int32) + v42).toInt.toNat = 63 + (μ.2.1 66 28).toInt.toNat from by omega] at em44
                      have T_m44 : m44.2.1 66 28 = μ.2.1 66 28 := (rdn em44 (by omega)).trans T_m32
                      refine gw_gRa 66 ((And.intro sm44 True.intro : _ ∧ True).1.c (r := 65) rfl) ((And.intro sm44 True.intro : _ ∧ True).1.r (by decide)) ?_
                      refine gw_gRa 66 ((And.intro sm44 True.intro : _ ∧ True).1.c (r := 65) rfl) ((And.intro sm44 True.intro : _ ∧ True).1.r (by decide)) ?_
                      refine gw_aI (i := (28 : Int32)) ((And.intro sm44 True.intro : _ ∧ True).1.t (r := 66) rfl) ((And.intro sm44 True.intro : _ ∧ True).1.l (r := 66) rfl) (by omega) (by omega) (fun v45 ev45 => ?_)
                      have cv45 : v45 = m44.2.1 66 28 := ev45
                      have wv45 : v45 = μ.2.1 66 28 := ev45.trans T_m44
                      have uv45 : v45.toInt = (μ.2.1 66 28).toInt := by rw [wv45]
                      have n46 : ((68 : Int32) + v45).toInt = (68 : Int32).toInt + v45.toInt := gx_add (by omega) (by omega)
                      refine gw_sI (i := ((68 : Int32) + v45)) ((And.intro sm44 True.intro : _ ∧ True).1.t (r := 66) rfl) ((And.intro sm44 True.intro : _ ∧ True).1.l (r := 66) rfl) (by omega) (by omega) (fun m47 em47 => ?_)
                      have sm47 := gS.w sm44 em47
                      rw [show ((68 : Int32) + v45).toInt.toNat = 68 + (μ.2.1 66 28).toInt.toNat from by omega] at em47
                      have T_m47 : m47.2.1 66 28 = μ.2.1 66 28 := (rdn em47 (by omega)).trans T_m44
                      refine gw_gRa 66 ((And.intro sm47 True.intro : _ ∧ True).1.c (r := 65) rfl) ((And.intro sm47 True.intro : _ ∧ True).1.r (by decide)) ?_
                      refine gw_gRa 66 ((And.intro sm47 True.intro : _ ∧ True).1.c (r := 65) rfl) ((And.intro sm47 True.intro : _ ∧ True).1.r (by decide)) ?_
                      refine gw_aI (i := (28 : Int32)) ((And.intro sm47 True.intro : _ ∧ True).1.t (r := 66) rfl) ((And.intro sm47 True.intro : _ ∧ True).1.l (r := 66) rfl) (by omega) (by omega) (fun v48 ev48 => ?_)
                      have cv48 : v48 = m47.2.1 66 28 := ev48
                      have wv48 : v48 = μ.2.1 66 28 := ev48.trans T_m47
                      have uv48 : v48.toInt = (μ.2.1 66 28).toInt := by rw [wv48]
                      have n49 : ((73 : Int32) + v48).toInt = (73 : Int32).toInt + v48.toInt := gx_add (by omega) (by omega)
                      refine gw_sI (i := ((73 : Int32) + v48)) ((And.intro sm47 True.intro : _ ∧ True).1.t (r := 66) rfl) ((And.intro sm47 True.intro : _ ∧ True).1.l (r := 66) rfl) (by omega) (by omega) (fun m50 em50 => ?_)
                      have sm50 := gS.w sm47 em50
                      rw [show ((73 : Int32) + v48).toInt.toNat = 73 + (μ.2.1 66 28).toInt.toNat from by omega] at em50
                      have T_m50 : m50.2.1 66 28 = μ.2.1 66 28 := (rdn em50 (by omega)).trans T_m47
                      refine gw_gRa 66 ((And.intro sm50 True.intro : _ ∧ True).1.c (r := 65) rfl) ((And.intro sm50 True.intro : _ ∧ True).1.r (by decide)) ?_
                      refine gw_aI (i := (28 : Int32)) ((And.intro sm50 True.intro : _ ∧ True).1.t (r := 66) rfl) ((And.intro sm50 True.intro : _ ∧ True).1.l (r := 66) rfl) (by omega) (by omega) (fun v51 ev51 => ?_)
                      have cv51 : v51 = m50.2.1 66 28 := ev51
                      have wv51 : v51 = μ.2.1 66 28 := ev51.trans T_m50
                      have uv51 : v51.toInt = (μ.2.1 66 28).toInt := by rw [wv51]
                      refine gw_sI (i := (28 : Int32)) ((And.intro sm50 True.intro : _ ∧ True).1.t (r := 66) rfl) ((And.intro sm50 True.intro : _ ∧ True).1.l (r := 66) rfl) (by omega) (by omega) (fun m52 em52 => ?_)
                      have sm52 := gS.w sm50 em52
                      rw [show (28 : Int32).toInt.toNat = 28 from by omega] at em52
                      rw [wv51] at em52
                      have VS := rde em52
                      refine gw_gRa 66 ((And.intro sm52 True.intro : _ ∧ True).1.c (r := 65) rfl) ((And.intro sm52 True.intro : _ ∧ True).1.r (by decide)) ?_
                      refine gw_aI (i := (28 : Int32)) ((And.intro sm52 True.intro : _ ∧ True).1.t (r := 66) rfl) ((And.intro sm52 True.intro : _ ∧ True).1.l (r := 66) rfl) (by omega) (by omega) (fun v53 ev53 => ?_)
                      have cv53 : v53 = m52.2.1 66 28 := ev53
                      have VY := ev53.trans VS
                      exact gw_some (gq_I (by first | (exfalso; omega) | exact ⟨rfl, h⟩ | (refine ⟨VX.symm, ?_⟩; subst em52; subst em50; subst em47; subst em44; subst ZM; exact A_clr h (by decide)) | (refine ⟨by rw [VY, VX, E28], ?_⟩; subst em52; subst em50; subst em47; subst em44; subst ZM; exact A_see h (by omega) (by omega) (by omega) (by omega))))
                    ·
                      exact gw_some (gq_I (by first | (exfalso; omega) | exact ⟨rfl, h⟩ | (refine ⟨VX.symm, ?_⟩; subst ZM; exact A_clr h (by decide)) | (refine ⟨by rw [VY, VX, E28], ?_⟩; subst ZM; exact A_see h (by omega) (by omega) (by omega) (by omega))))
                  ·
                    exact gw_some (gq_I (by first | (exfalso; omega) | exact ⟨rfl, h⟩ | (refine ⟨VX.symm, ?_⟩; subst ZM; exact A_clr h (by decide)) | (refine ⟨by rw [VY, VX, E28], ?_⟩; subst ZM; exact A_see h (by omega) (by omega) (by omega) (by omega))))
              ·
                exact gw_some (gq_I (by first | (exfalso; omega) | exact ⟨rfl, h⟩ | (refine ⟨VX.symm, ?_⟩; subst ZM; exact A_clr h (by decide)) | (refine ⟨by rw [VY, VX, E28], ?_⟩; subst ZM; exact A_see h (by omega) (by omega) (by omega) (by omega))))
            ·
              refine gw_gRa 66 (hm.1.c (r := 65) rfl) (hm.1.r (by decide)) ?_
              refine gw_sI (i := (28 : Int32)) (hm.1.t (r := 66) rfl) (hm.1.l (r := 66) rfl) (by omega) (by omega) (fun m54 em54 => ?_)
              have sm54 := gS.w GS em54
              rw [show (28 : Int32).toInt.toNat = 28 from by omega] at em54
              exact gw_some (gq_I (by first | (exfalso; omega) | exact ⟨rfl, h⟩ | (refine ⟨VX.symm, ?_⟩; subst em54; subst ZM; exact A_clr h (by decide)) | (refine ⟨by rw [VY, VX, E28], ?_⟩; subst em54; subst ZM; exact A_see h (by omega) (by omega) (by omega) (by omega))))
          ·
            refine gw_some (gq_I ?_)
            have hm := h.1
            have T_μ : μ.2.1 66 28 = μ.2.1 66 28 := by rfl
            refine gwI_of ?_
            unfold f_X12_see
            refine gw_ne (fun h2_55 => ?_) (fun h2_55 => ?_)
            ·
              refine gw_if (hm.1.t (r := 65) rfl) ?_
              refine gw_bI (s_X12_isChild hm ) (fun x56 m56 ⟨z56, f56⟩ => ?_)
              replace z56 := z56.symm
              subst z56
              refine gw_ne (fun h20_57 => ?_) (fun h20_57 => ?_)
              ·
                refine gw_bI (s_X12_in ) (fun x58 m58 ⟨z58, f58⟩ => ?_)
                replace z58 := z58.symm
                subst z58
                refine gw_eq (fun h33_59 => ?_) (fun h33_59 => ?_)
                ·
                  exact gw_some (gq_I (by first | (exfalso; omega) | exact ⟨rfl, h⟩ | (refine ⟨VX.symm, ?_⟩; skip; exact A_clr h (by decide)) | (refine ⟨by rw [VY, VX, E28], ?_⟩; skip; exact A_see h (by omega) (by omega) (by omega) (by omega))))
                ·
                  refine gw_bI (s_X12_in ) (fun x60 m60 ⟨z60, f60⟩ => ?_)
                  replace z60 := z60.symm
                  subst z60
                  refine gw_ne (fun h43_61 => ?_) (fun h43_61 => ?_)
                  ·
                    refine gw_gRa 66 (hm.1.c (r := 65) rfl) (hm.1.r (by decide)) ?_
                    refine gw_aI (i := (28 : Int32)) (hm.1.t (r := 66) rfl) (hm.1.l (r := 66) rfl) (by omega) (by omega) (fun v62 ev62 => ?_)
                    have cv62 : v62 = μ.2.1 66 28 := ev62
                    have bv62 := hm.n28
                    have dv62 : v62.toInt = (μ.2.1 66 28).toInt := by rw [cv62]
                    rw [← dv62] at bv62
                    have wv62 : v62 = μ.2.1 66 28 := ev62.trans T_μ
                    have uv62 : v62.toInt = (μ.2.1 66 28).toInt := by rw [wv62]
                    refine gw_ne (fun h57_63 => ?_) (fun h57_63 => ?_)
                    ·
                      refine gw_gRa 66 (hm.1.c (r := 65) rfl) (hm.1.r (by decide)) ?_
                      refine gw_gRa 66 (hm.1.c (r := 65) rfl) (hm.1.r (by decide)) ?_
                      refine gw_aI (i := (28 : Int32)) (hm.1.t (r := 66) rfl) (hm.1.l (r := 66) rfl) (by omega) (by omega) (fun v64 ev64 => ?_)
                      have cv64 : v64 = μ.2.1 66 28 := ev64
                      have bv64 := hm.n28
                      have dv64 : v64.toInt = (μ.2.1 66 28).toInt := by rw [cv64]
                      rw [← dv64] at bv64
                      have wv64 : v64 = μ.2.1 66 28 := ev64.trans T_μ
                      have uv64 : v64.toInt = (μ.2.1 66 28).toInt := by rw [wv64]
                      have n65 : ((63 : Int32) + v64).toInt = (63 : Int32).toInt + v64.toInt := gx_add (by omega) (by omega)
                      refine gw_sI (i := ((63 : Int32) + v64)) (hm.1.t (r := 66) rfl) (hm.1.l (r := 66) rfl) (by omega) (by omega) (fun m66 em66 => ?_)
                      have sm66 := gS.w hc.1 em66
                      rw [show ((63 : Int32) + v64).toInt.toNat = 63 + (μ.2.1 66 28).toInt.toNat from by omega] at em66
                      have T_m66 : m66.2.1 66 28 = μ.2.1 66 28 := (rdn em66 (by omega)).trans T_μ
                      refine gw_gRa 66 ((And.intro sm66 True.intro : _ ∧ True).1.c (r := 65) rfl) ((And.intro sm66 True.intro : _ ∧ True).1.r (by decide)) ?_
                      refine gw_gRa 66 ((And.intro sm66 True.intro : _ ∧ True).1.c (r := 65) rfl) ((And.intro sm66 True.intro : _ ∧ True).1.r (by decide)) ?_
                      refine gw_aI (i := (28 : Int32)) ((And.intro sm66 True.intro : _ ∧ True).1.t (r := 66) rfl) ((And.intro sm66 True.intro : _ ∧ True).1.l (r := 66) rfl) (by omega) (by omega) (fun v67 ev67 => ?_)
                      have cv67 : v67 = m66.2.1 66 28 := ev67
                      have wv67 : v67 = μ.2.1 66 28 := ev67.trans T_m66
                      have uv67 : v67.toInt = (μ.2.1 66 28).toInt := by rw [wv67]
                      have n68 : ((68 : Int32) + v67).toInt = (68 : Int32).toInt + v67.toInt := gx_add (by omega) (by omega)
                      refine gw_sI (i := ((68 : Int32) + v67)) ((And.intro sm66 True.intro : _ ∧ True).1.t (r := 66) rfl) ((And.intro sm66 True.intro : _ ∧ True).1.l (r := 66) rfl) (by omega) (by omega) (fun m69 em69 => ?_)
                      have sm69 := gS.w sm66 em69
                      rw [show ((68 : Int32) + v67).toInt.toNat = 68 + (μ.2.1 66 28).toInt.toNat from by omega] at em69
                      have T_m69 : m69.2.1 66 28 = μ.2.1 66 28 := (rdn em69 (by omega)).trans T_m66
                      refine gw_gRa 66 ((And.intro sm69 True.intro : _ ∧ True).1.c (r := 65) rfl) ((And.intro sm69 True.intro : _ ∧ True).1.r (by decide)) ?_
                      refine gw_gRa 66 ((And.intro sm69 True.intro : _ ∧ True).1.c (r := 65) rfl) ((And.intro sm69 True.intro : _ ∧ True).1.r (by decide)) ?_
                      refine gw_aI (i := (28 : Int32)) ((And.intro sm69 True.intro : _ ∧ True).1.t (r := 66) rfl) ((And.intro sm69 True.intro : _ ∧ True).1.l (r := 66) rfl) (by omega) (by omega) (fun v70 ev70 => ?_)
                      have cv70 : v70 = m69.2.1 66 28 := ev70
                      have wv70 : v70 = μ.2.1 66 28 := ev70.trans T_m69
                      have uv70 : v70.toInt = (μ.2.1 66 28).toInt := by rw [wv70]
                      have n71 : ((73 : Int32) + v70).toInt = (73 : Int32).toInt + v70.toInt := gx_add (by omega) (by omega)
                      refine gw_sI (i := ((73 : Int32) + v70)) ((And.intro sm69 True.intro : _ ∧ True).1.t (r := 66) rfl) ((And.intro sm69 True.intro : _ ∧ True).1.l (r := 66) rfl) (by omega) (by omega) (fun m72 em72 => ?_)
                      have sm72 := gS.w sm69 em72
                      rw [show ((73 : Int32) + v70).toInt.toNat = 73 + (μ.2.1 66 28).toInt.toNat from by omega] at em72
                      have T_m72 : m72.2.1 66 28 = μ.2.1 66 28 := (rdn em72 (by omega)).trans T_m69
                      refine gw_gRa 66 ((And.intro sm72 True.intro : _ ∧ True).1.c (r := 65) rfl) ((And.intro sm72 True.intro : _ ∧ True).1.r (by decide)) ?_
                      refine gw_aI (i := (28 : Int32)) ((And.intro sm72 True.intro : _ ∧ True).1.t (r := 66) rfl) ((And.intro sm72 True.intro : _ ∧ True).1.l (r := 66) rfl) (by omega) (by omega) (fun v73 ev73 => ?_)
                      have cv73 : v73 = m72.2.1 66 28 := ev73
                      have wv73 : v73 = μ.2.1 66 28 := ev73.trans T_m72
                      have uv73 : v73.toInt = (μ.2.1 66 28).toInt := by rw [wv73]
                      refine gw_sI (i := (28 : Int32)) ((And.intro sm72 True.intro : _ ∧ True).1.t (r := 66) rfl) ((And.intro sm72 True.intro : _ ∧ True).1.l (r := 66) rfl) (by omega) (by omega) (fun m74 em74 => ?_)
                      have sm74 := gS.w sm72 em74
                      rw [show (28 : Int32).toInt.toNat = 28 from by omega] at em74
                      rw [wv73] at em74
                      have VS := rde em74
                      refine gw_gRa 66 ((And.intro sm74 True.intro : _ ∧ True).1.c (r := 65) rfl) ((And.intro sm74 True.intro : _ ∧ True).1.r (by decide)) ?_
                      refine gw_aI (i := (28 : Int32)) ((And.intro sm74 True.intro : _ ∧ True).1.t (r := 66) rfl) ((And.intro sm74 True.intro : _ ∧ True).1.l (r := 66) rfl) (by omega) (by omega) (fun v75 ev75 => ?_)
                      have cv75 : v75 = m74.2.1 66 28 := ev75
                      have VY := ev75.trans VS
                      exact gw_some (gq_I (by first | (exfalso; omega) | exact ⟨rfl, h⟩ | (refine ⟨VX.symm, ?_⟩; subst em74; subst em72; subst em69; subst em66; exact A_clr h (by decide)) | (refine ⟨by rw [VY, VX, E28], ?_⟩; subst em74; subst em72; subst em69; subst em66; exact A_see h (by omega) (by omega) (by omega) (by omega))))
                    ·
                      exact gw_some (gq_I (by first | (exfalso; omega) | exact ⟨rfl, h⟩ | (refine ⟨VX.symm, ?_⟩; skip; exact A_clr h (by decide)) | (refine ⟨by rw [VY, VX, E28], ?_⟩; skip; exact A_see h (by omega) (by omega) (by omega) (by omega))))
                  ·
                    exact gw_some (gq_I (by first | (exfalso; omega) | exact ⟨rfl, h⟩ | (refine ⟨VX.symm, ?_⟩; skip; exact A_clr h (by decide)) | (refine ⟨by rw [VY, VX, E28], ?_⟩; skip; exact A_see h (by omega) (by omega) (by omega) (by omega))))
              ·
                exact gw_some (gq_I (by first | (exfalso; omega) | exact ⟨rfl, h⟩ | (refine ⟨VX.symm, ?_⟩; skip; exact A_clr h (by decide)) | (refine ⟨by rw [VY, VX, E28], ?_⟩; skip; exact A_see h (by omega) (by omega) (by omega) (by omega))))
            ·
              refine gw_gRa 66 (hm.1.c (r := 65) rfl) (hm.1.r (by decide)) ?_
              refine gw_sI (i := (28 : Int32)) (hm.1.t (r := 66) rfl) (hm.1.l (r := 66) rfl) (by omega) (by omega) (fun m76 em76 => ?_)
              have sm76 := gS.w hc.1 em76
              rw [show (28 : Int32).toInt.toNat = 28 from by omega] at em76
              exact gw_some (gq_I (by first | (exfalso; omega) | exact ⟨rfl, h⟩ | (refine ⟨VX.symm, ?_⟩; subst em76; exact A_clr h (by decide)) | (refine ⟨by rw [VY, VX, E28], ?_⟩; subst em76; exact A_see h (by omega) (by omega) (by omega) (by omega))))
        ·
          refine gw_some (gq_I ?_)
          have hm := h.1
          have T_μ : μ.2.1 66 28 = μ.2.1 66 28 := by rfl
          refine gwI_of ?_
          unfold f_X12_see
          refine gw_ne (fun h2_77 => ?_) (fun h2_77 => ?_)
          ·
            refine gw_if (hm.1.t (r := 65) rfl) ?_
            refine gw_bI (s_X12_isChild hm ) (fun x78 m78 ⟨z78, f78⟩ => ?_)
            replace z78 := z78.symm
            subst z78
            refine gw_ne (fun h20_79 => ?_) (fun h20_79 => ?_)
            ·
              refine gw_bI (s_X12_in ) (fun x80 m80 ⟨z80, f80⟩ => ?_)
              replace z80 := z80.symm
              subst z80
              refine gw_eq (fun h33_81 => ?_) (fun h33_81 => ?_)
              ·
                exact gw_some (gq_I (by first | (exfalso; omega) | exact ⟨rfl, h⟩ | (refine ⟨VX.symm, ?_⟩; skip; exact A_clr h (by decide)) | (refine ⟨by rw [VY, VX, E28], ?_⟩; skip; exact A_see h (by omega) (by omega) (by omega) (by omega))))
              ·
                refine gw_bI (s_X12_in ) (fun x82 m82 ⟨z82, f82⟩ => ?_)
                replace z82 := z82.symm
                subst z82
                refine gw_ne (fun h43_83 => ?_) (fun h43_83 => ?_)
                ·
                  refine gw_gRa 66 (hm.1.c (r := 65) rfl) (hm.1.r (by decide)) ?_
                  refine gw_aI (i := (28 : Int32)) (hm.1.t (r := 66) rfl) (hm.1.l (r := 66) rfl) (by omega) (by omega) (fun v84 ev84 => ?_)
                  have cv84 : v84 = μ.2.1 66 28 := ev84
                  have bv84 := hm.n28
                  have dv84 : v84.toInt = (μ.2.1 66 28).toInt := by rw [cv84]
                  rw [← dv84] at bv84
                  have wv84 : v84 = μ.2.1 66 28 := ev84.trans T_μ
                  have uv84 : v84.toInt = (μ.2.1 66 28).toInt := by rw [wv84]
                  refine gw_ne (fun h57_85 => ?_) (fun h57_85 => ?_)
                  ·
                    refine gw_gRa 66 (hm.1.c (r := 65) rfl) (hm.1.r (by decide)) ?_
                    refine gw_gRa 66 (hm.1.c (r := 65) rfl) (hm.1.r (by decide)) ?_
                    refine gw_aI (i := (28 : Int32)) (hm.1.t (r := 66) rfl) (hm.1.l (r := 66) rfl) (by omega) (by omega) (fun v86 ev86 => ?_)
                    have cv86 : v86 = μ.2.1 66 28 := ev86
                    have bv86 := hm.n28
                    have dv86 : v86.toInt = (μ.2.1 66 28).toInt := by rw [cv86]
                    rw [← dv86] at bv86
                    have wv86 : v86 = μ.2.1 66 28 := ev86.trans T_μ
                    have uv86 : v86.toInt = (μ.2.1 66 28).toInt := by rw [wv86]
                    have n87 : ((63 : Int32) + v86).toInt = (63 : Int32).toInt + v86.toInt := gx_add (by omega) (by omega)
                    refine gw_sI (i := ((63 : Int32) + v86)) (hm.1.t (r := 66) rfl) (hm.1.l (r := 66) rfl) (by omega) (by omega) (fun m88 em88 => ?_)
                    have sm88 := gS.w hc.1 em88
                    rw [show ((63 : Int32) + v86).toInt.toNat = 63 + (μ.2.1 66 28).toInt.toNat from by omega] at em88
                    have T_m88 : m88.2.1 66 28 = μ.2.1 66 28 := (rdn em88 (by omega)).trans T_μ
                    refine gw_gRa 66 ((And.intro sm88 True.intro : _ ∧ True).1.c (r := 65) rfl) ((And.intro sm88 True.intro : _ ∧ True).1.r (by decide)) ?_
                    refine gw_gRa 66 ((And.intro sm88 True.intro : _ ∧ True).1.c (r := 65) rfl) ((And.intro sm88 True.intro : _ ∧ True).1.r (by decide)) ?_
                    refine gw_aI (i := (28 : Int32)) ((And.intro sm88 True.intro : _ ∧ True).1.t (r := 66) rfl) ((And.intro sm88 True.intro : _ ∧ True).1.l (r := 66) rfl) (by omega) (by omega) (fun v89 ev89 => ?_)
                    have cv89 : v89 = m88.2.1 66 28 := ev89
                    have wv89 : v89 = μ.2.1 66 28 := ev89.trans T_m88
                    have uv89 : v89.toInt = (μ.2.1 66 28).toInt := by rw [wv89]
                    have n90 : ((68 : Int32) + v89).toInt = (68 : Int32).toInt + v89.toInt := gx_add (by omega) (by omega)
                    refine gw_sI (i := ((68 : Int32) + v89)) ((And.intro sm88 True.intro : _ ∧ True).1.t (r := 66) rfl) ((And.intro sm88 True.intro : _ ∧ True).1.l (r := 66) rfl) (by omega) (by omega) (fun m91 em91 => ?_)
                    have sm91 := gS.w sm88 em91
                    rw [show ((68 : Int32) + v89).toInt.toNat = 68 + (μ.2.1 66 28).toInt.toNat from by omega] at em91
                    have T_m91 : m91.2.1 66 28 = μ.2.1 66 28 := (rdn em91 (by omega)).trans T_m88
                    refine gw_gRa 66 ((And.intro sm91 True.intro : _ ∧ True).1.c (r := 65) rfl) ((And.intro sm91 True.intro : _ ∧ True).1.r (by decide)) ?_
                    refine gw_gRa 66 ((And.intro sm91 True.intro : _ ∧ True).1.c (r := 65) rfl) ((And.intro sm91 True.intro : _ ∧ True).1.r (by decide)) ?_
                    refine gw_aI (i := (28 : Int32)) ((And.intro sm91 True.intro : _ ∧ True).1.t (r := 66) rfl) ((And.intro sm91 True.intro : _ ∧ True).1.l (r := 66) rfl) (by omega) (by omega) (fun v92 ev92 => ?_)
                    have cv92 : v92 = m91.2.1 66 28 := ev92
                    have wv92 : v92 = μ.2.1 66 28 := ev92.trans T_m91
                    have uv92 : v92.toInt = (μ.2.1 66 28).toInt := by rw [wv92]
                    have n93 : ((73 : Int32) + v92).toInt = (73 : Int32).toInt + v92.toInt := gx_add (by omega) (by omega)
                    refine gw_sI (i := ((73 : Int32) + v92)) ((And.intro sm91 True.intro : _ ∧ True).1.t (r := 66) rfl) ((And.intro sm91 True.intro : _ ∧ True).1.l (r := 66) rfl) (by omega) (by omega) (fun m94 em94 => ?_)
                    have sm94 := gS.w sm91 em94
                    rw [show ((73 : Int32) + v92).toInt.toNat = 73 + (μ.2.1 66 28).toInt.toNat from by omega] at em94
                    have T_m94 : m94.2.1 66 28 = μ.2.1 66 28 := (rdn em94 (by omega)).trans T_m91
                    refine gw_gRa 66 ((And.intro sm94 True.intro : _ ∧ True).1.c (r := 65) rfl) ((And.intro sm94 True.intro : _ ∧ True).1.r (by decide)) ?_
                    refine gw_aI (i := (28 : Int32)) ((And.intro sm94 True.intro : _ ∧ True).1.t (r := 66) rfl) ((And.intro sm94 True.intro : _ ∧ True).1.l (r := 66) rfl) (by omega) (by omega) (fun v95 ev95 => ?_)
                    have cv95 : v95 = m94.2.1 66 28 := ev95
                    have wv95 : v95 = μ.2.1 66 28 := ev95.trans T_m94
                    have uv95 : v95.toInt = (μ.2.1 66 28).toInt := by rw [wv95]
                    refine gw_sI (i := (28 : Int32)) ((And.intro sm94 True.intro : _ ∧ True).1.t (r := 66) rfl) ((And.intro sm94 True.intro : _ ∧ True).1.l (r := 66) rfl) (by omega) (by omega) (fun m96 em96 => ?_)
                    have sm96 := gS.w sm94 em96
                    rw [show (28 : Int32).toInt.toNat = 28 from by omega] at em96
                    rw [wv95] at em96
                    have VS := rde em96
                    refine gw_gRa 66 ((And.intro sm96 True.intro : _ ∧ True).1.c (r := 65) rfl) ((And.intro sm96 True.intro : _ ∧ True).1.r (by decide)) ?_
                    refine gw_aI (i := (28 : Int32)) ((And.intro sm96 True.intro : _ ∧ True).1.t (r := 66) rfl) ((And.intro sm96 True.intro : _ ∧ True).1.l (r := 66) rfl) (by omega) (by omega) (fun v97 ev97 => ?_)
                    have cv97 : v97 = m96.2.1 66 28 := ev97
                    have VY := ev97.trans VS
                    exact gw_some (gq_I (by first | (exfalso; omega) | exact ⟨rfl, h⟩ | (refine ⟨VX.symm, ?_⟩; subst em96; subst em94; subst em91; subst em88; exact A_clr h (by decide)) | (refine ⟨by rw [VY, VX, E28], ?_⟩; subst em96; subst em94; subst em91; subst em88; exact A_see h (by omega) (by omega) (by omega) (by omega))))
                  ·
                    exact gw_some (gq_I (by first | (exfalso; omega) | exact ⟨rfl, h⟩ | (refine ⟨VX.symm, ?_⟩; skip; exact A_clr h (by decide)) | (refine ⟨by rw [VY, VX, E28], ?_⟩; skip; exact A_see h (by omega) (by omega) (by omega) (by omega))))
                ·
                  exact gw_some (gq_I (by first | (exfalso; omega) | exact ⟨rfl, h⟩ | (refine ⟨VX.symm, ?_⟩; skip; exact A_clr h (by decide)) | (refine ⟨by rw [VY, VX, E28], ?_⟩; skip; exact A_see h (by omega) (by omega) (by omega) (by omega))))
            ·
              exact gw_some (gq_I (by first | (exfalso; omega) | exact ⟨rfl, h⟩ | (refine ⟨VX.symm, ?_⟩; skip; exact A_clr h (by decide)) | (refine ⟨by rw [VY, VX, E28], ?_⟩; skip; exact A_see h (by omega) (by omega) (by omega) (by omega))))
          ·
            refine gw_gRa 66 (hm.1.c (r := 65) rfl) (hm.1.r (by decide)) ?_
            refine gw_sI (i := (28 : Int32)) (hm.1.t (r := 66) rfl) (hm.1.l (r := 66) rfl) (by omega) (by omega) (fun m98 em98 => ?_)
            have sm98 := gS.w hc.1 em98
            rw [show (28 : Int32).toInt.toNat = 28 from by omega] at em98
            exact gw_some (gq_I (by first | (exfalso; omega) | exact ⟨rfl, h⟩ | (refine ⟨VX.symm, ?_⟩; subst em98; exact A_clr h (by decide)) | (refine ⟨by rw [VY, VX, E28], ?_⟩; subst em98; exact A_see h (by omega) (by omega) (by omega) (by omega))))
    ·
      refine gw_some (gq_I ?_)
      have hm := h.1
      have T_μ : μ.2.1 66 28 = μ.2.1 66 28 := by rfl
      refine gwI_of ?_
      unfold f_X12_see
      refine gw_ne (fun h2_99 => ?_) (fun h2_99 => ?_)
      ·
        refine gw_if (hm.1.t (r := 65) rfl) ?_
        refine gw_bI (s_X12_isChild hm ) (fun x100 m100 ⟨z100, f100⟩ => ?_)
        replace z100 := z100.symm
        subst z100
        refine gw_ne (fun h20_101 => ?_) (fun h20_101 => ?_)
        ·
          refine gw_bI (s_X12_in ) (fun x102 m102 ⟨z102, f102⟩ => ?_)
          replace z102 := z102.symm
          subst z102
          refine gw_eq (fun h33_103 => ?_) (fun h33_103 => ?_)
          ·
            exact gw_some (gq_I (by first | (exfalso; omega) | exact ⟨rfl, h⟩ | (refine ⟨VX.symm, ?_⟩; skip; exact A_clr h (by decide)) | (refine ⟨by rw [VY, VX, E28], ?_⟩; skip; exact A_see h (by omega) (by omega) (by omega) (by omega))))
          ·
            refine gw_bI (s_X12_in ) (fun x104 m104 ⟨z104, f104⟩ => ?_)
            replace z104 := z104.symm
            subst z104
            refine gw_ne (fun h43_105 => ?_) (fun h43_105 => ?_)
            ·
              refine gw_gRa 66 (hm.1.c (r := 65) rfl) (hm.1.r (by decide)) ?_
              refine gw_aI (i := (28 : Int32)) (hm.1.t (r := 66) rfl) (hm.1.l (r := 66) rfl) (by omega) (by omega) (fun v106 ev106 => ?_)
              have cv106 : v106 = μ.2.1 66 28 := ev106
              have bv106 := hm.n28
              have dv106 : v106.toInt = (μ.2.1 66 28).toInt := by rw [cv106]
              rw [← dv106] at bv106
              have wv106 : v106 = μ.2.1 66 28 := ev106.trans T_μ
              have uv106 : v106.toInt = (μ.2.1 66 28).toInt := by rw [wv106]
              refine gw_ne (fun h57_107 => ?_) (fun h57_107 => ?_)
              ·
                refine gw_gRa 66 (hm.1.c (r := 65) rfl) (hm.1.r (by decide)) ?_
                refine gw_gRa 66 (hm.1.c (r := 65) rfl) (hm.1.r (by decide)) ?_
                refine gw_aI (i := (28 : Int32)) (hm.1.t (r := 66) rfl) (hm.1.l (r := 66) rfl) (by omega) (by omega) (fun v108 ev108 => ?_)
                have cv108 : v108 = μ.2.1 66 28 := ev108
                have bv108 := hm.n28
                have dv108 : v108.toInt = (μ.2.1 66 28).toInt := by rw [cv108]
                rw [← dv108] at bv108
                have wv108 : v108 = μ.2.1 66 28 := ev108.trans T_μ
                have uv108 : v108.toInt = (μ.2.1 66 28).toInt := by rw [wv108]
                have n109 : ((63 : Int32) + v108).toInt = (63 : Int32).toInt + v108.toInt := gx_add (by omega) (by omega)
                refine gw_sI (i := ((63 : Int32) + v108)) (hm.1.t (r := 66) rfl) (hm.1.l (r := 66) rfl) (by omega) (by omega) (fun m110 em110 => ?_)
                have sm110 := gS.w hc.1 em110
                rw [show ((63 : Int32) + v108).toInt.toNat = 63 + (μ.2.1 66 28).toInt.toNat from by omega] at em110
                have T_m110 : m110.2.1 66 28 = μ.2.1 66 28 := (rdn em110 (by omega)).trans T_μ
                refine gw_gRa 66 ((And.intro sm110 True.intro : _ ∧ True).1.c (r := 65) rfl) ((And.intro sm110 True.intro : _ ∧ True).1.r (by decide)) ?_
                refine gw_gRa 66 ((And.intro sm110 True.intro : _ ∧ True).1.c (r := 65) rfl) ((And.intro sm110 True.intro : _ ∧ True).1.r (by decide)) ?_
                refine gw_aI (i := (28 : Int32)) ((And.intro sm110 True.intro : _ ∧ True).1.t (r := 66) rfl) ((And.intro sm110 True.intro : _ ∧ True).1.l (r := 66) rfl) (by omega) (by omega) (fun v111 ev111 => ?_)
                have cv111 : v111 = m110.2.1 66 28 := ev111
                have wv111 : v111 = μ.2.1 66 28 := ev111.trans T_m110
                have uv111 : v111.toInt = (μ.2.1 66 28).toInt := by rw [wv111]
                have n112 : ((68 : Int32) + v111).toInt = (68 : Int32).toInt + v111.toInt := gx_add (by omega) (by omega)
                refine gw_sI (i := ((68 : Int32) + v111)) ((And.intro sm110 True.intro : _ ∧ True).1.t (r := 66) rfl) ((And.intro sm110 True.intro : _ ∧ True).1.l (r := 66) rfl) (by omega) (by omega) (fun m113 em113 => ?_)
                have sm113 := gS.w sm110 em113
                rw [show ((68 : Int32) + v111).toInt.toNat = 68 + (μ.2.1 66 28).toInt.toNat from by omega] at em113
                have T_m113 : m113.2.1 66 28 = μ.2.1 66 28 := (rdn em113 (by omega)).trans T_m110
                refine gw_gRa 66 ((And.intro sm113 True.intro : _ ∧ True).1.c (r := 65) rfl) ((And.intro sm113 True.intro : _ ∧ True).1.r (by decide)) ?_
                refine gw_gRa 66 ((And.intro sm113 True.intro : _ ∧ True).1.c (r := 65) rfl) ((And.intro sm113 True.intro : _ ∧ True).1.r (by decide)) ?_
                refine gw_aI (i := (28 : Int32)) ((And.intro sm113 True.intro : _ ∧ True).1.t (r := 66) rfl) ((And.intro sm113 True.intro : _ ∧ True).1.l (r := 66) rfl) (by omega) (by omega) (fun v114 ev114 => ?_)
                have cv114 : v114 = m113.2.1 66 28 := ev114
                have wv114 : v114 = μ.2.1 66 28 := ev114.trans T_m113
                have uv114 : v114.toInt = (μ.2.1 66 28).toInt := by rw [wv114]
                have n115 : ((73 : Int32) + v114).toInt = (73 : Int32).toInt + v114.toInt := gx_add (by omega) (by omega)
                refine gw_sI (i := ((73 : Int32) + v114)) ((And.intro sm113 True.intro : _ ∧ True).1.t (r := 66) rfl) ((And.intro sm113 True.intro : _ ∧ True).1.l (r := 66) rfl) (by omega) (by omega) (fun m116 em116 => ?_)
                have sm116 := gS.w sm113 em116
                rw [show ((73 : Int32) + v114).toInt.toNat = 73 + (μ.2.1 66 28).toInt.toNat from by omega] at em116
                have T_m116 : m116.2.1 66 28 = μ.2.1 66 28 := (rdn em116 (by omega)).trans T_m113
                refine gw_gRa 66 ((And.intro sm116 True.intro : _ ∧ True).1.c (r := 65) rfl) ((And.intro sm116 True.intro : _ ∧ True).1.r (by decide)) ?_
                refine gw_aI (i := (28 : Int32)) ((And.intro sm116 True.intro : _ ∧ True).1.t (r := 66) rfl) ((And.intro sm116 True.intro : _ ∧ True).1.l (r := 66) rfl) (by omega) (by omega) (fun v117 ev117 => ?_)
                have cv117 : v117 = m116.2.1 66 28 := ev117
                have wv117 : v117 = μ.2.1 66 28 := ev117.trans T_m116
                have uv117 : v117.toInt = (μ.2.1 66 28).toInt := by rw [wv117]
                refine gw_sI (i := (28 : Int32)) ((And.intro sm116 True.intro : _ ∧ True).1.t (r := 66) rfl) ((And.intro sm116 True.intro : _ ∧ True).1.l (r := 66) rfl) (by omega) (by omega) (fun m118 em118 => ?_)
                have sm118 := gS.w sm116 em118
                rw [show (28 : Int32).toInt.toNat = 28 from by omega] at em118
                rw [wv117] at em118
                have VS := rde em118
                refine gw_gRa 66 ((And.intro sm118 True.intro : _ ∧ True).1.c (r := 65) rfl) ((And.intro sm118 True.intro : _ ∧ True).1.r (by decide)) ?_
                refine gw_aI (i := (28 : Int32)) ((And.intro sm118 True.intro : _ ∧ True).1.t (r := 66) rfl) ((And.intro sm118 True.intro : _ ∧ True).1.l (r := 66) rfl) (by omega) (by omega) (fun v119 ev119 => ?_)
                have cv119 : v119 = m118.2.1 66 28 := ev119
                have VY := ev119.trans VS
                exact gw_some (gq_I (by first | (exfalso; omega) | exact ⟨rfl, h⟩ | (refine ⟨VX.symm, ?_⟩; subst em118; subst em116; subst em113; subst em110; exact A_clr h (by decide)) | (refine ⟨by rw [VY, VX, E28], ?_⟩; subst em118; subst em116; subst em113; subst em110; exact A_see h (by omega) (by omega) (by omega) (by omega))))
              ·
                exact gw_some (gq_I (by first | (exfalso; omega) | exact ⟨rfl, h⟩ | (refine ⟨VX.symm, ?_⟩; skip; exact A_clr h (by decide)) | (refine ⟨by rw [VY, VX, E28], ?_⟩; skip; exact A_see h (by omega) (by omega) (by omega) (by omega))))
            ·
              exact gw_some (gq_I (by first | (exfalso; omega) | exact ⟨rfl, h⟩ | (refine ⟨VX.symm, ?_⟩; skip; exact A_clr h (by decide)) | (refine ⟨by rw [VY, VX, E28], ?_⟩; skip; exact A_see h (by omega) (by omega) (by omega) (by omega))))
        ·
          exact gw_some (gq_I (by first | (exfalso; omega) | exact ⟨rfl, h⟩ | (refine ⟨VX.symm, ?_⟩; skip; exact A_clr h (by decide)) | (refine ⟨by rw [VY, VX, E28], ?_⟩; skip; exact A_see h (by omega) (by omega) (by omega) (by omega))))
      ·
        refine gw_gRa 66 (hm.1.c (r := 65) rfl) (hm.1.r (by decide)) ?_
        refine gw_sI (i := (28 : Int32)) (hm.1.t (r := 66) rfl) (hm.1.l (r := 66) rfl) (by omega) (by omega) (fun m120 em120 => ?_)
        have sm120 := gS.w hc.1 em120
        rw [show (28 : Int32).toInt.toNat = 28 from by omega] at em120
        exact gw_some (gq_I (by first | (exfalso; omega) | exact ⟨rfl, h⟩ | (refine ⟨VX.symm, ?_⟩; subst em120; exact A_clr h (by decide)) | (refine ⟨by rw [VY, VX, E28], ?_⟩; subst em120; exact A_see h (by omega) (by omega) (by omega) (by omega))))
  ·
    refine gw_gRa 15 (hc.1.c (r := 1) rfl) (hc.1.r (by decide)) ?_
    refine gw_gRa 23 (hc.1.c (r := 15) rfl) (hc.1.r (by decide)) ?_
    refine gw_if (hc.1.t (r := 23) rfl) ?_
    refine gw_bI (s_clear (r := 23) (hc.1.t rfl)) (fun x121 m121 z121 => ?_)
    obtain ⟨VX, ZM⟩ := z121
    have GS : gS m121 := by rw [ZM]; exact hc.1
    have R6 : m121.2.1 66 = μ.2.1 66 := by rw [ZM]; exact wI_o _ _ _ _ (by decide)
    refine gw_some (gq_I ?_)
    have hm : MI m121 := ⟨GS, by rw [R6]; exact h.1.2⟩
    have T_m121 : m121.2.1 66 28 = μ.2.1 66 28 := by rw [R6]
    refine gwI_of ?_
    unfold f_X12_see
    refine gw_ne (fun h2_122 => ?_) (fun h2_122 => ?_)
    ·
      refine gw_if (hm.1.t (r := 65) rfl) ?_
      refine gw_bI (s_X12_isChild hm ) (fun x123 m123 ⟨z123, f123⟩ => ?_)
      replace z123 := z123.symm
      subst z123
      rw [R6] at f123
      refine gw_ne (fun h20_124 => ?_) (fun h20_124 => ?_)
      ·
        refine gw_bI (s_X12_in ) (fun x125 m125 ⟨z125, f125⟩ => ?_)
        replace z125 := z125.symm
        subst z125
        refine gw_eq (fun h33_126 => ?_) (fun h33_126 => ?_)
        ·
          exact gw_some (gq_I (by first | (exfalso; omega) | exact ⟨rfl, h⟩ | (refine ⟨VX.symm, ?_⟩; subst ZM; exact A_clr h (by decide)) | (refine ⟨by rw [VY, VX, E28], ?_⟩; subst ZM; exact A_see h (by omega) (by omega) (by omega) (by omega))))
        ·
          refine gw_bI (s_X12_in ) (fun x127 m127 ⟨z127, f127⟩ => ?_)
          replace z127 := z127.symm
          subst z127
          refine gw_ne (fun h43_128 => ?_) (fun h43_128 => ?_)
          ·
            refine gw_gRa 66 (hm.1.c (r := 65) rfl) (hm.1.r (by decide)) ?_
            refine gw_aI (i := (28 : Int32)) (hm.1.t (r := 66) rfl) (hm.1.l (r := 66) rfl) (by omega) (by omega) (fun v129 ev129 => ?_)
            have cv129 : v129 = m121.2.1 66 28 := ev129
            have bv129 := hm.n28
            have dv129 : v129.toInt = (m121.2.1 66 28).toInt := by rw [cv129]
            have yv129 : v129.toInt = (μ.2.1 66 28).toInt := by rw [dv129, R6]
            rw [← dv129] at bv129
            have wv129 : v129 = μ.2.1 66 28 := ev129.trans T_m121
            have uv129 : v129.toInt = (μ.2.1 66 28).toInt := by rw [wv129]
            refine gw_ne (fun h57_130 => ?_) (fun h57_130 => ?_)
            ·
              refine gw_gRa 66 (hm.1.c (r := 65) rfl) (hm.1.r (by decide)) ?_
              refine gw_gRa 66 (hm.1.c (r := 65) rfl) (hm.1.r (by decide)) ?_
              refine gw_aI (i := (28 : Int32)) (hm.1.t (r := 66) rfl) (hm.1.l (r := 66) rfl) (by omega) (by omega) (fun v131 ev131 => ?_)
              have cv131 : v131 = m121.2.1 66 28 := ev131
              have bv131 := hm.n28
              have dv131 : v131.toInt = (m121.2.1 66 28).toInt := by rw [cv131]
              have yv131 : v131.toInt = (μ.2.1 66 28).toInt := by rw [dv131, R6]
              rw [← dv131] at bv131
              have wv131 : v131 = μ.2.1 66 28 := ev131.trans T_m121
              have uv131 : v131.toInt = (μ.2.1 66 28).toInt := by rw [wv131]
              have n132 : ((63 : Int32) + v131).toInt = (63 : Int32).toInt + v131.toInt := gx_add (by omega) (by omega)
              refine gw_sI (i := ((63 : Int32) + v131)) (hm.1.t (r := 66) rfl) (hm.1.l (r := 66) rfl) (by omega) (by omega) (fun m133 em133 => ?_)
              have sm133 := gS.w GS em133
              rw [show ((63 : Int32) + v131).toInt.toNat = 63 + (μ.2.1 66 28).toInt.toNat from by omega] at em133
              have T_m133 : m133.2.1 66 28 = μ.2.1 66 28 := (rdn em133 (by omega)).trans T_m121
              refine gw_gRa 66 ((And.intro sm133 True.intro : _ ∧ True).1.c (r := 65) rfl) ((And.intro sm133 True.intro : _ ∧ True).1.r (by decide)) ?_
              refine gw_gRa 66 ((And.intro sm133 True.intro : _ ∧ True).1.c (r := 65) rfl) ((And.intro sm133 True.intro : _ ∧ True).1.r (by decide)) ?_
              refine gw_aI (i := (28 : Int32)) ((And.intro sm133 True.intro : _ ∧ True).1.t (r := 66) rfl) ((And.intro sm133 True.intro : _ ∧ True).1.l (r := 66) rfl) (by omega) (by omega) (fun v134 ev134 => ?_)
              have cv134 : v134 = m133.2.1 66 28 := ev134
              have wv134 : v134 = μ.2.1 66 28 := ev134.trans T_m133
              have uv134 : v134.toInt = (μ.2.1 66 28).toInt := by rw [wv134]
              have n135 : ((68 : Int32) + v134).toInt = (68 : Int32).toInt + v134.toInt := gx_add (by omega) (by omega)
              refine gw_sI (i := ((68 : Int32) + v134)) ((And.intro sm133 True.intro : _ ∧ True).1.t (r := 66) rfl) ((And.intro sm133 True.intro : _ ∧ True).1.l (r := 66) rfl) (by omega) (by omega) (fun m136 em136 => ?_)
              have sm136 := gS.w sm133 em136
              rw [show ((68 : Int32) + v134).toInt.toNat = 68 + (μ.2.1 66 28).toInt.toNat from by omega] at em136
              have T_m136 : m136.2.1 66 28 = μ.2.1 66 28 := (rdn em136 (by omega)).trans T_m133
              refine gw_gRa 66 ((And.intro sm136 True.intro : _ ∧ True).1.c (r := 65) rfl) ((And.intro sm136 True.intro : _ ∧ True).1.r (by decide)) ?_
              refine gw_gRa 66 ((And.intro sm136 True.intro : _ ∧ True).1.c (r := 65) rfl) ((And.intro sm136 True.intro : _ ∧ True).1.r (by decide)) ?_
              refine gw_aI (i := (28 : Int32)) ((And.intro sm136 True.intro : _ ∧ True).1.t (r := 66) rfl) ((And.intro sm136 True.intro : _ ∧ True).1.l (r := 66) rfl) (by omega) (by omega) (fun v137 ev137 => ?_)
              have cv137 : v137 = m136.2.1 66 28 := ev137
              have wv137 : v137 = μ.2.1 66 28 := ev137.trans T_m136
              have uv137 : v137.toInt = (μ.2.1 66 28).toInt := by rw [wv137]
              have n138 : ((73 : Int32) + v137).toInt = (73 : Int32).toInt + v137.toInt := gx_add (by omega) (by omega)
              refine gw_sI (i := ((73 : Int32) + v137)) ((And.intro sm136 True.intro : _ ∧ True).1.t (r := 66) rfl) ((And.intro sm136 True.intro : _ ∧ True).1.l (r := 66) rfl) (by omega) (by omega) (fun m139 em139 => ?_)
              have sm139 := gS.w sm136 em139
              rw [show ((73 : Int32) + v137).toInt.toNat = 73 + (μ.2.1 66 28).toInt.toNat from by omega] at em139
              have T_m139 : m139.2.1 66 28 = μ.2.1 66 28 := (rdn em139 (by omega)).trans T_m136
              refine gw_gRa 66 ((And.intro sm139 True.intro : _ ∧ True).1.c (r := 65) rfl) ((And.intro sm139 True.intro : _ ∧ True).1.r (by decide)) ?_
              refine gw_aI (i := (28 : Int32)) ((And.intro sm139 True.intro : _ ∧ True).1.t (r := 66) rfl) ((And.intro sm139 True.intro : _ ∧ True).1.l (r := 66) rfl) (by omega) (by omega) (fun v140 ev140 => ?_)
              have cv140 : v140 = m139.2.1 66 28 := ev140
              have wv140 : v140 = μ.2.1 66 28 := ev140.trans T_m139
              have uv140 : v140.toInt = (μ.2.1 66 28).toInt := by rw [wv140]
              refine gw_sI (i := (28 : Int32)) ((And.intro sm139 True.intro : _ ∧ True).1.t (r := 66) rfl) ((And.intro sm139 True.intro : _ ∧ True).1.l (r := 66) rfl) (by omega) (by omega) (fun m141 em141 => ?_)
              have sm141 := gS.w sm139 em141
              rw [show (28 : Int32).toInt.toNat = 28 from by omega] at em141
              rw [wv140] at em141
              have VS := rde em141
              refine gw_gRa 66 ((And.intro sm141 True.intro : _ ∧ True).1.c (r := 65) rfl) ((And.intro sm141 True.intro : _ ∧ True).1.r (by decide)) ?_
              refine gw_aI (i := (28 : Int32)) ((And.intro sm141 True.intro : _ ∧ True).1.t (r := 66) rfl) ((And.intro sm141 True.intro : _ ∧ True).1.l (r := 66) rfl) (by omega) (by omega) (fun v142 ev142 => ?_)
              have cv142 : v142 = m141.2.1 66 28 := ev142
              have VY := ev142.trans VS
              exact gw_some (gq_I (by first | (exfalso; omega) | exact ⟨rfl, h⟩ | (refine ⟨VX.symm, ?_⟩; subst em141; subst em139; subst em136; subst em133; subst ZM; exact A_clr h (by decide)) | (refine ⟨by rw [VY, VX, E28], ?_⟩; subst em141; subst em139; subst em136; subst em133; subst ZM; exact A_see h (by omega) (by omega) (by omega) (by omega))))
            ·
              exact gw_some (gq_I (by first | (exfalso; omega) | exact ⟨rfl, h⟩ | (refine ⟨VX.symm, ?_⟩; subst ZM; exact A_clr h (by decide)) | (refine ⟨by rw [VY, VX, E28], ?_⟩; subst ZM; exact A_see h (by omega) (by omega) (by omega) (by omega))))
          ·
            exact gw_some (gq_I (by first | (exfalso; omega) | exact ⟨rfl, h⟩ | (refine ⟨VX.symm, ?_⟩; subst ZM; exact A_clr h (by decide)) | (refine ⟨by rw [VY, VX, E28], ?_⟩; subst ZM; exact A_see h (by omega) (by omega) (by omega) (by omega))))
      ·
        exact gw_some (gq_I (by first | (exfalso; omega) | exact ⟨rfl, h⟩ | (refine ⟨VX.symm, ?_⟩; subst ZM; exact A_clr h (by decide)) | (refine ⟨by rw [VY, VX, E28], ?_⟩; subst ZM; exact A_see h (by omega) (by omega) (by omega) (by omega))))
    ·
      refine gw_gRa 66 (hm.1.c (r := 65) rfl) (hm.1.r (by decide)) ?_
      refine gw_sI (i := (28 : Int32)) (hm.1.t (r := 66) rfl) (hm.1.l (r := 66) rfl) (by omega) (by omega) (fun m143 em143 => ?_)
      have sm143 := gS.w GS em143
      rw [show (28 : Int32).toInt.toNat = 28 from by omega] at em143
      exact gw_some (gq_I (by first | (exfalso; omega) | exact ⟨rfl, h⟩ | (refine ⟨VX.symm, ?_⟩; subst em143; subst ZM; exact A_clr h (by decide)) | (refine ⟨by rw [VY, VX, E28], ?_⟩; subst em143; subst ZM; exact A_see h (by omega) (by omega) (by omega) (by omega))))
set_option maxHeartbeats 2000000 in
theorem p_plan {μ : gm_M} (h : ALL μ) {a1 : Int32} {a2 : Int32} : gwI (f_X11_plan 1 a1 a2 μ) (fun x m => gwI (f_X12_plan 65 a1 a2 m) (fun y m2 => y = x ∧ ALL m2)) := by
  refine gwI_of ?_
  unfold f_X11_plan
  have hc := h.2.2.1
  have lm4 : (-4 : Int32).toInt = -4 := rfl
  have lm1 : (-1 : Int32).toInt = -1 := rfl
  have l0 : (0 : Int32).toInt = 0 := rfl
  have l1 : (1 : Int32).toInt = 1 := rfl
  have l3 : (3 : Int32).toInt = 3 := rfl
  have l8 : (8 : Int32).toInt = 8 := rfl
  have l29 : (29 : Int32).toInt = 29 := rfl
  have l78 : (78 : Int32).toInt = 78 := rfl
  have l86 : (86 : Int32).toInt = 86 := rfl
  have L26 := h.n26
  have L28 := h.n29
  have N28 := hc.n25
  have LL := hc.l25
  have E28 : μ.2.1 25 2 = μ.2.1 66 29 := h.2.2.2.1.1.2.2.2.1
  refine gw_ne (fun h2_1 => ?_) (fun h2_1 => ?_)
  ·
    refine gw_bI (s_X11_isOutside ) (fun x2 m2 ⟨z2, f2⟩ => ?_)
    replace z2 := z2.symm
    subst z2
    refine gw_ne (fun h22_3 => ?_) (fun h22_3 => ?_)
    ·
      refine gw_some (gq_I ?_)
      have hm := h.1
      have T_μ : μ.2.1 66 29 = μ.2.1 66 29 := by rfl
      refine gwI_of ?_
      unfold f_X12_plan
      refine gw_ne (fun h2_4 => ?_) (fun h2_4 => ?_)
      ·
        refine gw_bI (s_X12_in ) (fun x5 m5 ⟨z5, f5⟩ => ?_)
        replace z5 := z5.symm
        subst z5
        refine gw_eq (fun h21_6 => ?_) (fun h21_6 => ?_)
        ·
          exact gw_some (gq_I (by first | (exfalso; omega) | exact ⟨rfl, h⟩ | (refine ⟨VX.symm, ?_⟩; skip; exact A_clr h (by decide)) | (refine ⟨by rw [VY, VX, E28], ?_⟩; skip; exact A_plan h (by omega) (by omega) (by omega) (by omega))))
        ·
          refine gw_ji ?_
          refine gw_le (fun h25_7 => ?_) (fun h25_7 => ?_)
          ·
            refine gw_gRa 66 (hm.1.c (r := 65) rfl) (hm.1.r (by decide)) ?_
            refine gw_aI (i := (29 : Int32)) (hm.1.t (r := 66) rfl) (hm.1.l (r := 66) rfl) (by omega) (by omega) (fun v8 ev8 => ?_)
            have cv8 : v8 = μ.2.1 66 29 := ev8
            have bv8 := hm.n29
            have dv8 : v8.toInt = (μ.2.1 66 29).toInt := by rw [cv8]
            rw [← dv8] at bv8
            have wv8 : v8 = μ.2.1 66 29 := ev8.trans T_μ
            have uv8 : v8.toInt = (μ.2.1 66 29).toInt := by rw [wv8]
            refine gw_ne (fun h47_9 => ?_) (fun h47_9 => ?_)
            ·
              refine gw_gRa 66 (hm.1.c (r := 65) rfl) (hm.1.r (by decide)) ?_
              refine gw_gRa 66 (hm.1.c (r := 65) rfl) (hm.1.r (by decide)) ?_
              refine gw_aI (i := (29 : Int32)) (hm.1.t (r := 66) rfl) (hm.1.l (r := 66) rfl) (by omega) (by omega) (fun v10 ev10 => ?_)
              have cv10 : v10 = μ.2.1 66 29 := ev10
              have bv10 := hm.n29
              have dv10 : v10.toInt = (μ.2.1 66 29).toInt := by rw [cv10]
              rw [← dv10] at bv10
              have wv10 : v10 = μ.2.1 66 29 := ev10.trans T_μ
              have uv10 : v10.toInt = (μ.2.1 66 29).toInt := by rw [wv10]
              have n11 : ((78 : Int32) + v10).toInt = (78 : Int32).toInt + v10.toInt := gx_add (by omega) (by omega)
              refine gw_sI (i := ((78 : Int32) + v10)) (hm.1.t (r := 66) rfl) (hm.1.l (r := 66) rfl) (by omega) (by omega) (fun m12 em12 => ?_)
              have sm12 := gS.w hc.1 em12
              rw [show ((78 : Int32) + v10).toInt.toNat = 78 + (μ.2.1 66 29).toInt.toNat from by omega] at em12
              have T_m12 : m12.2.1 66 29 = μ.2.1 66 29 := (rdn em12 (by omega)).trans T_μ
              refine gw_gRa 66 ((And.intro sm12 True.intro : _ ∧ True).1.c (r := 65) rfl) ((And.intro sm12 True.intro : _ ∧ True).1.r (by decide)) ?_
              refine gw_gRa 66 ((And.intro sm12 True.intro : _ ∧ True).1.c (r := 65) rfl) ((And.intro sm12 True.intro : _ ∧ True).1.r (by decide)) ?_
              refine gw_aI (i := (29 : Int32)) ((And.intro sm12 True.intro : _ ∧ True).1.t (r := 66) rfl) ((And.intro sm12 True.intro : _ ∧ True).1.l (r := 66) rfl) (by omega) (by omega) (fun v13 ev13 => ?_)
              have cv13 : v13 = m12.2.1 66 29 := ev13
              have wv13 : v13 = μ.2.1 66 29 := ev13.trans T_m12
              have uv13 : v13.toInt = (μ.2.1 66 29).toInt := by rw [wv13]
              have n14 : ((86 : Int32) + v13).toInt = (86 : Int32).toInt + v13.toInt := gx_add (by omega) (by omega)
              refine gw_sI (i := ((86 : Int32) + v13)) ((And.intro sm12 True.intro : _ ∧ True).1.t (r := 66) rfl) ((And.intro sm12 True.intro : _ ∧ True).1.l (r := 66) rfl) (by omega) (by omega) (fun m15 em15 => ?_)
              have sm15 := gS.w sm12 em15
              rw [show ((86 : Int32) + v13).toInt.toNat = 86 + (μ.2.1 66 29).toInt.toNat from by omega] at em15
              have T_m15 : m15.2.1 66 29 = μ.2.1 66 29 := (rdn em15 (by omega)).trans T_m12
              refine gw_gRa 66 ((And.intro sm15 True.intro : _ ∧ True).1.c (r := 65) rfl) ((And.intro sm15 True.intro : _ ∧ True).1.r (by decide)) ?_
              refine gw_aI (i := (29 : Int32)) ((And.intro sm15 True.intro : _ ∧ True).1.t (r := 66) rfl) ((And.intro sm15 True.intro : _ ∧ True).1.l (r := 66) rfl) (by omega) (by omega) (fun v16 ev16 => ?_)
              have cv16 : v16 = m15.2.1 66 29 := ev16
              have wv16 : v16 = μ.2.1 66 29 := ev16.trans T_m15
              have uv16 : v16.toInt = (μ.2.1 66 29).toInt := by rw [wv16]
              refine gw_sI (i := (29 : Int32)) ((And.intro sm15 True.intro : _ ∧ True).1.t (r := 66) rfl) ((And.intro sm15 True.intro : _ ∧ True).1.l (r := 66) rfl) (by omega) (by omega) (fun m17 em17 => ?_)
              have sm17 := gS.w sm15 em17
              rw [show (29 : Int32).toInt.toNat = 29 from by omega] at em17
              rw [wv16] at em17
              have VS := rde em17
              refine gw_gRa 66 ((And.intro sm17 True.intro : _ ∧ True).1.c (r := 65) rfl) ((And.intro sm17 True.intro : _ ∧ True).1.r (by decide)) ?_
              refine gw_aI (i := (29 : Int32)) ((And.intro sm17 True.intro : _ ∧ True).1.t (r := 66) rfl) ((And.intro sm17 True.intro : _ ∧ True).1.l (r := 66) rfl) (by omega) (by omega) (fun v18 ev18 => ?_)
              have cv18 : v18 = m17.2.1 66 29 := ev18
              have VY := ev18.trans VS
              exact gw_some (gq_I (by first | (exfalso; omega) | exact ⟨rfl, h⟩ | (refine ⟨VX.symm, ?_⟩; subst em17; subst em15; subst em12; exact A_clr h (by decide)) | (refine ⟨by rw [VY, VX, E28], ?_⟩; subst em17; subst em15; subst em12; exact A_plan h (by omega) (by omega) (by omega) (by omega))))
            ·
              exact gw_some (gq_I (by first | (exfalso; omega) | exact ⟨rfl, h⟩ | (refine ⟨VX.symm, ?_⟩; skip; exact A_clr h (by decide)) | (refine ⟨by rw [VY, VX, E28], ?_⟩; skip; exact A_plan h (by omega) (by omega) (by omega) (by omega))))
          ·
            refine gw_if (hm.1.t (r := 65) rfl) ?_
            refine gw_bI (s_X12_isChild hm ) (fun x19 m19 ⟨z19, f19⟩ => ?_)
            replace z19 := z19.symm
            subst z19
            refine gw_ne (fun h33_20 => ?_) (fun h33_20 => ?_)
            ·
              refine gw_gRa 66 (hm.1.c (r := 65) rfl) (hm.1.r (by decide)) ?_
              refine gw_aI (i := (29 : Int32)) (hm.1.t (r := 66) rfl) (hm.1.l (r := 66) rfl) (by omega) (by omega) (fun v21 ev21 => ?_)
              have cv21 : v21 = μ.2.1 66 29 := ev21
              have bv21 := hm.n29
              have dv21 : v21.toInt = (μ.2.1 66 29).toInt := by rw [cv21]
              rw [← dv21] at bv21
              have wv21 : v21 = μ.2.1 66 29 := ev21.trans T_μ
              have uv21 : v21.toInt = (μ.2.1 66 29).toInt := by rw [wv21]
              refine gw_ne (fun h47_22 => ?_) (fun h47_22 => ?_)
              ·
                refine gw_gRa 66 (hm.1.c (r := 65) rfl) (hm.1.r (by decide)) ?_
                refine gw_gRa 66 (hm.1.c (r := 65) rfl) (hm.1.r (by decide)) ?_
                refine gw_aI (i := (29 : Int32)) (hm.1.t (r := 66) rfl) (hm.1.l (r := 66) rfl) (by omega) (by omega) (fun v23 ev23 => ?_)
                have cv23 : v23 = μ.2.1 66 29 := ev23
                have bv23 := hm.n29
                have dv23 : v23.toInt = (μ.2.1 66 29).toInt := by rw [cv23]
                rw [← dv23] at bv23
                have wv23 : v23 = μ.2.1 66 29 := ev23.trans T_μ
                have uv23 : v23.toInt = (μ.2.1 66 29).toInt := by rw [wv23]
                have n24 : ((78 : Int32) + v23).toInt = (78 : Int32).toInt + v23.toInt := gx_add (by omega) (by omega)
                refine gw_sI (i := ((78 : Int32) + v23)) (hm.1.t (r := 66) rfl) (hm.1.l (r := 66) rfl) (by omega) (by omega) (fun m25 em25 => ?_)
                have sm25 := gS.w hc.1 em25
                rw [show ((78 : Int32) + v23).toInt.toNat = 78 + (μ.2.1 66 29).toInt.toNat from by omega] at em25
                have T_m25 : m25.2.1 66 29 = μ.2.1 66 29 := (rdn em25 (by omega)).trans T_μ
                refine gw_gRa 66 ((And.intro sm25 True.intro : _ ∧ True).1.c (r := 65) rfl) ((And.intro sm25 True.intro : _ ∧ True).1.r (by decide)) ?_
                refine gw_gRa 66 ((And.intro sm25 True.intro : _ ∧ True).1.c (r := 65) rfl) ((And.intro sm25 True.intro : _ ∧ True).1.r (by decide)) ?_
                refine gw_aI (i := (29 : Int32)) ((And.intro sm25 True.intro : _ ∧ True).1.t (r := 66) rfl) ((And.intro sm25 True.intro : _ ∧ True).1.l (r := 66) rfl) (by omega) (by omega) (fun v26 ev26 => ?_)
                have cv26 : v26 = m25.2.1 66 29 := ev26
                have wv26 : v26 = μ.2.1 66 29 := ev26.trans T_m25
                have uv26 : v26.toInt = (μ.2.1 66 29).toInt := by rw [wv26]
                have n27 : ((86 : Int32) + v26).toInt = (86 : Int32).toInt + v26.toInt := gx_add (by omega) (by omega)
                refine gw_sI (i := ((86 : Int32) + v26)) ((And.intro sm25 True.intro : _ ∧ True).1.t (r := 66) rfl) ((And.intro sm25 True.intro : _ ∧ True).1.l (r := 66) rfl) (by omega) (by omega) (fun m28 em28 => ?_)
                have sm28 := gS.w sm25 em28
                rw [show ((86 : Int32) + v26).toInt.toNat = 86 + (μ.2.1 66 29).toInt.toNat from by omega] at em28
                have T_m28 : m28.2.1 66 29 = μ.2.1 66 29 := (rdn em28 (by omega)).trans T_m25
                refine gw_gRa 66 ((And.intro sm28 True.intro : _ ∧ True).1.c (r := 65) rfl) ((And.intro sm28 True.intro : _ ∧ True).1.r (by decide)) ?_
                refine gw_aI (i := (29 : Int32)) ((And.intro sm28 True.intro : _ ∧ True).1.t (r := 66) rfl) ((And.intro sm28 True.intro : _ ∧ True).1.l (r := 66) rfl) (by omega) (by omega) (fun v29 ev29 => ?_)
                have cv29 : v29 = m28.2.1 66 29 := ev29
                have wv29 : v29 = μ.2.1 66 29 := ev29.trans T_m28
                have uv29 : v29.toInt = (μ.2.1 66 29).toInt := by rw [wv29]
                refine gw_sI (i := (29 : Int32)) ((And.intro sm28 True.intro : _ ∧ True).1.t (r := 66) rfl) ((And.intro sm28 True.intro : _ ∧ True).1.l (r := 66) rfl) (by omega) (by omega) (fun m30 em30 => ?_)
                have sm30 := gS.w sm28 em30
                rw [show (29 : Int32).toInt.toNat = 29 from by omega] at em30
                rw [wv29] at em30
                have VS := rde em30
                refine gw_gRa 66 ((And.intro sm30 True.intro : _ ∧ True).1.c (r := 65) rfl) ((And.intro sm30 True.intro : _ ∧ True).1.r (by decide)) ?_
                refine gw_aI (i := (29 : Int32)) ((And.intro sm30 True.intro : _ ∧ True).1.t (r := 66) rfl) ((And.intro sm30 True.intro : _ ∧ True).1.l (r := 66) rfl) (by omega) (by omega) (fun v31 ev31 => ?_)
                have cv31 : v31 = m30.2.1 66 29 := ev31
                have VY := ev31.trans VS
                exact gw_some (gq_I (by first | (exfalso; omega) | exact ⟨rfl, h⟩ | (refine ⟨VX.symm, ?_⟩; subst em30; subst em28; subst em25; exact A_clr h (by decide)) | (refine ⟨by rw [VY, VX, E28], ?_⟩; subst em30; subst em28; subst em25; exact A_plan h (by omega) (by omega) (by omega) (by omega))))
              ·
                exact gw_some (gq_I (by first | (exfalso; omega) | exact ⟨rfl, h⟩ | (refine ⟨VX.symm, ?_⟩; skip; exact A_clr h (by decide)) | (refine ⟨by rw [VY, VX, E28], ?_⟩; skip; exact A_plan h (by omega) (by omega) (by omega) (by omega))))
            ·
              exact gw_some (gq_I (by first | (exfalso; omega) | exact ⟨rfl, h⟩ | (refine ⟨VX.symm, ?_⟩; skip; exact A_clr h (by decide)) | (refine ⟨by rw [VY, VX, E28], ?_⟩; skip; exact A_plan h (by omega) (by omega) (by omega) (by omega))))
      ·
        refine gw_gRa 66 (hm.1.c (r := 65) rfl) (hm.1.r (by decide)) ?_
        refine gw_sI (i := (29 : Int32)) (hm.1.t (r := 66) rfl) (hm.1.l (r := 66) rfl) (by omega) (by omega) (fun m32 em32 => ?_)
        have sm32 := gS.w hc.1 em32
        rw [show (29 : Int32).toInt.toNat = 29 from by omega] at em32
        exact gw_some (gq_I (by first | (exfalso; omega) | exact ⟨rfl, h⟩ | (refine ⟨VX.symm, ?_⟩; subst em32; exact A_clr h (by decide)) | (refine ⟨by rw [VY, VX, E28], ?_⟩; subst em32; exact A_plan h (by omega) (by omega) (by omega) (by omega))))
    ·
      refine gw_ji ?_
      refine gw_eq (fun h26_33 => ?_) (fun h26_33 => ?_)
      ·
        refine gw_gRa 15 (hc.1.c (r := 1) rfl) (hc.1.r (by decide)) ?_
        refine gw_gRa 25 (hc.1.c (r := 15) rfl) (hc.1.r (by decide)) ?_
        refine gw_if (hc.1.t (r := 25) rfl) ?_
        refine gw_bI (s_isFull (r := 25) (hc.1.t rfl)) (fun x34 m34 z34 => ?_)
        obtain ⟨zz, FF⟩ := z34
        replace zz := zz.symm
        subst zz
        refine gw_eq (fun h49_35 => ?_) (fun h49_35 => ?_)
        ·
          refine gw_gRa 15 (hc.1.c (r := 1) rfl) (hc.1.r (by decide)) ?_
          refine gw_gRa 25 (hc.1.c (r := 15) rfl) (hc.1.r (by decide)) ?_
          refine gw_if (hc.1.t (r := 25) rfl) ?_
          refine gw_bI (s_add (r := 25) 8 (hc.1.t rfl) (hc.1.t rfl) (hc.1.l rfl) (hc.1.r (by decide)) hc.l25 hc.n25.1 (by omega) (by decide)) (fun x36 m36 z36 => ?_)
          obtain ⟨VX, ZD⟩ := z36
          have ZM : m36 = ad μ 25 a1 a2 0 := by rcases ZD with ⟨-, q⟩ | ⟨q, -⟩; exact q; exfalso; omega
          have GS : gS m36 := by rw [ZM]; exact hc.1
          have R6 : m36.2.1 66 = μ.2.1 66 := by rw [ZM]; exact ad_o (by decide) (by decide)
          refine gw_some (gq_I ?_)
          have hm : MI m36 := ⟨GS, by rw [R6]; exact h.1.2⟩
          have T_m36 : m36.2.1 66 29 = μ.2.1 66 29 := by rw [R6]
          refine gwI_of ?_
          unfold f_X12_plan
          refine gw_ne (fun h2_37 => ?_) (fun h2_37 => ?_)
          ·
            refine gw_bI (s_X12_in ) (fun x38 m38 ⟨z38, f38⟩ => ?_)
            replace z38 := z38.symm
            subst z38
            refine gw_eq (fun h21_39 => ?_) (fun h21_39 => ?_)
            ·
              exact gw_some (gq_I (by first | (exfalso; omega) | exact ⟨rfl, h⟩ | (refine ⟨VX.symm, ?_⟩; subst ZM; exact A_clr h (by decide)) | (refine ⟨by rw [VY, VX, E28], ?_⟩; subst ZM; exact A_plan h (by omega) (by omega) (by omega) (by omega))))
            ·
              refine gw_ji ?_
              refine gw_le (fun h25_40 => ?_) (fun h25_40 => ?_)
              ·
                refine gw_gRa 66 (hm.1.c (r := 65) rfl) (hm.1.r (by decide)) ?_
                refine gw_aI (i := (29 : Int32)) (hm.1.t (r := 66) rfl) (hm.1.l (r := 66) rfl) (by omega) (by omega) (fun v41 ev41 => ?_)
                have cv41 : v41 = m36.2.1 66 29 := ev41
                have bv41 := hm.n29
                have dv41 : v41.toInt = (m36.2.1 66 29).toInt := by rw [cv41]
                have yv41 : v41.toInt = (μ.2.1 66 29).toInt := by rw [dv41, R6]
                rw [← dv41] at bv41
                have wv41 : v41 = μ.2.1 66 29 := ev41.trans T_m36
                have uv41 : v41.toInt = (μ.2.1 66 29).toInt := by rw [wv41]
                refine gw_ne (fun h47_42 => ?_) (fun h47_42 => ?_)
                ·
                  refine gw_gRa 66 (hm.1.c (r := 65) rfl) (hm.1.r (by decide)) ?_
                  refine gw_gRa 66 (hm.1.c (r := 65) rfl) (hm.1.r (by decide)) ?_
                  refine gw_aI (i := (29 : Int32)) (hm.1.t (r := 66) rfl) (hm.1.l (r := 66) rfl) (by omega) (by omega) (fun v43 ev43 => ?_)
                  have cv43 : v43 = m36.2.1 66 29 := ev43
                  have bv43 := hm.n29
                  have dv43 : v43.toInt = (m36.2.1 66 29).toInt := by rw [cv43]
                  have yv43 : v43.toInt = (μ.2.1 66 29).toInt := by rw [dv43, R6]
                  rw [← dv43] at bv43
                  have wv43 : v43 = μ.2.1 66 29 := ev43.trans T_m36
                  have uv43 : v43.toInt = (μ.2.1 66 29).toInt := by rw [wv43]
                  have n44 : ((78 : Int32) + v43).toInt = (78 : Int32).toInt + v43.toInt := gx_add (by omega) (by omega)
                  refine gw_sI (i := ((78 : Int32) + v43)) (hm.1.t (r := 66) rfl) (hm.1.l (r := 66) rfl) (by omega) (by omega) (fun m45 em45 => ?_)
                  have sm45 := gS.w GS em45
                  rw [show ((78 : Int32) + v43).toInt.toNat = 78 + (μ.2.1 66 29).toInt.toNat from by omega] at em45
                  have T_m45 : m45.2.1 66 29 = μ.2.1 66 29 := (rdn em45 (by omega)).trans T_m36
                  refine gw_gRa 66 ((And.intro sm45 True.intro : _ ∧ True).1.c (r := 65) rfl) ((And.intro sm45 True.intro : _ ∧ True).1.r (by decide)) ?_
                  refine gw_gRa 66 ((And.intro sm45 True.intro : _ ∧ True).1.c (r := 65) rfl) ((And.intro sm45 True.intro : _ ∧ True).1.r (by decide)) ?_
                  refine gw_aI (i := (29 : Int32)) ((And.intro sm45 True.intro : _ ∧ True).1.t (r := 66) rfl) ((And.intro sm45 True.intro : _ ∧ True).1.l (r := 66) rfl) (by omega) (by omega) (fun v46 ev46 => ?_)
                  have cv46 : v46 = m45.2.1 66 29 := ev46
                  have wv46 : v46 = μ.2.1 66 29 := ev46.trans T_m45
                  have uv46 : v46.toInt = (μ.2.1 66 29).toInt := by rw [wv46]
                  have n47 : ((86 : Int32) + v46).toInt = (86 : Int32).toInt + v46.toInt := gx_add (by omega) (by omega)
                  refine gw_sI (i := ((86 : Int32) + v46)) ((And.intro sm45 True.intro : _ ∧ True).1.t (r := 66) rfl) ((And.intro sm45 True.intro : _ ∧ True).1.l (r := 66) rfl) (by omega) (by omega) (fun m48 em48 => ?_)
                  have sm48 := gS.w sm45 em48
                  rw [show ((86 : Int32) + v46).toInt.toNat = 86 + (μ.2.1 66 29).toInt.toNat from by omega] at em48
                  have T_m48 : m48.2.1 66 29 = μ.2.1 66 29 := (rdn em48 (by omega)).trans T_m45
                  refine gw_gRa 66 ((And.intro sm48 True.intro : _ ∧ True).1.c (r := 65) rfl) ((And.intro sm48 True.intro : _ ∧ True).1.r (by decide)) ?_
                  refine gw_aI (i := (29 : Int32)) ((And.intro sm48 True.intro : _ ∧ True).1.t (r := 66) rfl) ((And.intro sm48 True.intro : _ ∧ True).1.l (r := 66) rfl) (by omega) (by omega) (fun v49 ev49 => ?_)
                  have cv49 : v49 = m48.2.1 66 29 := ev49
                  have wv49 : v49 = μ.2.1 66 29 := ev49.trans T_m48
                  have uv49 : v49.toInt = (μ.2.1 66 29).toInt := by rw [wv49]
                  refine gw_sI (i := (29 : Int32)) ((And.intro sm48 True.intro : _ ∧ True).1.t (r := 66) rfl) ((And.intro sm48 True.intro : _ ∧ True).1.l (r := 66) rfl) (by omega) (by omega) (fun m50 em50 => ?_)
                  have sm50 := gS.w sm48 em50
                  rw [show (29 : Int32).toInt.toNat = 29 from by omega] at em50
                  rw [wv49] at em50
                  have VS := rde em50
                  refine gw_gRa 66 ((And.intro sm50 True.intro : _ ∧ True).1.c (r := 65) rfl) ((And.intro sm50 True.intro : _ ∧ True).1.r (by decide)) ?_
                  refine gw_aI (i := (29 : Int32)) ((And.intro sm50 True.intro : _ ∧ True).1.t (r := 66) rfl) ((And.intro sm50 True.intro : _ ∧ True).1.l (r := 66) rfl) (by omega) (by omega) (fun v51 ev51 => ?_)
                  have cv51 : v51 = m50.2.1 66 29 := ev51
                  have VY := ev51.trans VS
                  exact gw_some (gq_I (by first | (exfalso; omega) | exact ⟨rfl, h⟩ | (refine ⟨VX.symm, ?_⟩; subst em50; subst em48; subst em45; subst ZM; exact A_clr h (by decide)) | (refine ⟨by rw [VY, VX, E28], ?_⟩; subst em50; subst em48; subst em45; subst ZM; exact A_plan h (by omega) (by omega) (by omega) (by omega))))
                ·
                  exact gw_some (gq_I (by first | (exfalso; omega) | exact ⟨rfl, h⟩ | (refine ⟨VX.symm, ?_⟩; subst ZM; exact A_clr h (by decide)) | (refine ⟨by rw [VY, VX, E28], ?_⟩; subst ZM; exact A_plan h (by omega) (by omega) (by omega) (by omega))))
              ·
                refine gw_if (hm.1.t (r := 65) rfl) ?_
                refine gw_bI (s_X12_isChild hm ) (fun x52 m52 ⟨z52, f52⟩ => ?_)
                replace z52 := z52.symm
                subst z52
                rw [R6] at f52
                refine gw_ne (fun h33_53 => ?_) (fun h33_53 => ?_)
                ·
                  refine gw_gRa 66 (hm.1.c (r := 65) rfl) (hm.1.r (by decide)) ?_
                  refine gw_aI (i := (29 : Int32)) (hm.1.t (r := 66) rfl) (hm.1.l (r := 66) rfl) (by omega) (by omega) (fun v54 ev54 => ?_)
                  have cv54 : v54 = m36.2.1 66 29 := ev54
                  have bv54 := hm.n29
                  have dv54 : v54.toInt = (m36.2.1 66 29).toInt := by rw [cv54]
                  have yv54 : v54.toInt = (μ.2.1 66 29).toInt := by rw [dv54, R6]
                  rw [← dv54] at bv54
                  have wv54 : v54 = μ.2.1 66 29 := ev54.trans T_m36
                  have uv54 : v54.toInt = (μ.2.1 66 29).toInt := by rw [wv54]
                  refine gw_ne (fun h47_55 => ?_) (fun h47_55 => ?_)
                  ·
                    refine gw_gRa 66 (hm.1.c (r := 65) rfl) (hm.1.r (by decide)) ?_
                    refine gw_gRa 66 (hm.1.c (r := 65) rfl) (hm.1.r (by decide)) ?_
                    refine gw_aI (i := (29 : Int32)) (hm.1.t (r := 66) rfl) (hm.1.l (r := 66) rfl) (by omega) (by omega) (fun v56 ev56 => ?_)
                    have cv56 : v56 = m36.2.1 66 29 := ev56
                    have bv56 := hm.n29
                    have dv56 : v56.toInt = (m36.2.1 66 29).toInt := by rw [cv56]
                    have yv56 : v56.toInt = (μ.2.1 66 29).toInt := by rw [dv56, R6]
                    rw [← dv56] at bv56
                    have wv56 : v56 = μ.2.1 66 29 := ev56.trans T_m36
                    have uv56 : v56.toInt = (μ.2.1 66 29).toInt := by rw [wv56]
                    have n57 : ((78 : Int32) + v56).toInt = (78 : Int32).toInt + v56.toInt := gx_add (by omega) (by omega)
                    refine gw_sI (i := ((78 : Int32) + v56)) (hm.1.t (r := 66) rfl) (hm.1.l (r := 66) rfl) (by omega) (by omega) (fun m58 em58 => ?_)
                    have sm58 := gS.w GS em58
                    rw [show ((78 : Int32) + v56).toInt.toNat = 78 + (μ.2.1 66 29).toInt.toNat from by omega] at em58
                    have T_m58 : m58.2.1 66 29 = μ.2.1 66 29 := (rdn em58 (by omega)).trans T_m36
                    refine gw_gRa 66 ((And.intro sm58 True.intro : _ ∧ True).1.c (r := 65) rfl) ((And.intro sm58 True.intro : _ ∧ True).1.r (by decide)) ?_
                    refine gw_gRa 66 ((And.intro sm58 True.intro : _ ∧ True).1.c (r := 65) rfl) ((And.intro sm58 True.intro : _ ∧ True).1.r (by decide)) ?_
                    refine gw_aI (i := (29 : Int32)) ((And.intro sm58 True.intro : _ ∧ True).1.t (r := 66) rfl) ((And.intro sm58 True.intro : _ ∧ True).1.l (r := 66) rfl) (by omega) (by omega) (fun v59 ev59 => ?_)
                    have cv59 : v59 = m58.2.1 66 29 := ev59
                    have wv59 : v59 = μ.2.1 66 29 := ev59.trans T_m58
                    have uv59 : v59.toInt = (μ.2.1 66 29).toInt := by rw [wv59]
                    have n60 : ((86 : Int32) + v59).toInt = (86 : Int32).toInt + v59.toInt := gx_add (by omega) (by omega)
                    refine gw_sI (i := ((86 : Int32) + v59)) ((And.intro sm58 True.intro : _ ∧ True).1.t (r := 66) rfl) ((And.intro sm58 True.intro : _ ∧ True).1.l (r := 66) rfl) (by omega) (by omega) (fun m61 em61 => ?_)
                    have sm61 := gS.w sm58 em61
                    rw [show ((86 : Int32) + v59).toInt.toNat = 86 + (μ.2.1 66 29).toInt.toNat from by omega] at em61
                    have T_m61 : m61.2.1 66 29 = μ.2.1 66 29 := (rdn em61 (by omega)).trans T_m58
                    refine gw_gRa 66 ((And.intro sm61 True.intro : _ ∧ True).1.c (r := 65) rfl) ((And.intro sm61 True.intro : _ ∧ True).1.r (by decide)) ?_
                    refine gw_aI (i := (29 : Int32)) ((And.intro sm61 True.intro : _ ∧ True).1.t (r := 66) rfl) ((And.intro sm61 True.intro : _ ∧ True).1.l (r := 66) rfl) (by omega) (by omega) (fun v62 ev62 => ?_)
                    have cv62 : v62 = m61.2.1 66 29 := ev62
                    have wv62 : v62 = μ.2.1 66 29 := ev62.trans T_m61
                    have uv62 : v62.toInt = (μ.2.1 66 29).toInt := by rw [wv62]
                    refine gw_sI (i := (29 : Int32)) ((And.intro sm61 True.intro : _ ∧ True).1.t (r := 66) rfl) ((And.intro sm61 True.intro : _ ∧ True).1.l (r := 66) rfl) (by omega) (by omega) (fun m63 em63 => ?_)
                    have sm63 := gS.w sm61 em63
                    rw [show (29 : Int32).toInt.toNat = 29 from by omega] at em63
                    rw [wv62] at em63
                    have VS := rde em63
                    refine gw_gRa 66 ((And.intro sm63 True.intro : _ ∧ True).1.c (r := 65) rfl) ((And.intro sm63 True.intro : _ ∧ True).1.r (by decide)) ?_
                    refine gw_aI (i := (29 : Int32)) ((And.intro sm63 True.intro : _ ∧ True).1.t (r := 66) rfl) ((And.intro sm63 True.intro : _ ∧ True).1.l (r := 66) rfl) (by omega) (by omega) (fun v64 ev64 => ?_)
                    have cv64 : v64 = m63.2.1 66 29 := ev64
                    have VY := ev64.trans VS
                    exact gw_some (gq_I (by first | (exfalso; omega) | exact ⟨rfl, h⟩ | (refine ⟨VX.symm, ?_⟩; subst em63; subst em61; subst em58; subst ZM; exact A_clr h (by decide)) | (refine ⟨by rw [VY, VX, E28], ?_⟩; subst em63; subst em61; subst em58; subst ZM; exact A_plan h (by omega) (by omega) (by omega) (by omega))))
                  ·
                    exact gw_some (gq_I (by first | (exfalso; omega) | exact ⟨rfl, h⟩ | (refine ⟨VX.symm, ?_⟩; subst ZM; exact A_clr h (by decide)) | (refine ⟨by rw [VY, VX, E28], ?_⟩; subst ZM; exact A_plan h (by omega) (by omega) (by omega) (by omega))))
                ·
                  exact gw_some (gq_I (by first | (exfalso; omega) | exact ⟨rfl, h⟩ | (refine ⟨VX.symm, ?_⟩; subst ZM; exact A_clr h (by decide)) | (refine ⟨by rw [VY, VX, E28], ?_⟩; subst ZM; exact A_plan h (by omega) (by omega) (by omega) (by omega))))
          ·
            refine gw_gRa 66 (hm.1.c (r := 65) rfl) (hm.1.r (by decide)) ?_
            refine gw_sI (i := (29 : Int32)) (hm.1.t (r := 66) rfl) (hm.1.l (r := 66) rfl) (by omega) (by omega) (fun m65 em65 => ?_)
            have sm65 := gS.w GS em65
            rw [show (29 : Int32).toInt.toNat = 29 from by omega] at em65
            exact gw_some (gq_I (by first | (exfalso; omega) | exact ⟨rfl, h⟩ | (refine ⟨VX.symm, ?_⟩; subst em65; subst ZM; exact A_clr h (by decide)) | (refine ⟨by rw [VY, VX, E28], ?_⟩; subst em65; subst ZM; exact A_plan h (by omega) (by omega) (by omega) (by omega))))
        ·
          refine gw_some (gq_I ?_)
          have hm := h.1
          have T_μ : μ.2.1 66 29 = μ.2.1 66 29 := by rfl
          refine gwI_of ?_
          unfold f_X12_plan
          refine gw_ne (fun h2_66 => ?_) (fun h2_66 => ?_)
          ·
            refine gw_bI (s_X12_in ) (fun x67 m67 ⟨z67, f67⟩ => ?_)
            replace z67 := z67.symm
            subst z67
            refine gw_eq (fun h21_68 => ?_) (fun h21_68 => ?_)
            ·
              exact gw_some (gq_I (by first | (exfalso; omega) | exact ⟨rfl, h⟩ | (refine ⟨VX.symm, ?_⟩; skip; exact A_clr h (by decide)) | (refine ⟨by rw [VY, VX, E28], ?_⟩; skip; exact A_plan h (by omega) (by omega) (by omega) (by omega))))
            ·
              refine gw_ji ?_
              refine gw_le (fun h25_69 => ?_) (fun h25_69 => ?_)
              ·
                refine gw_gRa 66 (hm.1.c (r := 65) rfl) (hm.1.r (by decide)) ?_
                refine gw_aI (i := (29 : Int32)) (hm.1.t (r := 66) rfl) (hm.1.l (r := 66) rfl) (by omega) (by omega) (fun v70 ev70 => ?_)
                have cv70 : v70 = μ.2.1 66 29 := ev70
                have bv70 := hm.n29
                have dv70 : v70.toInt = (μ.2.1 66 29).toInt := by rw [cv70]
                rw [← dv70] at bv70
                have wv70 : v70 = μ.2.1 66 29 := ev70.trans T_μ
                have uv70 : v70.toInt = (μ.2.1 66 29).toInt := by rw [wv70]
                refine gw_ne (fun h47_71 => ?_) (fun h47_71 => ?_)
                ·
                  refine gw_gRa 66 (hm.1.c (r := 65) rfl) (hm.1.r (by decide)) ?_
                  refine gw_gRa 66 (hm.1.c (r := 65) rfl) (hm.1.r (by decide)) ?_
                  refine gw_aI (i := (29 : Int32)) (hm.1.t (r := 66) rfl) (hm.1.l (r := 66) rfl) (by omega) (by omega) (fun v72 ev72 => ?_)
                  have cv72 : v72 = μ.2.1 66 29 := ev72
                  have bv72 := hm.n29
                  have dv72 : v72.toInt = (μ.2.1 66 29).toInt := by rw [cv72]
                  rw [← dv72] at bv72
                  have wv72 : v72 = μ.2.1 66 29 := ev72.trans T_μ
                  have uv72 : v72.toInt = (μ.2.1 66 29).toInt := by rw [wv72]
                  have n73 : ((78 : Int32) + v72).toInt = (78 : Int32).toInt + v72.toInt := gx_add (by omega) (by omega)
                  refine gw_sI (i := ((78 : Int32) + v72)) (hm.1.t (r := 66) rfl) (hm.1.l (r := 66) rfl) (by omega) (by omega) (fun m74 em74 => ?_)
                  have sm74 := gS.w hc.1 em74
                  rw [show ((78 : Int32) + v72).toInt.toNat = 78 + (μ.2.1 66 29).toInt.toNat from by omega] at em74
                  have T_m74 : m74.2.1 66 29 = μ.2.1 66 29 := (rdn em74 (by omega)).trans T_μ
                  refine gw_gRa 66 ((And.intro sm74 True.intro : _ ∧ True).1.c (r := 65) rfl) ((And.intro sm74 True.intro : _ ∧ True).1.r (by decide)) ?_
                  refine gw_gRa 66 ((And.intro sm74 True.intro : _ ∧ True).1.c (r := 65) rfl) ((And.intro sm74 True.intro : _ ∧ True).1.r (by decide)) ?_
                  refine gw_aI (i := (29 : Int32)) ((And.intro sm74 True.intro : _ ∧ True).1.t (r := 66) rfl) ((And.intro sm74 True.intro : _ ∧ True).1.l (r := 66) rfl) (by omega) (by omega) (fun v75 ev75 => ?_)
                  have cv75 : v75 = m74.2.1 66 29 := ev75
                  have wv75 : v75 = μ.2.1 66 29 := ev75.trans T_m74
                  have uv75 : v75.toInt = (μ.2.1 66 29).toInt := by rw [wv75]
                  have n76 : ((86 : Int32) + v75).toInt = (86 : Int32).toInt + v75.toInt := gx_add (by omega) (by omega)
                  refine gw_sI (i := ((86 : Int32) + v75)) ((And.intro sm74 True.intro : _ ∧ True).1.t (r := 66) rfl) ((And.intro sm74 True.intro : _ ∧ True).1.l (r := 66) rfl) (by omega) (by omega) (fun m77 em77 => ?_)
                  have sm77 := gS.w sm74 em77
                  rw [show ((86 : Int32) + v75).toInt.toNat = 86 + (μ.2.1 66 29).toInt.toNat from by omega] at em77
                  have T_m77 : m77.2.1 66 29 = μ.2.1 66 29 := (rdn em77 (by omega)).trans T_m74
                  refine gw_gRa 66 ((And.intro sm77 True.intro : _ ∧ True).1.c (r := 65) rfl) ((And.intro sm77 True.intro : _ ∧ True).1.r (by decide)) ?_
                  refine gw_aI (i := (29 : Int32)) ((And.intro sm77 True.intro : _ ∧ True).1.t (r := 66) rfl) ((And.intro sm77 True.intro : _ ∧ True).1.l (r := 66) rfl) (by omega) (by omega) (fun v78 ev78 => ?_)
                  have cv78 : v78 = m77.2.1 66 29 := ev78
                  have wv78 : v78 = μ.2.1 66 29 := ev78.trans T_m77
                  have uv78 : v78.toInt = (μ.2.1 66 29).toInt := by rw [wv78]
                  refine gw_sI (i := (29 : Int32)) ((And.intro sm77 True.intro : _ ∧ True).1.t (r := 66) rfl) ((And.intro sm77 True.intro : _ ∧ True).1.l (r := 66) rfl) (by omega) (by omega) (fun m79 em79 => ?_)
                  have sm79 := gS.w sm77 em79
                  rw [show (29 : Int32).toInt.toNat = 29 from by omega] at em79
                  rw [wv78] at em79
                  have VS := rde em79
                  refine gw_gRa 66 ((And.intro sm79 True.intro : _ ∧ True).1.c (r := 65) rfl) ((And.intro sm79 True.intro : _ ∧ True).1.r (by decide)) ?_
                  refine gw_aI (i := (29 : Int32)) ((And.intro sm79 True.intro : _ ∧ True).1.t (r := 66) rfl) ((And.intro sm79 True.intro : _ ∧ True).1.l (r := 66) rfl) (by omega) (by omega) (fun v80 ev80 => ?_)
                  have cv80 : v80 = m79.2.1 66 29 := ev80
                  have VY := ev80.trans VS
                  exact gw_some (gq_I (by first | (exfalso; omega) | exact ⟨rfl, h⟩ | (refine ⟨VX.symm, ?_⟩; subst em79; subst em77; subst em74; exact A_clr h (by decide)) | (refine ⟨by rw [VY, VX, E28], ?_⟩; subst em79; subst em77; subst em74; exact A_plan h (by omega) (by omega) (by omega) (by omega))))
                ·
                  exact gw_some (gq_I (by first | (exfalso; omega) | exact ⟨rfl, h⟩ | (refine ⟨VX.symm, ?_⟩; skip; exact A_clr h (by decide)) | (refine ⟨by rw [VY, VX, E28], ?_⟩; skip; exact A_plan h (by omega) (by omega) (by omega) (by omega))))
              ·
                refine gw_if (hm.1.t (r := 65) rfl) ?_
                refine gw_bI (s_X12_isChild hm ) (fun x81 m81 ⟨z81, f81⟩ => ?_)
                replace z81 := z81.symm
                subst z81
                refine gw_ne (fun h33_82 => ?_) (fun h33_82 => ?_)
                ·
                  refine gw_gRa 66 (hm.1.c (r := 65) rfl) (hm.1.r (by decide)) ?_
                  refine gw_aI (i := (29 : Int32)) (hm.1.t (r := 66) rfl) (hm.1.l (r := 66) rfl) (by omega) (by omega) (fun v83 ev83 => ?_)
                  have cv83 : v83 = μ.2.1 66 29 := ev83
                  have bv83 := hm.n29
                  have dv83 : v83.toInt = (μ.2.1 66 29).toInt := by rw [cv83]
                  rw [← dv83] at bv83
                  have wv83 : v83 = μ.2.1 66 29 := ev83.trans T_μ
                  have uv83 : v83.toInt = (μ.2.1 66 29).toInt := by rw [wv83]
                  refine gw_ne (fun h47_84 => ?_) (fun h47_84 => ?_)
                  ·
                    refine gw_gRa 66 (hm.1.c (r := 65) rfl) (hm.1.r (by decide)) ?_
                    refine gw_gRa 66 (hm.1.c (r := 65) rfl) (hm.1.r (by decide)) ?_
                    refine gw_aI (i := (29 : Int32)) (hm.1.t (r := 66) rfl) (hm.1.l (r := 66) rfl) (by omega) (by omega) (fun v85 ev85 => ?_)
                    have cv85 : v85 = μ.2.1 66 29 := ev85
                    have bv85 := hm.n29
                    have dv85 : v85.toInt = (μ.2.1 66 29).toInt := by rw [cv85]
                    rw [← dv85] at bv85
                    have wv85 : v85 = μ.2.1 66 29 := ev85.trans T_μ
                    have uv85 : v85.toInt = (μ.2.1 66 29).toInt := by rw [wv85]
                    have n86 : ((78 : Int32) + v85).toInt = (78 : Int32).toInt + v85.toInt := gx_add (by omega) (by omega)
                    refine gw_sI (i := ((78 : Int32) + v85)) (hm.1.t (r := 66) rfl) (hm.1.l (r := 66) rfl) (by omega) (by omega) (fun m87 em87 => ?_)
                    have sm87 := gS.w hc.1 em87
                    rw [show ((78 : Int32) + v85).toInt.toNat = 78 + (μ.2.1 66 29).toInt.toNat from by omega] at em87
                    have T_m87 : m87.2.1 66 29 = μ.2.1 66 29 := (rdn em87 (by omega)).trans T_μ
                    refine gw_gRa 66 ((And.intro sm87 True.intro : _ ∧ True).1.c (r := 65) rfl) ((And.intro sm87 True.intro : _ ∧ True).1.r (by decide)) ?_
                    refine gw_gRa 66 ((And.intro sm87 True.intro : _ ∧ True).1.c (r := 65) rfl) ((And.intro sm87 True.intro : _ ∧ True).1.r (by decide)) ?_
                    refine gw_aI (i := (29 : Int32)) ((And.intro sm87 True.intro : _ ∧ True).1.t (r := 66) rfl) ((And.intro sm87 True.intro : _ ∧ True).1.l (r := 66) rfl) (by omega) (by omega) (fun v88 ev88 => ?_)
                    have cv88 : v88 = m87.2.1 66 29 := ev88
                    have wv88 : v88 = μ.2.1 66 29 := ev88.trans T_m87
                    have uv88 : v88.toInt = (μ.2.1 66 29).toInt := by rw [wv88]
                    have n89 : ((86 : Int32) + v88).toInt = (86 : Int32).toInt + v88.toInt := gx_add (by omega) (by omega)
                    refine gw_sI (i := ((86 : Int32) + v88)) ((And.intro sm87 True.intro : _ ∧ True).1.t (r := 66) rfl) ((And.intro sm87 True.intro : _ ∧ True).1.l (r := 66) rfl) (by omega) (by omega) (fun m90 em90 => ?_)
                    have sm90 := gS.w sm87 em90
                    rw [show ((86 : Int32) + v88).toInt.toNat = 86 + (μ.2.1 66 29).toInt.toNat from by omega] at em90
                    have T_m90 : m90.2.1 66 29 = μ.2.1 66 29 := (rdn em90 (by omega)).trans T_m87
                    refine gw_gRa 66 ((And.intro sm90 True.intro : _ ∧ True).1.c (r := 65) rfl) ((And.intro sm90 True.intro : _ ∧ True).1.r (by decide)) ?_
                    refine gw_aI (i := (29 : Int32)) ((And.intro sm90 True.intro : _ ∧ True).1.t (r := 66) rfl) ((And.intro sm90 True.intro : _ ∧ True).1.l (r := 66) rfl) (by omega) (by omega) (fun v91 ev91 => ?_)
                    have cv91 : v91 = m90.2.1 66 29 := ev91
                    have wv91 : v91 = μ.2.1 66 29 := ev91.trans T_m90
                    have uv91 : v91.toInt = (μ.2.1 66 29).toInt := by rw [wv91]
                    refine gw_sI (i := (29 : Int32)) ((And.intro sm90 True.intro : _ ∧ True).1.t (r := 66) rfl) ((And.intro sm90 True.intro : _ ∧ True).1.l (r := 66) rfl) (by omega) (by omega) (fun m92 em92 => ?_)
                    have sm92 := gS.w sm90 em92
                    rw [show (29 : Int32).toInt.toNat = 29 from by omega] at em92
                    rw [wv91] at em92
                    have VS := rde em92
                    refine gw_gRa 66 ((And.intro sm92 True.intro : _ ∧ True).1.c (r := 65) rfl) ((And.intro sm92 True.intro : _ ∧ True).1.r (by decide)) ?_
                    refine gw_aI (i := (29 : Int32)) ((And.intro sm92 True.intro : _ ∧ True).1.t (r := 66) rfl) ((And.intro sm92 True.intro : _ ∧ True).1.l (r := 66) rfl) (by omega) (by omega) (fun v93 ev93 => ?_)
                    have cv93 : v93 = m92.2.1 66 29 := ev93
                    have VY := ev93.trans VS
                    exact gw_some (gq_I (by first | (exfalso; omega) | exact ⟨rfl, h⟩ | (refine ⟨VX.symm, ?_⟩; subst em92; subst em90; subst em87; exact A_clr h (by decide)) | (refine ⟨by rw [VY, VX, E28], ?_⟩; subst em92; subst em90; subst em87; exact A_plan h (by omega) (by omega) (by omega) (by omega))))
                  ·
                    exact gw_some (gq_I (by first | (exfalso; omega) | exact ⟨rfl, h⟩ | (refine ⟨VX.symm, ?_⟩; skip; exact A_clr h (by decide)) | (refine ⟨by rw [VY, VX, E28], ?_⟩; skip; exact A_plan h (by omega) (by omega) (by omega) (by omega))))
                ·
                  exact gw_some (gq_I (by first | (exfalso; omega) | exact ⟨rfl, h⟩ | (refine ⟨VX.symm, ?_⟩; skip; exact A_clr h (by decide)) | (refine ⟨by rw [VY, VX, E28], ?_⟩; skip; exact A_plan h (by omega) (by omega) (by omega) (by omega))))
          ·
            refine gw_gRa 66 (hm.1.c (r := 65) rfl) (hm.1.r (by decide)) ?_
            refine gw_sI (i := (29 : Int32)) (hm.1.t (r := 66) rfl) (hm.1.l (r := 66) rfl) (by omega) (by omega) (fun m94 em94 => ?_)
            have sm94 := gS.w hc.1 em94
            rw [show (29 : Int32).toInt.toNat = 29 from by omega] at em94
            exact gw_some (gq_I (by first | (exfalso; omega) | exact ⟨rfl, h⟩ | (refine ⟨VX.symm, ?_⟩; subst em94; exact A_clr h (by decide)) | (refine ⟨by rw [VY, VX, E28], ?_⟩; subst em94; exact A_plan h (by omega) (by omega) (by omega) (by omega))))
      ·
        refine gw_if (hc.1.t (r := 1) rfl) ?_
        refine gw_bI (s_X11_isNobody hc ) (fun x95 m95 ⟨z95, f95⟩ => ?_)
        replace z95 := z95.symm
        subst z95
        refine gw_eq (fun h34_96 => ?_) (fun h34_96 => ?_)
        ·
          refine gw_gRa 15 (hc.1.c (r := 1) rfl) (hc.1.r (by decide)) ?_
          refine gw_gRa 25 (hc.1.c (r := 15) rfl) (hc.1.r (by decide)) ?_
          refine gw_if (hc.1.t (r := 25) rfl) ?_
          refine gw_bI (s_isFull (r := 25) (hc.1.t rfl)) (fun x97 m97 z97 => ?_)
          obtain ⟨zz, FF⟩ := z97
          replace zz := zz.symm
          subst zz
          refine gw_eq (fun h49_98 => ?_) (fun h49_98 => ?_)
          ·
            refine gw_gRa 15 (hc.1.c (r := 1) rfl) (hc.1.r (by decide)) ?_
            refine gw_gRa 25 (hc.1.c (r := 15) rfl) (hc.1.r (by decide)) ?_
            refine gw_if (hc.1.t (r := 25) rfl) ?_
            refine gw_bI (s_add (r := 25) 8 (hc.1.t rfl) (hc.1.t rfl) (hc.1.l rfl) (hc.1.r (by decide)) hc.l25 hc.n25.1 (by omega) (by decide)) (fun x99 m99 z99 => ?_)
            obtain ⟨VX, ZD⟩ := z99
            have ZM : m99 = ad μ 25 a1 a2 0 := by rcases ZD with ⟨-, q⟩ | ⟨q, -⟩; exact q; exfalso; omega
            have GS : gS m99 := by rw [ZM]; exact hc.1
            have R6 : m99.2.1 66 = μ.2.1 66 := by rw [ZM]; exact ad_o (by decide) (by decide)
            refine gw_some (gq_I ?_)
            have hm : MI m99 := ⟨GS, by rw [R6]; exact h.1.2⟩
            have T_m99 : m99.2.1 66 29 = μ.2.1 66 29 := by rw [R6]
            refine gwI_of ?_
            unfold f_X12_plan
            refine gw_ne (fun h2_100 => ?_) (fun h2_100 => ?_)
            ·
              refine gw_bI (s_X12_in ) (fun x101 m101 ⟨z101, f101⟩ => ?_)
              replace z101 := z101.symm
              subst z101
              refine gw_eq (fun h21_102 => ?_) (fun h21_102 => ?_)
              ·
                exact gw_some (gq_I (by first | (exfalso; omega) | exact ⟨rfl, h⟩ | (refine ⟨VX.symm, ?_⟩; subst ZM; exact A_clr h (by decide)) | (refine ⟨by rw [VY, VX, E28], ?_⟩; subst ZM; exact A_plan h (by omega) (by omega) (by omega) (by omega))))
              ·
                refine gw_ji ?_
                refine gw_le (fun h25_103 => ?_) (fun h25_103 => ?_)
                ·
                  refine gw_gRa 66 (hm.1.c (r := 65) rfl) (hm.1.r (by decide)) ?_
                  refine gw_aI (i := (29 : Int32)) (hm.1.t (r := 66) rfl) (hm.1.l (r := 66) rfl) (by omega) (by omega) (fun v104 ev104 => ?_)
                  have cv104 : v104 = m99.2.1 66 29 := ev104
                  have bv104 := hm.n29
                  have dv104 : v104.toInt = (m99.2.1 66 29).toInt := by rw [cv104]
                  have yv104 : v104.toInt = (μ.2.1 66 29).toInt := by rw [dv104, R6]
                  rw [← dv104] at bv104
                  have wv104 : v104 = μ.2.1 66 29 := ev104.trans T_m99
                  have uv104 : v104.toInt = (μ.2.1 66 29).toInt := by rw [wv104]
                  refine gw_ne (fun h47_105 => ?_) (fun h47_105 => ?_)
                  ·
                    refine gw_gRa 66 (hm.1.c (r := 65) rfl) (hm.1.r (by decide)) ?_
                    refine gw_gRa 66 (hm.1.c (r := 65) rfl) (hm.1.r (by decide)) ?_
                    refine gw_aI (i := (29 : Int32)) (hm.1.t (r := 66) rfl) (hm.1.l (r := 66) rfl) (by omega) (by omega) (fun v106 ev106 => ?_)
                    have cv106 : v106 = m99.2.1 66 29 := ev106
                    have bv106 := hm.n29
                    have dv106 : v106.toInt = (m99.2.1 66 29).toInt := by rw [cv106]
                    have yv106 : v106.toInt = (μ.2.1 66 29).toInt := by rw [dv106, R6]
                    rw [← dv106] at bv106
                    have wv106 : v106 = μ.2.1 66 29 := ev106.trans T_m99
                    have uv106 : v106.toInt = (μ.2.1 66 29).toInt := by rw [wv106]
                    have n107 : ((78 : Int32) + v106).toInt = (78 : Int32).toInt + v106.toInt := gx_add (by omega) (by omega)
                    refine gw_sI (i := ((78 : Int32) + v106)) (hm.1.t (r := 66) rfl) (hm.1.l (r := 66) rfl) (by omega) (by omega) (fun m108 em108 => ?_)
                    have sm108 := gS.w GS em108
                    rw [show ((78 : Int32) + v106).toInt.toNat = 78 + (μ.2.1 66 29).toInt.toNat from by omega] at em108
                    have T_m108 : m108.2.1 66 29 = μ.2.1 66 29 := (rdn em108 (by omega)).trans T_m99
                    refine gw_gRa 66 ((And.intro sm108 True.intro : _ ∧ True).1.c (r := 65) rfl) ((And.intro sm108 True.intro : _ ∧ True).1.r (by decide)) ?_
                    refine gw_gRa 66 ((And.intro sm108 True.intro : _ ∧ True).1.c (r := 65) rfl) ((And.intro sm108 True.intro : _ ∧ True).1.r (by decide)) ?_
                    refine gw_aI (i := (29 : Int32)) ((And.intro sm108 True.intro : _ ∧ True).1.t (r := 66) rfl) ((And.intro sm108 True.intro : _ ∧ True).1.l (r := 66) rfl) (by omega) (by omega) (fun v109 ev109 => ?_)
                    have cv109 : v109 = m108.2.1 66 29 := ev109
                    have wv109 : v109 = μ.2.1 66 29 := ev109.trans T_m108
                    have uv109 : v109.toInt = (μ.2.1 66 29).toInt := by rw [wv109]
                    have n110 : ((86 : Int32) + v109).toInt = (86 : Int32).toInt + v109.toInt := gx_add (by omega) (by omega)
                    refine gw_sI (i := ((86 : Int32) + v109)) ((And.intro sm108 True.intro : _ ∧ True).1.t (r := 66) rfl) ((And.intro sm108 True.intro : _ ∧ True).1.l (r := 66) rfl) (by omega) (by omega) (fun m111 em111 => ?_)
                    have sm111 := gS.w sm108 em111
                    rw [show ((86 : Int32) + v109).toInt.toNat = 86 + (μ.2.1 66 29).toInt.toNat from by omega] at em111
                    have T_m111 : m111.2.1 66 29 = μ.2.1 66 29 := (rdn em111 (by omega)).trans T_m108
                    refine gw_gRa 66 ((And.intro sm111 True.intro : _ ∧ True).1.c (r := 65) rfl) ((And.intro sm111 True.intro : _ ∧ True).1.r (by decide)) ?_
                    refine gw_aI (i := (29 : Int32)) ((And.intro sm111 True.intro : _ ∧ True).1.t (r := 66) rfl) ((And.intro sm111 True.intro : _ ∧ True).1.l (r := 66) rfl) (by omega) (by omega) (fun v112 ev112 => ?_)
                    have cv112 : v112 = m111.2.1 66 29 := ev112
                    have wv112 : v112 = μ.2.1 66 29 := ev112.trans T_m111
                    have uv112 : v112.toInt = (μ.2.1 66 29).toInt := by rw [wv112]
                    refine gw_sI (i := (29 : Int32)) ((And.intro sm111 True.intro : _ ∧ True).1.t (r := 66) rfl) ((And.intro sm111 True.intro : _ ∧ True).1.l (r := 66) rfl) (by omega) (by omega) (fun m113 em113 => ?_)
                    have sm113 := gS.w sm111 em113
                    rw [show (29 : Int32).toInt.toNat = 29 from by omega] at em113
                    rw [wv112] at em113
                    have VS := rde em113
                    refine gw_gRa 66 ((And.intro sm113 True.intro : _ ∧ True).1.c (r := 65) rfl) ((And.intro sm113 True.intro : _ ∧ True).1.r (by decide)) ?_
                    refine gw_aI (i := (29 : Int32)) ((And.intro sm113 True.intro : _ ∧ True).1.t (r := 66) rfl) ((And.intro sm113 True.intro : _ ∧ True).1.l (r := 66) rfl) (by omega) (by omega) (fun v114 ev114 => ?_)
                    have cv114 : v114 = m113.2.1 66 29 := ev114
                    have VY := ev114.trans VS
                    exact gw_some (gq_I (by first | (exfalso; omega) | exact ⟨rfl, h⟩ | (refine ⟨VX.symm, ?_⟩; subst em113; subst em111; subst em108; subst ZM; exact A_clr h (by decide)) | (refine ⟨by rw [VY, VX, E28], ?_⟩; subst em113; subst em111; subst em108; subst ZM; exact A_plan h (by omega) (by omega) (by omega) (by omega))))
                  ·
                    exact gw_some (gq_I (by first | (exfalso; omega) | exact ⟨rfl, h⟩ | (refine ⟨VX.symm, ?_⟩; subst ZM; exact A_clr h (by decide)) | (refine ⟨by rw [VY, VX, E28], ?_⟩; subst ZM; exact A_plan h (by omega) (by omega) (by omega) (by omega))))
                ·
                  refine gw_if (hm.1.t (r := 65) rfl) ?_
                  refine gw_bI (s_X12_isChild hm ) (fun x115 m115 ⟨z115, f115⟩ => ?_)
                  replace z115 := z115.symm
                  subst z115
                  rw [R6] at f115
                  refine gw_ne (fun h33_116 => ?_) (fun h33_116 => ?_)
                  ·
                    refine gw_gRa 66 (hm.1.c (r := 65) rfl) (hm.1.r (by decide)) ?_
                    refine gw_aI (i := (29 : Int32)) (hm.1.t (r := 66) rfl) (hm.1.l (r := 66) rfl) (by omega) (by omega) (fun v117 ev117 => ?_)
                    have cv117 : v117 = m99.2.1 66 29 := ev117
                    have bv117 := hm.n29
                    have dv117 : v117.toInt = (m99.2.1 66 29).toInt := by rw [cv117]
                    have yv117 : v117.toInt = (μ.2.1 66 29).toInt := by rw [dv117, R6]
                    rw [← dv117] at bv117
                    have wv117 : v117 = μ.2.1 66 29 := ev117.trans T_m99
                    have uv117 : v117.toInt = (μ.2.1 66 29).toInt := by rw [wv117]
                    refine gw_ne (fun h47_118 => ?_) (fun h47_118 => ?_)
                    ·
                      refine gw_gRa 66 (hm.1.c (r := 65) rfl) (hm.1.r (by decide)) ?_
                      refine gw_gRa 66 (hm.1.c (r := 65) rfl) (hm.1.r (by decide)) ?_
                      refine gw_aI (i := (29 : Int32)) (hm.1.t (r := 66) rfl) (hm.1.l (r := 66) rfl) (by omega) (by omega) (fun v119 ev119 => ?_)
                      have cv119 : v119 = m99.2.1 66 29 := ev119
                      have bv119 := hm.n29
                      have dv119 : v119.toInt = (m99.2.1 66 29).toInt := by rw [cv119]
                      have yv119 : v119.toInt = (μ.2.1 66 29).toInt := by rw [dv119, R6]
                      rw [← dv119] at bv119
                      have wv119 : v119 = μ.2.1 66 29 := ev119.trans T_m99
                      have uv119 : v119.toInt = (μ.2.1 66 29).toInt := by rw [wv119]
                      have n120 : ((78 : Int32) + v119).toInt = (78 : Int32).toInt + v119.toInt := gx_add (by omega) (by omega)
                      refine gw_sI (i := ((78 : Int32) + v119)) (hm.1.t (r := 66) rfl) (hm.1.l (r := 66) rfl) (by omega) (by omega) (fun m121 em121 => ?_)
                      have sm121 := gS.w GS em121
                      rw [show ((78 : Int32) + v119).toInt.toNat = 78 + (μ.2.1 66 29).toInt.toNat from by omega] at em121
                      have T_m121 : m121.2.1 66 29 = μ.2.1 66 29 := (rdn em121 (by omega)).trans T_m99
                      refine gw_gRa 66 ((And.intro sm121 True.intro : _ ∧ True).1.c (r := 65) rfl) ((And.intro sm121 True.intro : _ ∧ True).1.r (by decide)) ?_
                      refine gw_gRa 66 ((And.intro sm121 True.intro : _ ∧ True).1.c (r := 65) rfl) ((And.intro sm121 True.intro : _ ∧ True).1.r (by decide)) ?_
                      refine gw_aI (i := (29 : Int32)) ((And.intro sm121 True.intro : _ ∧ True).1.t (r := 66) rfl) ((And.intro sm121 True.intro : _ ∧ True).1.l (r := 66) rfl) (by omega) (by omega) (fun v122 ev122 => ?_)
                      have cv122 : v122 = m121.2.1 66 29 := ev122
                      have wv122 : v122 = μ.2.1 66 29 := ev122.trans T_m121
                      have uv122 : v122.toInt = (μ.2.1 66 29).toInt := by rw [wv122]
                      have n123 : ((86 : Int32) + v122).toInt = (86 : Int32).toInt + v122.toInt := gx_add (by omega) (by omega)
                      refine gw_sI (i := ((86 : Int32) + v122)) ((And.intro sm121 True.intro : _ ∧ True).1.t (r := 66) rfl) ((And.intro sm121 True.intro : _ ∧ True).1.l (r := 66) rfl) (by omega) (by omega) (fun m124 em124 => ?_)
                      have sm124 := gS.w sm121 em124
                      rw [show ((86 : Int32) + v122).toInt.toNat = 86 + (μ.2.1 66 29).toInt.toNat from by omega] at em124
                      have T_m124 : m124.2.1 66 29 = μ.2.1 66 29 := (rdn em124 (by omega)).trans T_m121
                      refine gw_gRa 66 ((And.intro sm124 True.intro : _ ∧ True).1.c (r := 65) rfl) ((And.intro sm124 True.intro : _ ∧ True).1.r (by decide)) ?_
                      refine gw_aI (i := (29 : Int32)) ((And.intro sm124 True.intro : _ ∧ True).1.t (r := 66) rfl) ((And.intro sm124 True.intro : _ ∧ True).1.l (r := 66) rfl) (by omega) (by omega) (fun v125 ev125 => ?_)
                      have cv125 : v125 = m124.2.1 66 29 := ev125
                      have wv125 : v125 = μ.2.1 66 29 := ev125.trans T_m124
                      have uv125 : v125.toInt = (μ.2.1 66 29).toInt := by rw [wv125]
                      refine gw_sI (i := (29 : Int32)) ((And.intro sm124 True.intro : _ ∧ True).1.t (r := 66) rfl) ((And.intro sm124 True.intro : _ ∧ True).1.l (r := 66) rfl) (by omega) (by omega) (fun m126 em126 => ?_)
                      have sm126 := gS.w sm124 em126
                      rw [show (29 : Int32).toInt.toNat = 29 from by omega] at em126
                      rw [wv125] at em126
                      have VS := rde em126
                      refine gw_gRa 66 ((And.intro sm126 True.intro : _ ∧ True).1.c (r := 65) rfl) ((And.intro sm126 True.intro : _ ∧ True).1.r (by decide)) ?_
                      refine gw_aI (i := (29 : Int32)) ((And.intro sm126 True.intro : _ ∧ True).1.t (r := 66) rfl) ((And.intro sm126 True.intro : _ ∧ True).1.l (r := 66) rfl) (by omega) (by omega) (fun v127 ev127 => ?_)
                      have cv127 : v127 = m126.2.1 66 29 := ev127
                      have VY := ev127.trans VS
                      exact gw_some (gq_I (by first | (exfalso; omega) | exact ⟨rfl, h⟩ | (refine ⟨VX.symm, ?_⟩; subst em126; subst em124; subst em121; subst ZM; exact A_clr h (by decide)) | (refine ⟨by rw [VY, VX, E28], ?_⟩; subst em126; subst em124; subst em121; subst ZM; exact A_plan h (by omega) (by omega) (by omega) (by omega))))
                    ·
                      exact gw_some (gq_I (by first | (exfalso; omega) | exact ⟨rfl, h⟩ | (refine ⟨VX.symm, ?_⟩; subst ZM; exact A_clr h (by decide)) | (refine ⟨by rw [VY, VX, E28], ?_⟩; subst ZM; exact A_plan h (by omega) (by omega) (by omega) (by omega))))
                  ·
                    exact gw_some (gq_I (by first | (exfalso; omega) | exact ⟨rfl, h⟩ | (refine ⟨VX.symm, ?_⟩; subst ZM; exact A_clr h (by decide)) | (refine ⟨by rw [VY, VX, E28], ?_⟩; subst ZM; exact A_plan h (by omega) (by omega) (by omega) (by omega))))
            ·
              refine gw_gRa 66 (hm.1.c (r := 65) rfl) (hm.1.r (by decide)) ?_
              refine gw_sI (i := (29 : Int32)) (hm.1.t (r := 66) rfl) (hm.1.l (r := 66) rfl) (by omega) (by omega) (fun m128 em128 => ?_)
              have sm128 := gS.w GS em128
              rw [show (29 : Int32).toInt.toNat = 29 from by omega] at em128
              exact gw_some (gq_I (by first | (exfalso; omega) | exact ⟨rfl, h⟩ | (refine ⟨VX.symm, ?_⟩; subst em128; subst ZM; exact A_clr h (by decide)) | (refine ⟨by rw [VY, VX, E28], ?_⟩; subst em128; subst ZM; exact A_plan h (by omega) (by omega) (by omega) (by omega))))
          ·
            refine gw_some (gq_I ?_)
            have hm := h.1
            have T_μ : μ.2.1 66 29 = μ.2.1 66 29 := by rfl
            refine gwI_of ?_
            unfold f_X12_plan
            refine gw_ne (fun h2_129 => ?_) (fun h2_129 => ?_)
            ·
              refine gw_bI (s_X12_in ) (fun x130 m130 ⟨z130, f130⟩ => ?_)
              replace z130 := z130.symm
              subst z130
              refine gw_eq (fun h21_131 => ?_) (fun h21_131 => ?_)
              ·
                exact gw_some (gq_I (by first | (exfalso; omega) | exact ⟨rfl, h⟩ | (refine ⟨VX.symm, ?_⟩; skip; exact A_clr h (by decide)) | (refine ⟨by rw [VY, VX, E28], ?_⟩; skip; exact A_plan h (by omega) (by omega) (by omega) (by omega))))
              ·
                refine gw_ji ?_
                refine gw_le (fun h25_132 => ?_) (fun h25_132 => ?_)
                ·
                  refine gw_gRa 66 (hm.1.c (r := 65) rfl) (hm.1.r (by decide)) ?_
                  refine gw_aI (i := (29 : Int32)) (hm.1.t (r := 66) rfl) (hm.1.l (r := 66) rfl) (by omega) (by omega) (fun v133 ev133 => ?_)
                  have cv133 : v133 = μ.2.1 66 29 := ev133
                  have bv133 := hm.n29
                  have dv133 : v133.toInt = (μ.2.1 66 29).toInt := by rw [cv133]
                  rw [← dv133] at bv133
                  have wv133 : v133 = μ.2.1 66 29 := ev133.trans T_μ
                  have uv133 : v133.toInt = (μ.2.1 66 29).toInt := by rw [wv133]
                  refine gw_ne (fun h47_134 => ?_) (fun h47_134 => ?_)
                  ·
                    refine gw_gRa 66 (hm.1.c (r := 65) rfl) (hm.1.r (by decide)) ?_
                    refine gw_gRa 66 (hm.1.c (r := 65) rfl) (hm.1.r (by decide)) ?_
                    refine gw_aI (i := (29 : Int32)) (hm.1.t (r := 66) rfl) (hm.1.l (r := 66) rfl) (by omega) (by omega) (fun v135 ev135 => ?_)
                    have cv135 : v135 = μ.2.1 66 29 := ev135
                    have bv135 := hm.n29
                    have dv135 : v135.toInt = (μ.2.1 66 29).toInt := by rw [cv135]
                    rw [← dv135] at bv135
                    have wv135 : v135 = μ.2.1 66 29 := ev135.trans T_μ
                    have uv135 : v135.toInt = (μ.2.1 66 29).toInt := by rw [wv135]
                    have n136 : ((78 : Int32) + v135).toInt = (78 : Int32).toInt + v135.toInt := gx_add (by omega) (by omega)
                    refine gw_sI (i := ((78 : Int32) + v135)) (hm.1.t (r := 66) rfl) (hm.1.l (r := 66) rfl) (by omega) (by omega) (fun m137 em137 => ?_)
                    have sm137 := gS.w hc.1 em137
                    rw [show ((78 : Int32) + v135).toInt.toNat = 78 + (μ.2.1 66 29).toInt.toNat from by omega] at em137
                    have T_m137 : m137.2.1 66 29 = μ.2.1 66 29 := (rdn em137 (by omega)).trans T_μ
                    refine gw_gRa 66 ((And.intro sm137 True.intro : _ ∧ True).1.c (r := 65) rfl) ((And.intro sm137 True.intro : _ ∧ True).1.r (by decide)) ?_
                    refine gw_gRa 66 ((And.intro sm137 True.intro : _ ∧ True).1.c (r := 65) rfl) ((And.intro sm137 True.intro : _ ∧ True).1.r (by decide)) ?_
                    refine gw_aI (i := (29 : Int32)) ((And.intro sm137 True.intro : _ ∧ True).1.t (r := 66) rfl) ((And.intro sm137 True.intro : _ ∧ True).1.l (r := 66) rfl) (by omega) (by omega) (fun v138 ev138 => ?_)
                    have cv138 : v138 = m137.2.1 66 29 := ev138
                    have wv138 : v138 = μ.2.1 66 29 := ev138.trans T_m137
                    have uv138 : v138.toInt = (μ.2.1 66 29).toInt := by rw [wv138]
                    have n139 : ((86 : Int32) + v138).toInt = (86 : Int32).toInt + v138.toInt := gx_add (by omega) (by omega)
                    refine gw_sI (i := ((86 : Int32) + v138)) ((And.intro sm137 True.intro : _ ∧ True).1.t (r := 66) rfl) ((And.intro sm137 True.intro : _ ∧ True).1.l (r := 66) rfl) (by omega) (by omega) (fun m140 em140 => ?_)
                    have sm140 := gS.w sm137 em140
                    rw [show ((86 : Int32) + v138).toInt.toNat = 86 + (μ.2.1 66 29).toInt.toNat from by omega] at em140
                    have T_m140 : m140.2.1 66 29 = μ.2.1 66 29 := (rdn em140 (by omega)).trans T_m137
                    refine gw_gRa 66 ((And.intro sm140 True.intro : _ ∧ True).1.c (r := 65) rfl) ((And.intro sm140 True.intro : _ ∧ True).1.r (by decide)) ?_
                    refine gw_aI (i := (29 : Int32)) ((And.intro sm140 True.intro : _ ∧ True).1.t (r := 66) rfl) ((And.intro sm140 True.intro : _ ∧ True).1.l (r := 66) rfl) (by omega) (by omega) (fun v141 ev141 => ?_)
                    have cv141 : v141 = m140.2.1 66 29 := ev141
                    have wv141 : v141 = μ.2.1 66 29 := ev141.trans T_m140
                    have uv141 : v141.toInt = (μ.2.1 66 29).toInt := by rw [wv141]
                    refine gw_sI (i := (29 : Int32)) ((And.intro sm140 True.intro : _ ∧ True).1.t (r := 66) rfl) ((And.intro sm140 True.intro : _ ∧ True).1.l (r := 66) rfl) (by omega) (by omega) (fun m142 em142 => ?_)
                    have sm142 := gS.w sm140 em142
                    rw [show (29 : Int32).toInt.toNat = 29 from by omega] at em142
                    rw [wv141] at em142
                    have VS := rde em142
                    refine gw_gRa 66 ((And.intro sm142 True.intro : _ ∧ True).1.c (r := 65) rfl) ((And.intro sm142 True.intro : _ ∧ True).1.r (by decide)) ?_
                    refine gw_aI (i := (29 : Int32)) ((And.intro sm142 True.intro : _ ∧ True).1.t (r := 66) rfl) ((And.intro sm142 True.intro : _ ∧ True).1.l (r := 66) rfl) (by omega) (by omega) (fun v143 ev143 => ?_)
                    have cv143 : v143 = m142.2.1 66 29 := ev143
                    have VY := ev143.trans VS
                    exact gw_some (gq_I (by first | (exfalso; omega) | exact ⟨rfl, h⟩ | (refine ⟨VX.symm, ?_⟩; subst em142; subst em140; subst em137; exact A_clr h (by decide)) | (refine ⟨by rw [VY, VX, E28], ?_⟩; subst em142; subst em140; subst em137; exact A_plan h (by omega) (by omega) (by omega) (by omega))))
                  ·
                    exact gw_some (gq_I (by first | (exfalso; omega) | exact ⟨rfl, h⟩ | (refine ⟨VX.symm, ?_⟩; skip; exact A_clr h (by decide)) | (refine ⟨by rw [VY, VX, E28], ?_⟩; skip; exact A_plan h (by omega) (by omega) (by omega) (by omega))))
                ·
                  refine gw_if (hm.1.t (r := 65) rfl) ?_
                  refine gw_bI (s_X12_isChild hm ) (fun x144 m144 ⟨z144, f144⟩ => ?_)
                  replace z144 := z144.symm
                  subst z144
                  refine gw_ne (fun h33_145 => ?_) (fun h33_145 => ?_)
                  ·
                    refine gw_gRa 66 (hm.1.c (r := 65) rfl) (hm.1.r (by decide)) ?_
                    refine gw_aI (i := (29 : Int32)) (hm.1.t (r := 66) rfl) (hm.1.l (r := 66) rfl) (by omega) (by omega) (fun v146 ev146 => ?_)
                    have cv146 : v146 = μ.2.1 66 29 := ev146
                    have bv146 := hm.n29
                    have dv146 : v146.toInt = (μ.2.1 66 29).toInt := by rw [cv146]
                    rw [← dv146] at bv146
                    have wv146 : v146 = μ.2.1 66 29 := ev146.trans T_μ
                    have uv146 : v146.toInt = (μ.2.1 66 29).toInt := by rw [wv146]
                    refine gw_ne (fun h47_147 => ?_) (fun h47_147 => ?_)
                    ·
                      refine gw_gRa 66 (hm.1.c (r := 65) rfl) (hm.1.r (by decide)) ?_
                      refine gw_gRa 66 (hm.1.c (r := 65) rfl) (hm.1.r (by decide)) ?_
                      refine gw_aI (i := (29 : Int32)) (hm.1.t (r := 66) rfl) (hm.1.l (r := 66) rfl) (by omega) (by omega) (fun v148 ev148 => ?_)
                      have cv148 : v148 = μ.2.1 66 29 := ev148
                      have bv148 := hm.n29
                      have dv148 : v148.toInt = (μ.2.1 66 29).toInt := by rw [cv148]
                      rw [← dv148] at bv148
                      have wv148 : v148 = μ.2.1 66 29 := ev148.trans T_μ
                      have uv148 : v148.toInt = (μ.2.1 66 29).toInt := by rw [wv148]
                      have n149 : ((78 : Int32) + v148).toInt = (78 : Int32).toInt + v148.toInt := gx_add (by omega) (by omega)
                      refine gw_sI (i := ((78 : Int32) + v148)) (hm.1.t (r := 66) rfl) (hm.1.l (r := 66) rfl) (by omega) (by omega) (fun m150 em150 => ?_)
                      have sm150 := gS.w hc.1 em150
                      rw [show ((78 : Int32) + v148).toInt.toNat = 78 + (μ.2.1 66 29).toInt.toNat from by omega] at em150
                      have T_m150 : m150.2.1 66 29 = μ.2.1 66 29 := (rdn em150 (by omega)).trans T_μ
                      refine gw_gRa 66 ((And.intro sm150 True.intro : _ ∧ True).1.c (r := 65) rfl) ((And.intro sm150 True.intro : _ ∧ True).1.r (by decide)) ?_
                      refine gw_gRa 66 ((And.intro sm150 True.intro : _ ∧ True).1.c (r := 65) rfl) ((And.intro sm150 True.intro : _ ∧ True).1.r (by decide)) ?_
                      refine gw_aI (i := (29 : Int32)) ((And.intro sm150 True.intro : _ ∧ True).1.t (r := 66) rfl) ((And.intro sm150 True.intro : _ ∧ True).1.l (r := 66) rfl) (by omega) (by omega) (fun v151 ev151 => ?_)
                      have cv151 : v151 = m150.2.1 66 29 := ev151
                      have wv151 : v151 = μ.2.1 66 29 := ev151.trans T_m150
                      have uv151 : v151.toInt = (μ.2.1 66 29).toInt := by rw [wv151]
                      have n152 : ((86 : Int32) + v151).toInt = (86 : Int32).toInt + v151.toInt := gx_add (by omega) (by omega)
                      refine gw_sI (i := ((86 : Int32) + v151)) ((And.intro sm150 True.intro : _ ∧ True).1.t (r := 66) rfl) ((And.intro sm150 True.intro : _ ∧ True).1.l (r := 66) rfl) (by omega) (by omega) (fun m153 em153 => ?_)
                      have sm153 := gS.w sm150 em153
                      rw [show ((86 : Int32) + v151).toInt.toNat = 86 + (μ.2.1 66 29).toInt.toNat from by omega] at em153
                      have T_m153 : m153.2.1 66 29 = μ.2.1 66 29 := (rdn em153 (by omega)).trans T_m150
                      refine gw_gRa 66 ((And.intro sm153 True.intro : _ ∧ True).1.c (r := 65) rfl) ((And.intro sm153 True.intro : _ ∧ True).1.r (by decide)) ?_
                      refine gw_aI (i := (29 : Int32)) ((And.intro sm153 True.intro : _ ∧ True).1.t (r := 66) rfl) ((And.intro sm153 True.intro : _ ∧ True).1.l (r := 66) rfl) (by omega) (by omega) (fun v154 ev154 => ?_)
                      have cv154 : v154 = m153.2.1 66 29 := ev154
                      have wv154 : v154 = μ.2.1 66 29 := ev154.trans T_m153
                      have uv154 : v154.toInt = (μ.2.1 66 29).toInt := by rw [wv154]
                      refine gw_sI (i := (29 : Int32)) ((And.intro sm153 True.intro : _ ∧ True).1.t (r := 66) rfl) ((And.intro sm153 True.intro : _ ∧ True).1.l (r := 66) rfl) (by omega) (by omega) (fun m155 em155 => ?_)
                      have sm155 := gS.w sm153 em155
                      rw [show (29 : Int32).toInt.toNat = 29 from by omega] at em155
                      rw [wv154] at em155
                      have VS := rde em155
                      refine gw_gRa 66 ((And.intro sm155 True.intro : _ ∧ True).1.c (r := 65) rfl) ((And.intro sm155 True.intro : _ ∧ True).1.r (by decide)) ?_
                      refine gw_aI (i := (29 : Int32)) ((And.intro sm155 True.intro : _ ∧ True).1.t (r := 66) rfl) ((And.intro sm155 True.intro : _ ∧ True).1.l (r := 66) rfl) (by omega) (by omega) (fun v156 ev156 => ?_)
                      have cv156 : v156 = m155.2.1 66 29 := ev156
                      have VY := ev156.trans VS
                      exact gw_some (gq_I (by first | (exfalso; omega) | exact ⟨rfl, h⟩ | (refine ⟨VX.symm, ?_⟩; subst em155; subst em153; subst em150; exact A_clr h (by decide)) | (refine ⟨by rw [VY, VX, E28], ?_⟩; subst em155; subst em153; subst em150; exact A_plan h (by omega) (by omega) (by omega) (by omega))))
                    ·
                      exact gw_some (gq_I (by first | (exfalso; omega) | exact ⟨rfl, h⟩ | (refine ⟨VX.symm, ?_⟩; skip; exact A_clr h (by decide)) | (refine ⟨by rw [VY, VX, E28], ?_⟩; skip; exact A_plan h (by omega) (by omega) (by omega) (by omega))))
                  ·
                    exact gw_some (gq_I (by first | (exfalso; omega) | exact ⟨rfl, h⟩ | (refine ⟨VX.symm, ?_⟩; skip; exact A_clr h (by decide)) | (refine ⟨by rw [VY, VX, E28], ?_⟩; skip; exact A_plan h (by omega) (by omega) (by omega) (by omega))))
            ·
              refine gw_gRa 66 (hm.1.c (r := 65) rfl) (hm.1.r (by decide)) ?_
              refine gw_sI (i := (29 : Int32)) (hm.1.t (r := 66) rfl) (hm.1.l (r := 66) rfl) (by omega) (by omega) (fun m157 em157 => ?_)
              have sm157 := gS.w hc.1 em157
              rw [show (29 : Int32).toInt.toNat = 29 from by omega] at em157
              exact gw_some (gq_I (by first | (exfalso; omega) | exact ⟨rfl, h⟩ | (refine ⟨VX.symm, ?_⟩; subst em157; exact A_clr h (by decide)) | (refine ⟨by rw [VY, VX, E28], ?_⟩; subst em157; exact A_plan h (by omega) (by omega) (by omega) (by omega))))
        ·
          refine gw_some (gq_I ?_)
          have hm := h.1
          have T_μ : μ.2.1 66 29 = μ.2.1 66 29 := by rfl
          refine gwI_of ?_
          unfold f_X12_plan
          refine gw_ne (fun h2_158 => ?_) (fun h2_158 => ?_)
          ·
            refine gw_bI (s_X12_in ) (fun x159 m159 ⟨z159, f159⟩ => ?_)
            replace z159 := z159.symm
            subst z159
            refine gw_eq (fun h21_160 => ?_) (fun h21_160 => ?_)
            ·
              exact gw_some (gq_I (by first | (exfalso; omega) | exact ⟨rfl, h⟩ | (refine ⟨VX.symm, ?_⟩; skip; exact A_clr h (by decide)) | (refine ⟨by rw [VY, VX, E28], ?_⟩; skip; exact A_plan h (by omega) (by omega) (by omega) (by omega))))
            ·
              refine gw_ji ?_
              refine gw_le (fun h25_161 => ?_) (fun h25_161 => ?_)
              ·
                refine gw_gRa 66 (hm.1.c (r := 65) rfl) (hm.1.r (by decide)) ?_
                refine gw_aI (i := (29 : Int32)) (hm.1.t (r := 66) rfl) (hm.1.l (r := 66) rfl) (by omega) (by omega) (fun v162 ev162 => ?_)
                have cv162 : v162 = μ.2.1 66 29 := ev162
                have bv162 := hm.n29
                have dv162 : v162.toInt = (μ.2.1 66 29).toInt := by rw [cv162]
                rw [← dv162] at bv162
                have wv162 : v162 = μ.2.1 66 29 := ev162.trans T_μ
                have uv162 : v162.toInt = (μ.2.1 66 29).toInt := by rw [wv162]
                refine gw_ne (fun h47_163 => ?_) (fun h47_163 => ?_)
                ·
                  refine gw_gRa 66 (hm.1.c (r := 65) rfl) (hm.1.r (by decide)) ?_
                  refine gw_gRa 66 (hm.1.c (r := 65) rfl) (hm.1.r (by decide)) ?_
                  refine gw_aI (i := (29 : Int32)) (hm.1.t (r := 66) rfl) (hm.1.l (r := 66) rfl) (by omega) (by omega) (fun v164 ev164 => ?_)
                  have cv164 : v164 = μ.2.1 66 29 := ev164
                  have bv164 := hm.n29
                  have dv164 : v164.toInt = (μ.2.1 66 29).toInt := by rw [cv164]
                  rw [← dv164] at bv164
                  have wv164 : v164 = μ.2.1 66 29 := ev164.trans T_μ
                  have uv164 : v164.toInt = (μ.2.1 66 29).toInt := by rw [wv164]
                  have n165 : ((78 : Int32) + v164).toInt = (78 : Int32).toInt + v164.toInt := gx_add (by omega) (by omega)
                  refine gw_sI (i := ((78 : Int32) + v164)) (hm.1.t (r := 66) rfl) (hm.1.l (r := 66) rfl) (by omega) (by omega) (fun m166 em166 => ?_)
                  have sm166 := gS.w hc.1 em166
                  rw [show ((78 : Int32) + v164).toInt.toNat = 78 + (μ.2.1 66 29).toInt.toNat from by omega] at em166
                  have T_m166 : m166.2.1 66 29 = μ.2.1 66 29 := (rdn em166 (by omega)).trans T_μ
                  refine gw_gRa 66 ((And.intro sm166 True.intro : _ ∧ True).1.c (r := 65) rfl) ((And.intro sm166 True.intro : _ ∧ True).1.r (by decide)) ?_
                  refine gw_gRa 66 ((And.intro sm166 True.intro : _ ∧ True).1.c (r := 65) rfl) ((And.intro sm166 True.intro : _ ∧ True).1.r (by decide)) ?_
                  refine gw_aI (i := (29 : Int32)) ((And.intro sm166 True.intro : _ ∧ True).1.t (r := 66) rfl) ((And.intro sm166 True.intro : _ ∧ True).1.l (r := 66) rfl) (by omega) (by omega) (fun v167 ev167 => ?_)
                  have cv167 : v167 = m166.2.1 66 29 := ev167
                  have wv167 : v167 = μ.2.1 66 29 := ev167.trans T_m166
                  have uv167 : v167.toInt = (μ.2.1 66 29).toInt := by rw [wv167]
                  have n168 : ((86 : Int32) + v167).toInt = (86 : Int32).toInt + v167.toInt := gx_add (by omega) (by omega)
                  refine gw_sI (i := ((86 : Int32) + v167)) ((And.intro sm166 True.intro : _ ∧ True).1.t (r := 66) rfl) ((And.intro sm166 True.intro : _ ∧ True).1.l (r := 66) rfl) (by omega) (by omega) (fun m169 em169 => ?_)
                  have sm169 := gS.w sm166 em169
                  rw [show ((86 : Int32) + v167).toInt.toNat = 86 + (μ.2.1 66 29).toInt.toNat from by omega] at em169
                  have T_m169 : m169.2.1 66 29 = μ.2.1 66 29 := (rdn em169 (by omega)).trans T_m166
                  refine gw_gRa 66 ((And.intro sm169 True.intro : _ ∧ True).1.c (r := 65) rfl) ((And.intro sm169 True.intro : _ ∧ True).1.r (by decide)) ?_
                  refine gw_aI (i := (29 : Int32)) ((And.intro sm169 True.intro : _ ∧ True).1.t (r := 66) rfl) ((And.intro sm169 True.intro : _ ∧ True).1.l (r := 66) rfl) (by omega) (by omega) (fun v170 ev170 => ?_)
                  have cv170 : v170 = m169.2.1 66 29 := ev170
                  have wv170 : v170 = μ.2.1 66 29 := ev170.trans T_m169
                  have uv170 : v170.toInt = (μ.2.1 66 29).toInt := by rw [wv170]
                  refine gw_sI (i := (29 : Int32)) ((And.intro sm169 True.intro : _ ∧ True).1.t (r := 66) rfl) ((And.intro sm169 True.intro : _ ∧ True).1.l (r := 66) rfl) (by omega) (by omega) (fun m171 em171 => ?_)
                  have sm171 := gS.w sm169 em171
                  rw [show (29 : Int32).toInt.toNat = 29 from by omega] at em171
                  rw [wv170] at em171
                  have VS := rde em171
                  refine gw_gRa 66 ((And.intro sm171 True.intro : _ ∧ True).1.c (r := 65) rfl) ((And.intro sm171 True.intro : _ ∧ True).1.r (by decide)) ?_
                  refine gw_aI (i := (29 : Int32)) ((And.intro sm171 True.intro : _ ∧ True).1.t (r := 66) rfl) ((And.intro sm171 True.intro : _ ∧ True).1.l (r := 66) rfl) (by omega) (by omega) (fun v172 ev172 => ?_)
                  have cv172 : v172 = m171.2.1 66 29 := ev172
                  have VY := ev172.trans VS
                  exact gw_some (gq_I (by first | (exfalso; omega) | exact ⟨rfl, h⟩ | (refine ⟨VX.symm, ?_⟩; subst em171; subst em169; subst em166; exact A_clr h (by decide)) | (refine ⟨by rw [VY, VX, E28], ?_⟩; subst em171; subst em169; subst em166; exact A_plan h (by omega) (by omega) (by omega) (by omega))))
                ·
                  exact gw_some (gq_I (by first | (exfalso; omega) | exact ⟨rfl, h⟩ | (refine ⟨VX.symm, ?_⟩; skip; exact A_clr h (by decide)) | (refine ⟨by rw [VY, VX, E28], ?_⟩; skip; exact A_plan h (by omega) (by omega) (by omega) (by omega))))
              ·
                refine gw_if (hm.1.t (r := 65) rfl) ?_
                refine gw_bI (s_X12_isChild hm ) (fun x173 m173 ⟨z173, f173⟩ => ?_)
                replace z173 := z173.symm
                subst z173
                refine gw_ne (fun h33_174 => ?_) (fun h33_174 => ?_)
                ·
                  refine gw_gRa 66 (hm.1.c (r := 65) rfl) (hm.1.r (by decide)) ?_
                  refine gw_aI (i := (29 : Int32)) (hm.1.t (r := 66) rfl) (hm.1.l (r := 66) rfl) (by omega) (by omega) (fun v175 ev175 => ?_)
                  have cv175 : v175 = μ.2.1 66 29 := ev175
                  have bv175 := hm.n29
                  have dv175 : v175.toInt = (μ.2.1 66 29).toInt := by rw [cv175]
                  rw [← dv175] at bv175
                  have wv175 : v175 = μ.2.1 66 29 := ev175.trans T_μ
                  have uv175 : v175.toInt = (μ.2.1 66 29).toInt := by rw [wv175]
                  refine gw_ne (fun h47_176 => ?_) (fun h47_176 => ?_)
                  ·
                    refine gw_gRa 66 (hm.1.c (r := 65) rfl) (hm.1.r (by decide)) ?_
                    refine gw_gRa 66 (hm.1.c (r := 65) rfl) (hm.1.r (by decide)) ?_
                    refine gw_aI (i := (29 : Int32)) (hm.1.t (r := 66) rfl) (hm.1.l (r := 66) rfl) (by omega) (by omega) (fun v177 ev177 => ?_)
                    have cv177 : v177 = μ.2.1 66 29 := ev177
                    have bv177 := hm.n29
                    have dv177 : v177.toInt = (μ.2.1 66 29).toInt := by rw [cv177]
                    rw [← dv177] at bv177
                    have wv177 : v177 = μ.2.1 66 29 := ev177.trans T_μ
                    have uv177 : v177.toInt = (μ.2.1 66 29).toInt := by rw [wv177]
                    have n178 : ((78 : Int32) + v177).toInt = (78 : Int32).toInt + v177.toInt := gx_add (by omega) (by omega)
                    refine gw_sI (i := ((78 : Int32) + v177)) (hm.1.t (r := 66) rfl) (hm.1.l (r := 66) rfl) (by omega) (by omega) (fun m179 em179 => ?_)
                    have sm179 := gS.w hc.1 em179
                    rw [show ((78 : Int32) + v177).toInt.toNat = 78 + (μ.2.1 66 29).toInt.toNat from by omega] at em179
                    have T_m179 : m179.2.1 66 29 = μ.2.1 66 29 := (rdn em179 (by omega)).trans T_μ
                    refine gw_gRa 66 ((And.intro sm179 True.intro : _ ∧ True).1.c (r := 65) rfl) ((And.intro sm179 True.intro : _ ∧ True).1.r (by decide)) ?_
                    refine gw_gRa 66 ((And.intro sm179 True.intro : _ ∧ True).1.c (r := 65) rfl) ((And.intro sm179 True.intro : _ ∧ True).1.r (by decide)) ?_
                    refine gw_aI (i := (29 : Int32)) ((And.intro sm179 True.intro : _ ∧ True).1.t (r := 66) rfl) ((And.intro sm179 True.intro : _ ∧ True).1.l (r := 66) rfl) (by omega) (by omega) (fun v180 ev180 => ?_)
                    have cv180 : v180 = m179.2.1 66 29 := ev180
                    have wv180 : v180 = μ.2.1 66 29 := ev180.trans T_m179
                    have uv180 : v180.toInt = (μ.2.1 66 29).toInt := by rw [wv180]
                    have n181 : ((86 : Int32) + v180).toInt = (86 : Int32).toInt + v180.toInt := gx_add (by omega) (by omega)
                    refine gw_sI (i := ((86 : Int32) + v180)) ((And.intro sm179 True.intro : _ ∧ True).1.t (r := 66) rfl) ((And.intro sm179 True.intro : _ ∧ True).1.l (r := 66) rfl) (by omega) (by omega) (fun m182 em182 => ?_)
                    have sm182 := gS.w sm179 em182
                    rw [show ((86 : Int32) + v180).toInt.toNat = 86 + (μ.2.1 66 29).toInt.toNat from by omega] at em182
                    have T_m182 : m182.2.1 66 29 = μ.2.1 66 29 := (rdn em182 (by omega)).trans T_m179
                    refine gw_gRa 66 ((And.intro sm182 True.intro : _ ∧ True).1.c (r := 65) rfl) ((And.intro sm182 True.intro : _ ∧ True).1.r (by decide)) ?_
                    refine gw_aI (i := (29 : Int32)) ((And.intro sm182 True.intro : _ ∧ True).1.t (r := 66) rfl) ((And.intro sm182 True.intro : _ ∧ True).1.l (r := 66) rfl) (by omega) (by omega) (fun v183 ev183 => ?_)
                    have cv183 : v183 = m182.2.1 66 29 := ev183
                    have wv183 : v183 = μ.2.1 66 29 := ev183.trans T_m182
                    have uv183 : v183.toInt = (μ.2.1 66 29).toInt := by rw [wv183]
                    refine gw_sI (i := (29 : Int32)) ((And.intro sm182 True.intro : _ ∧ True).1.t (r := 66) rfl) ((And.intro sm182 True.intro : _ ∧ True).1.l (r := 66) rfl) (by omega) (by omega) (fun m184 em184 => ?_)
                    have sm184 := gS.w sm182 em184
                    rw [show (29 : Int32).toInt.toNat = 29 from by omega] at em184
                    rw [wv183] at em184
                    have VS := rde em184
                    refine gw_gRa 66 ((And.intro sm184 True.intro : _ ∧ True).1.c (r := 65) rfl) ((And.intro sm184 True.intro : _ ∧ True).1.r (by decide)) ?_
                    refine gw_aI (i := (29 : Int32)) ((And.intro sm184 True.intro : _ ∧ True).1.t (r := 66) rfl) ((And.intro sm184 True.intro : _ ∧ True).1.l (r := 66) rfl) (by omega) (by omega) (fun v185 ev185 => ?_)
                    have cv185 : v185 = m184.2.1 66 29 := ev185
                    have VY := ev185.trans VS
                    exact gw_some (gq_I (by first | (exfalso; omega) | exact ⟨rfl, h⟩ | (refine ⟨VX.symm, ?_⟩; subst em184; subst em182; subst em179; exact A_clr h (by decide)) | (refine ⟨by rw [VY, VX, E28], ?_⟩; subst em184; subst em182; subst em179; exact A_plan h (by omega) (by omega) (by omega) (by omega))))
                  ·
                    exact gw_some (gq_I (by first | (exfalso; omega) | exact ⟨rfl, h⟩ | (refine ⟨VX.symm, ?_⟩; skip; exact A_clr h (by decide)) | (refine ⟨by rw [VY, VX, E28], ?_⟩; skip; exact A_plan h (by omega) (by omega) (by omega) (by omega))))
                ·
                  exact gw_some (gq_I (by first | (exfalso; omega) | exact ⟨rfl, h⟩ | (refine ⟨VX.symm, ?_⟩; skip; exact A_clr h (by decide)) | (refine ⟨by rw [VY, VX, E28], ?_⟩; skip; exact A_plan h (by omega) (by omega) (by omega) (by omega))))
          ·
            refine gw_gRa 66 (hm.1.c (r := 65) rfl) (hm.1.r (by decide)) ?_
            refine gw_sI (i := (29 : Int32)) (hm.1.t (r := 66) rfl) (hm.1.l (r := 66) rfl) (by omega) (by omega) (fun m186 em186 => ?_)
            have sm186 := gS.w hc.1 em186
            rw [show (29 : Int32).toInt.toNat = 29 from by omega] at em186
            exact gw_some (gq_I (by first | (exfalso; omega) | exact ⟨rfl, h⟩ | (refine ⟨VX.symm, ?_⟩; subst em186; exact A_clr h (by decide)) | (refine ⟨by rw [VY, VX, E28], ?_⟩; subst em186; exact A_plan h (by omega) (by omega) (by omega) (by omega))))
  ·
    refine gw_gRa 15 (hc.1.c (r := 1) rfl) (hc.1.r (by decide)) ?_
    refine gw_gRa 25 (hc.1.c (r := 15) rfl) (hc.1.r (by decide)) ?_
    refine gw_if (hc.1.t (r := 25) rfl) ?_
    refine gw_bI (s_clear (r := 25) (hc.1.t rfl)) (fun x187 m187 z187 => ?_)
    obtain ⟨VX, ZM⟩ := z187
    have GS : gS m187 := by rw [ZM]; exact hc.1
    have R6 : m187.2.1 66 = μ.2.1 66 := by rw [ZM]; exact wI_o _ _ _ _ (by decide)
    refine gw_some (gq_I ?_)
    have hm : MI m187 := ⟨GS, by rw [R6]; exact h.1.2⟩
    have T_m187 : m187.2.1 66 29 = μ.2.1 66 29 := by rw [R6]
    refine gwI_of ?_
    unfold f_X12_plan
    refine gw_ne (fun h2_188 => ?_) (fun h2_188 => ?_)
    ·
      refine gw_bI (s_X12_in ) (fun x189 m189 ⟨z189, f189⟩ => ?_)
      replace z189 := z189.symm
      subst z189
      refine gw_eq (fun h21_190 => ?_) (fun h21_190 => ?_)
      ·
        exact gw_some (gq_I (by first | (exfalso; omega) | exact ⟨rfl, h⟩ | (refine ⟨VX.symm, ?_⟩; subst ZM; exact A_clr h (by decide)) | (refine ⟨by rw [VY, VX, E28], ?_⟩; subst ZM; exact A_plan h (by omega) (by omega) (by omega) (by omega))))
      ·
        refine gw_ji ?_
        refine gw_le (fun h25_191 => ?_) (fun h25_191 => ?_)
        ·
          refine gw_gRa 66 (hm.1.c (r := 65) rfl) (hm.1.r (by decide)) ?_
          refine gw_aI (i := (29 : Int32)) (hm.1.t (r := 66) rfl) (hm.1.l (r := 66) rfl) (by omega) (by omega) (fun v192 ev192 => ?_)
          have cv192 : v192 = m187.2.1 66 29 := ev192
          have bv192 := hm.n29
          have dv192 : v192.toInt = (m187.2.1 66 29).toInt := by rw [cv192]
          have yv192 : v192.toInt = (μ.2.1 66 29).toInt := by rw [dv192, R6]
          rw [← dv192] at bv192
          have wv192 : v192 = μ.2.1 66 29 := ev192.trans T_m187
          have uv192 : v192.toInt = (μ.2.1 66 29).toInt := by rw [wv192]
          refine gw_ne (fun h47_193 => ?_) (fun h47_193 => ?_)
          ·
            refine gw_gRa 66 (hm.1.c (r := 65) rfl) (hm.1.r (by decide)) ?_
            refine gw_gRa 66 (hm.1.c (r := 65) rfl) (hm.1.r (by decide)) ?_
            refine gw_aI (i := (29 : Int32)) (hm.1.t (r := 66) rfl) (hm.1.l (r := 66) rfl) (by omega) (by omega) (fun v194 ev194 => ?_)
            have cv194 : v194 = m187.2.1 66 29 := ev194
            have bv194 := hm.n29
            have dv194 : v194.toInt = (m187.2.1 66 29).toInt := by rw [cv194]
            have yv194 : v194.toInt = (μ.2.1 66 29).toInt := by rw [dv194, R6]
            rw [← dv194] at bv194
            have wv194 : v194 = μ.2.1 66 29 := ev194.trans T_m187
            have uv194 : v194.toInt = (μ.2.1 66 29).toInt := by rw [wv194]
            have n195 : ((78 : Int32) + v194).toInt = (78 : Int32).toInt + v194.toInt := gx_add (by omega) (by omega)
            refine gw_sI (i := ((78 : Int32) + v194)) (hm.1.t (r := 66) rfl) (hm.1.l (r := 66) rfl) (by omega) (by omega) (fun m196 em196 => ?_)
            have sm196 := gS.w GS em196
            rw [show ((78 : Int32) + v194).toInt.toNat = 78 + (μ.2.1 66 29).toInt.toNat from by omega] at em196
            have T_m196 : m196.2.1 66 29 = μ.2.1 66 29 := (rdn em196 (by omega)).trans T_m187
            refine gw_gRa 66 ((And.intro sm196 True.intro : _ ∧ True).1.c (r := 65) rfl) ((And.intro sm196 True.intro : _ ∧ True).1.r (by decide)) ?_
            refine gw_gRa 66 ((And.intro sm196 True.intro : _ ∧ True).1.c (r := 65) rfl) ((And.intro sm196 True.intro : _ ∧ True).1.r (by decide)) ?_
            refine gw_aI (i := (29 : Int32)) ((And.intro sm196 True.intro : _ ∧ True).1.t (r := 66) rfl) ((And.intro sm196 True.intro : _ ∧ True).1.l (r := 66) rfl) (by omega) (by omega) (fun v197 ev197 => ?_)
            have cv197 : v197 = m196.2.1 66 29 := ev197
            have wv197 : v197 = μ.2.1 66 29 := ev197.trans T_m196
            have uv197 : v197.toInt = (μ.2.1 66 29).toInt := by rw [wv197]
            have n198 : ((86 : Int32) + v197).toInt = (86 : Int32).toInt + v197.toInt := gx_add (by omega) (by omega)
            refine gw_sI (i := ((86 : Int32) + v197)) ((And.intro sm196 True.intro : _ ∧ True).1.t (r := 66) rfl) ((And.intro sm196 True.intro : _ ∧ True).1.l (r := 66) rfl) (by omega) (by omega) (fun m199 em199 => ?_)
            have sm199 := gS.w sm196 em199
            rw [show ((86 : Int32) + v197).toInt.toNat = 86 + (μ.2.1 66 29).toInt.toNat from by omega] at em199
            have T_m199 : m199.2.1 66 29 = μ.2.1 66 29 := (rdn em199 (by omega)).trans T_m196
            refine gw_gRa 66 ((And.intro sm199 True.intro : _ ∧ True).1.c (r := 65) rfl) ((And.intro sm199 True.intro : _ ∧ True).1.r (by decide)) ?_
            refine gw_aI (i := (29 : Int32)) ((And.intro sm199 True.intro : _ ∧ True).1.t (r := 66) rfl) ((And.intro sm199 True.intro : _ ∧ True).1.l (r := 66) rfl) (by omega) (by omega) (fun v200 ev200 => ?_)
            have cv200 : v200 = m199.2.1 66 29 := ev200
            have wv200 : v200 = μ.2.1 66 29 := ev200.trans T_m199
            have uv200 : v200.toInt = (μ.2.1 66 29).toInt := by rw [wv200]
            refine gw_sI (i := (29 : Int32)) ((And.intro sm199 True.intro : _ ∧ True).1.t (r := 66) rfl) ((And.intro sm199 True.intro : _ ∧ True).1.l (r := 66) rfl) (by omega) (by omega) (fun m201 em201 => ?_)
            have sm201 := gS.w sm199 em201
            rw [show (29 : Int32).toInt.toNat = 29 from by omega] at em201
            rw [wv200] at em201
            have VS := rde em201
            refine gw_gRa 66 ((And.intro sm201 True.intro : _ ∧ True).1.c (r := 65) rfl) ((And.intro sm201 True.intro : _ ∧ True).1.r (by decide)) ?_
            refine gw_aI (i := (29 : Int32)) ((And.intro sm201 True.intro : _ ∧ True).1.t (r := 66) rfl) ((And.intro sm201 True.intro : _ ∧ True).1.l (r := 66) rfl) (by omega) (by omega) (fun v202 ev202 => ?_)
            have cv202 : v202 = m201.2.1 66 29 := ev202
            have VY := ev202.trans VS
            exact gw_some (gq_I (by first | (exfalso; omega) | exact ⟨rfl, h⟩ | (refine ⟨VX.symm, ?_⟩; subst em201; subst em199; subst em196; subst ZM; exact A_clr h (by decide)) | (refine ⟨by rw [VY, VX, E28], ?_⟩; subst em201; subst em199; subst em196; subst ZM; exact A_plan h (by omega) (by omega) (by omega) (by omega))))
          ·
            exact gw_some (gq_I (by first | (exfalso; omega) | exact ⟨rfl, h⟩ | (refine ⟨VX.symm, ?_⟩; subst ZM; exact A_clr h (by decide)) | (refine ⟨by rw [VY, VX, E28], ?_⟩; subst ZM; exact A_plan h (by omega) (by omega) (by omega) (by omega))))
        ·
          refine gw_if (hm.1.t (r := 65) rfl) ?_
          refine gw_bI (s_X12_isChild hm ) (fun x203 m203 ⟨z203, f203⟩ => ?_)
          replace z203 := z203.symm
          subst z203
          rw [R6] at f203
          refine gw_ne (fun h33_204 => ?_) (fun h33_204 => ?_)
          ·
            refine gw_gRa 66 (hm.1.c (r := 65) rfl) (hm.1.r (by decide)) ?_
            refine gw_aI (i := (29 : Int32)) (hm.1.t (r := 66) rfl) (hm.1.l (r := 66) rfl) (by omega) (by omega) (fun v205 ev205 => ?_)
            have cv205 : v205 = m187.2.1 66 29 := ev205
            have bv205 := hm.n29
            have dv205 : v205.toInt = (m187.2.1 66 29).toInt := by rw [cv205]
            have yv205 : v205.toInt = (μ.2.1 66 29).toInt := by rw [dv205, R6]
            rw [← dv205] at bv205
            have wv205 : v205 = μ.2.1 66 29 := ev205.trans T_m187
            have uv205 : v205.toInt = (μ.2.1 66 29).toInt := by rw [wv205]
            refine gw_ne (fun h47_206 => ?_) (fun h47_206 => ?_)
            ·
              refine gw_gRa 66 (hm.1.c (r := 65) rfl) (hm.1.r (by decide)) ?_
              refine gw_gRa 66 (hm.1.c (r := 65) rfl) (hm.1.r (by decide)) ?_
              refine gw_aI (i := (29 : Int32)) (hm.1.t (r := 66) rfl) (hm.1.l (r := 66) rfl) (by omega) (by omega) (fun v207 ev207 => ?_)
              have cv207 : v207 = m187.2.1 66 29 := ev207
              have bv207 := hm.n29
              have dv207 : v207.toInt = (m187.2.1 66 29).toInt := by rw [cv207]
              have yv207 : v207.toInt = (μ.2.1 66 29).toInt := by rw [dv207, R6]
              rw [← dv207] at bv207
              have wv207 : v207 = μ.2.1 66 29 := ev207.trans T_m187
              have uv207 : v207.toInt = (μ.2.1 66 29).toInt := by rw [wv207]
              have n208 : ((78 : Int32) + v207).toInt = (78 : Int32).toInt + v207.toInt := gx_add (by omega) (by omega)
              refine gw_sI (i := ((78 : Int32) + v207)) (hm.1.t (r := 66) rfl) (hm.1.l (r := 66) rfl) (by omega) (by omega) (fun m209 em209 => ?_)
              have sm209 := gS.w GS em209
              rw [show ((78 : Int32) + v207).toInt.toNat = 78 + (μ.2.1 66 29).toInt.toNat from by omega] at em209
              have T_m209 : m209.2.1 66 29 = μ.2.1 66 29 := (rdn em209 (by omega)).trans T_m187
              refine gw_gRa 66 ((And.intro sm209 True.intro : _ ∧ True).1.c (r := 65) rfl) ((And.intro sm209 True.intro : _ ∧ True).1.r (by decide)) ?_
              refine gw_gRa 66 ((And.intro sm209 True.intro : _ ∧ True).1.c (r := 65) rfl) ((And.intro sm209 True.intro : _ ∧ True).1.r (by decide)) ?_
              refine gw_aI (i := (29 : Int32)) ((And.intro sm209 True.intro : _ ∧ True).1.t (r := 66) rfl) ((And.intro sm209 True.intro : _ ∧ True).1.l (r := 66) rfl) (by omega) (by omega) (fun v210 ev210 => ?_)
              have cv210 : v210 = m209.2.1 66 29 := ev210
              have wv210 : v210 = μ.2.1 66 29 := ev210.trans T_m209
              have uv210 : v210.toInt = (μ.2.1 66 29).toInt := by rw [wv210]
              have n211 : ((86 : Int32) + v210).toInt = (86 : Int32).toInt + v210.toInt := gx_add (by omega) (by omega)
              refine gw_sI (i := ((86 : Int32) + v210)) ((And.intro sm209 True.intro : _ ∧ True).1.t (r := 66) rfl) ((And.intro sm209 True.intro : _ ∧ True).1.l (r := 66) rfl) (by omega) (by omega) (fun m212 em212 => ?_)
              have sm212 := gS.w sm209 em212
              rw [show ((86 : Int32) + v210).toInt.toNat = 86 + (μ.2.1 66 29).toInt.toNat from by omega] at em212
              have T_m212 : m212.2.1 66 29 = μ.2.1 66 29 := (rdn em212 (by omega)).trans T_m209
              refine gw_gRa 66 ((And.intro sm212 True.intro : _ ∧ True).1.c (r := 65) rfl) ((And.intro sm212 True.intro : _ ∧ True).1.r (by decide)) ?_
              refine gw_aI (i := (29 : Int32)) ((And.intro sm212 True.intro : _ ∧ True).1.t (r := 66) rfl) ((And.intro sm212 True.intro : _ ∧ True).1.l (r := 66) rfl) (by omega) (by omega) (fun v213 ev213 => ?_)
              have cv213 : v213 = m212.2.1 66 29 := ev213
              have wv213 : v213 = μ.2.1 66 29 := ev213.trans T_m212
              have uv213 : v213.toInt = (μ.2.1 66 29).toInt := by rw [wv213]
              refine gw_sI (i := (29 : Int32)) ((And.intro sm212 True.intro : _ ∧ True).1.t (r := 66) rfl) ((And.intro sm212 True.intro : _ ∧ True).1.l (r := 66) rfl) (by omega) (by omega) (fun m214 em214 => ?_)
              have sm214 := gS.w sm212 em214
              rw [show (29 : Int32).toInt.toNat = 29 from by omega] at em214
              rw [wv213] at em214
              have VS := rde em214
              refine gw_gRa 66 ((And.intro sm214 True.intro : _ ∧ True).1.c (r := 65) rfl) ((And.intro sm214 True.intro : _ ∧ True).1.r (by decide)) ?_
              refine gw_aI (i := (29 : Int32)) ((And.intro sm214 True.intro : _ ∧ True).1.t (r := 66) rfl) ((And.intro sm214 True.intro : _ ∧ True).1.l (r := 66) rfl) (by omega) (by omega) (fun v215 ev215 => ?_)
              have cv215 : v215 = m214.2.1 66 29 := ev215
              have VY := ev215.trans VS
              exact gw_some (gq_I (by first | (exfalso; omega) | exact ⟨rfl, h⟩ | (refine ⟨VX.symm, ?_⟩; subst em214; subst em212; subst em209; subst ZM; exact A_clr h (by decide)) | (refine ⟨by rw [VY, VX, E28], ?_⟩; subst em214; subst em212; subst em209; subst ZM; exact A_plan h (by omega) (by omega) (by omega) (by omega))))
            ·
              exact gw_some (gq_I (by first | (exfalso; omega) | exact ⟨rfl, h⟩ | (refine ⟨VX.symm, ?_⟩; subst ZM; exact A_clr h (by decide)) | (refine ⟨by rw [VY, VX, E28], ?_⟩; subst ZM; exact A_plan h (by omega) (by omega) (by omega) (by omega))))
          ·
            exact gw_some (gq_I (by first | (exfalso; omega) | exact ⟨rfl, h⟩ | (refine ⟨VX.symm, ?_⟩; subst ZM; exact A_clr h (by decide)) | (refine ⟨by rw [VY, VX, E28], ?_⟩; subst ZM; exact A_plan h (by omega) (by omega) (by omega) (by omega))))
    ·
      refine gw_gRa 66 (hm.1.c (r := 65) rfl) (hm.1.r (by decide)) ?_
      refine gw_sI (i := (29 : Int32)) (hm.1.t (r := 66) rfl) (hm.1.l (r := 66) rfl) (by omega) (by omega) (fun m216 em216 => ?_)
      have sm216 := gS.w GS em216
      rw [show (29 : Int32).toInt.toNat = 29 from by omega] at em216
      exact gw_some (gq_I (by first | (exfalso; omega) | exact ⟨rfl, h⟩ | (refine ⟨VX.symm, ?_⟩; subst em216; subst ZM; exact A_clr h (by decide)) | (refine ⟨by rw [VY, VX, E28], ?_⟩; subst em216; subst ZM; exact A_plan h (by omega) (by omega) (by omega) (by omega))))
set_option maxHeartbeats 2000000 in
theorem p_book {μ : gm_M} (h : ALL μ) {a1 : Int32} {a2 : Int32} : gwI (f_X11_book 1 a1 a2 μ) (fun x m => gwI (f_X12_book 65 a1 a2 m) (fun y m2 => y = x ∧ ALL m2)) := by
  refine gwI_of ?_
  unfold f_X11_book
  have hc := h.2.2.1
  have lm4 : (-4 : Int32).toInt = -4 := rfl
  have lm2 : (-2 : Int32).toInt = -2 := rfl
  have lm1 : (-1 : Int32).toInt = -1 := rfl
  have l0 : (0 : Int32).toInt = 0 := rfl
  have l1 : (1 : Int32).toInt = 1 := rfl
  have l8 : (8 : Int32).toInt = 8 := rfl
  have l30 : (30 : Int32).toInt = 30 := rfl
  have l94 : (94 : Int32).toInt = 94 := rfl
  have l102 : (102 : Int32).toInt = 102 := rfl
  have l999 : (999 : Int32).toInt = 999 := rfl
  have L26 := h.n26
  have L28 := h.n30
  have N28 := hc.n27
  have LL := hc.l27
  have E28 : μ.2.1 27 2 = μ.2.1 66 30 := h.2.2.2.1.1.2.2.2.2
  refine gw_ne (fun h2_1 => ?_) (fun h2_1 => ?_)
  ·
    refine gw_if (hc.1.t (r := 1) rfl) ?_
    refine gw_bI (s_X11_isNobody hc ) (fun x2 m2 ⟨z2, f2⟩ => ?_)
    replace z2 := z2.symm
    subst z2
    refine gw_eq (fun h21_3 => ?_) (fun h21_3 => ?_)
    ·
      refine gw_bI (s_X11_isOutside ) (fun x4 m4 ⟨z4, f4⟩ => ?_)
      replace z4 := z4.symm
      subst z4
      refine gw_eq (fun h34_5 => ?_) (fun h34_5 => ?_)
      ·
        refine gw_gRa 15 (hc.1.c (r := 1) rfl) (hc.1.r (by decide)) ?_
        refine gw_gRa 27 (hc.1.c (r := 15) rfl) (hc.1.r (by decide)) ?_
        refine gw_if (hc.1.t (r := 27) rfl) ?_
        refine gw_bI (s_isFull (r := 27) (hc.1.t rfl)) (fun x6 m6 z6 => ?_)
        obtain ⟨zz, FF⟩ := z6
        replace zz := zz.symm
        subst zz
        refine gw_eq (fun h50_7 => ?_) (fun h50_7 => ?_)
        ·
          refine gw_gRa 15 (hc.1.c (r := 1) rfl) (hc.1.r (by decide)) ?_
          refine gw_gRa 27 (hc.1.c (r := 15) rfl) (hc.1.r (by decide)) ?_
          refine gw_if (hc.1.t (r := 27) rfl) ?_
          refine gw_bI (s_add (r := 27) 8 (hc.1.t rfl) (hc.1.t rfl) (hc.1.l rfl) (hc.1.r (by decide)) hc.l27 hc.n27.1 (by omega) (by decide)) (fun x8 m8 z8 => ?_)
          obtain ⟨VX, ZD⟩ := z8
          have ZM : m8 = ad μ 27 a1 a2 0 := by rcases ZD with ⟨-, q⟩ | ⟨q, -⟩; exact q; exfalso; omega
          have GS : gS m8 := by rw [ZM]; exact hc.1
          have R6 : m8.2.1 66 = μ.2.1 66 := by rw [ZM]; exact ad_o (by decide) (by decide)
          refine gw_some (gq_I ?_)
          have hm : MI m8 := ⟨GS, by rw [R6]; exact h.1.2⟩
          have T_m8 : m8.2.1 66 30 = μ.2.1 66 30 := by rw [R6]
          refine gwI_of ?_
          unfold f_X12_book
          refine gw_ne (fun h2_9 => ?_) (fun h2_9 => ?_)
          ·
            refine gw_if (hm.1.t (r := 65) rfl) ?_
            refine gw_bI (s_X12_isChild hm ) (fun x10 m10 ⟨z10, f10⟩ => ?_)
            replace z10 := z10.symm
            subst z10
            rw [R6] at f10
            refine gw_ne (fun h20_11 => ?_) (fun h20_11 => ?_)
            ·
              refine gw_bI (s_X12_in ) (fun x12 m12 ⟨z12, f12⟩ => ?_)
              replace z12 := z12.symm
              subst z12
              refine gw_ne (fun h33_13 => ?_) (fun h33_13 => ?_)
              ·
                refine gw_gRa 66 (hm.1.c (r := 65) rfl) (hm.1.r (by decide)) ?_
                refine gw_aI (i := (30 : Int32)) (hm.1.t (r := 66) rfl) (hm.1.l (r := 66) rfl) (by omega) (by omega) (fun v14 ev14 => ?_)
                have cv14 : v14 = m8.2.1 66 30 := ev14
                have bv14 := hm.n30
                have dv14 : v14.toInt = (m8.2.1 66 30).toInt := by rw [cv14]
                have yv14 : v14.toInt = (μ.2.1 66 30).toInt := by rw [dv14, R6]
                rw [← dv14] at bv14
                have wv14 : v14 = μ.2.1 66 30 := ev14.trans T_m8
                have uv14 : v14.toInt = (μ.2.1 66 30).toInt := by rw [wv14]
                refine gw_ne (fun h48_15 => ?_) (fun h48_15 => ?_)
                ·
                  refine gw_gRa 66 (hm.1.c (r := 65) rfl) (hm.1.r (by decide)) ?_
                  refine gw_gRa 66 (hm.1.c (r := 65) rfl) (hm.1.r (by decide)) ?_
                  refine gw_aI (i := (30 : Int32)) (hm.1.t (r := 66) rfl) (hm.1.l (r := 66) rfl) (by omega) (by omega) (fun v16 ev16 => ?_)
                  have cv16 : v16 = m8.2.1 66 30 := ev16
                  have bv16 := hm.n30
                  have dv16 : v16.toInt = (m8.2.1 66 30).toInt := by rw [cv16]
                  have yv16 : v16.toInt = (μ.2.1 66 30).toInt := by rw [dv16, R6]
                  rw [← dv16] at bv16
                  have wv16 : v16 = μ.2.1 66 30 := ev16.trans T_m8
                  have uv16 : v16.toInt = (μ.2.1 66 30).toInt := by rw [wv16]
                  have n17 : ((94 : Int32) + v16).toInt = (94 : Int32).toInt + v16.toInt := gx_add (by omega) (by omega)
                  refine gw_sI (i := ((94 : Int32) + v16)) (hm.1.t (r := 66) rfl) (hm.1.l (r := 66) rfl) (by omega) (by omega) (fun m18 em18 => ?_)
                  have sm18 := gS.w GS em18
                  rw [show ((94 : Int32) + v16).toInt.toNat = 94 + (μ.2.1 66 30).toInt.toNat from by omega] at em18
                  have T_m18 : m18.2.1 66 30 = μ.2.1 66 30 := (rdn em18 (by omega)).trans T_m8
                  refine gw_gRa 66 ((And.intro sm18 True.intro : _ ∧ True).1.c (r := 65) rfl) ((And.intro sm18 True.intro : _ ∧ True).1.r (by decide)) ?_
                  refine gw_gRa 66 ((And.intro sm18 True.intro : _ ∧ True).1.c (r := 65) rfl) ((And.intro sm18 True.intro : _ ∧ True).1.r (by decide)) ?_
                  refine gw_aI (i := (30 : Int32)) ((And.intro sm18 True.intro : _ ∧ True).1.t (r := 66) rfl) ((And.intro sm18 True.intro : _ ∧ True).1.l (r := 66) rfl) (by omega) (by omega) (fun v19 ev19 => ?_)
                  have cv19 : v19 = m18.2.1 66 30 := ev19
                  have wv19 : v19 = μ.2.1 66 30 := ev19.trans T_m18
                  have uv19 : v19.toInt = (μ.2.1 66 30).toInt := by rw [wv19]
                  have n20 : ((102 : Int32) + v19).toInt = (102 : Int32).toInt + v19.toInt := gx_add (by omega) (by omega)
                  refine gw_sI (i := ((102 : Int32) + v19)) ((And.intro sm18 True.intro : _ ∧ True).1.t (r := 66) rfl) ((And.intro sm18 True.intro : _ ∧ True).1.l (r := 66) rfl) (by omega) (by omega) (fun m21 em21 => ?_)
                  have sm21 := gS.w sm18 em21
                  rw [show ((102 : Int32) + v19).toInt.toNat = 102 + (μ.2.1 66 30).toInt.toNat from by omega] at em21
                  have T_m21 : m21.2.1 66 30 = μ.2.1 66 30 := (rdn em21 (by omega)).trans T_m18
                  refine gw_gRa 66 ((And.intro sm21 True.intro : _ ∧ True).1.c (r := 65) rfl) ((And.intro sm21 True.intro : _ ∧ True).1.r (by decide)) ?_
                  refine gw_aI (i := (30 : Int32)) ((And.intro sm21 True.intro : _ ∧ True).1.t (r := 66) rfl) ((And.intro sm21 True.intro : _ ∧ True).1.l (r := 66) rfl) (by omega) (by omega) (fun v22 ev22 => ?_)
                  have cv22 : v22 = m21.2.1 66 30 := ev22
                  have wv22 : v22 = μ.2.1 66 30 := ev22.trans T_m21
                  have uv22 : v22.toInt = (μ.2.1 66 30).toInt := by rw [wv22]
                  refine gw_sI (i := (30 : Int32)) ((And.intro sm21 True.intro : _ ∧ True).1.t (r := 66) rfl) ((And.intro sm21 True.intro : _ ∧ True).1.l (r := 66) rfl) (by omega) (by omega) (fun m23 em23 => ?_)
                  have sm23 := gS.w sm21 em23
                  rw [show (30 : Int32).toInt.toNat = 30 from by omega] at em23
                  rw [wv22] at em23
                  have VS := rde em23
                  refine gw_gRa 66 ((And.intro sm23 True.intro : _ ∧ True).1.c (r := 65) rfl) ((And.intro sm23 True.intro : _ ∧ True).1.r (by decide)) ?_
                  refine gw_aI (i := (30 : Int32)) ((And.intro sm23 True.intro : _ ∧ True).1.t (r := 66) rfl) ((And.intro sm23 True.intro : _ ∧ True).1.l (r := 66) rfl) (by omega) (by omega) (fun v24 ev24 => ?_)
                  have cv24 : v24 = m23.2.1 66 30 := ev24
                  have VY := ev24.trans VS
                  exact gw_some (gq_I (by first | (exfalso; omega) | exact ⟨rfl, h⟩ | (refine ⟨VX.symm, ?_⟩; subst em23; subst em21; subst em18; subst ZM; exact A_clr h (by decide)) | (refine ⟨by rw [VY, VX, E28], ?_⟩; subst em23; subst em21; subst em18; subst ZM; exact A_book h (by omega) (by omega) (by omega))))
                ·
                  exact gw_some (gq_I (by first | (exfalso; omega) | exact ⟨rfl, h⟩ | (refine ⟨VX.symm, ?_⟩; subst ZM; exact A_clr h (by decide)) | (refine ⟨by rw [VY, VX, E28], ?_⟩; subst ZM; exact A_book h (by omega) (by omega) (by omega))))
              ·
                exact gw_some (gq_I (by first | (exfalso; omega) | exact ⟨rfl, h⟩ | (refine ⟨VX.symm, ?_⟩; subst ZM; exact A_clr h (by decide)) | (refine ⟨by rw [VY, VX, E28], ?_⟩; subst ZM; exact A_book h (by omega) (by omega) (by omega))))
            ·
              exact gw_some (gq_I (by first | (exfalso; omega) | exact ⟨rfl, h⟩ | (refine ⟨VX.symm, ?_⟩; subst ZM; exact A_clr h (by decide)) | (refine ⟨by rw [VY, VX, E28], ?_⟩; subst ZM; exact A_book h (by omega) (by omega) (by omega))))
          ·
            refine gw_gRa 66 (hm.1.c (r := 65) rfl) (hm.1.r (by decide)) ?_
            refine gw_sI (i := (30 : Int32)) (hm.1.t (r := 66) rfl) (hm.1.l (r := 66) rfl) (by omega) (by omega) (fun m25 em25 => ?_)
            have sm25 := gS.w GS em25
            rw [show (30 : Int32).toInt.toNat = 30 from by omega] at em25
            exact gw_some (gq_I (by first | (exfalso; omega) | exact ⟨rfl, h⟩ | (refine ⟨VX.symm, ?_⟩; subst em25; subst ZM; exact A_clr h (by decide)) | (refine ⟨by rw [VY, VX, E28], ?_⟩; subst em25; subst ZM; exact A_book h (by omega) (by omega) (by omega))))
        ·
          refine gw_some (gq_I ?_)
          have hm := h.1
          have T_μ : μ.2.1 66 30 = μ.2.1 66 30 := by rfl
          refine gwI_of ?_
          unfold f_X12_book
          refine gw_ne (fun h2_26 => ?_) (fun h2_26 => ?_)
          ·
            refine gw_if (hm.1.t (r := 65) rfl) ?_
            refine gw_bI (s_X12_isChild hm ) (fun x27 m27 ⟨z27, f27⟩ => ?_)
            replace z27 := z27.symm
            subst z27
            refine gw_ne (fun h20_28 => ?_) (fun h20_28 => ?_)
            ·
              refine gw_bI (s_X12_in ) (fun x29 m29 ⟨z29, f29⟩ => ?_)
              replace z29 := z29.symm
              subst z29
              refine gw_ne (fun h33_30 => ?_) (fun h33_30 => ?_)
              ·
                refine gw_gRa 66 (hm.1.c (r := 65) rfl) (hm.1.r (by decide)) ?_
                refine gw_aI (i := (30 : Int32)) (hm.1.t (r := 66) rfl) (hm.1.l (r := 66) rfl) (by omega) (by omega) (fun v31 ev31 => ?_)
                have cv31 : v31 = μ.2.1 66 30 := ev31
                have bv31 := hm.n30
                have dv31 : v31.toInt = (μ.2.1 66 30).toInt := by rw [cv31]
                rw [← dv31] at bv31
                have wv31 : v31 = μ.2.1 66 30 := ev31.trans T_μ
                have uv31 : v31.toInt = (μ.2.1 66 30).toInt := by rw [wv31]
                refine gw_ne (fun h48_32 => ?_) (fun h48_32 => ?_)
                ·
                  refine gw_gRa 66 (hm.1.c (r := 65) rfl) (hm.1.r (by decide)) ?_
                  refine gw_gRa 66 (hm.1.c (r := 65) rfl) (hm.1.r (by decide)) ?_
                  refine gw_aI (i := (30 : Int32)) (hm.1.t (r := 66) rfl) (hm.1.l (r := 66) rfl) (by omega) (by omega) (fun v33 ev33 => ?_)
                  have cv33 : v33 = μ.2.1 66 30 := ev33
                  have bv33 := hm.n30
                  have dv33 : v33.toInt = (μ.2.1 66 30).toInt := by rw [cv33]
                  rw [← dv33] at bv33
                  have wv33 : v33 = μ.2.1 66 30 := ev33.trans T_μ
                  have uv33 : v33.toInt = (μ.2.1 66 30).toInt := by rw [wv33]
                  have n34 : ((94 : Int32) + v33).toInt = (94 : Int32).toInt + v33.toInt := gx_add (by omega) (by omega)
                  refine gw_sI (i := ((94 : Int32) + v33)) (hm.1.t (r := 66) rfl) (hm.1.l (r := 66) rfl) (by omega) (by omega) (fun m35 em35 => ?_)
                  have sm35 := gS.w hc.1 em35
                  rw [show ((94 : Int32) + v33).toInt.toNat = 94 + (μ.2.1 66 30).toInt.toNat from by omega] at em35
                  have T_m35 : m35.2.1 66 30 = μ.2.1 66 30 := (rdn em35 (by omega)).trans T_μ
                  refine gw_gRa 66 ((And.intro sm35 True.intro : _ ∧ True).1.c (r := 65) rfl) ((And.intro sm35 True.intro : _ ∧ True).1.r (by decide)) ?_
                  refine gw_gRa 66 ((And.intro sm35 True.intro : _ ∧ True).1.c (r := 65) rfl) ((And.intro sm35 True.intro : _ ∧ True).1.r (by decide)) ?_
                  refine gw_aI (i := (30 : Int32)) ((And.intro sm35 True.intro : _ ∧ True).1.t (r := 66) rfl) ((And.intro sm35 True.intro : _ ∧ True).1.l (r := 66) rfl) (by omega) (by omega) (fun v36 ev36 => ?_)
                  have cv36 : v36 = m35.2.1 66 30 := ev36
                  have wv36 : v36 = μ.2.1 66 30 := ev36.trans T_m35
                  have uv36 : v36.toInt = (μ.2.1 66 30).toInt := by rw [wv36]
                  have n37 : ((102 : Int32) + v36).toInt = (102 : Int32).toInt + v36.toInt := gx_add (by omega) (by omega)
                  refine gw_sI (i := ((102 : Int32) + v36)) ((And.intro sm35 True.intro : _ ∧ True).1.t (r := 66) rfl) ((And.intro sm35 True.intro : _ ∧ True).1.l (r := 66) rfl) (by omega) (by omega) (fun m38 em38 => ?_)
                  have sm38 := gS.w sm35 em38
                  rw [show ((102 : Int32) + v36).toInt.toNat = 102 + (μ.2.1 66 30).toInt.toNat from by omega] at em38
                  have T_m38 : m38.2.1 66 30 = μ.2.1 66 30 := (rdn em38 (by omega)).trans T_m35
                  refine gw_gRa 66 ((And.intro sm38 True.intro : _ ∧ True).1.c (r := 65) rfl) ((And.intro sm38 True.intro : _ ∧ True).1.r (by decide)) ?_
                  refine gw_aI (i := (30 : Int32)) ((And.intro sm38 True.intro : _ ∧ True).1.t (r := 66) rfl) ((And.intro sm38 True.intro : _ ∧ True).1.l (r := 66) rfl) (by omega) (by omega) (fun v39 ev39 => ?_)
                  have cv39 : v39 = m38.2.1 66 30 := ev39
                  have wv39 : v39 = μ.2.1 66 30 := ev39.trans T_m38
                  have uv39 : v39.toInt = (μ.2.1 66 30).toInt := by rw [wv39]
                  refine gw_sI (i := (30 : Int32)) ((And.intro sm38 True.intro : _ ∧ True).1.t (r := 66) rfl) ((And.intro sm38 True.intro : _ ∧ True).1.l (r := 66) rfl) (by omega) (by omega) (fun m40 em40 => ?_)
                  have sm40 := gS.w sm38 em40
                  rw [show (30 : Int32).toInt.toNat = 30 from by omega] at em40
                  rw [wv39] at em40
                  have VS := rde em40
                  refine gw_gRa 66 ((And.intro sm40 True.intro : _ ∧ True).1.c (r := 65) rfl) ((And.intro sm40 True.intro : _ ∧ True).1.r (by decide)) ?_
                  refine gw_aI (i := (30 : Int32)) ((And.intro sm40 True.intro : _ ∧ True).1.t (r := 66) rfl) ((And.intro sm40 True.intro : _ ∧ True).1.l (r := 66) rfl) (by omega) (by omega) (fun v41 ev41 => ?_)
                  have cv41 : v41 = m40.2.1 66 30 := ev41
                  have VY := ev41.trans VS
                  exact gw_some (gq_I (by first | (exfalso; omega) | exact ⟨rfl, h⟩ | (refine ⟨VX.symm, ?_⟩; subst em40; subst em38; subst em35; exact A_clr h (by decide)) | (refine ⟨by rw [VY, VX, E28], ?_⟩; subst em40; subst em38; subst em35; exact A_book h (by omega) (by omega) (by omega))))
                ·
                  exact gw_some (gq_I (by first | (exfalso; omega) | exact ⟨rfl, h⟩ | (refine ⟨VX.symm, ?_⟩; skip; exact A_clr h (by decide)) | (refine ⟨by rw [VY, VX, E28], ?_⟩; skip; exact A_book h (by omega) (by omega) (by omega))))
              ·
                exact gw_some (gq_I (by first | (exfalso; omega) | exact ⟨rfl, h⟩ | (refine ⟨VX.symm, ?_⟩; skip; exact A_clr h (by decide)) | (refine ⟨by rw [VY, VX, E28], ?_⟩; skip; exact A_book h (by omega) (by omega) (by omega))))
            ·
              exact gw_some (gq_I (by first | (exfalso; omega) | exact ⟨rfl, h⟩ | (refine ⟨VX.symm, ?_⟩; skip; exact A_clr h (by decide)) | (refine ⟨by rw [VY, VX, E28], ?_⟩; skip; exact A_book h (by omega) (by omega) (by omega))))
          ·
            refine gw_gRa 66 (hm.1.c (r := 65) rfl) (hm.1.r (by decide)) ?_
            refine gw_sI (i := (30 : Int32)) (hm.1.t (r := 66) rfl) (hm.1.l (r := 66) rfl) (by omega) (by omega) (fun m42 em42 => ?_)
            have sm42 := gS.w hc.1 em42
            rw [show (30 : Int32).toInt.toNat = 30 from by omega] at em42
            exact gw_some (gq_I (by first | (exfalso; omega) | exact ⟨rfl, h⟩ | (refine ⟨VX.symm, ?_⟩; subst em42; exact A_clr h (by decide)) | (refine ⟨by rw [VY, VX, E28], ?_⟩; subst em42; exact A_book h (by omega) (by omega) (by omega))))
      ·
        refine gw_some (gq_I ?_)
        have hm := h.1
        have T_μ : μ.2.1 66 30 = μ.2.1 66 30 := by rfl
        refine gwI_of ?_
        unfold f_X12_book
        refine gw_ne (fun h2_43 => ?_) (fun h2_43 => ?_)
        ·
          refine gw_if (hm.1.t (r := 65) rfl) ?_
          refine gw_bI (s_X12_isChild hm ) (fun x44 m44 ⟨z44, f44⟩ => ?_)
          replace z44 := z44.symm
          subst z44
          refine gw_ne (fun h20_45 => ?_) (fun h20_45 => ?_)
          ·
            refine gw_bI (s_X12_in ) (fun x46 m46 ⟨z46, f46⟩ => ?_)
            replace z46 := z46.symm
            subst z46
            refine gw_ne (fun h33_47 => ?_) (fun h33_47 => ?_)
            ·
              refine gw_gRa 66 (hm.1.c (r := 65) rfl) (hm.1.r (by decide)) ?_
              refine gw_aI (i := (30 : Int32)) (hm.1.t (r := 66) rfl) (hm.1.l (r := 66) rfl) (by omega) (by omega) (fun v48 ev48 => ?_)
              have cv48 : v48 = μ.2.1 66 30 := ev48
              have bv48 := hm.n30
              have dv48 : v48.toInt = (μ.2.1 66 30).toInt := by rw [cv48]
              rw [← dv48] at bv48
              have wv48 : v48 = μ.2.1 66 30 := ev48.trans T_μ
              have uv48 : v48.toInt = (μ.2.1 66 30).toInt := by rw [wv48]
              refine gw_ne (fun h48_49 => ?_) (fun h48_49 => ?_)
              ·
                refine gw_gRa 66 (hm.1.c (r := 65) rfl) (hm.1.r (by decide)) ?_
                refine gw_gRa 66 (hm.1.c (r := 65) rfl) (hm.1.r (by decide)) ?_
                refine gw_aI (i := (30 : Int32)) (hm.1.t (r := 66) rfl) (hm.1.l (r := 66) rfl) (by omega) (by omega) (fun v50 ev50 => ?_)
                have cv50 : v50 = μ.2.1 66 30 := ev50
                have bv50 := hm.n30
                have dv50 : v50.toInt = (μ.2.1 66 30).toInt := by rw [cv50]
                rw [← dv50] at bv50
                have wv50 : v50 = μ.2.1 66 30 := ev50.trans T_μ
                have uv50 : v50.toInt = (μ.2.1 66 30).toInt := by rw [wv50]
                have n51 : ((94 : Int32) + v50).toInt = (94 : Int32).toInt + v50.toInt := gx_add (by omega) (by omega)
                refine gw_sI (i := ((94 : Int32) + v50)) (hm.1.t (r := 66) rfl) (hm.1.l (r := 66) rfl) (by omega) (by omega) (fun m52 em52 => ?_)
                have sm52 := gS.w hc.1 em52
                rw [show ((94 : Int32) + v50).toInt.toNat = 94 + (μ.2.1 66 30).toInt.toNat from by omega] at em52
                have T_m52 : m52.2.1 66 30 = μ.2.1 66 30 := (rdn em52 (by omega)).trans T_μ
                refine gw_gRa 66 ((And.intro sm52 True.intro : _ ∧ True).1.c (r := 65) rfl) ((And.intro sm52 True.intro : _ ∧ True).1.r (by decide)) ?_
                refine gw_gRa 66 ((And.intro sm52 True.intro : _ ∧ True).1.c (r := 65) rfl) ((And.intro sm52 True.intro : _ ∧ True).1.r (by decide)) ?_
                refine gw_aI (i := (30 : Int32)) ((And.intro sm52 True.intro : _ ∧ True).1.t (r := 66) rfl) ((And.intro sm52 True.intro : _ ∧ True).1.l (r := 66) rfl) (by omega) (by omega) (fun v53 ev53 => ?_)
                have cv53 : v53 = m52.2.1 66 30 := ev53
                have wv53 : v53 = μ.2.1 66 30 := ev53.trans T_m52
                have uv53 : v53.toInt = (μ.2.1 66 30).toInt := by rw [wv53]
                have n54 : ((102 : Int32) + v53).toInt = (102 : Int32).toInt + v53.toInt := gx_add (by omega) (by omega)
                refine gw_sI (i := ((102 : Int32) + v53)) ((And.intro sm52 True.intro : _ ∧ True).1.t (r := 66) rfl) ((And.intro sm52 True.intro : _ ∧ True).1.l (r := 66) rfl) (by omega) (by omega) (fun m55 em55 => ?_)
                have sm55 := gS.w sm52 em55
                rw [show ((102 : Int32) + v53).toInt.toNat = 102 + (μ.2.1 66 30).toInt.toNat from by omega] at em55
                have T_m55 : m55.2.1 66 30 = μ.2.1 66 30 := (rdn em55 (by omega)).trans T_m52
                refine gw_gRa 66 ((And.intro sm55 True.intro : _ ∧ True).1.c (r := 65) rfl) ((And.intro sm55 True.intro : _ ∧ True).1.r (by decide)) ?_
                refine gw_aI (i := (30 : Int32)) ((And.intro sm55 True.intro : _ ∧ True).1.t (r := 66) rfl) ((And.intro sm55 True.intro : _ ∧ True).1.l (r := 66) rfl) (by omega) (by omega) (fun v56 ev56 => ?_)
                have cv56 : v56 = m55.2.1 66 30 := ev56
                have wv56 : v56 = μ.2.1 66 30 := ev56.trans T_m55
                have uv56 : v56.toInt = (μ.2.1 66 30).toInt := by rw [wv56]
                refine gw_sI (i := (30 : Int32)) ((And.intro sm55 True.intro : _ ∧ True).1.t (r := 66) rfl) ((And.intro sm55 True.intro : _ ∧ True).1.l (r := 66) rfl) (by omega) (by omega) (fun m57 em57 => ?_)
                have sm57 := gS.w sm55 em57
                rw [show (30 : Int32).toInt.toNat = 30 from by omega] at em57
                rw [wv56] at em57
                have VS := rde em57
                refine gw_gRa 66 ((And.intro sm57 True.intro : _ ∧ True).1.c (r := 65) rfl) ((And.intro sm57 True.intro : _ ∧ True).1.r (by decide)) ?_
                refine gw_aI (i := (30 : Int32)) ((And.intro sm57 True.intro : _ ∧ True).1.t (r := 66) rfl) ((And.intro sm57 True.intro : _ ∧ True).1.l (r := 66) rfl) (by omega) (by omega) (fun v58 ev58 => ?_)
                have cv58 : v58 = m57.2.1 66 30 := ev58
                have VY := ev58.trans VS
                exact gw_some (gq_I (by first | (exfalso; omega) | exact ⟨rfl, h⟩ | (refine ⟨VX.symm, ?_⟩; subst em57; subst em55; subst em52; exact A_clr h (by decide)) | (refine ⟨by rw [VY, VX, E28], ?_⟩; subst em57; subst em55; subst em52; exact A_book h (by omega) (by omega) (by omega))))
              ·
                exact gw_some (gq_I (by first | (exfalso; omega) | exact ⟨rfl, h⟩ | (refine ⟨VX.symm, ?_⟩; skip; exact A_clr h (by decide)) | (refine ⟨by rw [VY, VX, E28], ?_⟩; skip; exact A_book h (by omega) (by omega) (by omega))))
            ·
              exact gw_some (gq_I (by first | (exfalso; omega) | exact ⟨rfl, h⟩ | (refine ⟨VX.symm, ?_⟩; skip; exact A_clr h (by decide)) | (refine ⟨by rw [VY, VX, E28], ?_⟩; skip; exact A_book h (by omega) (by omega) (by omega))))
          ·
            exact gw_some (gq_I (by first | (exfalso; omega) | exact ⟨rfl, h⟩ | (refine ⟨VX.symm, ?_⟩; skip; exact A_clr h (by decide)) | (refine ⟨by rw [VY, VX, E28], ?_⟩; skip; exact A_book h (by omega) (by omega) (by omega))))
        ·
          refine gw_gRa 66 (hm.1.c (r := 65) rfl) (hm.1.r (by decide)) ?_
          refine gw_sI (i := (30 : Int32)) (hm.1.t (r := 66) rfl) (hm.1.l (r := 66) rfl) (by omega) (by omega) (fun m59 em59 => ?_)
          have sm59 := gS.w hc.1 em59
          rw [show (30 : Int32).toInt.toNat = 30 from by omega] at em59
          exact gw_some (gq_I (by first | (exfalso; omega) | exact ⟨rfl, h⟩ | (refine ⟨VX.symm, ?_⟩; subst em59; exact A_clr h (by decide)) | (refine ⟨by rw [VY, VX, E28], ?_⟩; subst em59; exact A_book h (by omega) (by omega) (by omega))))
    ·
      refine gw_some (gq_I ?_)
      have hm := h.1
      have T_μ : μ.2.1 66 30 = μ.2.1 66 30 := by rfl
      refine gwI_of ?_
      unfold f_X12_book
      refine gw_ne (fun h2_60 => ?_) (fun h2_60 => ?_)
      ·
        refine gw_if (hm.1.t (r := 65) rfl) ?_
        refine gw_bI (s_X12_isChild hm ) (fun x61 m61 ⟨z61, f61⟩ => ?_)
        replace z61 := z61.symm
        subst z61
        refine gw_ne (fun h20_62 => ?_) (fun h20_62 => ?_)
        ·
          refine gw_bI (s_X12_in ) (fun x63 m63 ⟨z63, f63⟩ => ?_)
          replace z63 := z63.symm
          subst z63
          refine gw_ne (fun h33_64 => ?_) (fun h33_64 => ?_)
          ·
            refine gw_gRa 66 (hm.1.c (r := 65) rfl) (hm.1.r (by decide)) ?_
            refine gw_aI (i := (30 : Int32)) (hm.1.t (r := 66) rfl) (hm.1.l (r := 66) rfl) (by omega) (by omega) (fun v65 ev65 => ?_)
            have cv65 : v65 = μ.2.1 66 30 := ev65
            have bv65 := hm.n30
            have dv65 : v65.toInt = (μ.2.1 66 30).toInt := by rw [cv65]
            rw [← dv65] at bv65
            have wv65 : v65 = μ.2.1 66 30 := ev65.trans T_μ
            have uv65 : v65.toInt = (μ.2.1 66 30).toInt := by rw [wv65]
            refine gw_ne (fun h48_66 => ?_) (fun h48_66 => ?_)
            ·
              refine gw_gRa 66 (hm.1.c (r := 65) rfl) (hm.1.r (by decide)) ?_
              refine gw_gRa 66 (hm.1.c (r := 65) rfl) (hm.1.r (by decide)) ?_
              refine gw_aI (i := (30 : Int32)) (hm.1.t (r := 66) rfl) (hm.1.l (r := 66) rfl) (by omega) (by omega) (fun v67 ev67 => ?_)
              have cv67 : v67 = μ.2.1 66 30 := ev67
              have bv67 := hm.n30
              have dv67 : v67.toInt = (μ.2.1 66 30).toInt := by rw [cv67]
              rw [← dv67] at bv67
              have wv67 : v67 = μ.2.1 66 30 := ev67.trans T_μ
              have uv67 : v67.toInt = (μ.2.1 66 30).toInt := by rw [wv67]
              have n68 : ((94 : Int32) + v67).toInt = (94 : Int32).toInt + v67.toInt := gx_add (by omega) (by omega)
              refine gw_sI (i := ((94 : Int32) + v67)) (hm.1.t (r := 66) rfl) (hm.1.l (r := 66) rfl) (by omega) (by omega) (fun m69 em69 => ?_)
              have sm69 := gS.w hc.1 em69
              rw [show ((94 : Int32) + v67).toInt.toNat = 94 + (μ.2.1 66 30).toInt.toNat from by omega] at em69
              have T_m69 : m69.2.1 66 30 = μ.2.1 66 30 := (rdn em69 (by omega)).trans T_μ
              refine gw_gRa 66 ((And.intro sm69 True.intro : _ ∧ True).1.c (r := 65) rfl) ((And.intro sm69 True.intro : _ ∧ True).1.r (by decide)) ?_
              refine gw_gRa 66 ((And.intro sm69 True.intro : _ ∧ True).1.c (r := 65) rfl) ((And.intro sm69 True.intro : _ ∧ True).1.r (by decide)) ?_
              refine gw_aI (i := (30 : Int32)) ((And.intro sm69 True.intro : _ ∧ True).1.t (r := 66) rfl) ((And.intro sm69 True.intro : _ ∧ True).1.l (r := 66) rfl) (by omega) (by omega) (fun v70 ev70 => ?_)
              have cv70 : v70 = m69.2.1 66 30 := ev70
              have wv70 : v70 = μ.2.1 66 30 := ev70.trans T_m69
              have uv70 : v70.toInt = (μ.2.1 66 30).toInt := by rw [wv70]
              have n71 : ((102 : Int32) + v70).toInt = (102 : Int32).toInt + v70.toInt := gx_add (by omega) (by omega)
              refine gw_sI (i := ((102 : Int32) + v70)) ((And.intro sm69 True.intro : _ ∧ True).1.t (r := 66) rfl) ((And.intro sm69 True.intro : _ ∧ True).1.l (r := 66) rfl) (by omega) (by omega) (fun m72 em72 => ?_)
              have sm72 := gS.w sm69 em72
              rw [show ((102 : Int32) + v70).toInt.toNat = 102 + (μ.2.1 66 30).toInt.toNat from by omega] at em72
              have T_m72 : m72.2.1 66 30 = μ.2.1 66 30 := (rdn em72 (by omega)).trans T_m69
              refine gw_gRa 66 ((And.intro sm72 True.intro : _ ∧ True).1.c (r := 65) rfl) ((And.intro sm72 True.intro : _ ∧ True).1.r (by decide)) ?_
              refine gw_aI (i := (30 : Int32)) ((And.intro sm72 True.intro : _ ∧ True).1.t (r := 66) rfl) ((And.intro sm72 True.intro : _ ∧ True).1.l (r := 66) rfl) (by omega) (by omega) (fun v73 ev73 => ?_)
              have cv73 : v73 = m72.2.1 66 30 := ev73
              have wv73 : v73 = μ.2.1 66 30 := ev73.trans T_m72
              have uv73 : v73.toInt = (μ.2.1 66 30).toInt := by rw [wv73]
              refine gw_sI (i := (30 : Int32)) ((And.intro sm72 True.intro : _ ∧ True).1.t (r := 66) rfl) ((And.intro sm72 True.intro : _ ∧ True).1.l (r := 66) rfl) (by omega) (by omega) (fun m74 em74 => ?_)
              have sm74 := gS.w sm72 em74
              rw [show (30 : Int32).toInt.toNat = 30 from by omega] at em74
              rw [wv73] at em74
              have VS := rde em74
              refine gw_gRa 66 ((And.intro sm74 True.intro : _ ∧ True).1.c (r := 65) rfl) ((And.intro sm74 True.intro : _ ∧ True).1.r (by decide)) ?_
              refine gw_aI (i := (30 : Int32)) ((And.intro sm74 True.intro : _ ∧ True).1.t (r := 66) rfl) ((And.intro sm74 True.intro : _ ∧ True).1.l (r := 66) rfl) (by omega) (by omega) (fun v75 ev75 => ?_)
              have cv75 : v75 = m74.2.1 66 30 := ev75
              have VY := ev75.trans VS
              exact gw_some (gq_I (by first | (exfalso; omega) | exact ⟨rfl, h⟩ | (refine ⟨VX.symm, ?_⟩; subst em74; subst em72; subst em69; exact A_clr h (by decide)) | (refine ⟨by rw [VY, VX, E28], ?_⟩; subst em74; subst em72; subst em69; exact A_book h (by omega) (by omega) (by omega))))
            ·
              exact gw_some (gq_I (by first | (exfalso; omega) | exact ⟨rfl, h⟩ | (refine ⟨VX.symm, ?_⟩; skip; exact A_clr h (by decide)) | (refine ⟨by rw [VY, VX, E28], ?_⟩; skip; exact A_book h (by omega) (by omega) (by omega))))
          ·
            exact gw_some (gq_I (by first | (exfalso; omega) | exact ⟨rfl, h⟩ | (refine ⟨VX.symm, ?_⟩; skip; exact A_clr h (by decide)) | (refine ⟨by rw [VY, VX, E28], ?_⟩; skip; exact A_book h (by omega) (by omega) (by omega))))
        ·
          exact gw_some (gq_I (by first | (exfalso; omega) | exact ⟨rfl, h⟩ | (refine ⟨VX.symm, ?_⟩; skip; exact A_clr h (by decide)) | (refine ⟨by rw [VY, VX, E28], ?_⟩; skip; exact A_book h (by omega) (by omega) (by omega))))
      ·
        refine gw_gRa 66 (hm.1.c (r := 65) rfl) (hm.1.r (by decide)) ?_
        refine gw_sI (i := (30 : Int32)) (hm.1.t (r := 66) rfl) (hm.1.l (r := 66) rfl) (by omega) (by omega) (fun m76 em76 => ?_)
        have sm76 := gS.w hc.1 em76
        rw [show (30 : Int32).toInt.toNat = 30 from by omega] at em76
        exact gw_some (gq_I (by first | (exfalso; omega) | exact ⟨rfl, h⟩ | (refine ⟨VX.symm, ?_⟩; subst em76; exact A_clr h (by decide)) | (refine ⟨by rw [VY, VX, E28], ?_⟩; subst em76; exact A_book h (by omega) (by omega) (by omega))))
  ·
    refine gw_gRa 15 (hc.1.c (r := 1) rfl) (hc.1.r (by decide)) ?_
    refine gw_gRa 27 (hc.1.c (r := 15) rfl) (hc.1.r (by decide)) ?_
    refine gw_if (hc.1.t (r := 27) rfl) ?_
    refine gw_bI (s_clear (r := 27) (hc.1.t rfl)) (fun x77 m77 z77 => ?_)
    obtain ⟨VX, ZM⟩ := z77
    have GS : gS m77 := by rw [ZM]; exact hc.1
    have R6 : m77.2.1 66 = μ.2.1 66 := by rw [ZM]; exact wI_o _ _ _ _ (by decide)
    refine gw_some (gq_I ?_)
    have hm : MI m77 := ⟨GS, by rw [R6]; exact h.1.2⟩
    have T_m77 : m77.2.1 66 30 = μ.2.1 66 30 := by rw [R6]
    refine gwI_of ?_
    unfold f_X12_book
    refine gw_ne (fun h2_78 => ?_) (fun h2_78 => ?_)
    ·
      refine gw_if (hm.1.t (r := 65) rfl) ?_
      refine gw_bI (s_X12_isChild hm ) (fun x79 m79 ⟨z79, f79⟩ => ?_)
      replace z79 := z79.symm
      subst z79
      rw [R6] at f79
      refine gw_ne (fun h20_80 => ?_) (fun h20_80 => ?_)
      ·
        refine gw_bI (s_X12_in ) (fun x81 m81 ⟨z81, f81⟩ => ?_)
        replace z81 := z81.symm
        subst z81
        refine gw_ne (fun h33_82 => ?_) (fun h33_82 => ?_)
        ·
          refine gw_gRa 66 (hm.1.c (r := 65) rfl) (hm.1.r (by decide)) ?_
          refine gw_aI (i := (30 : Int32)) (hm.1.t (r := 66) rfl) (hm.1.l (r := 66) rfl) (by omega) (by omega) (fun v83 ev83 => ?_)
          have cv83 : v83 = m77.2.1 66 30 := ev83
          have bv83 := hm.n30
          have dv83 : v83.toInt = (m77.2.1 66 30).toInt := by rw [cv83]
          have yv83 : v83.toInt = (μ.2.1 66 30).toInt := by rw [dv83, R6]
          rw [← dv83] at bv83
          have wv83 : v83 = μ.2.1 66 30 := ev83.trans T_m77
          have uv83 : v83.toInt = (μ.2.1 66 30).toInt := by rw [wv83]
          refine gw_ne (fun h48_84 => ?_) (fun h48_84 => ?_)
          ·
            refine gw_gRa 66 (hm.1.c (r := 65) rfl) (hm.1.r (by decide)) ?_
            refine gw_gRa 66 (hm.1.c (r := 65) rfl) (hm.1.r (by decide)) ?_
            refine gw_aI (i := (30 : Int32)) (hm.1.t (r := 66) rfl) (hm.1.l (r := 66) rfl) (by omega) (by omega) (fun v85 ev85 => ?_)
            have cv85 : v85 = m77.2.1 66 30 := ev85
            have bv85 := hm.n30
            have dv85 : v85.toInt = (m77.2.1 66 30).toInt := by rw [cv85]
            have yv85 : v85.toInt = (μ.2.1 66 30).toInt := by rw [dv85, R6]
            rw [← dv85] at bv85
            have wv85 : v85 = μ.2.1 66 30 := ev85.trans T_m77
            have uv85 : v85.toInt = (μ.2.1 66 30).toInt := by rw [wv85]
            have n86 : ((94 : Int32) + v85).toInt = (94 : Int32).toInt + v85.toInt := gx_add (by omega) (by omega)
            refine gw_sI (i := ((94 : Int32) + v85)) (hm.1.t (r := 66) rfl) (hm.1.l (r := 66) rfl) (by omega) (by omega) (fun m87 em87 => ?_)
            have sm87 := gS.w GS em87
            rw [show ((94 : Int32) + v85).toInt.toNat = 94 + (μ.2.1 66 30).toInt.toNat from by omega] at em87
            have T_m87 : m87.2.1 66 30 = μ.2.1 66 30 := (rdn em87 (by omega)).trans T_m77
            refine gw_gRa 66 ((And.intro sm87 True.intro : _ ∧ True).1.c (r := 65) rfl) ((And.intro sm87 True.intro : _ ∧ True).1.r (by decide)) ?_
            refine gw_gRa 66 ((And.intro sm87 True.intro : _ ∧ True).1.c (r := 65) rfl) ((And.intro sm87 True.intro : _ ∧ True).1.r (by decide)) ?_
            refine gw_aI (i := (30 : Int32)) ((And.intro sm87 True.intro : _ ∧ True).1.t (r := 66) rfl) ((And.intro sm87 True.intro : _ ∧ True).1.l (r := 66) rfl) (by omega) (by omega) (fun v88 ev88 => ?_)
            have cv88 : v88 = m87.2.1 66 30 := ev88
            have wv88 : v88 = μ.2.1 66 30 := ev88.trans T_m87
            have uv88 : v88.toInt = (μ.2.1 66 30).toInt := by rw [wv88]
            have n89 : ((102 : Int32) + v88).toInt = (102 : Int32).toInt + v88.toInt := gx_add (by omega) (by omega)
            refine gw_sI (i := ((102 : Int32) + v88)) ((And.intro sm87 True.intro : _ ∧ True).1.t (r := 66) rfl) ((And.intro sm87 True.intro : _ ∧ True).1.l (r := 66) rfl) (by omega) (by omega) (fun m90 em90 => ?_)
            have sm90 := gS.w sm87 em90
            rw [show ((102 : Int32) + v88).toInt.toNat = 102 + (μ.2.1 66 30).toInt.toNat from by omega] at em90
            have T_m90 : m90.2.1 66 30 = μ.2.1 66 30 := (rdn em90 (by omega)).trans T_m87
            refine gw_gRa 66 ((And.intro sm90 True.intro : _ ∧ True).1.c (r := 65) rfl) ((And.intro sm90 True.intro : _ ∧ True).1.r (by decide)) ?_
            refine gw_aI (i := (30 : Int32)) ((And.intro sm90 True.intro : _ ∧ True).1.t (r := 66) rfl) ((And.intro sm90 True.intro : _ ∧ True).1.l (r := 66) rfl) (by omega) (by omega) (fun v91 ev91 => ?_)
            have cv91 : v91 = m90.2.1 66 30 := ev91
            have wv91 : v91 = μ.2.1 66 30 := ev91.trans T_m90
            have uv91 : v91.toInt = (μ.2.1 66 30).toInt := by rw [wv91]
            refine gw_sI (i := (30 : Int32)) ((And.intro sm90 True.intro : _ ∧ True).1.t (r := 66) rfl) ((And.intro sm90 True.intro : _ ∧ True).1.l (r := 66) rfl) (by omega) (by omega) (fun m92 em92 => ?_)
            have sm92 := gS.w sm90 em92
            rw [show (30 : Int32).toInt.toNat = 30 from by omega] at em92
            rw [wv91] at em92
            have VS := rde em92
            refine gw_gRa 66 ((And.intro sm92 True.intro : _ ∧ True).1.c (r := 65) rfl) ((And.intro sm92 True.intro : _ ∧ True).1.r (by decide)) ?_
            refine gw_aI (i := (30 : Int32)) ((And.intro sm92 True.intro : _ ∧ True).1.t (r := 66) rfl) ((And.intro sm92 True.intro : _ ∧ True).1.l (r := 66) rfl) (by omega) (by omega) (fun v93 ev93 => ?_)
            have cv93 : v93 = m92.2.1 66 30 := ev93
            have VY := ev93.trans VS
            exact gw_some (gq_I (by first | (exfalso; omega) | exact ⟨rfl, h⟩ | (refine ⟨VX.symm, ?_⟩; subst em92; subst em90; subst em87; subst ZM; exact A_clr h (by decide)) | (refine ⟨by rw [VY, VX, E28], ?_⟩; subst em92; subst em90; subst em87; subst ZM; exact A_book h (by omega) (by omega) (by omega))))
          ·
            exact gw_some (gq_I (by first | (exfalso; omega) | exact ⟨rfl, h⟩ | (refine ⟨VX.symm, ?_⟩; subst ZM; exact A_clr h (by decide)) | (refine ⟨by rw [VY, VX, E28], ?_⟩; subst ZM; exact A_book h (by omega) (by omega) (by omega))))
        ·
          exact gw_some (gq_I (by first | (exfalso; omega) | exact ⟨rfl, h⟩ | (refine ⟨VX.symm, ?_⟩; subst ZM; exact A_clr h (by decide)) | (refine ⟨by rw [VY, VX, E28], ?_⟩; subst ZM; exact A_book h (by omega) (by omega) (by omega))))
      ·
        exact gw_some (gq_I (by first | (exfalso; omega) | exact ⟨rfl, h⟩ | (refine ⟨VX.symm, ?_⟩; subst ZM; exact A_clr h (by decide)) | (refine ⟨by rw [VY, VX, E28], ?_⟩; subst ZM; exact A_book h (by omega) (by omega) (by omega))))
    ·
      refine gw_gRa 66 (hm.1.c (r := 65) rfl) (hm.1.r (by decide)) ?_
      refine gw_sI (i := (30 : Int32)) (hm.1.t (r := 66) rfl) (hm.1.l (r := 66) rfl) (by omega) (by omega) (fun m94 em94 => ?_)
      have sm94 := gS.w GS em94
      rw [show (30 : Int32).toInt.toNat = 30 from by omega] at em94
      exact gw_some (gq_I (by first | (exfalso; omega) | exact ⟨rfl, h⟩ | (refine ⟨VX.symm, ?_⟩; subst em94; subst ZM; exact A_clr h (by decide)) | (refine ⟨by rw [VY, VX, E28], ?_⟩; subst em94; subst ZM; exact A_book h (by omega) (by omega) (by omega))))
