set_option maxHeartbeats 1000000 in
theorem s_X12_of {μ : gm_M} (h : MI μ) {a1 : Int32} {a2 : Int32}  : gwI (f_X12_of 65 a1 a2 μ) (fun x m => qm μ m) := by
  refine gwI_of ?_
  unfold f_X12_of
  have lm1 : (-1 : Int32).toInt = -1 := rfl
  have l0 : (0 : Int32).toInt = 0 := rfl
  have l1 : (1 : Int32).toInt = 1 := rfl
  have l2 : (2 : Int32).toInt = 2 := rfl
  have l5 : (5 : Int32).toInt = 5 := rfl
  have l7 : (7 : Int32).toInt = 7 := rfl
  have l8 : (8 : Int32).toInt = 8 := rfl
  have l9 : (9 : Int32).toInt = 9 := rfl
  have l10 : (10 : Int32).toInt = 10 := rfl
  have l33 : (33 : Int32).toInt = 33 := rfl
  have l38 : (38 : Int32).toInt = 38 := rfl
  have k0 := km.refl A0 μ
  refine gw_if ((h.of0 k0).1.t (r := 65) rfl) ?_
  refine gw_bI (s_X12_isChild (h.of0 k0)  ) (fun x1 m1 ⟨z1, f1⟩ => ?_)
  replace z1 := z1.symm
  subst z1
  refine gw_eq (fun h5_2 => ?_) (fun h5_2 => ?_)
  ·
    exact gw_some (gq_I (qm.of0 k0))
  ·
    refine gw_bI (s_X12_in  ) (fun x3 m3 ⟨z3, f3⟩ => ?_)
    replace z3 := z3.symm
    subst z3
    refine gw_ne (fun h15_4 => ?_) (fun h15_4 => ?_)
    ·
      refine gw_eq (fun h21_5 => ?_) (fun h21_5 => ?_)
      ·
        refine gw_gRa 66 ((h.of0 k0).1.c (r := 65) rfl) ((h.of0 k0).1.r (by decide)) ?_
        have n6 : ((33 : Int32) + a1).toInt = (33 : Int32).toInt + a1.toInt := gx_add (by omega) (by omega)
        refine gw_aI (i := ((33 : Int32) + a1)) ((h.of0 k0).1.t (r := 66) rfl) ((h.of0 k0).1.l (r := 66) rfl) (by omega) (by omega) (fun v7 ev7 => ?_)
        exact gw_some (gq_I (qm.of0 k0))
      ·
        refine gw_eq (fun h21_8 => ?_) (fun h21_8 => ?_)
        ·
          refine gw_gRa 66 ((h.of0 k0).1.c (r := 65) rfl) ((h.of0 k0).1.r (by decide)) ?_
          have n9 : ((38 : Int32) + a1).toInt = (38 : Int32).toInt + a1.toInt := gx_add (by omega) (by omega)
          refine gw_aI (i := ((38 : Int32) + a1)) ((h.of0 k0).1.t (r := 66) rfl) ((h.of0 k0).1.l (r := 66) rfl) (by omega) (by omega) (fun v10 ev10 => ?_)
          exact gw_some (gq_I (qm.of0 k0))
        ·
          refine gw_eq (fun h21_11 => ?_) (fun h21_11 => ?_)
          ·
            refine gw_if ((h.of0 k0).1.t (r := 65) rfl) ?_
            refine gw_bI (s_X12_stretchOf (h.of0 k0)  (by omega)) (fun x12 m12 g12 => ?_)
            have kk12 := k0.trans g12.w00
            exact gw_some (gq_I (qm.of0 kk12))
          ·
            refine gw_eq (fun h21_13 => ?_) (fun h21_13 => ?_)
            ·
              refine gw_if ((h.of0 k0).1.t (r := 65) rfl) ?_
              refine gw_bI (s_X12_chewsOf (h.of0 k0)  (by omega)) (fun x14 m14 z14 => ?_)
              replace z14 := z14.symm
              subst z14
              exact gw_some (gq_I (qm.of0 k0))
            ·
              refine gw_eq (fun h21_15 => ?_) (fun h21_15 => ?_)
              ·
                refine gw_if ((h.of0 k0).1.t (r := 65) rfl) ?_
                refine gw_bI (s_X12_tiresOf (h.of0 k0)  (by omega)) (fun x16 m16 z16 => ?_)
                replace z16 := z16.symm
                subst z16
                exact gw_some (gq_I (qm.of0 k0))
              ·
                refine gw_eq (fun h21_17 => ?_) (fun h21_17 => ?_)
                ·
                  refine gw_if ((h.of0 k0).1.t (r := 65) rfl) ?_
                  refine gw_bI (s_X12_holdsOf (h.of0 k0)  (by omega)) (fun x18 m18 g18 => ?_)
                  have kk18 := k0.trans g18.w00
                  exact gw_some (gq_I (qm.of0 kk18))
                ·
                  refine gw_gRa 66 ((h.of0 k0).1.c (r := 65) rfl) ((h.of0 k0).1.r (by decide)) ?_
                  have n19 : (a2 - (2 : Int32)).toInt = a2.toInt - (2 : Int32).toInt := gx_sub (by omega) (by omega)
                  have n20 : ((5 : Int32) * (a2 - (2 : Int32))).toInt = 5 * (a2 - (2 : Int32)).toInt := gx_mul 5 rfl (by omega) (by omega)
                  have n21 : ((1 : Int32) + ((5 : Int32) * (a2 - (2 : Int32)))).toInt = (1 : Int32).toInt + ((5 : Int32) * (a2 - (2 : Int32))).toInt := gx_add (by omega) (by omega)
                  have n22 : (((1 : Int32) + ((5 : Int32) * (a2 - (2 : Int32)))) + a1).toInt = ((1 : Int32) + ((5 : Int32) * (a2 - (2 : Int32)))).toInt + a1.toInt := gx_add (by omega) (by omega)
                  refine gw_aI (i := (((1 : Int32) + ((5 : Int32) * (a2 - (2 : Int32)))) + a1)) ((h.of0 k0).1.t (r := 66) rfl) ((h.of0 k0).1.l (r := 66) rfl) (by omega) (by omega) (fun v23 ev23 => ?_)
                  exact gw_some (gq_I (qm.of0 k0))
    ·
      exact gw_some (gq_I (qm.of0 k0))
set_option maxHeartbeats 1000000 in
theorem s_X12_told {μ : gm_M} (h : MI μ) {a1 : Int32}  : gwI (f_X12_told 65 a1 μ) (fun x m => qm μ m) := by
  refine gwI_of ?_
  unfold f_X12_told
  have lm1 : (-1 : Int32).toInt = -1 := rfl
  have l0 : (0 : Int32).toInt = 0 := rfl
  have l1 : (1 : Int32).toInt = 1 := rfl
  have l2 : (2 : Int32).toInt = 2 := rfl
  have l3 : (3 : Int32).toInt = 3 := rfl
  have l4 : (4 : Int32).toInt = 4 := rfl
  have l210 : (210 : Int32).toInt = 210 := rfl
  have k0 := km.refl A0 μ
  refine gw_eq (fun h1_1 => ?_) (fun h1_1 => ?_)
  ·
    refine gw_gRa 66 ((h.of0 k0).1.c (r := 65) rfl) ((h.of0 k0).1.r (by decide)) ?_
    refine gw_aI (i := (0 : Int32)) ((h.of0 k0).1.t (r := 66) rfl) ((h.of0 k0).1.l (r := 66) rfl) (by omega) (by omega) (fun v2 ev2 => ?_)
    exact gw_some (gq_I (qm.of0 k0))
  ·
    refine gw_eq (fun h1_3 => ?_) (fun h1_3 => ?_)
    ·
      refine gw_if ((h.of0 k0).1.t (r := 65) rfl) ?_
      refine gw_bI (s_X12_tellsOf (h.of0 k0)  (by omega)) (fun x4 m4 ⟨z4, f4⟩ => ?_)
      replace z4 := z4.symm
      subst z4
      exact gw_some (gq_I (qm.of0 k0))
    ·
      refine gw_eq (fun h1_5 => ?_) (fun h1_5 => ?_)
      ·
        refine gw_if ((h.of0 k0).1.t (r := 65) rfl) ?_
        refine gw_bI (s_X12_sweetNow (h.of0 k0)  ) (fun x6 m6 z6 => ?_)
        replace z6 := z6.symm
        subst z6
        exact gw_some (gq_I (qm.of0 k0))
      ·
        refine gw_eq (fun h1_7 => ?_) (fun h1_7 => ?_)
        ·
          refine gw_if ((h.of0 k0).1.t (r := 65) rfl) ?_
          refine gw_bI (s_X12_allHold (h.of0 k0)  ) (fun x8 m8 g8 => ?_)
          have kk8 := k0.trans g8.w00
          exact gw_some (gq_I (qm.of0 kk8))
        ·
          refine gw_eq (fun h1_9 => ?_) (fun h1_9 => ?_)
          ·
            refine gw_if ((h.of0 k0).1.t (r := 65) rfl) ?_
            refine gw_bI (s_X12_bubbles (h.of0 k0)  ) (fun x10 m10 z10 => ?_)
            replace z10 := z10.symm
            subst z10
            exact gw_some (gq_I (qm.of0 k0))
          ·
            exact gw_some (gq_I (qm.of0 k0))
set_option maxHeartbeats 1000000 in
theorem s_X12_on {μ : gm_M} (h : MI μ) {a1 : Int32} {a2 : Int32}  : gwI (f_X12_on 65 a1 a2 μ) (fun x m => qm μ m) := by
  refine gwI_of ?_
  unfold f_X12_on
  have lm2 : (-2 : Int32).toInt = -2 := rfl
  have lm1 : (-1 : Int32).toInt = -1 := rfl
  have l0 : (0 : Int32).toInt = 0 := rfl
  have l6 : (6 : Int32).toInt = 6 := rfl
  have l10 : (10 : Int32).toInt = 10 := rfl
  have l20 : (20 : Int32).toInt = 20 := rfl
  have l60 : (60 : Int32).toInt = 60 := rfl
  have k0 := km.refl A0 μ
  refine gw_ji ?_
  refine gw_eq (fun h1_1 => ?_) (fun h1_1 => ?_)
  ·
    refine gw_bI (s_X12_in  ) (fun x2 m2 ⟨z2, f2⟩ => ?_)
    replace z2 := z2.symm
    subst z2
    refine gw_ne (fun h35_3 => ?_) (fun h35_3 => ?_)
    ·
      refine gw_if ((h.of0 k0).1.t (r := 65) rfl) ?_
      refine gw_bV (s_X12_keeps (h.of0 k0)  ) (fun m4 g4 => ?_)
      have hh4 := g4.mi (h.of0 k0)
      have kq4 := km.refl A1 m4
      have rr4 := g4.rs
      refine gw_if ((hh4.of1 kq4).1.t (r := 65) rfl) ?_
      refine gw_bV (s_X12_goesOn (hh4.of1 kq4)  (by omega)) (fun m5 ⟨g5, f5⟩ => ?_)
      have kk5 := kq4.trans g5.w11
      refine gw_j (fun s6 => km A1 m4 s6.2) (fun s6 k8 => ?_) (fun j7 hj7 => ?_)
      ·
        refine gw_if ((hh4.of1 k8).1.t (r := 65) rfl) ?_
        refine gw_bV (s_X12_goesBack (hh4.of1 k8)  ) (fun m9 ⟨g9, r9⟩ => ?_)
        have kk9 := k8.trans g9.w11
        exact gw_some (gq_I (qm.kp g4 kk9 r9))
      ·
        refine gw_ne (fun h51_10 => ?_) (fun h51_10 => ?_)
        ·
          refine gw_le (fun h64_11 => ?_) (fun h64_11 => ?_)
          ·
            refine gw_gRa 66 ((hh4.of1 kk5).1.c (r := 65) rfl) ((hh4.of1 kk5).1.r (by decide)) ?_
            have n12 := gx_addw (6 : Int32) a2
            have n12a := gx_lo (6 : Int32)
            have n12b := gx_hi (6 : Int32)
            have n12c := gx_lo ((6 : Int32) + a2)
            have n12d := gx_hi ((6 : Int32) + a2)
            have n13 := gx_subw ((6 : Int32) + a2) (20 : Int32)
            have n13a := gx_lo ((6 : Int32) + a2)
            have n13b := gx_hi ((6 : Int32) + a2)
            have n13c := gx_lo (((6 : Int32) + a2) - (20 : Int32))
            have n13d := gx_hi (((6 : Int32) + a2) - (20 : Int32))
            refine gw_aI (i := (((6 : Int32) + a2) - (20 : Int32))) ((hh4.of1 kk5).1.t (r := 66) rfl) ((hh4.of1 kk5).1.l (r := 66) rfl) (by omega) (by omega) (fun v14 ev14 => ?_)
            exact hj7 _ kk5
          ·
            refine gw_if ((hh4.of1 kk5).1.t (r := 65) rfl) ?_
            have n15 := gx_subw a2 (10 : Int32)
            have n15a := gx_lo a2
            have n15b := gx_hi a2
            have n15c := gx_lo (a2 - (10 : Int32))
            have n15d := gx_hi (a2 - (10 : Int32))
            refine gw_bI (s_X12_holdsOf (hh4.of1 kk5)  (by omega)) (fun x16 m16 g16 => ?_)
            have kk16 := kk5.trans g16.w01
            exact hj7 _ kk16
        ·
          refine gw_if ((hh4.of1 kk5).1.t (r := 65) rfl) ?_
          refine gw_bI (s_X12_allHold (hh4.of1 kk5)  ) (fun x17 m17 g17 => ?_)
          have kk17 := kk5.trans g17.w01
          exact hj7 _ kk17
    ·
      exact gw_some (gq_I (qm.of0 k0))
  ·
    refine gw_if ((h.of0 k0).1.t (r := 65) rfl) ?_
    have n18 := gx_subw a2 (10 : Int32)
    have n18a := gx_lo a2
    have n18b := gx_hi a2
    have n18c := gx_lo (a2 - (10 : Int32))
    have n18d := gx_hi (a2 - (10 : Int32))
    refine gw_bI (s_X12_isChild (h.of0 k0)  ) (fun x19 m19 ⟨z19, f19⟩ => ?_)
    replace z19 := z19.symm
    subst z19
    refine gw_ne (fun h12_20 => ?_) (fun h12_20 => ?_)
    ·
      refine gw_bI (s_X12_in  ) (fun x21 m21 ⟨z21, f21⟩ => ?_)
      replace z21 := z21.symm
      subst z21
      refine gw_ne (fun h35_22 => ?_) (fun h35_22 => ?_)
      ·
        refine gw_if ((h.of0 k0).1.t (r := 65) rfl) ?_
        refine gw_bV (s_X12_keeps (h.of0 k0)  ) (fun m23 g23 => ?_)
        have hh23 := g23.mi (h.of0 k0)
        have kq23 := km.refl A1 m23
        have rr23 := g23.rs
        refine gw_if ((hh23.of1 kq23).1.t (r := 65) rfl) ?_
        refine gw_bV (s_X12_goesOn (hh23.of1 kq23)  (by omega)) (fun m24 ⟨g24, f24⟩ => ?_)
        have kk24 := kq23.trans g24.w11
        refine gw_j (fun s25 => km A1 m23 s25.2) (fun s25 k27 => ?_) (fun j26 hj26 => ?_)
        ·
          refine gw_if ((hh23.of1 k27).1.t (r := 65) rfl) ?_
          refine gw_bV (s_X12_goesBack (hh23.of1 k27)  ) (fun m28 ⟨g28, r28⟩ => ?_)
          have kk28 := k27.trans g28.w11
          exact gw_some (gq_I (qm.kp g23 kk28 r28))
        ·
          refine gw_ne (fun h51_29 => ?_) (fun h51_29 => ?_)
          ·
            refine gw_le (fun h64_30 => ?_) (fun h64_30 => ?_)
            ·
              refine gw_gRa 66 ((hh23.of1 kk24).1.c (r := 65) rfl) ((hh23.of1 kk24).1.r (by decide)) ?_
              have n31 := gx_addw (6 : Int32) a2
              have n31a := gx_lo (6 : Int32)
              have n31b := gx_hi (6 : Int32)
              have n31c := gx_lo ((6 : Int32) + a2)
              have n31d := gx_hi ((6 : Int32) + a2)
              have n32 := gx_subw ((6 : Int32) + a2) (20 : Int32)
              have n32a := gx_lo ((6 : Int32) + a2)
              have n32b := gx_hi ((6 : Int32) + a2)
              have n32c := gx_lo (((6 : Int32) + a2) - (20 : Int32))
              have n32d := gx_hi (((6 : Int32) + a2) - (20 : Int32))
              refine gw_aI (i := (((6 : Int32) + a2) - (20 : Int32))) ((hh23.of1 kk24).1.t (r := 66) rfl) ((hh23.of1 kk24).1.l (r := 66) rfl) (by omega) (by omega) (fun v33 ev33 => ?_)
              exact hj26 _ kk24
            ·
              refine gw_if ((hh23.of1 kk24).1.t (r := 65) rfl) ?_
              have n34 := gx_subw a2 (10 : Int32)
              have n34a := gx_lo a2
              have n34b := gx_hi a2
              have n34c := gx_lo (a2 - (10 : Int32))
              have n34d := gx_hi (a2 - (10 : Int32))
              refine gw_bI (s_X12_holdsOf (hh23.of1 kk24)  (by omega)) (fun x35 m35 g35 => ?_)
              have kk35 := kk24.trans g35.w01
              exact hj26 _ kk35
          ·
            refine gw_if ((hh23.of1 kk24).1.t (r := 65) rfl) ?_
            refine gw_bI (s_X12_allHold (hh23.of1 kk24)  ) (fun x36 m36 g36 => ?_)
            have kk36 := kk24.trans g36.w01
            exact hj26 _ kk36
      ·
        exact gw_some (gq_I (qm.of0 k0))
    ·
      refine gw_if ((h.of0 k0).1.t (r := 65) rfl) ?_
      have n37 := gx_subw a2 (20 : Int32)
      have n37a := gx_lo a2
      have n37b := gx_hi a2
      have n37c := gx_lo (a2 - (20 : Int32))
      have n37d := gx_hi (a2 - (20 : Int32))
      refine gw_bI (s_X12_isChild (h.of0 k0)  ) (fun x38 m38 ⟨z38, f38⟩ => ?_)
      replace z38 := z38.symm
      subst z38
      refine gw_ne (fun h23_39 => ?_) (fun h23_39 => ?_)
      ·
        refine gw_bI (s_X12_in  ) (fun x40 m40 ⟨z40, f40⟩ => ?_)
        replace z40 := z40.symm
        subst z40
        refine gw_ne (fun h35_41 => ?_) (fun h35_41 => ?_)
        ·
          refine gw_if ((h.of0 k0).1.t (r := 65) rfl) ?_
          refine gw_bV (s_X12_keeps (h.of0 k0)  ) (fun m42 g42 => ?_)
          have hh42 := g42.mi (h.of0 k0)
          have kq42 := km.refl A1 m42
          have rr42 := g42.rs
          refine gw_if ((hh42.of1 kq42).1.t (r := 65) rfl) ?_
          refine gw_bV (s_X12_goesOn (hh42.of1 kq42)  (by omega)) (fun m43 ⟨g43, f43⟩ => ?_)
          have kk43 := kq42.trans g43.w11
          refine gw_j (fun s44 => km A1 m42 s44.2) (fun s44 k46 => ?_) (fun j45 hj45 => ?_)
          ·
            refine gw_if ((hh42.of1 k46).1.t (r := 65) rfl) ?_
            refine gw_bV (s_X12_goesBack (hh42.of1 k46)  ) (fun m47 ⟨g47, r47⟩ => ?_)
            have kk47 := k46.trans g47.w11
            exact gw_some (gq_I (qm.kp g42 kk47 r47))
          ·
            refine gw_ne (fun h51_48 => ?_) (fun h51_48 => ?_)
            ·
              refine gw_le (fun h64_49 => ?_) (fun h64_49 => ?_)
              ·
                refine gw_gRa 66 ((hh42.of1 kk43).1.c (r := 65) rfl) ((hh42.of1 kk43).1.r (by decide)) ?_
                have n50 := gx_addw (6 : Int32) a2
                have n50a := gx_lo (6 : Int32)
                have n50b := gx_hi (6 : Int32)
                have n50c := gx_lo ((6 : Int32) + a2)
                have n50d := gx_hi ((6 : Int32) + a2)
                have n51 := gx_subw ((6 : Int32) + a2) (20 : Int32)
                have n51a := gx_lo ((6 : Int32) + a2)
                have n51b := gx_hi ((6 : Int32) + a2)
                have n51c := gx_lo (((6 : Int32) + a2) - (20 : Int32))
                have n51d := gx_hi (((6 : Int32) + a2) - (20 : Int32))
                refine gw_aI (i := (((6 : Int32) + a2) - (20 : Int32))) ((hh42.of1 kk43).1.t (r := 66) rfl) ((hh42.of1 kk43).1.l (r := 66) rfl) (by omega) (by omega) (fun v52 ev52 => ?_)
                exact hj45 _ kk43
              ·
                refine gw_if ((hh42.of1 kk43).1.t (r := 65) rfl) ?_
                have n53 := gx_subw a2 (10 : Int32)
                have n53a := gx_lo a2
                have n53b := gx_hi a2
                have n53c := gx_lo (a2 - (10 : Int32))
                have n53d := gx_hi (a2 - (10 : Int32))
                refine gw_bI (s_X12_holdsOf (hh42.of1 kk43)  (by omega)) (fun x54 m54 g54 => ?_)
                have kk54 := kk43.trans g54.w01
                exact hj45 _ kk54
            ·
              refine gw_if ((hh42.of1 kk43).1.t (r := 65) rfl) ?_
              refine gw_bI (s_X12_allHold (hh42.of1 kk43)  ) (fun x55 m55 g55 => ?_)
              have kk55 := kk43.trans g55.w01
              exact hj45 _ kk55
        ·
          exact gw_some (gq_I (qm.of0 k0))
      ·
        exact gw_some (gq_I (qm.of0 k0))
set_option maxHeartbeats 1000000 in
theorem s_X12_when {μ : gm_M} (h : MI μ) {a1 : Int32} {a2 : Int32}  : gwI (f_X12_when 65 a1 a2 μ) (fun x m => qm μ m) := by
  refine gwI_of ?_
  unfold f_X12_when
  have lm1 : (-1 : Int32).toInt = -1 := rfl
  have l0 : (0 : Int32).toInt = 0 := rfl
  have l1 : (1 : Int32).toInt = 1 := rfl
  have k0 := km.refl A0 μ
  refine gw_if ((h.of0 k0).1.t (r := 65) rfl) ?_
  refine gw_bI (s_X12_isChild (h.of0 k0)  ) (fun x1 m1 ⟨z1, f1⟩ => ?_)
  replace z1 := z1.symm
  subst z1
  refine gw_eq (fun h5_2 => ?_) (fun h5_2 => ?_)
  ·
    exact gw_some (gq_I (qm.of0 k0))
  ·
    refine gw_bI (s_X12_in  ) (fun x3 m3 ⟨z3, f3⟩ => ?_)
    replace z3 := z3.symm
    subst z3
    refine gw_ne (fun h14_4 => ?_) (fun h14_4 => ?_)
    ·
      refine gw_if ((h.of0 k0).1.t (r := 65) rfl) ?_
      refine gw_bV (s_X12_keeps (h.of0 k0)  ) (fun m5 g5 => ?_)
      have hh5 := g5.mi (h.of0 k0)
      have kq5 := km.refl A1 m5
      have rr5 := g5.rs
      refine gw_if ((hh5.of1 kq5).1.t (r := 65) rfl) ?_
      refine gw_bV (s_X12_looksForWhen (hh5.of1 kq5)  (by omega)) (fun m6 ⟨g6, r6⟩ => ?_)
      have kk6 := kq5.trans g6.w11
      refine gw_ne (fun h29_7 => ?_) (fun h29_7 => ?_)
      ·
        refine gw_gI ((hh5.of1 kk6).1.c (r := 65) rfl) (fun v8 ev8 => ?_)
        exact gw_some (gq_I (qm.kp g5 kk6 r6))
      ·
        refine gw_gI ((hh5.of1 kk6).1.c (r := 65) rfl) (fun v9 ev9 => ?_)
        exact gw_some (gq_I (qm.kp g5 kk6 r6))
    ·
      exact gw_some (gq_I (qm.of0 k0))
set_option maxHeartbeats 1000000 in
theorem s_X12_soon {μ : gm_M} (h : MI μ) {a1 : Int32} {a2 : Int32}  : gwI (f_X12_soon 65 a1 a2 μ) (fun x m => qm μ m) := by
  refine gwI_of ?_
  unfold f_X12_soon
  have lm5 : (-5 : Int32).toInt = -5 := rfl
  have lm2 : (-2 : Int32).toInt = -2 := rfl
  have lm1 : (-1 : Int32).toInt = -1 := rfl
  have l0 : (0 : Int32).toInt = 0 := rfl
  have l1 : (1 : Int32).toInt = 1 := rfl
  have l60 : (60 : Int32).toInt = 60 := rfl
  have l999 : (999 : Int32).toInt = 999 := rfl
  have k0 := km.refl A0 μ
  refine gw_if ((h.of0 k0).1.t (r := 65) rfl) ?_
  refine gw_bI (s_X12_isChild (h.of0 k0)  ) (fun x1 m1 ⟨z1, f1⟩ => ?_)
  replace z1 := z1.symm
  subst z1
  refine gw_ne (fun h5_2 => ?_) (fun h5_2 => ?_)
  ·
    refine gw_bI (s_X12_in  ) (fun x3 m3 ⟨z3, f3⟩ => ?_)
    replace z3 := z3.symm
    subst z3
    refine gw_ne (fun h18_4 => ?_) (fun h18_4 => ?_)
    ·
      refine gw_if ((h.of0 k0).1.t (r := 65) rfl) ?_
      refine gw_bV (s_X12_keeps (h.of0 k0)  ) (fun m5 g5 => ?_)
      have hh5 := g5.mi (h.of0 k0)
      have kq5 := km.refl A1 m5
      have rr5 := g5.rs
      refine gw_loop (fun s6 => km A1 m5 s6.2.2 ∧ (0 ≤ s6.2.1.toInt ∧ s6.2.1.toInt ≤ 61)) (fun s6 => (61 - s6.2.1.toInt)) (fun s6 ⟨k7, u8⟩ => ?_) 5000 ((-5 : Int32), (0 : Int32), m5) ⟨kq5, (by show 0 ≤ (0 : Int32).toInt ∧ (0 : Int32).toInt ≤ 61; omega)⟩ (by show (61 - (0 : Int32).toInt) < ((5000 : Nat) : Int); omega) (by show 0 ≤ (61 - (0 : Int32).toInt); omega)
      refine gw_j (fun s9 => True) (fun s9 _ => ?_) (fun j10 hj10 => ?_)
      ·
        refine gw_if ((hh5.of1 k7).1.t (r := 65) rfl) ?_
        refine gw_bV (s_X12_goesBack (hh5.of1 k7)  ) (fun m11 ⟨g11, r11⟩ => ?_)
        have kk11 := k7.trans g11.w11
        exact gw_some (gs_inr (gq_I (qm.kp g5 kk11 r11)))
      ·
        refine gw_lt (fun h38_12 => ?_) (fun h38_12 => ?_)
        ·
          exact hj10 _ trivial
        ·
          refine gw_ne (fun h44_13 => ?_) (fun h44_13 => ?_)
          ·
            exact hj10 _ trivial
          ·
            refine gw_if ((hh5.of1 k7).1.t (r := 65) rfl) ?_
            refine gw_bI (s_X12_holdsOf (hh5.of1 k7)  (by omega)) (fun x14 m14 g14 => ?_)
            have kk14 := k7.trans g14.w01
            refine gw_j (fun s15 => True) (fun s15 _ => ?_) (fun j16 hj16 => ?_)
            ·
              refine gw_if ((hh5.of1 kk14).1.t (r := 65) rfl) ?_
              refine gw_bV (s_X12_goesAlone (hh5.of1 kk14)  (by omega)) (fun m17 g17 => ?_)
              have kk17 := kk14.trans g17.w11
              have n18 : (s6.2.1 + (1 : Int32)).toInt = s6.2.1.toInt + (1 : Int32).toInt := gx_add (by omega) (by omega)
              exact gw_some (gs_inl ⟨kk17, (by show 0 ≤ (s6.2.1 + (1 : Int32)).toInt ∧ (s6.2.1 + (1 : Int32)).toInt ≤ 61; omega)⟩ (by show (61 - (s6.2.1 + (1 : Int32)).toInt) < (61 - s6.2.1.toInt); omega) (by show 0 ≤ (61 - (s6.2.1 + (1 : Int32)).toInt); omega))
            ·
              refine gw_lt (fun h53_19 => ?_) (fun h53_19 => ?_)
              ·
                exact hj16 _ trivial
              ·
                exact hj16 _ trivial
    ·
      exact gw_some (gq_I (qm.of0 k0))
  ·
    exact gw_some (gq_I (qm.of0 k0))
set_option maxHeartbeats 1000000 in
theorem s_X12_pieces {μ : gm_M} (h : MI μ) {a1 : Int32} {a2 : Int32}  : gwI (f_X12_pieces 65 a1 a2 μ) (fun x m => qm μ m) := by
  refine gwI_of ?_
  unfold f_X12_pieces
  have lm1 : (-1 : Int32).toInt = -1 := rfl
  have l0 : (0 : Int32).toInt = 0 := rfl
  have l1 : (1 : Int32).toInt = 1 := rfl
  have l6 : (6 : Int32).toInt = 6 := rfl
  have l16 : (16 : Int32).toInt = 16 := rfl
  have k0 := km.refl A0 μ
  refine gw_if ((h.of0 k0).1.t (r := 65) rfl) ?_
  refine gw_bI (s_X12_isChild (h.of0 k0)  ) (fun x1 m1 ⟨z1, f1⟩ => ?_)
  replace z1 := z1.symm
  subst z1
  refine gw_eq (fun h5_2 => ?_) (fun h5_2 => ?_)
  ·
    exact gw_some (gq_I (qm.of0 k0))
  ·
    refine gw_bI (s_X12_in  ) (fun x3 m3 ⟨z3, f3⟩ => ?_)
    replace z3 := z3.symm
    subst z3
    refine gw_ne (fun h14_4 => ?_) (fun h14_4 => ?_)
    ·
      refine gw_if ((h.of0 k0).1.t (r := 65) rfl) ?_
      refine gw_bV (s_X12_keeps (h.of0 k0)  ) (fun m5 g5 => ?_)
      have hh5 := g5.mi (h.of0 k0)
      have kq5 := km.refl A1 m5
      have rr5 := g5.rs
      refine gw_loop (fun s6 => km A1 m5 s6.2.2.2 ∧ rs s6.2.2.2 ∧ (0 ≤ s6.2.2.1.toInt ∧ s6.2.2.1.toInt ≤ 7)) (fun s6 => (7 - s6.2.2.1.toInt)) (fun s6 ⟨k7, r7, u8⟩ => ?_) 5000 ((0 : Int32), (-1 : Int32), (0 : Int32), m5) ⟨kq5, rr5, (by show 0 ≤ (0 : Int32).toInt ∧ (0 : Int32).toInt ≤ 7; omega)⟩ (by show (7 - (0 : Int32).toInt) < ((5000 : Nat) : Int); omega) (by show 0 ≤ (7 - (0 : Int32).toInt); omega)
      refine gw_lt (fun h35_9 => ?_) (fun h35_9 => ?_)
      ·
        refine gw_ne (fun h122_10 => ?_) (fun h122_10 => ?_)
        ·
          exact gw_some (gs_inr (gq_I (qm.kp g5 k7 r7)))
        ·
          exact gw_some (gs_inr (gq_I (qm.kp g5 k7 r7)))
      ·
        refine gw_gRa 66 ((hh5.of1 k7).1.c (r := 65) rfl) ((hh5.of1 k7).1.r (by decide)) ?_
        have n11 : ((1 : Int32) + a1).toInt = (1 : Int32).toInt + a1.toInt := gx_add (by omega) (by omega)
        refine gw_sI (i := ((1 : Int32) + a1)) ((hh5.of1 k7).1.t (r := 66) rfl) ((hh5.of1 k7).1.l (r := 66) rfl) (by omega) (by omega) (fun m12 em12 => ?_)
        have km12 := k7.ws em12 (by unfold A1; omega)
        refine gw_gRa 66 ((hh5.of1 km12).1.c (r := 65) rfl) ((hh5.of1 km12).1.r (by decide)) ?_
        refine gw_if ((hh5.of1 km12).1.t (r := 65) rfl) ?_
        refine gw_bI (s_X12_sweetNow (hh5.of1 km12)  ) (fun x13 m13 z13 => ?_)
        replace z13 := z13.symm
        subst z13
        have n14 : ((6 : Int32) + a1).toInt = (6 : Int32).toInt + a1.toInt := gx_add (by omega) (by omega)
        refine gw_sI (i := ((6 : Int32) + a1)) ((hh5.of1 km12).1.t (r := 66) rfl) ((hh5.of1 km12).1.l (r := 66) rfl) (by omega) (by omega) (fun m15 em15 => ?_)
        have km15 := km12.ws em15 (by unfold A1; omega)
        refine gw_gRa 66 ((hh5.of1 km15).1.c (r := 65) rfl) ((hh5.of1 km15).1.r (by decide)) ?_
        have n16 : ((16 : Int32) + a1).toInt = (16 : Int32).toInt + a1.toInt := gx_add (by omega) (by omega)
        refine gw_sI (i := ((16 : Int32) + a1)) ((hh5.of1 km15).1.t (r := 66) rfl) ((hh5.of1 km15).1.l (r := 66) rfl) (by omega) (by omega) (fun m17 em17 => ?_)
        have km17 := km15.ws em17 (by unfold A1; omega)
        refine gw_if ((hh5.of1 km17).1.t (r := 65) rfl) ?_
        refine gw_bV (s_X12_looksForWhen (hh5.of1 km17)  (by omega)) (fun m18 ⟨g18, r18⟩ => ?_)
        have kk18 := km17.trans g18.w11
        refine gw_gI ((hh5.of1 kk18).1.c (r := 65) rfl) (fun v19 ev19 => ?_)
        refine gw_j (fun s20 => True) (fun s20 _ => ?_) (fun j21 hj21 => ?_)
        ·
          refine gw_gI ((hh5.of1 kk18).1.c (r := 65) rfl) (fun v22 ev22 => ?_)
          refine gw_j (fun s23 => True) (fun s23 _ => ?_) (fun j24 hj24 => ?_)
          ·
            have n25 : (s6.2.2.1 + (1 : Int32)).toInt = s6.2.2.1.toInt + (1 : Int32).toInt := gx_add (by omega) (by omega)
            exact gw_some (gs_inl ⟨kk18, r18, (by show 0 ≤ (s6.2.2.1 + (1 : Int32)).toInt ∧ (s6.2.2.1 + (1 : Int32)).toInt ≤ 7; omega)⟩ (by show (7 - (s6.2.2.1 + (1 : Int32)).toInt) < (7 - s6.2.2.1.toInt); omega) (by show 0 ≤ (7 - (s6.2.2.1 + (1 : Int32)).toInt); omega))
          ·
            refine gw_le (fun h101_26 => ?_) (fun h101_26 => ?_)
            ·
              exact hj24 _ trivial
            ·
              refine gw_gI ((hh5.of1 kk18).1.c (r := 65) rfl) (fun v27 ev27 => ?_)
              exact hj24 _ trivial
        ·
          refine gw_le (fun h85_28 => ?_) (fun h85_28 => ?_)
          ·
            exact hj21 _ trivial
          ·
            exact hj21 _ trivial
    ·
      exact gw_some (gq_I (qm.of0 k0))
set_option maxHeartbeats 1000000 in
theorem s_X12_breaths {μ : gm_M} (h : MI μ) {a1 : Int32} {a2 : Int32}  : gwI (f_X12_breaths 65 a1 a2 μ) (fun x m => qm μ m) := by
  refine gwI_of ?_
  unfold f_X12_breaths
  have lm2 : (-2 : Int32).toInt = -2 := rfl
  have lm1 : (-1 : Int32).toInt = -1 := rfl
  have l0 : (0 : Int32).toInt = 0 := rfl
  have l1 : (1 : Int32).toInt = 1 := rfl
  have l99 : (99 : Int32).toInt = 99 := rfl
  have k0 := km.refl A0 μ
  refine gw_if ((h.of0 k0).1.t (r := 65) rfl) ?_
  refine gw_bI (s_X12_isChild (h.of0 k0)  ) (fun x1 m1 ⟨z1, f1⟩ => ?_)
  replace z1 := z1.symm
  subst z1
  refine gw_ne (fun h5_2 => ?_) (fun h5_2 => ?_)
  ·
    refine gw_bI (s_X12_in  ) (fun x3 m3 ⟨z3, f3⟩ => ?_)
    replace z3 := z3.symm
    subst z3
    refine gw_eq (fun h17_4 => ?_) (fun h17_4 => ?_)
    ·
      exact gw_some (gq_I (qm.of0 k0))
    ·
      refine gw_if ((h.of0 k0).1.t (r := 65) rfl) ?_
      refine gw_bI (s_X12_slackOf (h.of0 k0)  (by omega)) (fun x5 m5 g5 => ?_)
      have kk5 := k0.trans g5.w00
      refine gw_bI (s_X12_above  ) (fun x6 m6 z6 => ?_)
      replace z6 := z6.symm
      subst z6
      refine gw_dv (by omega) ?_
      exact gw_some (gq_I (qm.of0 kk5))
  ·
    exact gw_some (gq_I (qm.of0 k0))
set_option maxHeartbeats 1000000 in
theorem s_X12_slack {μ : gm_M} (h : MI μ) {a1 : Int32}  : gwI (f_X12_slack 65 a1 μ) (fun x m => qm μ m) := by
  refine gwI_of ?_
  unfold f_X12_slack
  have lm10001 : (-10001 : Int32).toInt = -10001 := rfl
  have l0 : (0 : Int32).toInt = 0 := rfl
  have k0 := km.refl A0 μ
  refine gw_if ((h.of0 k0).1.t (r := 65) rfl) ?_
  refine gw_bI (s_X12_isChild (h.of0 k0)  ) (fun x1 m1 ⟨z1, f1⟩ => ?_)
  replace z1 := z1.symm
  subst z1
  refine gw_eq (fun h5_2 => ?_) (fun h5_2 => ?_)
  ·
    exact gw_some (gq_I (qm.of0 k0))
  ·
    refine gw_if ((h.of0 k0).1.t (r := 65) rfl) ?_
    refine gw_bI (s_X12_slackOf (h.of0 k0)  (by omega)) (fun x3 m3 g3 => ?_)
    have kk3 := k0.trans g3.w00
    exact gw_some (gq_I (qm.of0 kk3))
set_option maxHeartbeats 1000000 in
theorem s_X12_likely {μ : gm_M} (h : MI μ) {a1 : Int32} {a2 : Int32} {a3 : Int32}  : gwL (f_X12_likely 65 a1 a2 a3 μ) (fun x m => qm μ m) := by
  refine gwL_of ?_
  unfold f_X12_likely
  have l0 : (0 : Int32).toInt = 0 := rfl
  have l1 : (1 : Int32).toInt = 1 := rfl
  have l999 : (999 : Int32).toInt = 999 := rfl
  have k0 := km.refl A0 μ
  refine gw_if ((h.of0 k0).1.t (r := 65) rfl) ?_
  refine gw_bI (s_X12_isChild (h.of0 k0)  ) (fun x1 m1 ⟨z1, f1⟩ => ?_)
  replace z1 := z1.symm
  subst z1
  refine gw_j (fun s2 => km A0 μ s2) (fun s2 k4 => ?_) (fun j3 hj3 => ?_)
  ·
    exact gw_some (gq_L (qm.of0 k4))
  ·
    refine gw_eq (fun h5_5 => ?_) (fun h5_5 => ?_)
    ·
      exact hj3 _ k0
    ·
      refine gw_bI (s_X12_in  ) (fun x6 m6 ⟨z6, f6⟩ => ?_)
      replace z6 := z6.symm
      subst z6
      refine gw_eq (fun h16_7 => ?_) (fun h16_7 => ?_)
      ·
        exact hj3 _ k0
      ·
        refine gw_bI (s_X12_in  ) (fun x8 m8 ⟨z8, f8⟩ => ?_)
        replace z8 := z8.symm
        subst z8
        refine gw_ne (fun h25_9 => ?_) (fun h25_9 => ?_)
        ·
          refine gw_if ((h.of0 k0).1.t (r := 65) rfl) ?_
          refine gw_bI (s_X12_holdsOf (h.of0 k0)  (by omega)) (fun x10 m10 g10 => ?_)
          have kk10 := k0.trans g10.w00
          refine gw_bI (s_X12_likelyOf  ) (fun x11 m11 z11 => ?_)
          replace z11 := z11.symm
          subst z11
          refine gw_bL (s_X12_lowest  (by (first | decide | (rw [Int32.toInt_toInt64]; omega)))) (fun x12 m12 z12 => ?_)
          replace z12 := z12.symm
          subst z12
          exact gw_some (gq_L (qm.of0 kk10))
        ·
          exact hj3 _ k0
set_option maxHeartbeats 1000000 in
theorem s_X12_dare {μ : gm_M} (h : MI μ) {a1 : Int32}  : gwI (f_X12_dare 65 a1 μ) (fun x m => qm μ m) := by
  refine gwI_of ?_
  unfold f_X12_dare
  have lm1 : (-1 : Int32).toInt = -1 := rfl
  have l0 : (0 : Int32).toInt = 0 := rfl
  have l1 : (1 : Int32).toInt = 1 := rfl
  have l1000 : (1000 : Int32).toInt = 1000 := rfl
  have k0 := km.refl A0 μ
  refine gw_if ((h.of0 k0).1.t (r := 65) rfl) ?_
  refine gw_bI (s_X12_isChild (h.of0 k0)  ) (fun x1 m1 ⟨z1, f1⟩ => ?_)
  replace z1 := z1.symm
  subst z1
  refine gw_ne (fun h5_2 => ?_) (fun h5_2 => ?_)
  ·
    refine gw_if ((h.of0 k0).1.t (r := 65) rfl) ?_
    refine gw_bI (s_X12_holdsOf (h.of0 k0)  (by omega)) (fun x3 m3 g3 => ?_)
    have kk3 := k0.trans g3.w00
    refine gw_loop (fun s4 => km A0 μ s4.2.2.2 ∧ (0 ≤ s4.2.2.1.toInt ∧ s4.2.2.1.toInt ≤ 1000)) (fun s4 => (1000 - s4.2.2.1.toInt)) (fun s4 ⟨k5, u6⟩ => ?_) 5000 ((0 : Int32), (-1 : Int32), (0 : Int32), m3) ⟨kk3, (by show 0 ≤ (0 : Int32).toInt ∧ (0 : Int32).toInt ≤ 1000; omega)⟩ (by show (1000 - (0 : Int32).toInt) < ((5000 : Nat) : Int); omega) (by show 0 ≤ (1000 - (0 : Int32).toInt); omega)
    refine gw_le (fun h29_7 => ?_) (fun h29_7 => ?_)
    ·
      exact gw_some (gs_inr (gq_I (qm.of0 k5)))
    ·
      refine gw_bI (s_X12_likelyOf  ) (fun x8 m8 z8 => ?_)
      replace z8 := z8.symm
      subst z8
      refine gw_j (fun s9 => True) (fun s9 _ => ?_) (fun j10 hj10 => ?_)
      ·
        refine gw_j (fun s11 => True) (fun s11 _ => ?_) (fun j12 hj12 => ?_)
        ·
          have n13 : (s4.2.2.1 + (1 : Int32)).toInt = s4.2.2.1.toInt + (1 : Int32).toInt := gx_add (by omega) (by omega)
          exact gw_some (gs_inl ⟨k5, (by show 0 ≤ (s4.2.2.1 + (1 : Int32)).toInt ∧ (s4.2.2.1 + (1 : Int32)).toInt ≤ 1000; omega)⟩ (by show (1000 - (s4.2.2.1 + (1 : Int32)).toInt) < (1000 - s4.2.2.1.toInt); omega) (by show 0 ≤ (1000 - (s4.2.2.1 + (1 : Int32)).toInt); omega))
        ·
          refine gw_le (fun h61_14 => ?_) (fun h61_14 => ?_)
          ·
            exact hj12 _ trivial
          ·
            exact hj12 _ trivial
      ·
        refine gw_le (fun h47_15 => ?_) (fun h47_15 => ?_)
        ·
          exact hj10 _ trivial
        ·
          exact hj10 _ trivial
  ·
    exact gw_some (gq_I (qm.of0 k0))
set_option maxHeartbeats 1000000 in
theorem s_X12_first {μ : gm_M} (h : MI μ)   : gwI (f_X12_first 65 μ) (fun x m => qm μ m) := by
  refine gwI_of ?_
  unfold f_X12_first
  have lm5 : (-5 : Int32).toInt = -5 := rfl
  have lm1 : (-1 : Int32).toInt = -1 := rfl
  have l0 : (0 : Int32).toInt = 0 := rfl
  have l1 : (1 : Int32).toInt = 1 := rfl
  have l26 : (26 : Int32).toInt = 26 := rfl
  have k0 := km.refl A0 μ
  refine gw_loop (fun s1 => km A0 μ s1.2.2.2 ∧ (0 ≤ s1.2.2.1.toInt ∧ s1.2.2.1.toInt ≤ 5)) (fun s1 => (5 - s1.2.2.1.toInt)) (fun s1 ⟨k2, u3⟩ => ?_) 5000 ((-5 : Int32), (-1 : Int32), (0 : Int32), μ) ⟨k0, (by show 0 ≤ (0 : Int32).toInt ∧ (0 : Int32).toInt ≤ 5; omega)⟩ (by show (5 - (0 : Int32).toInt) < ((5000 : Nat) : Int); omega) (by show 0 ≤ (5 - (0 : Int32).toInt); omega)
  refine gw_gRa 66 ((h.of0 k2).1.c (r := 65) rfl) ((h.of0 k2).1.r (by decide)) ?_
  refine gw_aI (i := (26 : Int32)) ((h.of0 k2).1.t (r := 66) rfl) ((h.of0 k2).1.l (r := 66) rfl) (by omega) (by omega) (fun v4 ev4 => ?_)
  have bv4 := (h.of0 k2).n26
  have cv4 : v4 = s1.2.2.2.2.1 66 26 := ev4
  have dv4 : v4.toInt = (s1.2.2.2.2.1 66 26).toInt := by rw [cv4]
  have yv4 : v4.toInt = (μ.2.1 66 26).toInt := by rw [dv4, k2.2.2.2.1 26 (by first | exact fun q => q | (unfold A0; omega))]
  refine gw_le (fun h15_5 => ?_) (fun h15_5 => ?_)
  ·
    exact gw_some (gs_inr (gq_I (qm.of0 k2)))
  ·
    refine gw_if ((h.of0 k2).1.t (r := 65) rfl) ?_
    refine gw_bI (s_X12_holdsOf (h.of0 k2)  (by omega)) (fun x6 m6 g6 => ?_)
    have kk6 := k2.trans g6.w00
    refine gw_j (fun s7 => True) (fun s7 _ => ?_) (fun j8 hj8 => ?_)
    ·
      refine gw_j (fun s9 => True) (fun s9 _ => ?_) (fun j10 hj10 => ?_)
      ·
        have n11 : (s1.2.2.1 + (1 : Int32)).toInt = s1.2.2.1.toInt + (1 : Int32).toInt := gx_add (by omega) (by omega)
        exact gw_some (gs_inl ⟨kk6, (by show 0 ≤ (s1.2.2.1 + (1 : Int32)).toInt ∧ (s1.2.2.1 + (1 : Int32)).toInt ≤ 5; omega)⟩ (by show (5 - (s1.2.2.1 + (1 : Int32)).toInt) < (5 - s1.2.2.1.toInt); omega) (by show 0 ≤ (5 - (s1.2.2.1 + (1 : Int32)).toInt); omega))
      ·
        refine gw_le (fun h40_12 => ?_) (fun h40_12 => ?_)
        ·
          exact hj10 _ trivial
        ·
          exact hj10 _ trivial
    ·
      refine gw_le (fun h28_13 => ?_) (fun h28_13 => ?_)
      ·
        exact hj8 _ trivial
      ·
        exact hj8 _ trivial
set_option maxHeartbeats 1000000 in
theorem s_X12_beats {μ : gm_M} (h : MI μ) {a1 : Int32} {a2 : Int32} {a3 : Int32}  : gwL (f_X12_beats 65 a1 a2 a3 μ) (fun x m => qm μ m) := by
  refine gwL_of ?_
  unfold f_X12_beats
  have l0 : (0 : Int32).toInt = 0 := rfl
  have l1 : (1 : Int32).toInt = 1 := rfl
  have l10 : (10 : Int32).toInt = 10 := rfl
  have k0 := km.refl A0 μ
  refine gw_if ((h.of0 k0).1.t (r := 65) rfl) ?_
  refine gw_bI (s_X12_isChild (h.of0 k0)  ) (fun x1 m1 ⟨z1, f1⟩ => ?_)
  replace z1 := z1.symm
  subst z1
  refine gw_j (fun s2 => km A0 μ s2) (fun s2 k4 => ?_) (fun j3 hj3 => ?_)
  ·
    exact gw_some (gq_L (qm.of0 k4))
  ·
    refine gw_eq (fun h5_5 => ?_) (fun h5_5 => ?_)
    ·
      exact hj3 _ k0
    ·
      refine gw_if ((h.of0 k0).1.t (r := 65) rfl) ?_
      refine gw_bI (s_X12_isChild (h.of0 k0)  ) (fun x6 m6 ⟨z6, f6⟩ => ?_)
      replace z6 := z6.symm
      subst z6
      refine gw_eq (fun h13_7 => ?_) (fun h13_7 => ?_)
      ·
        exact hj3 _ k0
      ·
        refine gw_eq (fun h18_8 => ?_) (fun h18_8 => ?_)
        ·
          exact hj3 _ k0
        ·
          refine gw_bI (s_X12_in  ) (fun x9 m9 ⟨z9, f9⟩ => ?_)
          replace z9 := z9.symm
          subst z9
          refine gw_ne (fun h27_10 => ?_) (fun h27_10 => ?_)
          ·
            refine gw_if ((h.of0 k0).1.t (r := 65) rfl) ?_
            refine gw_bI (s_X12_holdsOf (h.of0 k0)  (by omega)) (fun x11 m11 g11 => ?_)
            have kk11 := k0.trans g11.w00
            refine gw_if ((h.of0 kk11).1.t (r := 65) rfl) ?_
            refine gw_bI (s_X12_holdsOf (h.of0 kk11)  (by omega)) (fun x12 m12 g12 => ?_)
            have kk12 := kk11.trans g12.w00
            refine gw_loop (fun s13 => km A0 μ s13.2.2 ∧ (0 ≤ s13.2.1.toInt ∧ s13.2.1.toInt ≤ 10)) (fun s13 => (10 - s13.2.1.toInt)) (fun s13 ⟨k14, u15⟩ => ?_) 5000 ((0 : Int64), (0 : Int32), m12) ⟨kk12, (by show 0 ≤ (0 : Int32).toInt ∧ (0 : Int32).toInt ≤ 10; omega)⟩ (by show (10 - (0 : Int32).toInt) < ((5000 : Nat) : Int); omega) (by show 0 ≤ (10 - (0 : Int32).toInt); omega)
            refine gw_le (fun h58_16 => ?_) (fun h58_16 => ?_)
            ·
              refine gw_bL (s_X12_lowest  (by (first | decide | (rw [Int32.toInt_toInt64]; omega)))) (fun x17 m17 z17 => ?_)
              replace z17 := z17.symm
              subst z17
              exact gw_some (gs_inr (gq_L (qm.of0 k14)))
            ·
              refine gw_loop (fun s18 => km A0 μ s18.2.2 ∧ (0 ≤ s18.2.1.toInt ∧ s18.2.1.toInt ≤ 10)) (fun s18 => (10 - s18.2.1.toInt)) (fun s18 ⟨k19, u20⟩ => ?_) 5000 (s13.1, (0 : Int32), s13.2.2) ⟨k14, (by show 0 ≤ (0 : Int32).toInt ∧ (0 : Int32).toInt ≤ 10; omega)⟩ (by show (10 - (0 : Int32).toInt) < ((5000 : Nat) : Int); omega) (by show 0 ≤ (10 - (0 : Int32).toInt); omega)
              refine gw_le (fun h68_21 => ?_) (fun h68_21 => ?_)
              ·
                have n22 : (s13.2.1 + (1 : Int32)).toInt = s13.2.1.toInt + (1 : Int32).toInt := gx_add (by omega) (by omega)
                exact gw_some (gs_inr (gs_inl ⟨k19, (by show 0 ≤ (s13.2.1 + (1 : Int32)).toInt ∧ (s13.2.1 + (1 : Int32)).toInt ≤ 10; omega)⟩ (by show (10 - (s13.2.1 + (1 : Int32)).toInt) < (10 - s13.2.1.toInt); omega) (by show 0 ≤ (10 - (s13.2.1 + (1 : Int32)).toInt); omega)))
              ·
                refine gw_bI (s_X12_thin  ) (fun x23 m23 z23 => ?_)
                replace z23 := z23.symm
                subst z23
                refine gw_bI (s_X12_thin  ) (fun x24 m24 z24 => ?_)
                replace z24 := z24.symm
                subst z24
                refine gw_j (fun s25 => True) (fun s25 _ => ?_) (fun j26 hj26 => ?_)
                ·
                  have n27 : (s18.2.1 + (1 : Int32)).toInt = s18.2.1.toInt + (1 : Int32).toInt := gx_add (by omega) (by omega)
                  exact gw_some (gs_inl ⟨k19, (by show 0 ≤ (s18.2.1 + (1 : Int32)).toInt ∧ (s18.2.1 + (1 : Int32)).toInt ≤ 10; omega)⟩ (by show (10 - (s18.2.1 + (1 : Int32)).toInt) < (10 - s18.2.1.toInt); omega) (by show 0 ≤ (10 - (s18.2.1 + (1 : Int32)).toInt); omega))
                ·
                  refine gw_le (fun h87_28 => ?_) (fun h87_28 => ?_)
                  ·
                    exact hj26 _ trivial
                  ·
                    exact hj26 _ trivial
          ·
            exact hj3 _ k0
set_option maxHeartbeats 1000000 in
theorem s_X12_clean {μ : gm_M} (h : MI μ) {a1 : Int32} {a2 : Int32}  : gwI (f_X12_clean 65 a1 a2 μ) (fun x m => qm μ m) := by
  refine gwI_of ?_
  unfold f_X12_clean
  have lm2 : (-2 : Int32).toInt = -2 := rfl
  have lm1 : (-1 : Int32).toInt = -1 := rfl
  have l0 : (0 : Int32).toInt = 0 := rfl
  have l1 : (1 : Int32).toInt = 1 := rfl
  have l21 : (21 : Int32).toInt = 21 := rfl
  have l99 : (99 : Int32).toInt = 99 := rfl
  have k0 := km.refl A0 μ
  refine gw_if ((h.of0 k0).1.t (r := 65) rfl) ?_
  refine gw_bI (s_X12_isChild (h.of0 k0)  ) (fun x1 m1 ⟨z1, f1⟩ => ?_)
  replace z1 := z1.symm
  subst z1
  refine gw_ne (fun h5_2 => ?_) (fun h5_2 => ?_)
  ·
    refine gw_bI (s_X12_in  ) (fun x3 m3 ⟨z3, f3⟩ => ?_)
    replace z3 := z3.symm
    subst z3
    refine gw_eq (fun h17_4 => ?_) (fun h17_4 => ?_)
    ·
      exact gw_some (gq_I (qm.of0 k0))
    ·
      refine gw_gRa 66 ((h.of0 k0).1.c (r := 65) rfl) ((h.of0 k0).1.r (by decide)) ?_
      have n5 : ((21 : Int32) + a1).toInt = (21 : Int32).toInt + a1.toInt := gx_add (by omega) (by omega)
      refine gw_aI (i := ((21 : Int32) + a1)) ((h.of0 k0).1.t (r := 66) rfl) ((h.of0 k0).1.l (r := 66) rfl) (by omega) (by omega) (fun v6 ev6 => ?_)
      refine gw_dv (by omega) ?_
      exact gw_some (gq_I (qm.of0 k0))
  ·
    exact gw_some (gq_I (qm.of0 k0))
set_option maxHeartbeats 1000000 in
theorem s_X12_who {μ : gm_M} (h : MI μ) {a1 : Int32} {a2 : Int32}  : gwI (f_X12_who 65 a1 a2 μ) (fun x m => qm μ m) := by
  refine gwI_of ?_
  unfold f_X12_who
  have lm2 : (-2 : Int32).toInt = -2 := rfl
  have l0 : (0 : Int32).toInt = 0 := rfl
  have l1 : (1 : Int32).toInt = 1 := rfl
  have l26 : (26 : Int32).toInt = 26 := rfl
  have l40 : (40 : Int32).toInt = 40 := rfl
  have l999 : (999 : Int32).toInt = 999 := rfl
  have k0 := km.refl A0 μ
  refine gw_bI (s_X12_in  ) (fun x1 m1 ⟨z1, f1⟩ => ?_)
  replace z1 := z1.symm
  subst z1
  refine gw_eq (fun h8_2 => ?_) (fun h8_2 => ?_)
  ·
    exact gw_some (gq_I (qm.of0 k0))
  ·
    refine gw_bI (s_X12_in  ) (fun x3 m3 ⟨z3, f3⟩ => ?_)
    replace z3 := z3.symm
    subst z3
    refine gw_ne (fun h18_4 => ?_) (fun h18_4 => ?_)
    ·
      refine gw_if ((h.of0 k0).1.t (r := 65) rfl) ?_
      refine gw_bV (s_X12_keeps (h.of0 k0)  ) (fun m5 g5 => ?_)
      have hh5 := g5.mi (h.of0 k0)
      have kq5 := km.refl A1 m5
      have rr5 := g5.rs
      refine gw_if ((hh5.of1 kq5).1.t (r := 65) rfl) ?_
      refine gw_bV (s_X12_goesOn (hh5.of1 kq5)  (by omega)) (fun m6 ⟨g6, f6⟩ => ?_)
      have kk6 := kq5.trans g6.w11
      refine gw_loop (fun s7 => km A1 m5 s7.2.2 ∧ (0 ≤ s7.2.1.toInt ∧ s7.2.1.toInt ≤ 5)) (fun s7 => (5 - s7.2.1.toInt)) (fun s7 ⟨k8, u9⟩ => ?_) 5000 ((0 : Int32), (0 : Int32), m6) ⟨kk6, (by show 0 ≤ (0 : Int32).toInt ∧ (0 : Int32).toInt ≤ 5; omega)⟩ (by show (5 - (0 : Int32).toInt) < ((5000 : Nat) : Int); omega) (by show 0 ≤ (5 - (0 : Int32).toInt); omega)
      refine gw_gRa 66 ((hh5.of1 k8).1.c (r := 65) rfl) ((hh5.of1 k8).1.r (by decide)) ?_
      refine gw_aI (i := (26 : Int32)) ((hh5.of1 k8).1.t (r := 66) rfl) ((hh5.of1 k8).1.l (r := 66) rfl) (by omega) (by omega) (fun v10 ev10 => ?_)
      have bv10 := (hh5.of1 k8).n26
      have cv10 : v10 = s7.2.2.2.1 66 26 := ev10
      have dv10 : v10.toInt = (s7.2.2.2.1 66 26).toInt := by rw [cv10]
      have yv10 : v10.toInt = (μ.2.1 66 26).toInt := by rw [dv10, k8.2.2.2.1 26 (by first | exact fun q => q | (unfold A1; omega)), g5.2.2.1 66 (by decide)]
      refine gw_le (fun h47_11 => ?_) (fun h47_11 => ?_)
      ·
        refine gw_if ((hh5.of1 k8).1.t (r := 65) rfl) ?_
        refine gw_bV (s_X12_goesBack (hh5.of1 k8)  ) (fun m12 ⟨g12, r12⟩ => ?_)
        have kk12 := k8.trans g12.w11
        exact gw_some (gs_inr (gq_I (qm.kp g5 kk12 r12)))
      ·
        refine gw_if ((hh5.of1 k8).1.t (r := 65) rfl) ?_
        refine gw_bI (s_X12_holdsOf (hh5.of1 k8)  (by omega)) (fun x13 m13 g13 => ?_)
        have kk13 := k8.trans g13.w01
        refine gw_j (fun s14 => True) (fun s14 _ => ?_) (fun j15 hj15 => ?_)
        ·
          have n16 : (s7.2.1 + (1 : Int32)).toInt = s7.2.1.toInt + (1 : Int32).toInt := gx_add (by omega) (by omega)
          exact gw_some (gs_inl ⟨kk13, (by show 0 ≤ (s7.2.1 + (1 : Int32)).toInt ∧ (s7.2.1 + (1 : Int32)).toInt ≤ 5; omega)⟩ (by show (5 - (s7.2.1 + (1 : Int32)).toInt) < (5 - s7.2.1.toInt); omega) (by show 0 ≤ (5 - (s7.2.1 + (1 : Int32)).toInt); omega))
        ·
          refine gw_ne (fun h58_17 => ?_) (fun h58_17 => ?_)
          ·
            exact hj15 _ trivial
          ·
            exact hj15 _ trivial
    ·
      exact gw_some (gq_I (qm.of0 k0))
set_option maxHeartbeats 1000000 in
theorem s_X12_had {μ : gm_M} (h : MI μ) {a1 : Int32}  : gwI (f_X12_had 65 a1 μ) (fun x m => qm μ m) := by
  refine gwI_of ?_
  unfold f_X12_had
  have lm1 : (-1 : Int32).toInt = -1 := rfl
  have l0 : (0 : Int32).toInt = 0 := rfl
  have l1 : (1 : Int32).toInt = 1 := rfl
  have l6 : (6 : Int32).toInt = 6 := rfl
  have k0 := km.refl A0 μ
  refine gw_if ((h.of0 k0).1.t (r := 65) rfl) ?_
  refine gw_bI (s_X12_isChild (h.of0 k0)  ) (fun x1 m1 ⟨z1, f1⟩ => ?_)
  replace z1 := z1.symm
  subst z1
  refine gw_ne (fun h5_2 => ?_) (fun h5_2 => ?_)
  ·
    refine gw_if ((h.of0 k0).1.t (r := 65) rfl) ?_
    refine gw_bV (s_X12_keeps (h.of0 k0)  ) (fun m3 g3 => ?_)
    have hh3 := g3.mi (h.of0 k0)
    have kq3 := km.refl A1 m3
    have rr3 := g3.rs
    refine gw_loop (fun s4 => km A1 m3 s4.2.2 ∧ rs s4.2.2 ∧ (0 ≤ s4.2.1.toInt ∧ s4.2.1.toInt ≤ 7)) (fun s4 => (7 - s4.2.1.toInt)) (fun s4 ⟨k5, r5, u6⟩ => ?_) 5000 ((0 : Int32), (0 : Int32), m3) ⟨kq3, rr3, (by show 0 ≤ (0 : Int32).toInt ∧ (0 : Int32).toInt ≤ 7; omega)⟩ (by show (7 - (0 : Int32).toInt) < ((5000 : Nat) : Int); omega) (by show 0 ≤ (7 - (0 : Int32).toInt); omega)
    refine gw_lt (fun h21_7 => ?_) (fun h21_7 => ?_)
    ·
      exact gw_some (gs_inr (gq_I (qm.kp g3 k5 r5)))
    ·
      refine gw_gRa 66 ((hh3.of1 k5).1.c (r := 65) rfl) ((hh3.of1 k5).1.r (by decide)) ?_
      have n8 : ((1 : Int32) + a1).toInt = (1 : Int32).toInt + a1.toInt := gx_add (by omega) (by omega)
      refine gw_sI (i := ((1 : Int32) + a1)) ((hh3.of1 k5).1.t (r := 66) rfl) ((hh3.of1 k5).1.l (r := 66) rfl) (by omega) (by omega) (fun m9 em9 => ?_)
      have km9 := k5.ws em9 (by unfold A1; omega)
      refine gw_if ((hh3.of1 km9).1.t (r := 65) rfl) ?_
      refine gw_bI (s_X12_areAsSeen (hh3.of1 km9)  ) (fun x10 m10 ⟨g10, r10, f10⟩ => ?_)
      have kk10 := km9.trans g10.w11
      refine gw_j (fun s11 => True) (fun s11 _ => ?_) (fun j12 hj12 => ?_)
      ·
        have n13 : (s4.2.1 + (1 : Int32)).toInt = s4.2.1.toInt + (1 : Int32).toInt := gx_add (by omega) (by omega)
        exact gw_some (gs_inl ⟨kk10, r10, (by show 0 ≤ (s4.2.1 + (1 : Int32)).toInt ∧ (s4.2.1 + (1 : Int32)).toInt ≤ 7; omega)⟩ (by show (7 - (s4.2.1 + (1 : Int32)).toInt) < (7 - s4.2.1.toInt); omega) (by show 0 ≤ (7 - (s4.2.1 + (1 : Int32)).toInt); omega))
      ·
        refine gw_eq (fun h38_14 => ?_) (fun h38_14 => ?_)
        ·
          exact hj12 _ trivial
        ·
          exact hj12 _ trivial
  ·
    exact gw_some (gq_I (qm.of0 k0))
set_option maxHeartbeats 1000000 in
theorem s_X12_mean {μ : gm_M} (h : MI μ) {a1 : Int32} {a2 : Int32}  : gwL (f_X12_mean 65 a1 a2 μ) (fun x m => qm μ m) := by
  refine gwL_of ?_
  unfold f_X12_mean
  have l0 : (0 : Int32).toInt = 0 := rfl
  have l1 : (1 : Int32).toInt = 1 := rfl
  have l26 : (26 : Int32).toInt = 26 := rfl
  have l60 : (60 : Int32).toInt = 60 := rfl
  have k0 := km.refl A0 μ
  refine gw_bI (s_X12_in  ) (fun x1 m1 ⟨z1, f1⟩ => ?_)
  replace z1 := z1.symm
  subst z1
  refine gw_j (fun s2 => km A0 μ s2) (fun s2 k4 => ?_) (fun j3 hj3 => ?_)
  ·
    exact gw_some (gq_L (qm.of0 k4))
  ·
    refine gw_eq (fun h7_5 => ?_) (fun h7_5 => ?_)
    ·
      exact hj3 _ k0
    ·
      refine gw_bI (s_X12_in  ) (fun x6 m6 ⟨z6, f6⟩ => ?_)
      replace z6 := z6.symm
      subst z6
      refine gw_eq (fun h16_7 => ?_) (fun h16_7 => ?_)
      ·
        exact hj3 _ k0
      ·
        refine gw_gRa 66 ((h.of0 k0).1.c (r := 65) rfl) ((h.of0 k0).1.r (by decide)) ?_
        refine gw_aI (i := (26 : Int32)) ((h.of0 k0).1.t (r := 66) rfl) ((h.of0 k0).1.l (r := 66) rfl) (by omega) (by omega) (fun v8 ev8 => ?_)
        have bv8 := (h.of0 k0).n26
        have cv8 : v8 = μ.2.1 66 26 := ev8
        have dv8 : v8.toInt = (μ.2.1 66 26).toInt := by rw [cv8]
        refine gw_ne (fun h26_9 => ?_) (fun h26_9 => ?_)
        ·
          refine gw_if ((h.of0 k0).1.t (r := 65) rfl) ?_
          refine gw_bV (s_X12_keeps (h.of0 k0)  ) (fun m10 g10 => ?_)
          have hh10 := g10.mi (h.of0 k0)
          have kq10 := km.refl A1 m10
          have rr10 := g10.rs
          refine gw_if ((hh10.of1 kq10).1.t (r := 65) rfl) ?_
          refine gw_bV (s_X12_goesOn (hh10.of1 kq10)  (by omega)) (fun m11 ⟨g11, f11⟩ => ?_)
          have kk11 := kq10.trans g11.w11
          refine gw_if ((hh10.of1 kk11).1.t (r := 65) rfl) ?_
          refine gw_bI (s_X12_allHold (hh10.of1 kk11)  ) (fun x12 m12 g12 => ?_)
          have kk12 := kk11.trans g12.w01
          refine gw_if ((hh10.of1 kk12).1.t (r := 65) rfl) ?_
          refine gw_bV (s_X12_goesBack (hh10.of1 kk12)  ) (fun m13 ⟨g13, r13⟩ => ?_)
          have kk13 := kk12.trans g13.w11
          refine gw_gRa 66 ((hh10.of1 kk13).1.c (r := 65) rfl) ((hh10.of1 kk13).1.r (by decide)) ?_
          refine gw_aI (i := (26 : Int32)) ((hh10.of1 kk13).1.t (r := 66) rfl) ((hh10.of1 kk13).1.l (r := 66) rfl) (by omega) (by omega) (fun v14 ev14 => ?_)
          have bv14 := (hh10.of1 kk13).n26
          have cv14 : v14 = m13.2.1 66 26 := ev14
          have dv14 : v14.toInt = (m13.2.1 66 26).toInt := by rw [cv14]
          have yv14 : v14.toInt = (μ.2.1 66 26).toInt := by rw [dv14, kk13.2.2.2.1 26 (by first | exact fun q => q | (unfold A1; omega)), g10.2.2.1 66 (by decide)]
          refine gw_bL (s_X12_lowest  (by (first | decide | (rw [Int32.toInt_toInt64]; omega)))) (fun x15 m15 z15 => ?_)
          replace z15 := z15.symm
          subst z15
          exact gw_some (gq_L (qm.kp g10 kk13 r13))
        ·
          exact hj3 _ k0
set_option maxHeartbeats 1000000 in
theorem s_X12_done {μ : gm_M} (h : MI μ) {a1 : Int32}  : gwI (f_X12_done 65 a1 μ) (fun x m => qm μ m) := by
  refine gwI_of ?_
  unfold f_X12_done
  have lm1 : (-1 : Int32).toInt = -1 := rfl
  have l0 : (0 : Int32).toInt = 0 := rfl
  have l1 : (1 : Int32).toInt = 1 := rfl
  have l16 : (16 : Int32).toInt = 16 := rfl
  have l21 : (21 : Int32).toInt = 21 := rfl
  have l29 : (29 : Int32).toInt = 29 := rfl
  have l78 : (78 : Int32).toInt = 78 := rfl
  have l86 : (86 : Int32).toInt = 86 := rfl
  have k0 := km.refl A0 μ
  refine gw_bI (s_X12_in  ) (fun x1 m1 ⟨z1, f1⟩ => ?_)
  replace z1 := z1.symm
  subst z1
  refine gw_ne (fun h6_2 => ?_) (fun h6_2 => ?_)
  ·
    refine gw_if ((h.of0 k0).1.t (r := 65) rfl) ?_
    refine gw_bV (s_X12_keeps (h.of0 k0)  ) (fun m3 g3 => ?_)
    have hh3 := g3.mi (h.of0 k0)
    have kq3 := km.refl A1 m3
    have rr3 := g3.rs
    refine gw_if ((hh3.of1 kq3).1.t (r := 65) rfl) ?_
    refine gw_bI (s_X12_allOf (hh3.of1 kq3)  (by omega)) (fun x4 m4 z4 => ?_)
    replace z4 := z4.symm
    subst z4
    refine gw_loop (fun s5 => km A1 m3 s5.2 ∧ (0 ≤ s5.1.toInt ∧ s5.1.toInt ≤ 8)) (fun s5 => (8 - s5.1.toInt)) (fun s5 ⟨k6, u7⟩ => ?_) 5000 ((0 : Int32), m3) ⟨kq3, (by show 0 ≤ (0 : Int32).toInt ∧ (0 : Int32).toInt ≤ 8; omega)⟩ (by show (8 - (0 : Int32).toInt) < ((5000 : Nat) : Int); omega) (by show 0 ≤ (8 - (0 : Int32).toInt); omega)
    refine gw_gRa 66 ((hh3.of1 k6).1.c (r := 65) rfl) ((hh3.of1 k6).1.r (by decide)) ?_
    refine gw_aI (i := (29 : Int32)) ((hh3.of1 k6).1.t (r := 66) rfl) ((hh3.of1 k6).1.l (r := 66) rfl) (by omega) (by omega) (fun v8 ev8 => ?_)
    have bv8 := (hh3.of1 k6).n29
    have cv8 : v8 = s5.2.2.1 66 29 := ev8
    have dv8 : v8.toInt = (s5.2.2.1 66 29).toInt := by rw [cv8]
    have yv8 : v8.toInt = (μ.2.1 66 29).toInt := by rw [dv8, k6.2.2.2.1 29 (by first | exact fun q => q | (unfold A1; omega)), g3.2.2.1 66 (by decide)]
    refine gw_le (fun h32_9 => ?_) (fun h32_9 => ?_)
    ·
      refine gw_j (fun s10 => km A1 m3 s10.2) (fun s10 k12 => ?_) (fun j11 hj11 => ?_)
      ·
        refine gw_if ((hh3.of1 k12).1.t (r := 65) rfl) ?_
        refine gw_bV (s_X12_goesBack (hh3.of1 k12)  ) (fun m13 ⟨g13, r13⟩ => ?_)
        have kk13 := k12.trans g13.w11
        exact gw_some (gs_inr (gq_I (qm.kp g3 kk13 r13)))
      ·
        refine gw_ne (fun h64_14 => ?_) (fun h64_14 => ?_)
        ·
          refine gw_if ((hh3.of1 k6).1.t (r := 65) rfl) ?_
          refine gw_bI (s_X12_allOf (hh3.of1 k6)  (by omega)) (fun x15 m15 z15 => ?_)
          replace z15 := z15.symm
          subst z15
          exact hj11 _ k6
        ·
          refine gw_if ((hh3.of1 k6).1.t (r := 65) rfl) ?_
          refine gw_bI (s_X12_allOf (hh3.of1 k6)  (by omega)) (fun x16 m16 z16 => ?_)
          replace z16 := z16.symm
          subst z16
          exact hj11 _ k6
    ·
      refine gw_gRa 66 ((hh3.of1 k6).1.c (r := 65) rfl) ((hh3.of1 k6).1.r (by decide)) ?_
      have n17 : ((78 : Int32) + s5.1).toInt = (78 : Int32).toInt + s5.1.toInt := gx_add (by omega) (by omega)
      refine gw_aI (i := ((78 : Int32) + s5.1)) ((hh3.of1 k6).1.t (r := 66) rfl) ((hh3.of1 k6).1.l (r := 66) rfl) (by omega) (by omega) (fun v18 ev18 => ?_)
      have zv18 : v18.toInt = (s5.2.2.1 66 (s5.1.toInt + 78).toNat).toInt := by rw [ev18, show ((78 : Int32) + s5.1).toInt.toNat = (s5.1.toInt + 78).toNat by omega]
      have z2v18 := (hh3.of1 k6).what ((78 : Int32) + s5.1).toInt.toNat (by omega) (by omega)
      rw [← ev18] at z2v18
      refine gw_gRa 66 ((hh3.of1 k6).1.c (r := 65) rfl) ((hh3.of1 k6).1.r (by decide)) ?_
      have n19 : ((86 : Int32) + s5.1).toInt = (86 : Int32).toInt + s5.1.toInt := gx_add (by omega) (by omega)
      refine gw_aI (i := ((86 : Int32) + s5.1)) ((hh3.of1 k6).1.t (r := 66) rfl) ((hh3.of1 k6).1.l (r := 66) rfl) (by omega) (by omega) (fun v20 ev20 => ?_)
      have yv20 := (hh3.of1 k6).whom (s5.1.toInt + 78).toNat (by omega) (by omega)
      rw [show (s5.1.toInt + 78).toNat + 8 = ((86 : Int32) + s5.1).toInt.toNat by omega, ← ev20] at yv20
      refine gw_if ((hh3.of1 k6).1.t (r := 65) rfl) ?_
      refine gw_bV (s_X12_does (hh3.of1 k6)  (by omega) (by omega)) (fun m21 g21 => ?_)
      have kk21 := k6.trans g21.w11
      have n22 : (s5.1 + (1 : Int32)).toInt = s5.1.toInt + (1 : Int32).toInt := gx_add (by omega) (by omega)
      exact gw_some (gs_inl ⟨kk21, (by show 0 ≤ (s5.1 + (1 : Int32)).toInt ∧ (s5.1 + (1 : Int32)).toInt ≤ 8; omega)⟩ (by show (8 - (s5.1 + (1 : Int32)).toInt) < (8 - s5.1.toInt); omega) (by show 0 ≤ (8 - (s5.1 + (1 : Int32)).toInt); omega))
  ·
    exact gw_some (gq_I (qm.of0 k0))
set_option maxHeartbeats 1000000 in
theorem s_X12_looked {μ : gm_M} (h : MI μ)   : gwI (f_X12_looked 65 μ) (fun x m => qm μ m) := by
  refine gwI_of ?_
  unfold f_X12_looked
  have lm5 : (-5 : Int32).toInt = -5 := rfl
  have l0 : (0 : Int32).toInt = 0 := rfl
  have l1 : (1 : Int32).toInt = 1 := rfl
  have l16 : (16 : Int32).toInt = 16 := rfl
  have l30 : (30 : Int32).toInt = 30 := rfl
  have l94 : (94 : Int32).toInt = 94 := rfl
  have l102 : (102 : Int32).toInt = 102 := rfl
  have k0 := km.refl A0 μ
  refine gw_loop (fun s1 => (0 ≤ s1.toInt ∧ s1.toInt ≤ 8)) (fun s1 => (8 - s1.toInt)) (fun s1 u2 => ?_) 5000 (0 : Int32) (by show 0 ≤ (0 : Int32).toInt ∧ (0 : Int32).toInt ≤ 8; omega) (by show (8 - (0 : Int32).toInt) < ((5000 : Nat) : Int); omega) (by show 0 ≤ (8 - (0 : Int32).toInt); omega)
  refine gw_gRa 66 ((h.of0 k0).1.c (r := 65) rfl) ((h.of0 k0).1.r (by decide)) ?_
  refine gw_aI (i := (30 : Int32)) ((h.of0 k0).1.t (r := 66) rfl) ((h.of0 k0).1.l (r := 66) rfl) (by omega) (by omega) (fun v3 ev3 => ?_)
  have bv3 := (h.of0 k0).n30
  have cv3 : v3 = μ.2.1 66 30 := ev3
  have dv3 : v3.toInt = (μ.2.1 66 30).toInt := by rw [cv3]
  refine gw_le (fun h10_4 => ?_) (fun h10_4 => ?_)
  ·
    exact gw_some (gs_inr (gq_I (qm.of0 k0)))
  ·
    refine gw_gRa 66 ((h.of0 k0).1.c (r := 65) rfl) ((h.of0 k0).1.r (by decide)) ?_
    refine gw_gRa 66 ((h.of0 k0).1.c (r := 65) rfl) ((h.of0 k0).1.r (by decide)) ?_
    have n5 : ((94 : Int32) + s1).toInt = (94 : Int32).toInt + s1.toInt := gx_add (by omega) (by omega)
    refine gw_aI (i := ((94 : Int32) + s1)) ((h.of0 k0).1.t (r := 66) rfl) ((h.of0 k0).1.l (r := 66) rfl) (by omega) (by omega) (fun v6 ev6 => ?_)
    have yv6 := (h.of0 k0).booked ((94 : Int32) + s1).toInt.toNat (by omega) (by omega)
    rw [← ev6] at yv6
    have n7 : ((16 : Int32) + v6).toInt = (16 : Int32).toInt + v6.toInt := gx_add (by omega) (by omega)
    refine gw_aI (i := ((16 : Int32) + v6)) ((h.of0 k0).1.t (r := 66) rfl) ((h.of0 k0).1.l (r := 66) rfl) (by omega) (by omega) (fun v8 ev8 => ?_)
    refine gw_gRa 66 ((h.of0 k0).1.c (r := 65) rfl) ((h.of0 k0).1.r (by decide)) ?_
    have n9 : ((102 : Int32) + s1).toInt = (102 : Int32).toInt + s1.toInt := gx_add (by omega) (by omega)
    refine gw_aI (i := ((102 : Int32) + s1)) ((h.of0 k0).1.t (r := 66) rfl) ((h.of0 k0).1.l (r := 66) rfl) (by omega) (by omega) (fun v10 ev10 => ?_)
    refine gw_eq (fun h39_11 => ?_) (fun h39_11 => ?_)
    ·
      have n12 : (s1 + (1 : Int32)).toInt = s1.toInt + (1 : Int32).toInt := gx_add (by omega) (by omega)
      exact gw_some (gs_inl (by show 0 ≤ (s1 + (1 : Int32)).toInt ∧ (s1 + (1 : Int32)).toInt ≤ 8; omega) (by show (8 - (s1 + (1 : Int32)).toInt) < (8 - s1.toInt); omega) (by show 0 ≤ (8 - (s1 + (1 : Int32)).toInt); omega))
    ·
      exact gw_some (gs_inr (gq_I (qm.of0 k0)))
set_option maxHeartbeats 1000000 in
theorem s_X12_as {μ : gm_M} (h : MI μ) {a1 : Int32} {a2 : Int32}  : gwI (f_X12_as 65 a1 a2 μ) (fun x m => qm μ m) := by
  refine gwI_of ?_
  unfold f_X12_as
  have lm6 : (-6 : Int32).toInt = -6 := rfl
  have lm1 : (-1 : Int32).toInt = -1 := rfl
  have l0 : (0 : Int32).toInt = 0 := rfl
  have l6 : (6 : Int32).toInt = 6 := rfl
  have l33 : (33 : Int32).toInt = 33 := rfl
  have l38 : (38 : Int32).toInt = 38 := rfl
  have k0 := km.refl A0 μ
  refine gw_if ((h.of0 k0).1.t (r := 65) rfl) ?_
  refine gw_bI (s_X12_isChild (h.of0 k0)  ) (fun x1 m1 ⟨z1, f1⟩ => ?_)
  replace z1 := z1.symm
  subst z1
  refine gw_eq (fun h5_2 => ?_) (fun h5_2 => ?_)
  ·
    exact gw_some (gq_I (qm.of0 k0))
  ·
    refine gw_bI (s_X12_in  ) (fun x3 m3 ⟨z3, f3⟩ => ?_)
    replace z3 := z3.symm
    subst z3
    refine gw_ne (fun h15_4 => ?_) (fun h15_4 => ?_)
    ·
      refine gw_gRa 66 ((h.of0 k0).1.c (r := 65) rfl) ((h.of0 k0).1.r (by decide)) ?_
      have n5 : ((33 : Int32) + a1).toInt = (33 : Int32).toInt + a1.toInt := gx_add (by omega) (by omega)
      refine gw_aI (i := ((33 : Int32) + a1)) ((h.of0 k0).1.t (r := 66) rfl) ((h.of0 k0).1.l (r := 66) rfl) (by omega) (by omega) (fun v6 ev6 => ?_)
      refine gw_bI (s_X12_isUnder  ) (fun x7 m7 ⟨z7, f7⟩ => ?_)
      replace z7 := z7.symm
      subst z7
      refine gw_eq (fun h33_8 => ?_) (fun h33_8 => ?_)
      ·
        exact gw_some (gq_I (qm.of0 k0))
      ·
        refine gw_gRa 66 ((h.of0 k0).1.c (r := 65) rfl) ((h.of0 k0).1.r (by decide)) ?_
        have n9 : ((38 : Int32) + a1).toInt = (38 : Int32).toInt + a1.toInt := gx_add (by omega) (by omega)
        refine gw_aI (i := ((38 : Int32) + a1)) ((h.of0 k0).1.t (r := 66) rfl) ((h.of0 k0).1.l (r := 66) rfl) (by omega) (by omega) (fun v10 ev10 => ?_)
        exact gw_some (gq_I (qm.of0 k0))
    ·
      exact gw_some (gq_I (qm.of0 k0))
set_option maxHeartbeats 1000000 in
theorem s_X12_count {μ : gm_M} (h : MI μ) {a1 : Int32}  : gwI (f_X12_count 65 a1 μ) (fun x m => qm μ m) := by
  refine gwI_of ?_
  unfold f_X12_count
  have lm1 : (-1 : Int32).toInt = -1 := rfl
  have l0 : (0 : Int32).toInt = 0 := rfl
  have l5 : (5 : Int32).toInt = 5 := rfl
  have l6 : (6 : Int32).toInt = 6 := rfl
  have l26 : (26 : Int32).toInt = 26 := rfl
  have k0 := km.refl A0 μ
  refine gw_ne (fun h3_1 => ?_) (fun h3_1 => ?_)
  ·
    refine gw_bI (s_X12_in  ) (fun x2 m2 ⟨z2, f2⟩ => ?_)
    replace z2 := z2.symm
    subst z2
    refine gw_eq (fun h19_3 => ?_) (fun h19_3 => ?_)
    ·
      exact gw_some (gq_I (qm.of0 k0))
    ·
      refine gw_gRa 66 ((h.of0 k0).1.c (r := 65) rfl) ((h.of0 k0).1.r (by decide)) ?_
      have n4 : ((26 : Int32) + a1).toInt = (26 : Int32).toInt + a1.toInt := gx_add (by omega) (by omega)
      refine gw_aI (i := ((26 : Int32) + a1)) ((h.of0 k0).1.t (r := 66) rfl) ((h.of0 k0).1.l (r := 66) rfl) (by omega) (by omega) (fun v5 ev5 => ?_)
      exact gw_some (gq_I (qm.of0 k0))
  ·
    refine gw_gI ((h.of0 k0).1.c (r := 65) rfl) (fun v6 ev6 => ?_)
    exact gw_some (gq_I (qm.of0 k0))
