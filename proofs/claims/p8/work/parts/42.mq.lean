set_option maxHeartbeats 1000000 in
theorem s_X12_looks {μ : gm_M} (h : MI μ) {a1 : Int32} (q0 : 0 ≤ a1.toInt ∧ a1.toInt < 5) : gwI (f_X12_looks 65 a1 μ) (fun x m => km A0 μ m) := by
  refine gwI_of ?_
  unfold f_X12_looks
  have lm200 : (-200 : Int32).toInt = -200 := rfl
  have lm10 : (-10 : Int32).toInt = -10 := rfl
  have lm2 : (-2 : Int32).toInt = -2 := rfl
  have lm1 : (-1 : Int32).toInt = -1 := rfl
  have l0 : (0 : Int32).toInt = 0 := rfl
  have l1 : (1 : Int32).toInt = 1 := rfl
  have l2 : (2 : Int32).toInt = 2 := rfl
  have l3 : (3 : Int32).toInt = 3 := rfl
  have l4 : (4 : Int32).toInt = 4 := rfl
  have l5 : (5 : Int32).toInt = 5 := rfl
  have l6 : (6 : Int32).toInt = 6 := rfl
  have l8 : (8 : Int32).toInt = 8 := rfl
  have l10 : (10 : Int32).toInt = 10 := rfl
  have l32 : (32 : Int32).toInt = 32 := rfl
  have l33 : (33 : Int32).toInt = 33 := rfl
  have l38 : (38 : Int32).toInt = 38 := rfl
  have l140 : (140 : Int32).toInt = 140 := rfl
  have l220 : (220 : Int32).toInt = 220 := rfl
  have l225 : (225 : Int32).toInt = 225 := rfl
  have k0 := km.refl A0 μ
  refine gw_gRa 69 ((h.of0 k0).1.c (r := 65) rfl) ((h.of0 k0).1.r (by decide)) ?_
  refine gw_sI (i := (0 : Int32)) ((h.of0 k0).1.t (r := 69) rfl) ((h.of0 k0).1.l (r := 69) rfl) (by omega) (by omega) (fun m1 em1 => ?_)
  have km1 := k0.wr em1 (by decide)
  refine gw_gRa 69 ((h.of0 km1).1.c (r := 65) rfl) ((h.of0 km1).1.r (by decide)) ?_
  refine gw_gRa 66 ((h.of0 km1).1.c (r := 65) rfl) ((h.of0 km1).1.r (by decide)) ?_
  have n2 : ((33 : Int32) + a1).toInt = (33 : Int32).toInt + a1.toInt := gx_add (by omega) (by omega)
  refine gw_aI (i := ((33 : Int32) + a1)) ((h.of0 km1).1.t (r := 66) rfl) ((h.of0 km1).1.l (r := 66) rfl) (by omega) (by omega) (fun v3 ev3 => ?_)
  refine gw_sI (i := (1 : Int32)) ((h.of0 km1).1.t (r := 69) rfl) ((h.of0 km1).1.l (r := 69) rfl) (by omega) (by omega) (fun m4 em4 => ?_)
  have km4 := km1.wr em4 (by decide)
  refine gw_gRa 69 ((h.of0 km4).1.c (r := 65) rfl) ((h.of0 km4).1.r (by decide)) ?_
  refine gw_gRa 66 ((h.of0 km4).1.c (r := 65) rfl) ((h.of0 km4).1.r (by decide)) ?_
  have n5 : ((38 : Int32) + a1).toInt = (38 : Int32).toInt + a1.toInt := gx_add (by omega) (by omega)
  refine gw_aI (i := ((38 : Int32) + a1)) ((h.of0 km4).1.t (r := 66) rfl) ((h.of0 km4).1.l (r := 66) rfl) (by omega) (by omega) (fun v6 ev6 => ?_)
  refine gw_sI (i := (2 : Int32)) ((h.of0 km4).1.t (r := 69) rfl) ((h.of0 km4).1.l (r := 69) rfl) (by omega) (by omega) (fun m7 em7 => ?_)
  have km7 := km4.wr em7 (by decide)
  refine gw_gRa 69 ((h.of0 km7).1.c (r := 65) rfl) ((h.of0 km7).1.r (by decide)) ?_
  refine gw_gRa 66 ((h.of0 km7).1.c (r := 65) rfl) ((h.of0 km7).1.r (by decide)) ?_
  have n8 : ((1 : Int32) + a1).toInt = (1 : Int32).toInt + a1.toInt := gx_add (by omega) (by omega)
  refine gw_aI (i := ((1 : Int32) + a1)) ((h.of0 km7).1.t (r := 66) rfl) ((h.of0 km7).1.l (r := 66) rfl) (by omega) (by omega) (fun v9 ev9 => ?_)
  refine gw_sI (i := (3 : Int32)) ((h.of0 km7).1.t (r := 69) rfl) ((h.of0 km7).1.l (r := 69) rfl) (by omega) (by omega) (fun m10 em10 => ?_)
  have km10 := km7.wr em10 (by decide)
  refine gw_gRa 69 ((h.of0 km10).1.c (r := 65) rfl) ((h.of0 km10).1.r (by decide)) ?_
  refine gw_gRa 66 ((h.of0 km10).1.c (r := 65) rfl) ((h.of0 km10).1.r (by decide)) ?_
  have n11 : ((6 : Int32) + a1).toInt = (6 : Int32).toInt + a1.toInt := gx_add (by omega) (by omega)
  refine gw_aI (i := ((6 : Int32) + a1)) ((h.of0 km10).1.t (r := 66) rfl) ((h.of0 km10).1.l (r := 66) rfl) (by omega) (by omega) (fun v12 ev12 => ?_)
  refine gw_dv (by omega) ?_
  refine gw_sI (i := (4 : Int32)) ((h.of0 km10).1.t (r := 69) rfl) ((h.of0 km10).1.l (r := 69) rfl) (by omega) (by omega) (fun m13 em13 => ?_)
  have km13 := km10.wr em13 (by decide)
  refine gw_gRa 69 ((h.of0 km13).1.c (r := 65) rfl) ((h.of0 km13).1.r (by decide)) ?_
  refine gw_gRa 66 ((h.of0 km13).1.c (r := 65) rfl) ((h.of0 km13).1.r (by decide)) ?_
  refine gw_aI (i := (0 : Int32)) ((h.of0 km13).1.t (r := 66) rfl) ((h.of0 km13).1.l (r := 66) rfl) (by omega) (by omega) (fun v14 ev14 => ?_)
  refine gw_dv (by omega) ?_
  refine gw_sI (i := (5 : Int32)) ((h.of0 km13).1.t (r := 69) rfl) ((h.of0 km13).1.l (r := 69) rfl) (by omega) (by omega) (fun m15 em15 => ?_)
  have km15 := km13.wr em15 (by decide)
  refine gw_if ((h.of0 km15).1.t (r := 65) rfl) ?_
  refine gw_bI (s_X12_tellsOf (h.of0 km15)  (by omega)) (fun x16 m16 ⟨z16, f16⟩ => ?_)
  replace z16 := z16.symm
  subst z16
  have ee : ∀ k : Nat, m15.2.1 66 k = μ.2.1 66 k := fun k => km15.2.2.2.1 k (fun q => q)
  obtain ⟨lx1, lx2, tp, lx3, lx4⟩ := (h.of0 km15).lk f16
  simp only [ee] at lx4
  clear f16
  refine gw_gRa 66 ((h.of0 km15).1.c (r := 65) rfl) ((h.of0 km15).1.r (by decide)) ?_
  refine gw_aI (i := (32 : Int32)) ((h.of0 km15).1.t (r := 66) rfl) ((h.of0 km15).1.l (r := 66) rfl) (by omega) (by omega) (fun v17 ev17 => ?_)
  have bv17 := (h.of0 km15).n32
  have cv17 : v17 = m15.2.1 66 32 := ev17
  have dv17 : v17.toInt = (m15.2.1 66 32).toInt := by rw [cv17]
  have yv17 : v17.toInt = (μ.2.1 66 32).toInt := by rw [dv17, km15.2.2.2.1 32 (by first | exact fun q => q | (unfold A0; omega))]
  have e32 : v17.toInt = (μ.2.1 66 32).toInt := by rw [ev17]; exact congrArg Int32.toInt (ee 32)
  have n19 : ((140 : Int32) * v17).toInt = 140 * v17.toInt := gx_mul 140 rfl (by omega) (by omega)
  have n20 : ((225 : Int32) + ((140 : Int32) * v17)).toInt = (225 : Int32).toInt + ((140 : Int32) * v17).toInt := gx_add (by omega) (by omega)
  refine gw_loop (fun s18 => km A0 μ s18.2.2.2 ∧ ((225 + 140 * (μ.2.1 66 32).toInt) ≤ s18.2.2.1.toInt ∧ s18.2.2.1.toInt ≤ (225 + 140 * (μ.2.1 66 32).toInt) + x16.toInt ∧ s18.2.1.toInt = ((tp (s18.2.2.1.toInt - (225 + 140 * (μ.2.1 66 32).toInt)).toNat : Nat) : Int))) (fun s18 => ((225 + 140 * (μ.2.1 66 32).toInt) + x16.toInt - s18.2.2.1.toInt)) (fun s18 ⟨k21, u22⟩ => ?_) 5000 ((0 : Int32), (0 : Int32), ((225 : Int32) + ((140 : Int32) * v17)), m15) ⟨km15, (by show (225 + 140 * (μ.2.1 66 32).toInt) ≤ ((225 : Int32) + ((140 : Int32) * v17)).toInt ∧ ((225 : Int32) + ((140 : Int32) * v17)).toInt ≤ (225 + 140 * (μ.2.1 66 32).toInt) + x16.toInt ∧ (0 : Int32).toInt = ((tp (((225 : Int32) + ((140 : Int32) * v17)).toInt - (225 + 140 * (μ.2.1 66 32).toInt)).toNat : Nat) : Int); refine ⟨by omega, by omega, ?_⟩; rw [show (((225 : Int32) + ((140 : Int32) * v17)).toInt - (225 + 140 * (μ.2.1 66 32).toInt)).toNat = 0 from by omega, lx3]; rfl)⟩ (by show ((225 + 140 * (μ.2.1 66 32).toInt) + x16.toInt - ((225 : Int32) + ((140 : Int32) * v17)).toInt) < ((5000 : Nat) : Int); omega) (by show 0 ≤ ((225 + 140 * (μ.2.1 66 32).toInt) + x16.toInt - ((225 : Int32) + ((140 : Int32) * v17)).toInt); omega)
  have n23 : ((140 : Int32) * v17).toInt = 140 * v17.toInt := gx_mul 140 rfl (by omega) (by omega)
  have n24 : ((225 : Int32) + ((140 : Int32) * v17)).toInt = (225 : Int32).toInt + ((140 : Int32) * v17).toInt := gx_add (by omega) (by omega)
  have n25 : (((225 : Int32) + ((140 : Int32) * v17)) + x16).toInt = ((225 : Int32) + ((140 : Int32) * v17)).toInt + x16.toInt := gx_add (by omega) (by omega)
  refine gw_le (fun h125_26 => ?_) (fun h125_26 => ?_)
  ·
    exact gw_some (gs_inr (gq_I k21))
  ·
    refine gw_gRa 66 ((h.of0 k21).1.c (r := 65) rfl) ((h.of0 k21).1.r (by decide)) ?_
    refine gw_aI (i := s18.2.2.1) ((h.of0 k21).1.t (r := 66) rfl) ((h.of0 k21).1.l (r := 66) rfl) (by omega) (by omega) (fun v27 ev27 => ?_)
    have gv27 : v27 = μ.2.1 66 ((225 + 140 * (μ.2.1 66 32).toInt) + (((s18.2.2.1.toInt - (225 + 140 * (μ.2.1 66 32).toInt)).toNat : Nat) : Int)).toNat := by rw [ev27, show ((225 + 140 * (μ.2.1 66 32).toInt) + (((s18.2.2.1.toInt - (225 + 140 * (μ.2.1 66 32).toInt)).toNat : Nat) : Int)).toNat = s18.2.2.1.toInt.toNat from by omega]; exact k21.2.2.2.1 _ (fun q => q)
    have wv27 := lx4 (s18.2.2.1.toInt - (225 + 140 * (μ.2.1 66 32).toInt)).toNat (by omega)
    rw [← gv27] at wv27
    generalize hT1 : tp (s18.2.2.1.toInt - (225 + 140 * (μ.2.1 66 32).toInt)).toNat = t1 at *
    generalize hT2 : tp ((s18.2.2.1.toInt - (225 + 140 * (μ.2.1 66 32).toInt)).toNat + 1) = t2 at *
    have ww := wv27
    refine gw_j (fun s28 => km A0 μ s28.2.2 ∧ (s28.2.1.toInt = (t2 : Int))) (fun s28 ⟨k30, u31⟩ => ?_) (fun j29 hj29 => ?_)
    ·
      have n32 : (s18.2.2.1 + (1 : Int32)).toInt = s18.2.2.1.toInt + (1 : Int32).toInt := gx_add (by omega) (by omega)
      exact gw_some (gs_inl ⟨k30, (by show (225 + 140 * (μ.2.1 66 32).toInt) ≤ (s18.2.2.1 + (1 : Int32)).toInt ∧ (s18.2.2.1 + (1 : Int32)).toInt ≤ (225 + 140 * (μ.2.1 66 32).toInt) + x16.toInt ∧ s28.2.1.toInt = ((tp ((s18.2.2.1 + (1 : Int32)).toInt - (225 + 140 * (μ.2.1 66 32).toInt)).toNat : Nat) : Int); refine ⟨by omega, by omega, ?_⟩; rw [show ((s18.2.2.1 + (1 : Int32)).toInt - (225 + 140 * (μ.2.1 66 32).toInt)).toNat = (s18.2.2.1.toInt - (225 + 140 * (μ.2.1 66 32).toInt)).toNat + 1 from by omega, hT2]; omega)⟩ (by show ((225 + 140 * (μ.2.1 66 32).toInt) + x16.toInt - (s18.2.2.1 + (1 : Int32)).toInt) < ((225 + 140 * (μ.2.1 66 32).toInt) + x16.toInt - s18.2.2.1.toInt); omega) (by show 0 ≤ ((225 + 140 * (μ.2.1 66 32).toInt) + x16.toInt - (s18.2.2.1 + (1 : Int32)).toInt); omega))
    ·
      refine gw_lt (fun h139_33 => ?_) (fun h139_33 => ?_)
      ·
        refine gw_ne (fun h239_34 => ?_) (fun h239_34 => ?_)
        ·
          refine gw_le (fun h275_35 => ?_) (fun h275_35 => ?_)
          ·
            have q1 := wst_D ww h275_35
            refine gw_gRa 70 ((h.of0 k21).1.c (r := 65) rfl) ((h.of0 k21).1.r (by decide)) ?_
            refine gw_aZ (i := (0 : Int32)) ((h.of0 k21).1.t (r := 70) rfl) ((h.of0 k21).1.l (r := 70) rfl) (by omega) (by omega) (fun v36 ev36 => ?_)
            refine gw_j (fun s37 => True) (fun s37 _ => ?_) (fun j38 hj38 => ?_)
            ·
              refine gw_j (fun s39 => True) (fun s39 _ => ?_) (fun j40 hj40 => ?_)
              ·
                exact hj29 _ ⟨k21, (by show (0 : Int32).toInt = (t2 : Int); omega)⟩
              ·
                refine gw_j (fun s41 => True) (fun s41 _ => ?_) (fun j42 hj42 => ?_)
                ·
                  exact hj40 _ trivial
                ·
                  refine gw_eq (fun _ => ?_) (fun _ => ?_)
                  ·
                    exact hj42 _ trivial
                  ·
                    refine gw_lt (fun _ => ?_) (fun _ => ?_)
                    ·
                      exact hj42 _ trivial
                    ·
                      exact hj40 _ trivial
            ·
              refine gw_j (fun s45 => True) (fun s45 _ => ?_) (fun j46 hj46 => ?_)
              ·
                exact hj38 _ trivial
              ·
                refine gw_eq (fun _ => ?_) (fun _ => ?_)
                ·
                  exact hj46 _ trivial
                ·
                  refine gw_le (fun _ => ?_) (fun _ => ?_)
                  ·
                    exact hj46 _ trivial
                  ·
                    exact hj38 _ trivial
          ·
            obtain ⟨q0, q1, q2⟩ := wst_C ww (by omega) (by omega)
            have n49 : (s18.2.1 + (-1 : Int32)).toInt = s18.2.1.toInt + (-1 : Int32).toInt := gx_add (by omega) (by omega)
            obtain ⟨w50, hw50⟩ : ∃ w : Int32, w = (s18.2.1 + (-1 : Int32)) := ⟨_, rfl⟩
            rw [← hw50]
            rw [← hw50] at n49
            refine gw_gRa 70 ((h.of0 k21).1.c (r := 65) rfl) ((h.of0 k21).1.r (by decide)) ?_
            refine gw_j (fun s51 => True) (fun s51 _ => ?_) (fun j52 hj52 => ?_)
            ·
              have n53 : (w50 - (1 : Int32)).toInt = w50.toInt - (1 : Int32).toInt := gx_sub (by omega) (by omega)
              refine gw_sZ (i := (w50 - (1 : Int32))) ((h.of0 k21).1.t (r := 70) rfl) ((h.of0 k21).1.l (r := 70) rfl) (by omega) (by omega) (fun m54 em54 => ?_)
              have km54 := k21.wr em54 (by decide)
              exact hj29 _ ⟨km54, (by show w50.toInt = (t2 : Int); omega)⟩
            ·
              refine gw_ne (fun _ => ?_) (fun _ => ?_)
              ·
                refine gw_gRa 70 ((h.of0 k21).1.c (r := 65) rfl) ((h.of0 k21).1.r (by decide)) ?_
                have n56 : (w50 - (1 : Int32)).toInt = w50.toInt - (1 : Int32).toInt := gx_sub (by omega) (by omega)
                refine gw_aZ (i := (w50 - (1 : Int32))) ((h.of0 k21).1.t (r := 70) rfl) ((h.of0 k21).1.l (r := 70) rfl) (by omega) (by omega) (fun v57 ev57 => ?_)
                refine gw_j (fun s58 => True) (fun s58 _ => ?_) (fun j59 hj59 => ?_)
                ·
                  exact hj52 _ trivial
                ·
                  refine gw_ne (fun _ => ?_) (fun _ => ?_)
                  ·
                    exact hj59 _ trivial
                  ·
                    refine gw_gRa 70 ((h.of0 k21).1.c (r := 65) rfl) ((h.of0 k21).1.r (by decide)) ?_
                    refine gw_aZ (i := w50) ((h.of0 k21).1.t (r := 70) rfl) ((h.of0 k21).1.l (r := 70) rfl) (by omega) (by omega) (fun v61 ev61 => ?_)
                    refine gw_eq (fun _ => ?_) (fun _ => ?_)
                    ·
                      exact hj52 _ trivial
                    ·
                      exact hj59 _ trivial
              ·
                refine gw_gRa 70 ((h.of0 k21).1.c (r := 65) rfl) ((h.of0 k21).1.r (by decide)) ?_
                have n63 : (w50 - (1 : Int32)).toInt = w50.toInt - (1 : Int32).toInt := gx_sub (by omega) (by omega)
                refine gw_aZ (i := (w50 - (1 : Int32))) ((h.of0 k21).1.t (r := 70) rfl) ((h.of0 k21).1.l (r := 70) rfl) (by omega) (by omega) (fun v64 ev64 => ?_)
                refine gw_j (fun s65 => True) (fun s65 _ => ?_) (fun j66 hj66 => ?_)
                ·
                  exact hj52 _ trivial
                ·
                  refine gw_eq (fun _ => ?_) (fun _ => ?_)
                  ·
                    exact hj66 _ trivial
                  ·
                    refine gw_gRa 70 ((h.of0 k21).1.c (r := 65) rfl) ((h.of0 k21).1.r (by decide)) ?_
                    refine gw_aZ (i := w50) ((h.of0 k21).1.t (r := 70) rfl) ((h.of0 k21).1.l (r := 70) rfl) (by omega) (by omega) (fun v68 ev68 => ?_)
                    refine gw_eq (fun _ => ?_) (fun _ => ?_)
                    ·
                      exact hj66 _ trivial
                    ·
                      exact hj52 _ trivial
        ·
          obtain ⟨q0, q1, q2⟩ := wst_B ww h239_34
          refine gw_gRa 70 ((h.of0 k21).1.c (r := 65) rfl) ((h.of0 k21).1.r (by decide)) ?_
          refine gw_gRa 70 ((h.of0 k21).1.c (r := 65) rfl) ((h.of0 k21).1.r (by decide)) ?_
          have n70 : (s18.2.1 - (1 : Int32)).toInt = s18.2.1.toInt - (1 : Int32).toInt := gx_sub (by omega) (by omega)
          refine gw_aZ (i := (s18.2.1 - (1 : Int32))) ((h.of0 k21).1.t (r := 70) rfl) ((h.of0 k21).1.l (r := 70) rfl) (by omega) (by omega) (fun v71 ev71 => ?_)
          refine gw_j (fun s72 => True) (fun s72 _ => ?_) (fun j73 hj73 => ?_)
          ·
            have n74 : (s18.2.1 - (1 : Int32)).toInt = s18.2.1.toInt - (1 : Int32).toInt := gx_sub (by omega) (by omega)
            refine gw_sZ (i := (s18.2.1 - (1 : Int32))) ((h.of0 k21).1.t (r := 70) rfl) ((h.of0 k21).1.l (r := 70) rfl) (by omega) (by omega) (fun m75 em75 => ?_)
            have km75 := k21.wr em75 (by decide)
            exact hj29 _ ⟨km75, (by show s18.2.1.toInt = (t2 : Int); omega)⟩
          ·
            refine gw_ne (fun _ => ?_) (fun _ => ?_)
            ·
              exact hj73 _ trivial
            ·
              exact hj73 _ trivial
      ·
        obtain ⟨q0, q1, q2, q3⟩ := wst_A ww h139_33
        refine gw_gRa 69 ((h.of0 k21).1.c (r := 65) rfl) ((h.of0 k21).1.r (by decide)) ?_
        refine gw_dv (by omega) ?_
        have n77 := gx_remk8 (x := v27) (by omega)
        refine gw_aI (i := (v27 - v27 / (8 : Int32) * (8 : Int32))) ((h.of0 k21).1.t (r := 69) rfl) ((h.of0 k21).1.l (r := 69) rfl) (by omega) (by omega) (fun v78 ev78 => ?_)
        refine gw_dv (by omega) ?_
        refine gw_dv (by omega) ?_
        refine gw_dv (by omega) ?_
        refine gw_gRa 70 ((h.of0 k21).1.c (r := 65) rfl) ((h.of0 k21).1.r (by decide)) ?_
        refine gw_j (fun s79 => True) (fun s79 _ => ?_) (fun j80 hj80 => ?_)
        ·
          refine gw_sZ (i := s18.2.1) ((h.of0 k21).1.t (r := 70) rfl) ((h.of0 k21).1.l (r := 70) rfl) (by omega) (by omega) (fun m81 em81 => ?_)
          have km81 := k21.wr em81 (by decide)
          have n82 : (s18.2.1 + (1 : Int32)).toInt = s18.2.1.toInt + (1 : Int32).toInt := gx_add (by omega) (by omega)
          exact hj29 _ ⟨km81, (by show (s18.2.1 + (1 : Int32)).toInt = (t2 : Int); omega)⟩
        ·
          refine gw_ne (fun _ => ?_) (fun _ => ?_)
          ·
            refine gw_ne (fun _ => ?_) (fun _ => ?_)
            ·
              refine gw_le (fun _ => ?_) (fun _ => ?_)
              ·
                exact hj80 _ trivial
              ·
                exact hj80 _ trivial
            ·
              refine gw_ne (fun _ => ?_) (fun _ => ?_)
              ·
                exact hj80 _ trivial
              ·
                exact hj80 _ trivial
          ·
            refine gw_le (fun _ => ?_) (fun _ => ?_)
            ·
              exact hj80 _ trivial
            ·
              exact hj80 _ trivial
