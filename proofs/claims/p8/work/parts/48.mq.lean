set_option maxHeartbeats 1000000 in
theorem s_X12_swap {μ : gm_M} (h : MI μ)   : gwI (f_X12_swap 65 μ) (fun x m => qm μ m) := by
  refine gwI_of ?_
  unfold f_X12_swap
  have lm5 : (-5 : Int32).toInt = -5 := rfl
  have l0 : (0 : Int32).toInt = 0 := rfl
  have l1 : (1 : Int32).toInt = 1 := rfl
  have l10 : (10 : Int32).toInt = 10 := rfl
  have l26 : (26 : Int32).toInt = 26 := rfl
  have k0 := km.refl A1 μ
  refine gw_if ((h.of1 k0).1.t (r := 65) rfl) ?_
  refine gw_bI (s_X12_allHold (h.of1 k0)  ) (fun x1 m1 g1 => ?_)
  have kk1 := k0.trans g1.w01
  have ea0 : m1.2.1 66 = μ.2.1 66 := funext fun k => g1.2.2.2.1 k (fun q => q)
  refine gw_loop (fun s2 => km A1 μ s2.2.2.2 ∧ ((0 ≤ s2.2.2.1.toInt ∧ s2.2.2.1.toInt ≤ 5) ∧ s2.2.2.2.2.1 66 = μ.2.1 66)) (fun s2 => (5 - s2.2.2.1.toInt)) (fun s2 ⟨k3, u4⟩ => ?_) 5000 ((-5 : Int32), x1, (0 : Int32), m1) ⟨kk1, (by show (0 ≤ (0 : Int32).toInt ∧ (0 : Int32).toInt ≤ 5) ∧ m1.2.1 66 = μ.2.1 66; exact ⟨by omega, ea0⟩)⟩ (by show (5 - (0 : Int32).toInt) < ((5000 : Nat) : Int); omega) (by show 0 ≤ (5 - (0 : Int32).toInt); omega)
  obtain ⟨uu1, uu2⟩ := u4
  refine gw_gRa 66 ((h.of1 k3).1.c (r := 65) rfl) ((h.of1 k3).1.r (by decide)) ?_
  refine gw_aI (i := (26 : Int32)) ((h.of1 k3).1.t (r := 66) rfl) ((h.of1 k3).1.l (r := 66) rfl) (by omega) (by omega) (fun v5 ev5 => ?_)
  have bv5 := (h.of1 k3).n26
  have cv5 : v5 = s2.2.2.2.2.1 66 26 := ev5
  have dv5 : v5.toInt = (s2.2.2.2.2.1 66 26).toInt := by rw [cv5]
  have yv5 : v5.toInt = (μ.2.1 66 26).toInt := by rw [dv5, k3.2.2.2.1 26 (by first | exact fun q => q | (unfold A1; omega))]
  refine gw_le (fun h18_6 => ?_) (fun h18_6 => ?_)
  ·
    exact gw_some (gs_inr (gq_I (qm.of0 (km.s66 k3 (by assumption)))))
  ·
    have n8 : (s2.2.2.1 + (1 : Int32)).toInt = s2.2.2.1.toInt + (1 : Int32).toInt := gx_add (by omega) (by omega)
    refine gw_loop (fun s7 => km A1 μ s7.2.2.2 ∧ ((0 ≤ s7.2.2.1.toInt ∧ s7.2.2.1.toInt ≤ 5) ∧ s7.2.2.2.2.1 66 = μ.2.1 66)) (fun s7 => (5 - s7.2.2.1.toInt)) (fun s7 ⟨k9, u10⟩ => ?_) 5000 (s2.1, s2.2.1, (s2.2.2.1 + (1 : Int32)), s2.2.2.2) ⟨k3, (by show (0 ≤ (s2.2.2.1 + (1 : Int32)).toInt ∧ (s2.2.2.1 + (1 : Int32)).toInt ≤ 5) ∧ s2.2.2.2.2.1 66 = μ.2.1 66; exact ⟨by omega, uu2⟩)⟩ (by show (5 - (s2.2.2.1 + (1 : Int32)).toInt) < ((5000 : Nat) : Int); omega) (by show 0 ≤ (5 - (s2.2.2.1 + (1 : Int32)).toInt); omega)
    obtain ⟨uu1, uu2⟩ := u10
    refine gw_gRa 66 ((h.of1 k9).1.c (r := 65) rfl) ((h.of1 k9).1.r (by decide)) ?_
    refine gw_aI (i := (26 : Int32)) ((h.of1 k9).1.t (r := 66) rfl) ((h.of1 k9).1.l (r := 66) rfl) (by omega) (by omega) (fun v11 ev11 => ?_)
    have bv11 := (h.of1 k9).n26
    have cv11 : v11 = s7.2.2.2.2.1 66 26 := ev11
    have dv11 : v11.toInt = (s7.2.2.2.2.1 66 26).toInt := by rw [cv11]
    have yv11 : v11.toInt = (μ.2.1 66 26).toInt := by rw [dv11, k9.2.2.2.1 26 (by first | exact fun q => q | (unfold A1; omega))]
    refine gw_le (fun h35_12 => ?_) (fun h35_12 => ?_)
    ·
      have n13 : (s2.2.2.1 + (1 : Int32)).toInt = s2.2.2.1.toInt + (1 : Int32).toInt := gx_add (by omega) (by omega)
      exact gw_some (gs_inr (gs_inl ⟨k9, (by show (0 ≤ (s2.2.2.1 + (1 : Int32)).toInt ∧ (s2.2.2.1 + (1 : Int32)).toInt ≤ 5) ∧ s7.2.2.2.2.1 66 = μ.2.1 66; exact ⟨by omega, uu2⟩)⟩ (by show (5 - (s2.2.2.1 + (1 : Int32)).toInt) < (5 - s2.2.2.1.toInt); omega) (by show 0 ≤ (5 - (s2.2.2.1 + (1 : Int32)).toInt); omega)))
    ·
      refine gw_if ((h.of1 k9).1.t (r := 65) rfl) ?_
      refine gw_bV (s_X12_swaps (h.of1 k9)  (by omega) (by omega)) (fun m14 ⟨g14, f14⟩ => ?_)
      have kk14 := k9.trans g14.w11
      have f1 := f14
      refine gw_if ((h.of1 kk14).1.t (r := 65) rfl) ?_
      refine gw_bI (s_X12_allHold (h.of1 kk14)  ) (fun x15 m15 g15 => ?_)
      have kk15 := kk14.trans g15.w01
      have ea : m15.2.1 66 = m14.2.1 66 := funext fun k => g15.2.2.2.1 k (fun q => q)
      refine gw_if ((h.of1 kk15).1.t (r := 65) rfl) ?_
      refine gw_bV (s_X12_swaps (h.of1 kk15)  (by omega) (by omega)) (fun m16 ⟨g16, f16⟩ => ?_)
      have kk16 := kk15.trans g16.w11
      have hb := f16
      rw [ea, f1, sw2_sw2 (a := s2.2.2.1) (b := s7.2.2.1) (by omega) (by omega)] at hb
      refine gw_j (fun s17 => True) (fun s17 _ => ?_) (fun j18 hj18 => ?_)
      ·
        refine gw_j (fun s19 => True) (fun s19 _ => ?_) (fun j20 hj20 => ?_)
        ·
          have n21 : (s7.2.2.1 + (1 : Int32)).toInt = s7.2.2.1.toInt + (1 : Int32).toInt := gx_add (by omega) (by omega)
          exact gw_some (gs_inl ⟨kk16, (by show (0 ≤ (s7.2.2.1 + (1 : Int32)).toInt ∧ (s7.2.2.1 + (1 : Int32)).toInt ≤ 5) ∧ m16.2.1 66 = μ.2.1 66; exact ⟨by omega, hb.trans uu2⟩)⟩ (by show (5 - (s7.2.2.1 + (1 : Int32)).toInt) < (5 - s7.2.2.1.toInt); omega) (by show 0 ≤ (5 - (s7.2.2.1 + (1 : Int32)).toInt); omega))
        ·
          refine gw_le (fun h79_22 => ?_) (fun h79_22 => ?_)
          ·
            exact hj20 _ trivial
          ·
            exact hj20 _ trivial
      ·
        refine gw_le (fun h61_23 => ?_) (fun h61_23 => ?_)
        ·
          exact hj18 _ trivial
        ·
          exact hj18 _ trivial
set_option maxHeartbeats 1000000 in
theorem s_X12_firm {μ : gm_M} (h : MI μ) {a1 : Int32} {a2 : Int32}  : gwI (f_X12_firm 65 a1 a2 μ) (fun x m => qm μ m) := by
  refine gwI_of ?_
  unfold f_X12_firm
  have lm5 : (-5 : Int32).toInt = -5 := rfl
  have lm1 : (-1 : Int32).toInt = -1 := rfl
  have l0 : (0 : Int32).toInt = 0 := rfl
  have l1 : (1 : Int32).toInt = 1 := rfl
  have l9 : (9 : Int32).toInt = 9 := rfl
  have l38 : (38 : Int32).toInt = 38 := rfl
  have k0 := km.refl A0 μ
  refine gw_if ((h.of0 k0).1.t (r := 65) rfl) ?_
  refine gw_bI (s_X12_isChild (h.of0 k0)  ) (fun x1 m1 ⟨z1, f1⟩ => ?_)
  replace z1 := z1.symm
  subst z1
  refine gw_eq (fun h5_2 => ?_) (fun h5_2 => ?_)
  ·
    exact gw_some (gq_I (qm.of0 k0))
  ·
    refine gw_bI (s_X12_in  ) (fun x3 m3 ⟨z3, f3⟩ => ?_)
    replace z3 := z3.symm
    subst z3
    refine gw_ne (fun h14_4 => ?_) (fun h14_4 => ?_)
    ·
      refine gw_gRa 66 ((h.of0 k0).1.c (r := 65) rfl) ((h.of0 k0).1.r (by decide)) ?_
      have n5 : ((38 : Int32) + a1).toInt = (38 : Int32).toInt + a1.toInt := gx_add (by omega) (by omega)
      refine gw_aI (i := ((38 : Int32) + a1)) ((h.of0 k0).1.t (r := 66) rfl) ((h.of0 k0).1.l (r := 66) rfl) (by omega) (by omega) (fun v6 ev6 => ?_)
      have hv6 : v6 = μ.2.1 66 (38 + a1.toInt).toNat := by rw [ev6, show ((38 : Int32) + a1).toInt.toNat = (38 + a1.toInt).toNat by omega]
      refine gw_if ((h.of0 k0).1.t (r := 65) rfl) ?_
      refine gw_bV (s_X12_keeps (h.of0 k0)  ) (fun m7 g7 => ?_)
      have hh7 := g7.mi (h.of0 k0)
      have kq7 := km.refl A2 m7
      have rr7 := g7.rs
      refine gw_loop (fun s8 => km A2 m7 s8.2.2.2 ∧ rs s8.2.2.2 ∧ ((-1 ≤ s8.2.2.1.toInt ∧ s8.2.2.1.toInt ≤ 9) ∧ vs (38 + a1.toInt).toNat m7 s8.2.2.2)) (fun s8 => (s8.2.2.1.toInt + 1)) (fun s8 ⟨k9, r9, u10⟩ => ?_) 5000 ((0 : Int32), (-5 : Int32), (9 : Int32), m7) ⟨kq7, rr7, (by show (-1 ≤ (9 : Int32).toInt ∧ (9 : Int32).toInt ≤ 9) ∧ vs (38 + a1.toInt).toNat m7 m7; exact ⟨by omega, vs.refl⟩)⟩ (by show ((9 : Int32).toInt + 1) < ((5000 : Nat) : Int); omega) (by show 0 ≤ ((9 : Int32).toInt + 1); omega)
      obtain ⟨uu1, uu2⟩ := u10
      refine gw_lt (fun h46_11 => ?_) (fun h46_11 => ?_)
      ·
        refine gw_gRa 66 ((hh7.of2 k9).1.c (r := 65) rfl) ((hh7.of2 k9).1.r (by decide)) ?_
        have n12 : ((38 : Int32) + a1).toInt = (38 : Int32).toInt + a1.toInt := gx_add (by omega) (by omega)
        refine gw_sI (i := ((38 : Int32) + a1)) ((hh7.of2 k9).1.t (r := 66) rfl) ((hh7.of2 k9).1.l (r := 66) rfl) (by omega) (by omega) (fun m13 em13 => ?_)
        have km13 := k9.ws em13 (by unfold A2; omega)
        have rm13 := rs.ws r9 em13 (by omega)
        have hz := uu2.fin em13 (by omega) (by rw [hv6, g7.2.2.1 66 (by decide)])
        refine gw_ne (fun h112_14 => ?_) (fun h112_14 => ?_)
        ·
          exact gw_some (gs_inr (gq_I (qm.kp g7 (km.rest km13 hz) rm13)))
        ·
          exact gw_some (gs_inr (gq_I (qm.kp g7 (km.rest km13 hz) rm13)))
      ·
        refine gw_gRa 66 ((hh7.of2 k9).1.c (r := 65) rfl) ((hh7.of2 k9).1.r (by decide)) ?_
        have n15 : ((38 : Int32) + a1).toInt = (38 : Int32).toInt + a1.toInt := gx_add (by omega) (by omega)
        refine gw_sI (i := ((38 : Int32) + a1)) ((hh7.of2 k9).1.t (r := 66) rfl) ((hh7.of2 k9).1.l (r := 66) rfl) (by omega) (by omega) (fun m16 em16 => ?_)
        have km16 := k9.ws em16 (by unfold A2; omega)
        have hv := uu2.ws em16 (by omega)
        refine gw_if ((hh7.of2 km16).1.t (r := 65) rfl) ?_
        refine gw_bI (s_X12_areAsSeen (hh7.of2 km16)  ) (fun x17 m17 ⟨g17, r17, f17⟩ => ?_)
        have kk17 := km16.trans g17.w12
        have hw := hv.k1 g17
        refine gw_j (fun s18 => True) (fun s18 _ => ?_) (fun j19 hj19 => ?_)
        ·
          refine gw_j (fun s20 => True) (fun s20 _ => ?_) (fun j21 hj21 => ?_)
          ·
            have n22 : (s8.2.2.1 + (-1 : Int32)).toInt = s8.2.2.1.toInt + (-1 : Int32).toInt := gx_add (by omega) (by omega)
            obtain ⟨w23, hw23⟩ : ∃ w : Int32, w = (s8.2.2.1 + (-1 : Int32)) := ⟨_, rfl⟩
            rw [← hw23]
            rw [← hw23] at n22
            exact gw_some (gs_inl ⟨kk17, r17, (by show (-1 ≤ w23.toInt ∧ w23.toInt ≤ 9) ∧ vs (38 + a1.toInt).toNat m7 m17; exact ⟨by omega, hw⟩)⟩ (by show (w23.toInt + 1) < (s8.2.2.1.toInt + 1); omega) (by show 0 ≤ (w23.toInt + 1); omega))
          ·
            refine gw_eq (fun h83_24 => ?_) (fun h83_24 => ?_)
            ·
              exact hj21 _ trivial
            ·
              exact hj21 _ trivial
        ·
          refine gw_eq (fun h70_25 => ?_) (fun h70_25 => ?_)
          ·
            exact hj19 _ trivial
          ·
            exact hj19 _ trivial
    ·
      exact gw_some (gq_I (qm.of0 k0))
