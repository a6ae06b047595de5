set_option maxHeartbeats 1000000 in
theorem sb_X12_ordersFrom {R0 : Nat → Int32 → Int32 → Int32 → gm_M → Option (Option Value × gm_M)} (n : Int) (d : Nat) (hR : ∀ {m : gm_M} (h : MI m) {b1 b2 b3 : Int32}, (m.2.1 66 26).toInt = n → 0 ≤ b1.toInt ∧ b1.toInt ≤ n → n - b1.toInt < d → gwV (R0 65 b1 b2 b3 m) (fun m1 => km A0 m m1)) {μ : gm_M} (h : MI μ) {a1 a2 a3 : Int32} (e0 : (μ.2.1 66 26).toInt = n) (q0 : 0 ≤ a1.toInt ∧ a1.toInt ≤ n) (q1 : n - a1.toInt < d + 1) : gwV (b_X12_ordersFrom R0 65 a1 a2 a3 μ) (fun m => km A0 μ m) := by
  refine gwV_of ?_
  unfold b_X12_ordersFrom
  have hn := h.n26
  have l0 : (0 : Int32).toInt = 0 := rfl
  have l1 : (1 : Int32).toInt = 1 := rfl
  have l5 : (5 : Int32).toInt = 5 := rfl
  have l26 : (26 : Int32).toInt = 26 := rfl
  have k0 := km.refl A0 μ
  refine gw_gRa 66 ((h.of0 k0).1.c (r := 65) rfl) ((h.of0 k0).1.r (by decide)) ?_
  refine gw_aI (i := (26 : Int32)) ((h.of0 k0).1.t (r := 66) rfl) ((h.of0 k0).1.l (r := 66) rfl) (by omega) (by omega) (fun v1 ev1 => ?_)
  have bv1 := (h.of0 k0).n26
  have cv1 : v1 = μ.2.1 66 26 := ev1
  have dv1 : v1.toInt = (μ.2.1 66 26).toInt := by rw [cv1]
  refine gw_ne (fun h8_2 => ?_) (fun h8_2 => ?_)
  ·
    refine gw_loop (fun s3 => km A0 μ s3.2 ∧ (0 ≤ s3.1.toInt ∧ s3.1.toInt ≤ 5)) (fun s3 => (5 - s3.1.toInt)) (fun s3 ⟨k4, u5⟩ => ?_) 5000 ((0 : Int32), μ) ⟨k0, (by show 0 ≤ (0 : Int32).toInt ∧ (0 : Int32).toInt ≤ 5; omega)⟩ (by show (5 - (0 : Int32).toInt) < ((5000 : Nat) : Int); omega) (by show 0 ≤ (5 - (0 : Int32).toInt); omega)
    refine gw_gRa 66 ((h.of0 k4).1.c (r := 65) rfl) ((h.of0 k4).1.r (by decide)) ?_
    refine gw_aI (i := (26 : Int32)) ((h.of0 k4).1.t (r := 66) rfl) ((h.of0 k4).1.l (r := 66) rfl) (by omega) (by omega) (fun v6 ev6 => ?_)
    have bv6 := (h.of0 k4).n26
    have cv6 : v6 = s3.2.2.1 66 26 := ev6
    have dv6 : v6.toInt = (s3.2.2.1 66 26).toInt := by rw [cv6]
    have yv6 : v6.toInt = (μ.2.1 66 26).toInt := by rw [dv6, k4.2.2.2.1 26 (by first | exact fun q => q | (unfold A0; omega))]
    refine gw_le (fun h66_7 => ?_) (fun h66_7 => ?_)
    ·
      exact gw_some (gs_inr (gq_V k4))
    ·
      refine gw_j (fun s8 => km A0 μ s8) (fun s8 k10 => ?_) (fun j9 hj9 => ?_)
      ·
        have n11 : (s3.1 + (1 : Int32)).toInt = s3.1.toInt + (1 : Int32).toInt := gx_add (by omega) (by omega)
        exact gw_some (gs_inl ⟨k10, (by show 0 ≤ (s3.1 + (1 : Int32)).toInt ∧ (s3.1 + (1 : Int32)).toInt ≤ 5; omega)⟩ (by show (5 - (s3.1 + (1 : Int32)).toInt) < (5 - s3.1.toInt); omega) (by show 0 ≤ (5 - (s3.1 + (1 : Int32)).toInt); omega))
      ·
        refine gw_ne (fun h75_12 => ?_) (fun h75_12 => ?_)
        ·
          exact hj9 _ k4
        ·
          refine gw_gRa 72 ((h.of0 k4).1.c (r := 65) rfl) ((h.of0 k4).1.r (by decide)) ?_
          refine gw_sI (i := a1) ((h.of0 k4).1.t (r := 72) rfl) ((h.of0 k4).1.l (r := 72) rfl) (by omega) (by omega) (fun m13 em13 => ?_)
          have km13 := k4.wr em13 (by decide)
          refine gw_gRa 71 ((h.of0 km13).1.c (r := 65) rfl) ((h.of0 km13).1.r (by decide)) ?_
          have n14 : ((5 : Int32) * s3.1).toInt = 5 * s3.1.toInt := gx_mul 5 rfl (by omega) (by omega)
          have n15 : (((5 : Int32) * s3.1) + a1).toInt = ((5 : Int32) * s3.1).toInt + a1.toInt := gx_add (by omega) (by omega)
          refine gw_aI (i := (((5 : Int32) * s3.1) + a1)) ((h.of0 km13).1.t (r := 71) rfl) ((h.of0 km13).1.l (r := 71) rfl) (by omega) (by omega) (fun v16 ev16 => ?_)
          refine gw_if ((h.of0 km13).1.t (r := 65) rfl) ?_
          have n17 : (a1 + (1 : Int32)).toInt = a1.toInt + (1 : Int32).toInt := gx_add (by omega) (by omega)
          have zz := congrArg Int32.toInt (km13.2.2.2.1 26 (fun q => q))
          refine gw_bV (hR (h.of0 km13)  (by omega) (by omega) (by omega)) (fun m18 g18 => ?_)
          have kk18 := km13.trans g18.w00
          exact hj9 _ kk18
  ·
    refine gw_gI ((h.of0 k0).1.c (r := 65) rfl) (fun v19 ev19 => ?_)
    refine gw_le (fun h16_20 => ?_) (fun h16_20 => ?_)
    ·
      exact gw_some (gq_V k0)
    ·
      refine gw_pI ((h.of0 k0).1.c (r := 65) rfl) (fun m21 em21 => ?_)
      have km21 := k0.wf em21 (by decide)
      refine gw_loop (fun s22 => km A0 μ s22.2 ∧ (0 ≤ s22.1.toInt ∧ s22.1.toInt ≤ 5)) (fun s22 => (5 - s22.1.toInt)) (fun s22 ⟨k23, u24⟩ => ?_) 5000 ((0 : Int32), m21) ⟨km21, (by show 0 ≤ (0 : Int32).toInt ∧ (0 : Int32).toInt ≤ 5; omega)⟩ (by show (5 - (0 : Int32).toInt) < ((5000 : Nat) : Int); omega) (by show 0 ≤ (5 - (0 : Int32).toInt); omega)
      refine gw_le (fun h30_25 => ?_) (fun h30_25 => ?_)
      ·
        exact gw_some (gs_inr (gq_V k23))
      ·
        refine gw_gRa 73 ((h.of0 k23).1.c (r := 65) rfl) ((h.of0 k23).1.r (by decide)) ?_
        refine gw_gRa 72 ((h.of0 k23).1.c (r := 65) rfl) ((h.of0 k23).1.r (by decide)) ?_
        refine gw_aI (i := s22.1) ((h.of0 k23).1.t (r := 72) rfl) ((h.of0 k23).1.l (r := 72) rfl) (by omega) (by omega) (fun v26 ev26 => ?_)
        refine gw_sI (i := s22.1) ((h.of0 k23).1.t (r := 73) rfl) ((h.of0 k23).1.l (r := 73) rfl) (by omega) (by omega) (fun m27 em27 => ?_)
        have km27 := k23.wr em27 (by decide)
        have n28 : (s22.1 + (1 : Int32)).toInt = s22.1.toInt + (1 : Int32).toInt := gx_add (by omega) (by omega)
        exact gw_some (gs_inl ⟨km27, (by show 0 ≤ (s22.1 + (1 : Int32)).toInt ∧ (s22.1 + (1 : Int32)).toInt ≤ 5; omega)⟩ (by show (5 - (s22.1 + (1 : Int32)).toInt) < (5 - s22.1.toInt); omega) (by show 0 ≤ (5 - (s22.1 + (1 : Int32)).toInt); omega))
theorem sr_X12_ordersFrom (n : Int) : ∀ (d : Nat) {m : gm_M} (h : MI m) {b1 b2 b3 : Int32}, (m.2.1 66 26).toInt = n → 0 ≤ b1.toInt ∧ b1.toInt ≤ n → n - b1.toInt < d → gwV (r_X12_ordersFrom d 65 b1 b2 b3 m) (fun m1 => km A0 m m1)
  | 0, m, h, b1, b2, b3, e, q0, q1 => by omega
  | d + 1, m, h, b1, b2, b3, e, q0, q1 => sb_X12_ordersFrom n d (fun h => sr_X12_ordersFrom n d h) h e q0 (by omega)
theorem s_X12_ordersFrom {μ : gm_M} (h : MI μ) {a1 a2 a3 : Int32} (q0 : 0 ≤ a1.toInt ∧ a1.toInt ≤ (μ.2.1 66 26).toInt) : gwV (f_X12_ordersFrom 65 a1 a2 a3 μ) (fun m => km A0 μ m) := sr_X12_ordersFrom _ 64 h rfl q0 (by have := h.n26; omega)
set_option maxHeartbeats 1000000 in
theorem s_X12_order {μ : gm_M} (h : MI μ) {a1 : Int32}  : gwI (f_X12_order 65 a1 μ) (fun x m => qm μ m) := by
  refine gwI_of ?_
  unfold f_X12_order
  have lm5 : (-5 : Int32).toInt = -5 := rfl
  have lm1 : (-1 : Int32).toInt = -1 := rfl
  have l0 : (0 : Int32).toInt = 0 := rfl
  have l1 : (1 : Int32).toInt = 1 := rfl
  have l4 : (4 : Int32).toInt = 4 := rfl
  have l5 : (5 : Int32).toInt = 5 := rfl
  have l26 : (26 : Int32).toInt = 26 := rfl
  have k0 := km.refl A0 μ
  refine gw_bI (s_X12_in  ) (fun x1 m1 ⟨z1, f1⟩ => ?_)
  replace z1 := z1.symm
  subst z1
  refine gw_ne (fun h6_2 => ?_) (fun h6_2 => ?_)
  ·
    refine gw_if ((h.of0 k0).1.t (r := 65) rfl) ?_
    refine gw_bV (s_X12_keeps (h.of0 k0)  ) (fun m3 g3 => ?_)
    have hh3 := g3.mi (h.of0 k0)
    have kq3 := km.refl A1 m3
    have rr3 := g3.rs
    refine gw_loop (fun s4 => km A1 m3 s4.2 ∧ (0 ≤ s4.1.toInt ∧ s4.1.toInt ≤ 5)) (fun s4 => (5 - s4.1.toInt)) (fun s4 ⟨k5, u6⟩ => ?_) 5000 ((0 : Int32), m3) ⟨kq3, (by show 0 ≤ (0 : Int32).toInt ∧ (0 : Int32).toInt ≤ 5; omega)⟩ (by show (5 - (0 : Int32).toInt) < ((5000 : Nat) : Int); omega) (by show 0 ≤ (5 - (0 : Int32).toInt); omega)
    refine gw_le (fun h19_7 => ?_) (fun h19_7 => ?_)
    ·
      refine gw_if ((hh3.of1 k5).1.t (r := 65) rfl) ?_
      refine gw_bV (s_X12_goesBack (hh3.of1 k5)  ) (fun m8 ⟨g8, r8⟩ => ?_)
      have kk8 := k5.trans g8.w11
      refine gw_pI ((hh3.of1 kk8).1.c (r := 65) rfl) (fun m9 em9 => ?_)
      have km9 := kk8.wf em9 (by decide)
      have rm9 := rs.k0 r8 ((km.refl A0 m8).wf em9 (by decide))
      refine gw_if ((hh3.of1 km9).1.t (r := 65) rfl) ?_
      have zz := (hh3.of1 km9).n26
      refine gw_bV (s_X12_ordersFrom (hh3.of1 km9)  (by omega)) (fun m10 g10 => ?_)
      have kk10 := km9.trans g10.w01
      have r10 := rs.k0 rm9 g10
      refine gw_ne (fun h84_11 => ?_) (fun h84_11 => ?_)
      ·
        refine gw_gRa 66 ((hh3.of1 kk10).1.c (r := 65) rfl) ((hh3.of1 kk10).1.r (by decide)) ?_
        refine gw_aI (i := (26 : Int32)) ((hh3.of1 kk10).1.t (r := 66) rfl) ((hh3.of1 kk10).1.l (r := 66) rfl) (by omega) (by omega) (fun v12 ev12 => ?_)
        have bv12 := (hh3.of1 kk10).n26
        have cv12 : v12 = m10.2.1 66 26 := ev12
        have dv12 : v12.toInt = (m10.2.1 66 26).toInt := by rw [cv12]
        have yv12 : v12.toInt = (μ.2.1 66 26).toInt := by rw [dv12, kk10.2.2.2.1 26 (by first | exact fun q => q | (unfold A1; omega)), g3.2.2.1 66 (by decide)]
        refine gw_le (fun h102_13 => ?_) (fun h102_13 => ?_)
        ·
          exact gw_some (gs_inr (gq_I (qm.kp g3 kk10 r10)))
        ·
          refine gw_gRa 73 ((hh3.of1 kk10).1.c (r := 65) rfl) ((hh3.of1 kk10).1.r (by decide)) ?_
          refine gw_aI (i := a1) ((hh3.of1 kk10).1.t (r := 73) rfl) ((hh3.of1 kk10).1.l (r := 73) rfl) (by omega) (by omega) (fun v14 ev14 => ?_)
          exact gw_some (gs_inr (gq_I (qm.kp g3 kk10 r10)))
      ·
        refine gw_gI ((hh3.of1 kk10).1.c (r := 65) rfl) (fun v15 ev15 => ?_)
        exact gw_some (gs_inr (gq_I (qm.kp g3 kk10 r10)))
    ·
      refine gw_loop (fun s16 => km A1 m3 s16.2 ∧ (0 ≤ s16.1.toInt ∧ s16.1.toInt ≤ 5)) (fun s16 => (5 - s16.1.toInt)) (fun s16 ⟨k17, u18⟩ => ?_) 5000 ((0 : Int32), s4.2) ⟨k5, (by show 0 ≤ (0 : Int32).toInt ∧ (0 : Int32).toInt ≤ 5; omega)⟩ (by show (5 - (0 : Int32).toInt) < ((5000 : Nat) : Int); omega) (by show 0 ≤ (5 - (0 : Int32).toInt); omega)
      refine gw_gRa 66 ((hh3.of1 k17).1.c (r := 65) rfl) ((hh3.of1 k17).1.r (by decide)) ?_
      refine gw_aI (i := (26 : Int32)) ((hh3.of1 k17).1.t (r := 66) rfl) ((hh3.of1 k17).1.l (r := 66) rfl) (by omega) (by omega) (fun v19 ev19 => ?_)
      have bv19 := (hh3.of1 k17).n26
      have cv19 : v19 = s16.2.2.1 66 26 := ev19
      have dv19 : v19.toInt = (s16.2.2.1 66 26).toInt := by rw [cv19]
      have yv19 : v19.toInt = (μ.2.1 66 26).toInt := by rw [dv19, k17.2.2.2.1 26 (by first | exact fun q => q | (unfold A1; omega)), g3.2.2.1 66 (by decide)]
      refine gw_le (fun h32_20 => ?_) (fun h32_20 => ?_)
      ·
        refine gw_if ((hh3.of1 k17).1.t (r := 65) rfl) ?_
        refine gw_bV (s_X12_goes (hh3.of1 k17)  ) (fun m21 ⟨g21, f21⟩ => ?_)
        have kk21 := k17.trans g21.w11
        have n22 : (s4.1 + (1 : Int32)).toInt = s4.1.toInt + (1 : Int32).toInt := gx_add (by omega) (by omega)
        exact gw_some (gs_inr (gs_inl ⟨kk21, (by show 0 ≤ (s4.1 + (1 : Int32)).toInt ∧ (s4.1 + (1 : Int32)).toInt ≤ 5; omega)⟩ (by show (5 - (s4.1 + (1 : Int32)).toInt) < (5 - s4.1.toInt); omega) (by show 0 ≤ (5 - (s4.1 + (1 : Int32)).toInt); omega)))
      ·
        refine gw_gRa 71 ((hh3.of1 k17).1.c (r := 65) rfl) ((hh3.of1 k17).1.r (by decide)) ?_
        refine gw_if ((hh3.of1 k17).1.t (r := 65) rfl) ?_
        refine gw_bI (s_X12_holdsOf (hh3.of1 k17)  (by omega)) (fun x23 m23 g23 => ?_)
        have kk23 := k17.trans g23.w01
        have n24 : ((5 : Int32) * s16.1).toInt = 5 * s16.1.toInt := gx_mul 5 rfl (by omega) (by omega)
        have n25 : (((5 : Int32) * s16.1) + s4.1).toInt = ((5 : Int32) * s16.1).toInt + s4.1.toInt := gx_add (by omega) (by omega)
        refine gw_sI (i := (((5 : Int32) * s16.1) + s4.1)) ((hh3.of1 kk23).1.t (r := 71) rfl) ((hh3.of1 kk23).1.l (r := 71) rfl) (by omega) (by omega) (fun m26 em26 => ?_)
        have km26 := kk23.wr em26 (by decide)
        have n27 : (s16.1 + (1 : Int32)).toInt = s16.1.toInt + (1 : Int32).toInt := gx_add (by omega) (by omega)
        exact gw_some (gs_inl ⟨km26, (by show 0 ≤ (s16.1 + (1 : Int32)).toInt ∧ (s16.1 + (1 : Int32)).toInt ≤ 5; omega)⟩ (by show (5 - (s16.1 + (1 : Int32)).toInt) < (5 - s16.1.toInt); omega) (by show 0 ≤ (5 - (s16.1 + (1 : Int32)).toInt); omega))
  ·
    exact gw_some (gq_I (qm.of0 k0))
