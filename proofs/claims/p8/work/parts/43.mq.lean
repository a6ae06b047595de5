set_option maxHeartbeats 1000000 in
theorem s_X12_stretchOf {μ : gm_M} (h : MI μ) {a1 : Int32} (q0 : 0 ≤ a1.toInt ∧ a1.toInt < 5) : gwI (f_X12_stretchOf 65 a1 μ) (fun x m => km A0 μ m) := by
  refine gwI_of ?_
  unfold f_X12_stretchOf
  have l1 : (1 : Int32).toInt = 1 := rfl
  have l30 : (30 : Int32).toInt = 30 := rfl
  have l1000000 : (1000000 : Int32).toInt = 1000000 := rfl
  have k0 := km.refl A0 μ
  refine gw_if ((h.of0 k0).1.t (r := 65) rfl) ?_
  refine gw_bI (s_X12_looks (h.of0 k0)  (by omega)) (fun x1 m1 g1 => ?_)
  have kk1 := k0.trans g1.w00
  refine gw_bI (s_X12_within  ) (fun x2 m2 z2 => ?_)
  replace z2 := z2.symm
  subst z2
  exact gw_some (gq_I kk1)
set_option maxHeartbeats 1000000 in
theorem s_X12_holdsOf {μ : gm_M} (h : MI μ) {a1 : Int32} (q0 : 0 ≤ a1.toInt ∧ a1.toInt < 5) : gwI (f_X12_holdsOf 65 a1 μ) (fun x m => km A0 μ m) := by
  refine gwI_of ?_
  unfold f_X12_holdsOf
  have l0 : (0 : Int32).toInt = 0 := rfl
  have l1 : (1 : Int32).toInt = 1 := rfl
  have l2 : (2 : Int32).toInt = 2 := rfl
  have l5 : (5 : Int32).toInt = 5 := rfl
  have l6 : (6 : Int32).toInt = 6 := rfl
  have l10 : (10 : Int32).toInt = 10 := rfl
  have l11 : (11 : Int32).toInt = 11 := rfl
  have l33 : (33 : Int32).toInt = 33 := rfl
  have l210 : (210 : Int32).toInt = 210 := rfl
  have k0 := km.refl A0 μ
  refine gw_gRa 66 ((h.of0 k0).1.c (r := 65) rfl) ((h.of0 k0).1.r (by decide)) ?_
  have n1 : ((1 : Int32) + a1).toInt = (1 : Int32).toInt + a1.toInt := gx_add (by omega) (by omega)
  refine gw_aI (i := ((1 : Int32) + a1)) ((h.of0 k0).1.t (r := 66) rfl) ((h.of0 k0).1.l (r := 66) rfl) (by omega) (by omega) (fun v2 ev2 => ?_)
  refine gw_if ((h.of0 k0).1.t (r := 65) rfl) ?_
  refine gw_bI (s_X12_stretchOf (h.of0 k0)  (by omega)) (fun x3 m3 g3 => ?_)
  have kk3 := k0.trans g3.w00
  refine gw_gRa 66 ((h.of0 kk3).1.c (r := 65) rfl) ((h.of0 kk3).1.r (by decide)) ?_
  have n4 : ((6 : Int32) + a1).toInt = (6 : Int32).toInt + a1.toInt := gx_add (by omega) (by omega)
  refine gw_aI (i := ((6 : Int32) + a1)) ((h.of0 kk3).1.t (r := 66) rfl) ((h.of0 kk3).1.l (r := 66) rfl) (by omega) (by omega) (fun v5 ev5 => ?_)
  refine gw_gRa 66 ((h.of0 kk3).1.c (r := 65) rfl) ((h.of0 kk3).1.r (by decide)) ?_
  have n6 : ((11 : Int32) + a1).toInt = (11 : Int32).toInt + a1.toInt := gx_add (by omega) (by omega)
  refine gw_aI (i := ((11 : Int32) + a1)) ((h.of0 kk3).1.t (r := 66) rfl) ((h.of0 kk3).1.l (r := 66) rfl) (by omega) (by omega) (fun v7 ev7 => ?_)
  refine gw_dv (by omega) ?_
  refine gw_if ((h.of0 kk3).1.t (r := 65) rfl) ?_
  refine gw_bI (s_X12_tellsOf (h.of0 kk3)  (by omega)) (fun x8 m8 ⟨z8, f8⟩ => ?_)
  replace z8 := z8.symm
  subst z8
  refine gw_bI (s_X12_above  ) (fun x9 m9 z9 => ?_)
  replace z9 := z9.symm
  subst z9
  refine gw_gRa 66 ((h.of0 kk3).1.c (r := 65) rfl) ((h.of0 kk3).1.r (by decide)) ?_
  have n10 : ((33 : Int32) + a1).toInt = (33 : Int32).toInt + a1.toInt := gx_add (by omega) (by omega)
  refine gw_aI (i := ((33 : Int32) + a1)) ((h.of0 kk3).1.t (r := 66) rfl) ((h.of0 kk3).1.l (r := 66) rfl) (by omega) (by omega) (fun v11 ev11 => ?_)
  refine gw_ne (fun h59_12 => ?_) (fun h59_12 => ?_)
  ·
    exact gw_some (gq_I kk3)
  ·
    refine gw_bI (s_X12_above  ) (fun x13 m13 z13 => ?_)
    replace z13 := z13.symm
    subst z13
    exact gw_some (gq_I kk3)
set_option maxHeartbeats 1000000 in
theorem s_X12_allHold {μ : gm_M} (h : MI μ)   : gwI (f_X12_allHold 65 μ) (fun x m => km A0 μ m) := by
  refine gwI_of ?_
  unfold f_X12_allHold
  have l0 : (0 : Int32).toInt = 0 := rfl
  have l1 : (1 : Int32).toInt = 1 := rfl
  have l26 : (26 : Int32).toInt = 26 := rfl
  have k0 := km.refl A0 μ
  refine gw_loop (fun s1 => km A0 μ s1.2.2 ∧ (0 ≤ s1.2.1.toInt ∧ s1.2.1.toInt ≤ 5)) (fun s1 => (5 - s1.2.1.toInt)) (fun s1 ⟨k2, u3⟩ => ?_) 5000 ((0 : Int32), (0 : Int32), μ) ⟨k0, (by show 0 ≤ (0 : Int32).toInt ∧ (0 : Int32).toInt ≤ 5; omega)⟩ (by show (5 - (0 : Int32).toInt) < ((5000 : Nat) : Int); omega) (by show 0 ≤ (5 - (0 : Int32).toInt); omega)
  refine gw_gRa 66 ((h.of0 k2).1.c (r := 65) rfl) ((h.of0 k2).1.r (by decide)) ?_
  refine gw_aI (i := (26 : Int32)) ((h.of0 k2).1.t (r := 66) rfl) ((h.of0 k2).1.l (r := 66) rfl) (by omega) (by omega) (fun v4 ev4 => ?_)
  have bv4 := (h.of0 k2).n26
  have cv4 : v4 = s1.2.2.2.1 66 26 := ev4
  have dv4 : v4.toInt = (s1.2.2.2.1 66 26).toInt := by rw [cv4]
  have yv4 : v4.toInt = (μ.2.1 66 26).toInt := by rw [dv4, k2.2.2.2.1 26 (by first | exact fun q => q | (unfold A0; omega))]
  refine gw_le (fun h12_5 => ?_) (fun h12_5 => ?_)
  ·
    exact gw_some (gs_inr (gq_I k2))
  ·
    refine gw_if ((h.of0 k2).1.t (r := 65) rfl) ?_
    refine gw_bI (s_X12_holdsOf (h.of0 k2)  (by omega)) (fun x6 m6 g6 => ?_)
    have kk6 := k2.trans g6.w00
    have n7 : (s1.2.1 + (1 : Int32)).toInt = s1.2.1.toInt + (1 : Int32).toInt := gx_add (by omega) (by omega)
    exact gw_some (gs_inl ⟨kk6, (by show 0 ≤ (s1.2.1 + (1 : Int32)).toInt ∧ (s1.2.1 + (1 : Int32)).toInt ≤ 5; omega)⟩ (by show (5 - (s1.2.1 + (1 : Int32)).toInt) < (5 - s1.2.1.toInt); omega) (by show 0 ≤ (5 - (s1.2.1 + (1 : Int32)).toInt); omega))
set_option maxHeartbeats 1000000 in
theorem s_X12_goesFor {μ : gm_M} (h : MI μ) {a1 : Int32} (q0 : 0 ≤ a1.toInt ∧ a1.toInt < 5) : gwV (f_X12_goesFor 65 a1 μ) (fun m => km A3 μ m) := by
  refine gwV_of ?_
  unfold f_X12_goesFor
  have l0 : (0 : Int32).toInt = 0 := rfl
  have l1 : (1 : Int32).toInt = 1 := rfl
  have l5 : (5 : Int32).toInt = 5 := rfl
  have l6 : (6 : Int32).toInt = 6 := rfl
  have l11 : (11 : Int32).toInt = 11 := rfl
  have l16 : (16 : Int32).toInt = 16 := rfl
  have l38 : (38 : Int32).toInt = 38 := rfl
  have l99 : (99 : Int32).toInt = 99 := rfl
  have k0 := km.refl A3 μ
  refine gw_gRa 66 ((h.of3 k0).1.c (r := 65) rfl) ((h.of3 k0).1.r (by decide)) ?_
  have n1 : ((16 : Int32) + a1).toInt = (16 : Int32).toInt + a1.toInt := gx_add (by omega) (by omega)
  refine gw_aI (i := ((16 : Int32) + a1)) ((h.of3 k0).1.t (r := 66) rfl) ((h.of3 k0).1.l (r := 66) rfl) (by omega) (by omega) (fun v2 ev2 => ?_)
  refine gw_le (fun h9_3 => ?_) (fun h9_3 => ?_)
  ·
    refine gw_gRa 66 ((h.of3 k0).1.c (r := 65) rfl) ((h.of3 k0).1.r (by decide)) ?_
    have n4 : ((1 : Int32) + a1).toInt = (1 : Int32).toInt + a1.toInt := gx_add (by omega) (by omega)
    refine gw_aI (i := ((1 : Int32) + a1)) ((h.of3 k0).1.t (r := 66) rfl) ((h.of3 k0).1.l (r := 66) rfl) (by omega) (by omega) (fun v5 ev5 => ?_)
    refine gw_le (fun h56_6 => ?_) (fun h56_6 => ?_)
    ·
      refine gw_gRa 66 ((h.of3 k0).1.c (r := 65) rfl) ((h.of3 k0).1.r (by decide)) ?_
      refine gw_gRa 66 ((h.of3 k0).1.c (r := 65) rfl) ((h.of3 k0).1.r (by decide)) ?_
      have n7 : ((11 : Int32) + a1).toInt = (11 : Int32).toInt + a1.toInt := gx_add (by omega) (by omega)
      refine gw_aI (i := ((11 : Int32) + a1)) ((h.of3 k0).1.t (r := 66) rfl) ((h.of3 k0).1.l (r := 66) rfl) (by omega) (by omega) (fun v8 ev8 => ?_)
      refine gw_bI (s_X12_above  ) (fun x9 m9 z9 => ?_)
      replace z9 := z9.symm
      subst z9
      have n10 : ((11 : Int32) + a1).toInt = (11 : Int32).toInt + a1.toInt := gx_add (by omega) (by omega)
      refine gw_sI (i := ((11 : Int32) + a1)) ((h.of3 k0).1.t (r := 66) rfl) ((h.of3 k0).1.l (r := 66) rfl) (by omega) (by omega) (fun m11 em11 => ?_)
      have km11 := k0.ws em11 (by unfold A3; omega)
      exact gw_some (gq_V km11)
    ·
      refine gw_if ((h.of3 k0).1.t (r := 65) rfl) ?_
      refine gw_bI (s_X12_chewsOf (h.of3 k0)  (by omega)) (fun x12 m12 z12 => ?_)
      replace z12 := z12.symm
      subst z12
      refine gw_gRa 66 ((h.of3 k0).1.c (r := 65) rfl) ((h.of3 k0).1.r (by decide)) ?_
      refine gw_gRa 66 ((h.of3 k0).1.c (r := 65) rfl) ((h.of3 k0).1.r (by decide)) ?_
      have n13 : ((11 : Int32) + a1).toInt = (11 : Int32).toInt + a1.toInt := gx_add (by omega) (by omega)
      refine gw_aI (i := ((11 : Int32) + a1)) ((h.of3 k0).1.t (r := 66) rfl) ((h.of3 k0).1.l (r := 66) rfl) (by omega) (by omega) (fun v14 ev14 => ?_)
      refine gw_if ((h.of3 k0).1.t (r := 65) rfl) ?_
      refine gw_bI (s_X12_tiresOf (h.of3 k0)  (by omega)) (fun x15 m15 z15 => ?_)
      replace z15 := z15.symm
      subst z15
      refine gw_bI (s_X12_within  ) (fun x16 m16 z16 => ?_)
      replace z16 := z16.symm
      subst z16
      have n17 : ((11 : Int32) + a1).toInt = (11 : Int32).toInt + a1.toInt := gx_add (by omega) (by omega)
      refine gw_sI (i := ((11 : Int32) + a1)) ((h.of3 k0).1.t (r := 66) rfl) ((h.of3 k0).1.l (r := 66) rfl) (by omega) (by omega) (fun m18 em18 => ?_)
      have km18 := k0.ws em18 (by unfold A3; omega)
      refine gw_gRa 66 ((h.of3 km18).1.c (r := 65) rfl) ((h.of3 km18).1.r (by decide)) ?_
      refine gw_gRa 66 ((h.of3 km18).1.c (r := 65) rfl) ((h.of3 km18).1.r (by decide)) ?_
      have n19 : ((6 : Int32) + a1).toInt = (6 : Int32).toInt + a1.toInt := gx_add (by omega) (by omega)
      refine gw_aI (i := ((6 : Int32) + a1)) ((h.of3 km18).1.t (r := 66) rfl) ((h.of3 km18).1.l (r := 66) rfl) (by omega) (by omega) (fun v20 ev20 => ?_)
      refine gw_bI (s_X12_above  ) (fun x21 m21 z21 => ?_)
      replace z21 := z21.symm
      subst z21
      have n22 : ((6 : Int32) + a1).toInt = (6 : Int32).toInt + a1.toInt := gx_add (by omega) (by omega)
      refine gw_sI (i := ((6 : Int32) + a1)) ((h.of3 km18).1.t (r := 66) rfl) ((h.of3 km18).1.l (r := 66) rfl) (by omega) (by omega) (fun m23 em23 => ?_)
      have km23 := km18.ws em23 (by unfold A3; omega)
      exact gw_some (gq_V km23)
  ·
    refine gw_gRa 66 ((h.of3 k0).1.c (r := 65) rfl) ((h.of3 k0).1.r (by decide)) ?_
    refine gw_gRa 66 ((h.of3 k0).1.c (r := 65) rfl) ((h.of3 k0).1.r (by decide)) ?_
    have n24 : ((16 : Int32) + a1).toInt = (16 : Int32).toInt + a1.toInt := gx_add (by omega) (by omega)
    refine gw_aI (i := ((16 : Int32) + a1)) ((h.of3 k0).1.t (r := 66) rfl) ((h.of3 k0).1.l (r := 66) rfl) (by omega) (by omega) (fun v25 ev25 => ?_)
    refine gw_gRa 66 ((h.of3 k0).1.c (r := 65) rfl) ((h.of3 k0).1.r (by decide)) ?_
    have n26 : ((38 : Int32) + a1).toInt = (38 : Int32).toInt + a1.toInt := gx_add (by omega) (by omega)
    refine gw_aI (i := ((38 : Int32) + a1)) ((h.of3 k0).1.t (r := 66) rfl) ((h.of3 k0).1.l (r := 66) rfl) (by omega) (by omega) (fun v27 ev27 => ?_)
    refine gw_bI (s_X12_above  ) (fun x28 m28 z28 => ?_)
    replace z28 := z28.symm
    subst z28
    have n29 : ((16 : Int32) + a1).toInt = (16 : Int32).toInt + a1.toInt := gx_add (by omega) (by omega)
    refine gw_sI (i := ((16 : Int32) + a1)) ((h.of3 k0).1.t (r := 66) rfl) ((h.of3 k0).1.l (r := 66) rfl) (by omega) (by omega) (fun m30 em30 => ?_)
    have km30 := k0.ws em30 (by unfold A3; omega)
    exact gw_some (gq_V km30)
set_option maxHeartbeats 1000000 in
theorem s_X12_goes {μ : gm_M} (h : MI μ)   : gwV (f_X12_goes 65 μ) (fun m => km A1 μ m ∧ m.2.1 66 0 = μ.2.1 66 0 + 1) := by
  refine gwV_of ?_
  unfold f_X12_goes
  have l0 : (0 : Int32).toInt = 0 := rfl
  have l1 : (1 : Int32).toInt = 1 := rfl
  have l26 : (26 : Int32).toInt = 26 := rfl
  have k0 := km.refl A1 μ
  refine gw_loop (fun s1 => km A1 μ s1.2 ∧ ((0 ≤ s1.1.toInt ∧ s1.1.toInt ≤ 5) ∧ s1.2.2.1 66 0 = μ.2.1 66 0)) (fun s1 => (5 - s1.1.toInt)) (fun s1 ⟨k2, u3⟩ => ?_) 5000 ((0 : Int32), μ) ⟨k0, (by show (0 ≤ (0 : Int32).toInt ∧ (0 : Int32).toInt ≤ 5) ∧ μ.2.1 66 0 = μ.2.1 66 0; exact ⟨by omega, rfl⟩)⟩ (by show (5 - (0 : Int32).toInt) < ((5000 : Nat) : Int); omega) (by show 0 ≤ (5 - (0 : Int32).toInt); omega)
  obtain ⟨uu1, uu2⟩ := u3
  refine gw_gRa 66 ((h.of1 k2).1.c (r := 65) rfl) ((h.of1 k2).1.r (by decide)) ?_
  refine gw_aI (i := (26 : Int32)) ((h.of1 k2).1.t (r := 66) rfl) ((h.of1 k2).1.l (r := 66) rfl) (by omega) (by omega) (fun v4 ev4 => ?_)
  have bv4 := (h.of1 k2).n26
  have cv4 : v4 = s1.2.2.1 66 26 := ev4
  have dv4 : v4.toInt = (s1.2.2.1 66 26).toInt := by rw [cv4]
  have yv4 : v4.toInt = (μ.2.1 66 26).toInt := by rw [dv4, k2.2.2.2.1 26 (by first | exact fun q => q | (unfold A1; omega))]
  refine gw_le (fun h10_5 => ?_) (fun h10_5 => ?_)
  ·
    refine gw_gRa 66 ((h.of1 k2).1.c (r := 65) rfl) ((h.of1 k2).1.r (by decide)) ?_
    refine gw_aI (i := (0 : Int32)) ((h.of1 k2).1.t (r := 66) rfl) ((h.of1 k2).1.l (r := 66) rfl) (by omega) (by omega) (fun v6 ev6 => ?_)
    have ev0 := ev6
    refine gw_sI (i := (0 : Int32)) ((h.of1 k2).1.t (r := 66) rfl) ((h.of1 k2).1.l (r := 66) rfl) (by omega) (by omega) (fun m7 em7 => ?_)
    have km7 := k2.ws em7 (by unfold A1; omega)
    have VAL : m7.2.1 66 0 = μ.2.1 66 0 + 1 := by
      have q : m7.2.1 66 0 = (v6 + (1 : Int32)) := by rw [em7]; show gm_u s1.2.2.1 66 0 (v6 + (1 : Int32)) 66 0 = (v6 + (1 : Int32)); exact gu_eq
      rw [q, ev0]; exact congrArg (· + (1 : Int32)) uu2
    exact gw_some (gs_inr (gq_V ⟨km7, by exact VAL⟩))
  ·
    refine gw_if ((h.of1 k2).1.t (r := 65) rfl) ?_
    refine gw_bV (s_X12_goesFor (h.of1 k2)  (by omega)) (fun m8 g8 => ?_)
    have kk8 := k2.trans g8.w31
    have z0 : m8.2.1 66 0 = μ.2.1 66 0 := (g8.2.2.2.1 0 (by unfold A3; omega)).trans uu2
    have n9 : (s1.1 + (1 : Int32)).toInt = s1.1.toInt + (1 : Int32).toInt := gx_add (by omega) (by omega)
    exact gw_some (gs_inl ⟨kk8, (by show (0 ≤ (s1.1 + (1 : Int32)).toInt ∧ (s1.1 + (1 : Int32)).toInt ≤ 5) ∧ m8.2.1 66 0 = μ.2.1 66 0; exact ⟨by omega, z0⟩)⟩ (by show (5 - (s1.1 + (1 : Int32)).toInt) < (5 - s1.1.toInt); omega) (by show 0 ≤ (5 - (s1.1 + (1 : Int32)).toInt); omega))
set_option maxHeartbeats 1000000 in
theorem s_X12_goesOn {μ : gm_M} (h : MI μ) {a1 : Int32} (q0 : 0 ≤ a1.toInt ∧ a1.toInt ≤ 100) : gwV (f_X12_goesOn 65 a1 μ) (fun m => km A1 μ m ∧ m.2.1 66 0 = itn a1.toInt.toNat (μ.2.1 66 0)) := by
  refine gwV_of ?_
  unfold f_X12_goesOn
  have l0 : (0 : Int32).toInt = 0 := rfl
  have l1 : (1 : Int32).toInt = 1 := rfl
  have k0 := km.refl A1 μ
  refine gw_loop (fun s1 => km A1 μ s1.2 ∧ ((0 ≤ s1.1.toInt ∧ s1.1.toInt ≤ a1.toInt) ∧ s1.2.2.1 66 0 = itn s1.1.toInt.toNat (μ.2.1 66 0))) (fun s1 => (100 - s1.1.toInt)) (fun s1 ⟨k2, u3⟩ => ?_) 5000 ((0 : Int32), μ) ⟨k0, (by show (0 ≤ (0 : Int32).toInt ∧ (0 : Int32).toInt ≤ a1.toInt) ∧ μ.2.1 66 0 = itn (0 : Int32).toInt.toNat (μ.2.1 66 0); exact ⟨by omega, rfl⟩)⟩ (by show (100 - (0 : Int32).toInt) < ((5000 : Nat) : Int); omega) (by show 0 ≤ (100 - (0 : Int32).toInt); omega)
  obtain ⟨uu1, uu2⟩ := u3
  refine gw_le (fun h4_4 => ?_) (fun h4_4 => ?_)
  ·
    exact gw_some (gs_inr (gq_V ⟨k2, by (rw [uu2]; congr 1; omega)⟩))
  ·
    refine gw_if ((h.of1 k2).1.t (r := 65) rfl) ?_
    refine gw_bV (s_X12_goes (h.of1 k2)  ) (fun m5 ⟨g5, f5⟩ => ?_)
    have kk5 := k2.trans g5.w11
    have zf := f5
    have n6 : (s1.1 + (1 : Int32)).toInt = s1.1.toInt + (1 : Int32).toInt := gx_add (by omega) (by omega)
    exact gw_some (gs_inl ⟨kk5, (by show (0 ≤ (s1.1 + (1 : Int32)).toInt ∧ (s1.1 + (1 : Int32)).toInt ≤ a1.toInt) ∧ m5.2.1 66 0 = itn (s1.1 + (1 : Int32)).toInt.toNat (μ.2.1 66 0); exact ⟨by omega, by rw [show (s1.1 + (1 : Int32)).toInt.toNat = s1.1.toInt.toNat + 1 from by omega, zf, uu2]; rfl⟩)⟩ (by show (100 - (s1.1 + (1 : Int32)).toInt) < (100 - s1.1.toInt); omega) (by show 0 ≤ (100 - (s1.1 + (1 : Int32)).toInt); omega))
set_option maxHeartbeats 1000000 in
theorem s_X12_goesAlone {μ : gm_M} (h : MI μ) {a1 : Int32} (q0 : 0 ≤ a1.toInt ∧ a1.toInt < 5) : gwV (f_X12_goesAlone 65 a1 μ) (fun m => km A1 μ m) := by
  refine gwV_of ?_
  unfold f_X12_goesAlone
  have l0 : (0 : Int32).toInt = 0 := rfl
  have l1 : (1 : Int32).toInt = 1 := rfl
  have k0 := km.refl A1 μ
  refine gw_if ((h.of1 k0).1.t (r := 65) rfl) ?_
  refine gw_bV (s_X12_goesFor (h.of1 k0)  (by omega)) (fun m1 g1 => ?_)
  have kk1 := k0.trans g1.w31
  refine gw_gRa 66 ((h.of1 kk1).1.c (r := 65) rfl) ((h.of1 kk1).1.r (by decide)) ?_
  refine gw_aI (i := (0 : Int32)) ((h.of1 kk1).1.t (r := 66) rfl) ((h.of1 kk1).1.l (r := 66) rfl) (by omega) (by omega) (fun v2 ev2 => ?_)
  refine gw_sI (i := (0 : Int32)) ((h.of1 kk1).1.t (r := 66) rfl) ((h.of1 kk1).1.l (r := 66) rfl) (by omega) (by omega) (fun m3 em3 => ?_)
  have km3 := kk1.ws em3 (by unfold A1; omega)
  exact gw_some (gq_V km3)
set_option maxHeartbeats 1000000 in
theorem s_X12_slackOf {μ : gm_M} (h : MI μ) {a1 : Int32} (q0 : 0 ≤ a1.toInt ∧ a1.toInt < 5) : gwI (f_X12_slackOf 65 a1 μ) (fun x m => km A0 μ m) := by
  refine gwI_of ?_
  unfold f_X12_slackOf
  have l16 : (16 : Int32).toInt = 16 := rfl
  have k0 := km.refl A0 μ
  refine gw_if ((h.of0 k0).1.t (r := 65) rfl) ?_
  refine gw_bI (s_X12_holdsOf (h.of0 k0)  (by omega)) (fun x1 m1 g1 => ?_)
  have kk1 := k0.trans g1.w00
  refine gw_gRa 66 ((h.of0 kk1).1.c (r := 65) rfl) ((h.of0 kk1).1.r (by decide)) ?_
  have n2 : ((16 : Int32) + a1).toInt = (16 : Int32).toInt + a1.toInt := gx_add (by omega) (by omega)
  refine gw_aI (i := ((16 : Int32) + a1)) ((h.of0 kk1).1.t (r := 66) rfl) ((h.of0 kk1).1.l (r := 66) rfl) (by omega) (by omega) (fun v3 ev3 => ?_)
  exact gw_some (gq_I kk1)
set_option maxHeartbeats 1000000 in
theorem s_X12_blows {μ : gm_M} (h : MI μ) {a1 : Int32} {a2 : Int32} (q0 : 0 ≤ a1.toInt ∧ a1.toInt < 5) : gwI (f_X12_blows 65 a1 a2 μ) (fun x m => km A3 μ m ∧ (x.toInt = 0 ∨ x.toInt = 1)) := by
  refine gwI_of ?_
  unfold f_X12_blows
  have l0 : (0 : Int32).toInt = 0 := rfl
  have l1 : (1 : Int32).toInt = 1 := rfl
  have l10 : (10 : Int32).toInt = 10 := rfl
  have l16 : (16 : Int32).toInt = 16 := rfl
  have l21 : (21 : Int32).toInt = 21 := rfl
  have l9999 : (9999 : Int32).toInt = 9999 := rfl
  have k0 := km.refl A3 μ
  refine gw_gRa 66 ((h.of3 k0).1.c (r := 65) rfl) ((h.of3 k0).1.r (by decide)) ?_
  have n1 : ((16 : Int32) + a1).toInt = (16 : Int32).toInt + a1.toInt := gx_add (by omega) (by omega)
  refine gw_aI (i := ((16 : Int32) + a1)) ((h.of3 k0).1.t (r := 66) rfl) ((h.of3 k0).1.l (r := 66) rfl) (by omega) (by omega) (fun v2 ev2 => ?_)
  have n3 : ((16 : Int32) + a1).toInt = (16 : Int32).toInt + a1.toInt := gx_add (by omega) (by omega)
  refine gw_sI (i := ((16 : Int32) + a1)) ((h.of3 k0).1.t (r := 66) rfl) ((h.of3 k0).1.l (r := 66) rfl) (by omega) (by omega) (fun m4 em4 => ?_)
  have km4 := k0.ws em4 (by unfold A3; omega)
  refine gw_gRa 66 ((h.of3 km4).1.c (r := 65) rfl) ((h.of3 km4).1.r (by decide)) ?_
  have n5 : ((16 : Int32) + a1).toInt = (16 : Int32).toInt + a1.toInt := gx_add (by omega) (by omega)
  refine gw_aI (i := ((16 : Int32) + a1)) ((h.of3 km4).1.t (r := 66) rfl) ((h.of3 km4).1.l (r := 66) rfl) (by omega) (by omega) (fun v6 ev6 => ?_)
  refine gw_if ((h.of3 km4).1.t (r := 65) rfl) ?_
  refine gw_bI (s_X12_holdsOf (h.of3 km4)  (by omega)) (fun x7 m7 g7 => ?_)
  have kk7 := km4.trans g7.w03
  refine gw_lt (fun h27_8 => ?_) (fun h27_8 => ?_)
  ·
    refine gw_gRa 66 ((h.of3 kk7).1.c (r := 65) rfl) ((h.of3 kk7).1.r (by decide)) ?_
    refine gw_gRa 66 ((h.of3 kk7).1.c (r := 65) rfl) ((h.of3 kk7).1.r (by decide)) ?_
    have n9 : ((21 : Int32) + a1).toInt = (21 : Int32).toInt + a1.toInt := gx_add (by omega) (by omega)
    refine gw_aI (i := ((21 : Int32) + a1)) ((h.of3 kk7).1.t (r := 66) rfl) ((h.of3 kk7).1.l (r := 66) rfl) (by omega) (by omega) (fun v10 ev10 => ?_)
    refine gw_gRa 66 ((h.of3 kk7).1.c (r := 65) rfl) ((h.of3 kk7).1.r (by decide)) ?_
    have n11 : ((16 : Int32) + a1).toInt = (16 : Int32).toInt + a1.toInt := gx_add (by omega) (by omega)
    refine gw_aI (i := ((16 : Int32) + a1)) ((h.of3 kk7).1.t (r := 66) rfl) ((h.of3 kk7).1.l (r := 66) rfl) (by omega) (by omega) (fun v12 ev12 => ?_)
    refine gw_dv (by omega) ?_
    refine gw_bI (s_X12_within  ) (fun x13 m13 z13 => ?_)
    replace z13 := z13.symm
    subst z13
    have n14 : ((21 : Int32) + a1).toInt = (21 : Int32).toInt + a1.toInt := gx_add (by omega) (by omega)
    refine gw_sI (i := ((21 : Int32) + a1)) ((h.of3 kk7).1.t (r := 66) rfl) ((h.of3 kk7).1.l (r := 66) rfl) (by omega) (by omega) (fun m15 em15 => ?_)
    have km15 := kk7.ws em15 (by unfold A3; omega)
    refine gw_gRa 66 ((h.of3 km15).1.c (r := 65) rfl) ((h.of3 km15).1.r (by decide)) ?_
    have n16 : ((16 : Int32) + a1).toInt = (16 : Int32).toInt + a1.toInt := gx_add (by omega) (by omega)
    refine gw_sI (i := ((16 : Int32) + a1)) ((h.of3 km15).1.t (r := 66) rfl) ((h.of3 km15).1.l (r := 66) rfl) (by omega) (by omega) (fun m17 em17 => ?_)
    have km17 := km15.ws em17 (by unfold A3; omega)
    refine gw_z Iff.rfl (by omega) (gq_I ⟨km17, by omega⟩)
  ·
    refine gw_z Iff.rfl (by omega) (gq_I ⟨kk7, by omega⟩)
set_option maxHeartbeats 1000000 in
theorem s_X12_does {μ : gm_M} (h : MI μ) {a1 : Int32} {a2 : Int32} (q0 : 0 ≤ a1.toInt ∧ a1.toInt ≤ 3) (q1 : a1.toInt ≠ 0 → 0 ≤ a2.toInt ∧ a2.toInt < 5) : gwV (f_X12_does 65 a1 a2 μ) (fun m => km A1 μ m) := by
  refine gwV_of ?_
  unfold f_X12_does
  have l0 : (0 : Int32).toInt = 0 := rfl
  have l1 : (1 : Int32).toInt = 1 := rfl
  have l2 : (2 : Int32).toInt = 2 := rfl
  have l6 : (6 : Int32).toInt = 6 := rfl
  have l10 : (10 : Int32).toInt = 10 := rfl
  have l16 : (16 : Int32).toInt = 16 := rfl
  have l999 : (999 : Int32).toInt = 999 := rfl
  have k0 := km.refl A1 μ
  refine gw_eq (fun h1_1 => ?_) (fun h1_1 => ?_)
  ·
    refine gw_if ((h.of1 k0).1.t (r := 65) rfl) ?_
    refine gw_bV (s_X12_goes (h.of1 k0)  ) (fun m2 ⟨g2, f2⟩ => ?_)
    have kk2 := k0.trans g2.w11
    exact gw_some (gq_V kk2)
  ·
    refine gw_eq (fun h1_3 => ?_) (fun h1_3 => ?_)
    ·
      refine gw_gRa 66 ((h.of1 k0).1.c (r := 65) rfl) ((h.of1 k0).1.r (by decide)) ?_
      refine gw_gRa 66 ((h.of1 k0).1.c (r := 65) rfl) ((h.of1 k0).1.r (by decide)) ?_
      have n4 : ((1 : Int32) + a2).toInt = (1 : Int32).toInt + a2.toInt := gx_add (by omega) (by omega)
      refine gw_aI (i := ((1 : Int32) + a2)) ((h.of1 k0).1.t (r := 66) rfl) ((h.of1 k0).1.l (r := 66) rfl) (by omega) (by omega) (fun v5 ev5 => ?_)
      refine gw_bI (s_X12_within  ) (fun x6 m6 z6 => ?_)
      replace z6 := z6.symm
      subst z6
      have n7 : ((1 : Int32) + a2).toInt = (1 : Int32).toInt + a2.toInt := gx_add (by omega) (by omega)
      refine gw_sI (i := ((1 : Int32) + a2)) ((h.of1 k0).1.t (r := 66) rfl) ((h.of1 k0).1.l (r := 66) rfl) (by omega) (by omega) (fun m8 em8 => ?_)
      have km8 := k0.ws em8 (by unfold A1; omega)
      refine gw_gRa 66 ((h.of1 km8).1.c (r := 65) rfl) ((h.of1 km8).1.r (by decide)) ?_
      refine gw_gRa 66 ((h.of1 km8).1.c (r := 65) rfl) ((h.of1 km8).1.r (by decide)) ?_
      have n9 : ((6 : Int32) + a2).toInt = (6 : Int32).toInt + a2.toInt := gx_add (by omega) (by omega)
      refine gw_aI (i := ((6 : Int32) + a2)) ((h.of1 km8).1.t (r := 66) rfl) ((h.of1 km8).1.l (r := 66) rfl) (by omega) (by omega) (fun v10 ev10 => ?_)
      refine gw_if ((h.of1 km8).1.t (r := 65) rfl) ?_
      refine gw_bI (s_X12_sweetNow (h.of1 km8)  ) (fun x11 m11 z11 => ?_)
      replace z11 := z11.symm
      subst z11
      refine gw_bI (s_X12_within  ) (fun x12 m12 z12 => ?_)
      replace z12 := z12.symm
      subst z12
      have n13 : ((6 : Int32) + a2).toInt = (6 : Int32).toInt + a2.toInt := gx_add (by omega) (by omega)
      refine gw_sI (i := ((6 : Int32) + a2)) ((h.of1 km8).1.t (r := 66) rfl) ((h.of1 km8).1.l (r := 66) rfl) (by omega) (by omega) (fun m14 em14 => ?_)
      have km14 := km8.ws em14 (by unfold A1; omega)
      exact gw_some (gq_V km14)
    ·
      refine gw_eq (fun h1_15 => ?_) (fun h1_15 => ?_)
      ·
        refine gw_gRa 66 ((h.of1 k0).1.c (r := 65) rfl) ((h.of1 k0).1.r (by decide)) ?_
        have n16 : ((1 : Int32) + a2).toInt = (1 : Int32).toInt + a2.toInt := gx_add (by omega) (by omega)
        refine gw_sI (i := ((1 : Int32) + a2)) ((h.of1 k0).1.t (r := 66) rfl) ((h.of1 k0).1.l (r := 66) rfl) (by omega) (by omega) (fun m17 em17 => ?_)
        have km17 := k0.ws em17 (by unfold A1; omega)
        refine gw_gRa 66 ((h.of1 km17).1.c (r := 65) rfl) ((h.of1 km17).1.r (by decide)) ?_
        have n18 : ((6 : Int32) + a2).toInt = (6 : Int32).toInt + a2.toInt := gx_add (by omega) (by omega)
        refine gw_sI (i := ((6 : Int32) + a2)) ((h.of1 km17).1.t (r := 66) rfl) ((h.of1 km17).1.l (r := 66) rfl) (by omega) (by omega) (fun m19 em19 => ?_)
        have km19 := km17.ws em19 (by unfold A1; omega)
        refine gw_gRa 66 ((h.of1 km19).1.c (r := 65) rfl) ((h.of1 km19).1.r (by decide)) ?_
        have n20 : ((16 : Int32) + a2).toInt = (16 : Int32).toInt + a2.toInt := gx_add (by omega) (by omega)
        refine gw_sI (i := ((16 : Int32) + a2)) ((h.of1 km19).1.t (r := 66) rfl) ((h.of1 km19).1.l (r := 66) rfl) (by omega) (by omega) (fun m21 em21 => ?_)
        have km21 := km19.ws em21 (by unfold A1; omega)
        exact gw_some (gq_V km21)
      ·
        refine gw_gRa 66 ((h.of1 k0).1.c (r := 65) rfl) ((h.of1 k0).1.r (by decide)) ?_
        have n22 : ((1 : Int32) + a2).toInt = (1 : Int32).toInt + a2.toInt := gx_add (by omega) (by omega)
        refine gw_aI (i := ((1 : Int32) + a2)) ((h.of1 k0).1.t (r := 66) rfl) ((h.of1 k0).1.l (r := 66) rfl) (by omega) (by omega) (fun v23 ev23 => ?_)
        refine gw_le (fun h132_24 => ?_) (fun h132_24 => ?_)
        ·
          exact gw_some (gq_V k0)
        ·
          refine gw_if ((h.of1 k0).1.t (r := 65) rfl) ?_
          refine gw_bI (s_X12_blows (h.of1 k0)  (by omega)) (fun x25 m25 ⟨g25, f25⟩ => ?_)
          have kk25 := k0.trans g25.w31
          exact gw_some (gq_V kk25)
set_option maxHeartbeats 1000000 in
theorem s_X12_looksForWhen {μ : gm_M} (h : MI μ) {a1 : Int32} (q0 : 0 ≤ a1.toInt ∧ a1.toInt < 5) : gwV (f_X12_looksForWhen 65 a1 μ) (fun m => km A1 μ m ∧ rs m) := by
  refine gwV_of ?_
  unfold f_X12_looksForWhen
  have lm1 : (-1 : Int32).toInt = -1 := rfl
  have l0 : (0 : Int32).toInt = 0 := rfl
  have l1 : (1 : Int32).toInt = 1 := rfl
  have l60 : (60 : Int32).toInt = 60 := rfl
  have k0 := km.refl A1 μ
  refine gw_pI ((h.of1 k0).1.c (r := 65) rfl) (fun m1 em1 => ?_)
  have km1 := k0.wf em1 (by decide)
  refine gw_pI ((h.of1 km1).1.c (r := 65) rfl) (fun m2 em2 => ?_)
  have km2 := km1.wf em2 (by decide)
  refine gw_loop (fun s3 => km A1 μ s3.2 ∧ (0 ≤ s3.1.toInt ∧ s3.1.toInt ≤ 61)) (fun s3 => (61 - s3.1.toInt)) (fun s3 ⟨k4, u5⟩ => ?_) 5000 ((0 : Int32), m2) ⟨km2, (by show 0 ≤ (0 : Int32).toInt ∧ (0 : Int32).toInt ≤ 61; omega)⟩ (by show (61 - (0 : Int32).toInt) < ((5000 : Nat) : Int); omega) (by show 0 ≤ (61 - (0 : Int32).toInt); omega)
  refine gw_lt (fun h15_6 => ?_) (fun h15_6 => ?_)
  ·
    refine gw_if ((h.of1 k4).1.t (r := 65) rfl) ?_
    refine gw_bV (s_X12_goesBack (h.of1 k4)  ) (fun m7 ⟨g7, r7⟩ => ?_)
    have kk7 := k4.trans g7.w11
    exact gw_some (gs_inr (gq_V ⟨kk7, r7⟩))
  ·
    refine gw_if ((h.of1 k4).1.t (r := 65) rfl) ?_
    refine gw_bI (s_X12_holdsOf (h.of1 k4)  (by omega)) (fun x8 m8 g8 => ?_)
    have kk8 := k4.trans g8.w01
    refine gw_gI ((h.of1 kk8).1.c (r := 65) rfl) (fun v9 ev9 => ?_)
    refine gw_j (fun s10 => True) (fun s10 _ => ?_) (fun j11 hj11 => ?_)
    ·
      refine gw_pI ((h.of1 kk8).1.c (r := 65) rfl) (fun m12 em12 => ?_)
      have km12 := kk8.wf em12 (by decide)
      refine gw_gI ((h.of1 km12).1.c (r := 65) rfl) (fun v13 ev13 => ?_)
      refine gw_j (fun s14 => True) (fun s14 _ => ?_) (fun j15 hj15 => ?_)
      ·
        refine gw_pI ((h.of1 km12).1.c (r := 65) rfl) (fun m16 em16 => ?_)
        have km16 := km12.wf em16 (by decide)
        refine gw_if ((h.of1 km16).1.t (r := 65) rfl) ?_
        refine gw_bV (s_X12_goesAlone (h.of1 km16)  (by omega)) (fun m17 g17 => ?_)
        have kk17 := km16.trans g17.w11
        have n18 : (s3.1 + (1 : Int32)).toInt = s3.1.toInt + (1 : Int32).toInt := gx_add (by omega) (by omega)
        exact gw_some (gs_inl ⟨kk17, (by show 0 ≤ (s3.1 + (1 : Int32)).toInt ∧ (s3.1 + (1 : Int32)).toInt ≤ 61; omega)⟩ (by show (61 - (s3.1 + (1 : Int32)).toInt) < (61 - s3.1.toInt); omega) (by show 0 ≤ (61 - (s3.1 + (1 : Int32)).toInt); omega))
      ·
        refine gw_le (fun h50_19 => ?_) (fun h50_19 => ?_)
        ·
          refine gw_gI ((h.of1 km12).1.c (r := 65) rfl) (fun v20 ev20 => ?_)
          exact hj15 _ trivial
        ·
          exact hj15 _ trivial
    ·
      refine gw_le (fun h30_21 => ?_) (fun h30_21 => ?_)
      ·
        refine gw_gI ((h.of1 kk8).1.c (r := 65) rfl) (fun v22 ev22 => ?_)
        exact hj11 _ trivial
      ·
        exact hj11 _ trivial
set_option maxHeartbeats 1000000 in
theorem s_X12_isAsSeen {μ : gm_M} (h : MI μ) {a1 : Int32}  : gwI (f_X12_isAsSeen 65 a1 μ) (fun x m => km A0 μ m ∧ (x.toInt = 0 ∨ x.toInt = 1)) := by
  refine gwI_of ?_
  unfold f_X12_isAsSeen
  have l0 : (0 : Int32).toInt = 0 := rfl
  have l1 : (1 : Int32).toInt = 1 := rfl
  have l28 : (28 : Int32).toInt = 28 := rfl
  have l63 : (63 : Int32).toInt = 63 := rfl
  have l68 : (68 : Int32).toInt = 68 := rfl
  have l73 : (73 : Int32).toInt = 73 := rfl
  have k0 := km.refl A0 μ
  refine gw_loop (fun s1 => km A0 μ s1.2.2 ∧ ((0 ≤ s1.2.1.toInt ∧ s1.2.1.toInt ≤ 5) ∧ (s1.1.toInt = 0 ∨ s1.1.toInt = 1))) (fun s1 => (5 - s1.2.1.toInt)) (fun s1 ⟨k2, u3⟩ => ?_) 5000 ((1 : Int32), (0 : Int32), μ) ⟨k0, (by show (0 ≤ (0 : Int32).toInt ∧ (0 : Int32).toInt ≤ 5) ∧ ((1 : Int32).toInt = 0 ∨ (1 : Int32).toInt = 1); omega)⟩ (by show (5 - (0 : Int32).toInt) < ((5000 : Nat) : Int); omega) (by show 0 ≤ (5 - (0 : Int32).toInt); omega)
  refine gw_gRa 66 ((h.of0 k2).1.c (r := 65) rfl) ((h.of0 k2).1.r (by decide)) ?_
  refine gw_aI (i := (28 : Int32)) ((h.of0 k2).1.t (r := 66) rfl) ((h.of0 k2).1.l (r := 66) rfl) (by omega) (by omega) (fun v4 ev4 => ?_)
  have bv4 := (h.of0 k2).n28
  have cv4 : v4 = s1.2.2.2.1 66 28 := ev4
  have dv4 : v4.toInt = (s1.2.2.2.1 66 28).toInt := by rw [cv4]
  have yv4 : v4.toInt = (μ.2.1 66 28).toInt := by rw [dv4, k2.2.2.2.1 28 (by first | exact fun q => q | (unfold A0; omega))]
  refine gw_le (fun h12_5 => ?_) (fun h12_5 => ?_)
  ·
    refine gw_z Iff.rfl (by omega) (gs_inr (gq_I ⟨k2, by omega⟩))
  ·
    refine gw_eq (fun h16_6 => ?_) (fun h16_6 => ?_)
    ·
      refine gw_z Iff.rfl (by omega) (gs_inr (gq_I ⟨k2, by omega⟩))
    ·
      refine gw_gRa 66 ((h.of0 k2).1.c (r := 65) rfl) ((h.of0 k2).1.r (by decide)) ?_
      have n7 : ((73 : Int32) + s1.2.1).toInt = (73 : Int32).toInt + s1.2.1.toInt := gx_add (by omega) (by omega)
      refine gw_aI (i := ((73 : Int32) + s1.2.1)) ((h.of0 k2).1.t (r := 66) rfl) ((h.of0 k2).1.l (r := 66) rfl) (by omega) (by omega) (fun v8 ev8 => ?_)
      refine gw_j (fun s9 => km A0 μ s9.2 ∧ (s9.1.toInt = 0 ∨ s9.1.toInt = 1)) (fun s9 ⟨k11, u12⟩ => ?_) (fun j10 hj10 => ?_)
      ·
        have n13 : (s1.2.1 + (1 : Int32)).toInt = s1.2.1.toInt + (1 : Int32).toInt := gx_add (by omega) (by omega)
        exact gw_some (gs_inl ⟨k11, (by show (0 ≤ (s1.2.1 + (1 : Int32)).toInt ∧ (s1.2.1 + (1 : Int32)).toInt ≤ 5) ∧ (s9.1.toInt = 0 ∨ s9.1.toInt = 1); omega)⟩ (by show (5 - (s1.2.1 + (1 : Int32)).toInt) < (5 - s1.2.1.toInt); omega) (by show 0 ≤ (5 - (s1.2.1 + (1 : Int32)).toInt); omega))
      ·
        refine gw_j (fun s14 => km A0 μ s14) (fun s14 k16 => ?_) (fun j15 hj15 => ?_)
        ·
          exact hj10 _ ⟨k16, (by show (1 : Int32).toInt = 0 ∨ (1 : Int32).toInt = 1; omega)⟩
        ·
          refine gw_ne (fun h29_17 => ?_) (fun h29_17 => ?_)
          ·
            exact hj15 _ k2
          ·
            refine gw_gRa 66 ((h.of0 k2).1.c (r := 65) rfl) ((h.of0 k2).1.r (by decide)) ?_
            have n18 : ((63 : Int32) + s1.2.1).toInt = (63 : Int32).toInt + s1.2.1.toInt := gx_add (by omega) (by omega)
            refine gw_aI (i := ((63 : Int32) + s1.2.1)) ((h.of0 k2).1.t (r := 66) rfl) ((h.of0 k2).1.l (r := 66) rfl) (by omega) (by omega) (fun v19 ev19 => ?_)
            have yv19 := (h.of0 k2).seen ((63 : Int32) + s1.2.1).toInt.toNat (by omega) (by omega)
            rw [← ev19] at yv19
            refine gw_if ((h.of0 k2).1.t (r := 65) rfl) ?_
            refine gw_bI (s_X12_holdsOf (h.of0 k2)  (by omega)) (fun x20 m20 g20 => ?_)
            have kk20 := k2.trans g20.w00
            refine gw_gRa 66 ((h.of0 kk20).1.c (r := 65) rfl) ((h.of0 kk20).1.r (by decide)) ?_
            have n21 : ((68 : Int32) + s1.2.1).toInt = (68 : Int32).toInt + s1.2.1.toInt := gx_add (by omega) (by omega)
            refine gw_aI (i := ((68 : Int32) + s1.2.1)) ((h.of0 kk20).1.t (r := 66) rfl) ((h.of0 kk20).1.l (r := 66) rfl) (by omega) (by omega) (fun v22 ev22 => ?_)
            refine gw_ne (fun h54_23 => ?_) (fun h54_23 => ?_)
            ·
              exact hj10 _ ⟨kk20, (by show (0 : Int32).toInt = 0 ∨ (0 : Int32).toInt = 1; omega)⟩
            ·
              exact hj15 _ kk20
set_option maxHeartbeats 1000000 in
theorem s_X12_areAsSeen {μ : gm_M} (h : MI μ)   : gwI (f_X12_areAsSeen 65 μ) (fun x m => km A1 μ m ∧ rs m ∧ (x.toInt = 0 ∨ x.toInt = 1)) := by
  refine gwI_of ?_
  unfold f_X12_areAsSeen
  have l0 : (0 : Int32).toInt = 0 := rfl
  have l1 : (1 : Int32).toInt = 1 := rfl
  have l20 : (20 : Int32).toInt = 20 := rfl
  have k0 := km.refl A1 μ
  refine gw_loop (fun s1 => km A1 μ s1.2.2 ∧ ((0 ≤ s1.2.1.toInt ∧ s1.2.1.toInt ≤ 21) ∧ (s1.1.toInt = 0 ∨ s1.1.toInt = 1))) (fun s1 => (21 - s1.2.1.toInt)) (fun s1 ⟨k2, u3⟩ => ?_) 5000 ((1 : Int32), (0 : Int32), μ) ⟨k0, (by show (0 ≤ (0 : Int32).toInt ∧ (0 : Int32).toInt ≤ 21) ∧ ((1 : Int32).toInt = 0 ∨ (1 : Int32).toInt = 1); omega)⟩ (by show (21 - (0 : Int32).toInt) < ((5000 : Nat) : Int); omega) (by show 0 ≤ (21 - (0 : Int32).toInt); omega)
  refine gw_j (fun s4 => True) (fun s4 _ => ?_) (fun j5 hj5 => ?_)
  ·
    refine gw_if ((h.of1 k2).1.t (r := 65) rfl) ?_
    refine gw_bV (s_X12_goesBack (h.of1 k2)  ) (fun m6 ⟨g6, r6⟩ => ?_)
    have kk6 := k2.trans g6.w11
    refine gw_z Iff.rfl (by omega) (gs_inr (gq_I ⟨kk6, r6, by omega⟩))
  ·
    refine gw_lt (fun h7_7 => ?_) (fun h7_7 => ?_)
    ·
      exact hj5 _ trivial
    ·
      refine gw_eq (fun h11_8 => ?_) (fun h11_8 => ?_)
      ·
        exact hj5 _ trivial
      ·
        refine gw_if ((h.of1 k2).1.t (r := 65) rfl) ?_
        refine gw_bI (s_X12_isAsSeen (h.of1 k2)  ) (fun x9 m9 ⟨g9, f9⟩ => ?_)
        have kk9 := k2.trans g9.w01
        refine gw_if ((h.of1 kk9).1.t (r := 65) rfl) ?_
        refine gw_bV (s_X12_goes (h.of1 kk9)  ) (fun m10 ⟨g10, f10⟩ => ?_)
        have kk10 := kk9.trans g10.w11
        have n11 : (s1.2.1 + (1 : Int32)).toInt = s1.2.1.toInt + (1 : Int32).toInt := gx_add (by omega) (by omega)
        exact gw_some (gs_inl ⟨kk10, (by show (0 ≤ (s1.2.1 + (1 : Int32)).toInt ∧ (s1.2.1 + (1 : Int32)).toInt ≤ 21) ∧ (x9.toInt = 0 ∨ x9.toInt = 1); omega)⟩ (by show (21 - (s1.2.1 + (1 : Int32)).toInt) < (21 - s1.2.1.toInt); omega) (by show 0 ≤ (21 - (s1.2.1 + (1 : Int32)).toInt); omega))
