set_option maxHeartbeats 1000000 in
theorem s_X0_next {μ : gm_M} {a0 : Nat} (h : RI a0 μ)  : gwI (f_X0_next a0 μ) (fun x m => m = μ ∧ (x.toInt = -1 ∨ (μ.2.1 a0 9).toInt < (μ.2.1 a0 8).toInt)) := by
  refine gwI_of ?_
  unfold f_X0_next
  have lm1 : (-1 : Int32).toInt = -1 := rfl
  have l0 : (0 : Int32).toInt = 0 := rfl
  refine gw_gI h.tc (fun v1 ev1 => ?_)
  have bbv1 := (RR.refl h).b8
  have bv1 := (RR.refl h).b9
  have dv1 : v1.toInt = (μ.2.1 a0 9).toInt := by rw [ev1]
  refine gw_lt (fun h4_2 => ?_) (fun h4_2 => ?_)
  ·
    exact gw_some (gq_I ⟨rfl, by omega⟩)
  ·
    refine gw_gI h.tc (fun v3 ev3 => ?_)
    have bbv3 := (RR.refl h).b8
    have bv3 := (RR.refl h).b9
    have dv3 : v3.toInt = (μ.2.1 a0 9).toInt := by rw [ev3]
    refine gw_gI h.tc (fun v4 ev4 => ?_)
    have bv4 := (RR.refl h).b8
    have dv4 : v4.toInt = (μ.2.1 a0 8).toInt := (congrArg Int32.toInt ev4).trans rfl
    refine gw_le (fun h15_5 => ?_) (fun h15_5 => ?_)
    ·
      exact gw_some (gq_I ⟨rfl, by omega⟩)
    ·
      refine gw_gRa 17 h.tc h.r7 ?_
      refine gw_gI h.tc (fun v6 ev6 => ?_)
      have bbv6 := (RR.refl h).b8
      have bv6 := (RR.refl h).b9
      have dv6 : v6.toInt = (μ.2.1 a0 9).toInt := by rw [ev6]
      refine gw_aI (i := v6) (h.1.t (r := 17) rfl) (h.1.l (r := 17) rfl) (by omega) (by omega) (fun v7 ev7 => ?_)
      exact gw_some (gq_I ⟨rfl, by omega⟩)
set_option maxHeartbeats 1000000 in
theorem s_X0_put {μ : gm_M} {a0 : Nat} {a1 : Int32} (h : RI a0 μ)  : gwV (f_X0_put a0 a1 μ) (fun m => RR a0 μ m) := by
  refine gwV_of ?_
  unfold f_X0_put
  have l1 : (1 : Int32).toInt = 1 := rfl
  have l100 : (100 : Int32).toInt = 100 := rfl
  have k0 := RR.refl h
  refine gw_gI k0.ri.tc (fun v1 ev1 => ?_)
  have bv1 := k0.b6
  have dv1 : v1.toInt = (μ.2.1 a0 6).toInt := by rw [ev1]
  refine gw_lt (fun h6_2 => ?_) (fun h6_2 => ?_)
  ·
    refine gw_gRa (a0 + 3) k0.ri.tc k0.ri.r3 ?_
    refine gw_gI k0.ri.tc (fun v3 ev3 => ?_)
    have bv3 := k0.b6
    have dv3 : v3.toInt = (μ.2.1 a0 6).toInt := by rw [ev3]
    refine gw_sI (i := v3) k0.ri.t3 k0.ri.l3 (by omega) (by omega) (fun m4 em4 => ?_)
    have km4 := k0.wa em4 (Or.inr (Or.inl rfl))
    have pm4 : ∀ j : Nat, m4.2.1 a0 j = μ.2.1 a0 j := fun j => by rw [rdo em4 (by omega)]
    refine gw_gI km4.ri.tc (fun v5 ev5 => ?_)
    have bv5 := km4.b6
    have dv5 : v5.toInt = (m4.2.1 a0 6).toInt := by rw [ev5]
    have dv5_1 : v5.toInt = (μ.2.1 a0 6).toInt := by rw [dv5, pm4 6]
    have n6 : (v5 + (1 : Int32)).toInt = v5.toInt + (1 : Int32).toInt := gx_add (by omega) (by omega)
    refine gw_pI km4.ri.tc (fun m7 em7 => ?_)
    have km7 := km4.w em7 (by decide) (by intro q; exact absurd q (by decide)) (by intro _; omega) (by intro q; exact absurd q (by decide))
    exact gw_some (gq_V km7)
  ·
    exact gw_some (gq_V k0)
set_option maxHeartbeats 1000000 in
theorem s_X0_addChange {μ : gm_M} {a0 : Nat} {a1 : Int32} (h : RI a0 μ)  : gwV (f_X0_addChange a0 a1 μ) (fun m => RR a0 μ m) := by
  refine gwV_of ?_
  unfold f_X0_addChange
  have l1 : (1 : Int32).toInt = 1 := rfl
  have l10 : (10 : Int32).toInt = 10 := rfl
  have k0 := RR.refl h
  refine gw_gI k0.ri.tc (fun v1 ev1 => ?_)
  have bv1 := k0.b2
  have dv1 : v1.toInt = (μ.2.1 a0 2).toInt := by rw [ev1]
  refine gw_lt (fun h6_2 => ?_) (fun h6_2 => ?_)
  ·
    refine gw_gRa (a0 + 1) k0.ri.tc k0.ri.r1 ?_
    refine gw_gI k0.ri.tc (fun v3 ev3 => ?_)
    have bv3 := k0.b2
    have dv3 : v3.toInt = (μ.2.1 a0 2).toInt := by rw [ev3]
    refine gw_sI (i := v3) k0.ri.t1 k0.ri.l1 (by omega) (by omega) (fun m4 em4 => ?_)
    have km4 := k0.wa em4 (Or.inl rfl)
    have pm4 : ∀ j : Nat, m4.2.1 a0 j = μ.2.1 a0 j := fun j => by rw [rdo em4 (by omega)]
    refine gw_gRa (a0 + 2) km4.ri.tc km4.ri.r2 ?_
    refine gw_gI km4.ri.tc (fun v5 ev5 => ?_)
    have bv5 := km4.b2
    have dv5 : v5.toInt = (m4.2.1 a0 2).toInt := by rw [ev5]
    have dv5_1 : v5.toInt = (μ.2.1 a0 2).toInt := by rw [dv5, pm4 2]
    refine gw_gI km4.ri.tc (fun v6 ev6 => ?_)
    have bv6 := km4.b6
    have dv6 : v6.toInt = (m4.2.1 a0 6).toInt := by rw [ev6]
    have dv6_1 : v6.toInt = (μ.2.1 a0 6).toInt := by rw [dv6, pm4 6]
    refine gw_sI (i := v5) km4.ri.t2 km4.ri.l2 (by omega) (by omega) (fun m7 em7 => ?_)
    have km7 := km4.wa em7 (Or.inr (Or.inr ⟨rfl, by omega, by omega⟩))
    have pm7 : ∀ j : Nat, m7.2.1 a0 j = m4.2.1 a0 j := fun j => by rw [rdo em7 (by omega)]
    refine gw_gI km7.ri.tc (fun v8 ev8 => ?_)
    have bv8 := km7.b2
    have dv8 : v8.toInt = (m7.2.1 a0 2).toInt := by rw [ev8]
    have dv8_1 : v8.toInt = (m4.2.1 a0 2).toInt := by rw [dv8, pm7 2]
    have dv8_2 : v8.toInt = (μ.2.1 a0 2).toInt := by rw [dv8_1, pm4 2]
    have n9 : (v8 + (1 : Int32)).toInt = v8.toInt + (1 : Int32).toInt := gx_add (by omega) (by omega)
    refine gw_pI km7.ri.tc (fun m10 em10 => ?_)
    have km10 := km7.w em10 (by decide) (by intro q; exact absurd q (by decide)) (by intro q; exact absurd q (by decide)) (by intro _; omega)
    exact gw_some (gq_V km10)
  ·
    exact gw_some (gq_V k0)
set_option maxHeartbeats 1000000 in
theorem s_X0_take {μ : gm_M} {a0 : Nat} {a1 : Int32} (h : RI a0 μ) (q0 : 0 ≤ a1.toInt) : gwI (f_X0_take a0 a1 μ) (fun x m => RR a0 μ m ∧ (x.toInt = 0 ∨ x.toInt = 1)) := by
  refine gwI_of ?_
  unfold f_X0_take
  have l0 : (0 : Int32).toInt = 0 := rfl
  have l1 : (1 : Int32).toInt = 1 := rfl
  have k0 := RR.refl h
  refine gw_if k0.ri.t ?_
  refine gw_bI (s_X0_next k0.ri ) (fun x1 m1 ⟨z1, f1⟩ => ?_)
  replace z1 := z1.symm
  subst z1
  have z8_1 : (μ.2.1 a0 8).toInt = (μ.2.1 a0 8).toInt := k0.s8
  refine gw_eq (fun h5_2 => ?_) (fun h5_2 => ?_)
  ·
    refine gw_gI k0.ri.tc (fun v3 ev3 => ?_)
    have bbv3 := k0.b8
    have bv3 := k0.b9
    have dv3 : v3.toInt = (μ.2.1 a0 9).toInt := by rw [ev3]
    have n4 : (v3 + (1 : Int32)).toInt = v3.toInt + (1 : Int32).toInt := gx_add (by omega) (by omega)
    refine gw_pI k0.ri.tc (fun m5 em5 => ?_)
    have km5 := k0.w em5 (by decide) (by intro _; omega) (by intro q; exact absurd q (by decide)) (by intro q; exact absurd q (by decide))
    refine gw_z Iff.rfl (by omega) (gq_I ⟨km5, by omega⟩)
  ·
    refine gw_z Iff.rfl (by omega) (gq_I ⟨k0, by omega⟩)
set_option maxHeartbeats 1000000 in
theorem s_X0_readNumber {μ : gm_M} {a0 : Nat} (h : RI a0 μ)  : gwI (f_X0_readNumber a0 μ) (fun x m => RR a0 μ m) := by
  refine gwI_of ?_
  unfold f_X0_readNumber
  have lm1 : (-1 : Int32).toInt = -1 := rfl
  have l1 : (1 : Int32).toInt = 1 := rfl
  have l10 : (10 : Int32).toInt = 10 := rfl
  have l48 : (48 : Int32).toInt = 48 := rfl
  have l57 : (57 : Int32).toInt = 57 := rfl
  have k0 := RR.refl h
  refine gw_if k0.ri.t ?_
  refine gw_bI (s_X0_next k0.ri ) (fun x1 m1 ⟨z1, f1⟩ => ?_)
  replace z1 := z1.symm
  subst z1
  have z8_1 : (μ.2.1 a0 8).toInt = (μ.2.1 a0 8).toInt := k0.s8
  refine gw_lt (fun h8_2 => ?_) (fun h8_2 => ?_)
  ·
    exact gw_some (gq_I k0)
  ·
    refine gw_le (fun h14_3 => ?_) (fun h14_3 => ?_)
    ·
      refine gw_gI k0.ri.tc (fun v4 ev4 => ?_)
      have bbv4 := k0.b8
      have bv4 := k0.b9
      have dv4 : v4.toInt = (μ.2.1 a0 9).toInt := by rw [ev4]
      have n5 : (v4 + (1 : Int32)).toInt = v4.toInt + (1 : Int32).toInt := gx_add (by omega) (by omega)
      refine gw_pI k0.ri.tc (fun m6 em6 => ?_)
      have km6 := k0.w em6 (by decide) (by intro _; omega) (by intro q; exact absurd q (by decide)) (by intro q; exact absurd q (by decide))
      refine gw_if km6.ri.t ?_
      refine gw_bI (s_X0_next km6.ri ) (fun x7 m7 ⟨z7, f7⟩ => ?_)
      replace z7 := z7.symm
      subst z7
      have z8_7 : (m6.2.1 a0 8).toInt = (μ.2.1 a0 8).toInt := km6.s8
      refine gw_ji ?_
      refine gw_eq (fun h37_8 => ?_) (fun h37_8 => ?_)
      ·
        exact gw_some (gq_I km6)
      ·
        refine gw_lt (fun h43_9 => ?_) (fun h43_9 => ?_)
        ·
          exact gw_some (gq_I km6)
        ·
          refine gw_le (fun h49_10 => ?_) (fun h49_10 => ?_)
          ·
            refine gw_gI km6.ri.tc (fun v11 ev11 => ?_)
            have bbv11 := km6.b8
            have bv11 := km6.b9
            have dv11 : v11.toInt = (m6.2.1 a0 9).toInt := by rw [ev11]
            have n12 : (v11 + (1 : Int32)).toInt = v11.toInt + (1 : Int32).toInt := gx_add (by omega) (by omega)
            refine gw_pI km6.ri.tc (fun m13 em13 => ?_)
            have km13 := km6.w em13 (by decide) (by intro _; omega) (by intro q; exact absurd q (by decide)) (by intro q; exact absurd q (by decide))
            exact gw_some (gq_I km13)
          ·
            exact gw_some (gq_I km6)
    ·
      exact gw_some (gq_I k0)
set_option maxHeartbeats 1000000 in
theorem s_X0_readOneOf {μ : gm_M} {a0 : Nat} {a1 : UInt32} (h : RI a0 μ) (q0 : gm_isS a1) : gwI (f_X0_readOneOf a0 a1 μ) (fun x m => RR a0 μ m ∧ (-1 ≤ x.toInt ∧ x.toInt < 6)) := by
  refine gwI_of ?_
  unfold f_X0_readOneOf
  have lm1 : (-1 : Int32).toInt = -1 := rfl
  have l0 : (0 : Int32).toInt = 0 := rfl
  have l1 : (1 : Int32).toInt = 1 := rfl
  have k0 := RR.refl h
  refine gw_gI k0.ri.tc (fun v1 ev1 => ?_)
  have bbv1 := k0.b8
  have bv1 := k0.b9
  have dv1 : v1.toInt = (μ.2.1 a0 9).toInt := by rw [ev1]
  refine gw_gI k0.ri.tc (fun v2 ev2 => ?_)
  have bv2 := k0.b8
  have dv2 : v2.toInt = (μ.2.1 a0 8).toInt := (congrArg Int32.toInt ev2).trans k0.s8
  refine gw_lt (fun h8_3 => ?_) (fun h8_3 => ?_)
  ·
    refine gw_gRa 17 k0.ri.tc k0.ri.r7 ?_
    refine gw_gI k0.ri.tc (fun v4 ev4 => ?_)
    have bbv4 := k0.b8
    have bv4 := k0.b9
    have dv4 : v4.toInt = (μ.2.1 a0 9).toInt := by rw [ev4]
    refine gw_aI (i := v4) (k0.ri.1.t (r := 17) rfl) (k0.ri.1.l (r := 17) rfl) (by omega) (by omega) (fun v5 ev5 => ?_)
    refine gw_if q0 ?_
    refine gw_bI (tx_idx q0) (fun x6 m6 ⟨z6, f6⟩ => ?_)
    replace z6 := z6.symm
    subst z6
    refine gw_lt (fun h29_7 => ?_) (fun h29_7 => ?_)
    ·
      exact gw_some (gq_I ⟨k0, by omega⟩)
    ·
      refine gw_gI k0.ri.tc (fun v8 ev8 => ?_)
      have bbv8 := k0.b8
      have bv8 := k0.b9
      have dv8 : v8.toInt = (μ.2.1 a0 9).toInt := by rw [ev8]
      have n9 : (v8 + (1 : Int32)).toInt = v8.toInt + (1 : Int32).toInt := gx_add (by omega) (by omega)
      refine gw_pI k0.ri.tc (fun m10 em10 => ?_)
      have km10 := k0.w em10 (by decide) (by intro _; omega) (by intro q; exact absurd q (by decide)) (by intro q; exact absurd q (by decide))
      exact gw_some (gq_I ⟨km10, by omega⟩)
  ·
    exact gw_some (gq_I ⟨k0, by omega⟩)
set_option maxHeartbeats 1000000 in
theorem s_X0_readTest {μ : gm_M} {a0 : Nat} (h : RI a0 μ)  : gwI (f_X0_readTest a0 μ) (fun x m => RR a0 μ m ∧ (x.toInt = 0 ∨ x.toInt = 1)) := by
  refine gwI_of ?_
  unfold f_X0_readTest
  have l0 : (0 : Int32).toInt = 0 := rfl
  have l1 : (1 : Int32).toInt = 1 := rfl
  have l100 : (100 : Int32).toInt = 100 := rfl
  have l1000 : (1000 : Int32).toInt = 1000 := rfl
  have k0 := RR.refl h
  refine gw_if k0.ri.t ?_
  refine gw_bI (s_X0_readOneOf k0.ri (by decide)) (fun x1 m1 ⟨g1, f1⟩ => ?_)
  have kk1 := k0.trans g1
  refine gw_le (fun h8_2 => ?_) (fun h8_2 => ?_)
  ·
    refine gw_if kk1.ri.t ?_
    refine gw_bI (s_X0_readOneOf kk1.ri (by decide)) (fun x3 m3 ⟨g3, f3⟩ => ?_)
    have kk3 := kk1.trans g3
    refine gw_le (fun h21_4 => ?_) (fun h21_4 => ?_)
    ·
      refine gw_if kk3.ri.t ?_
      refine gw_bI (s_X0_readNumber kk3.ri ) (fun x5 m5 g5 => ?_)
      have kk5 := kk3.trans g5
      refine gw_le (fun h32_6 => ?_) (fun h32_6 => ?_)
      ·
        refine gw_if kk5.ri.t ?_
        refine gw_bV (s_X0_put kk5.ri ) (fun m7 g7 => ?_)
        have kk7 := kk5.trans g7
        refine gw_z Iff.rfl (by omega) (gq_I ⟨kk7, by omega⟩)
      ·
        refine gw_z Iff.rfl (by omega) (gq_I ⟨kk5, by omega⟩)
    ·
      refine gw_z Iff.rfl (by omega) (gq_I ⟨kk3, by omega⟩)
  ·
    refine gw_z Iff.rfl (by omega) (gq_I ⟨kk1, by omega⟩)
set_option maxHeartbeats 1000000 in
theorem s_X0_readWordAndNumber {μ : gm_M} {a0 : Nat} {a1 : UInt32} (h : RI a0 μ) (q0 : gm_isS a1) : gwI (f_X0_readWordAndNumber a0 a1 μ) (fun x m => RR a0 μ m) := by
  refine gwI_of ?_
  unfold f_X0_readWordAndNumber
  have lm1 : (-1 : Int32).toInt = -1 := rfl
  have l0 : (0 : Int32).toInt = 0 := rfl
  have l1 : (1 : Int32).toInt = 1 := rfl
  have k0 := RR.refl h
  refine gw_loop (fun s1 => RR a0 μ s1.2 ∧ (0 ≤ s1.1.toInt ∧ s1.1.toInt ≤ 6)) (fun s1 => (6 - s1.1.toInt)) (fun s1 ⟨k2, u3⟩ => ?_) 5000 ((0 : Int32), μ) ⟨k0, (by show 0 ≤ (0 : Int32).toInt ∧ (0 : Int32).toInt ≤ 6; omega)⟩ (by show (6 - (0 : Int32).toInt) < ((5000 : Nat) : Int); omega) (by show 0 ≤ (6 - (0 : Int32).toInt); omega)
  refine gw_if q0 ?_
  refine gw_bI (R := fun x m => m = s1.2 ∧ x = Int32.ofNat (gm_bn (a1 + 6))) ⟨_, _, (tx_len q0).1, rfl, rfl⟩ (fun x4 m4 ⟨z4, f4⟩ => ?_)
  replace z4 := z4.symm
  subst z4
  have tl4 := (tx_len (μ := μ) q0).2
  have dl4 : x4.toInt = ((gm_bn (a1 + 6) : Nat) : Int) := by rw [f4]; exact Int32.toInt_ofNat_of_lt (by omega)
  refine gw_le (fun h7_5 => ?_) (fun h7_5 => ?_)
  ·
    refine gw_if k2.ri.t ?_
    refine gw_bI (s_X0_readNumber k2.ri ) (fun x6 m6 g6 => ?_)
    have kk6 := k2.trans g6
    exact gw_some (gs_inr (gq_I kk6))
  ·
    refine gw_if q0 ?_
    have tc7 := tx_char (μ := s1.2) q0 (i := s1.1) (by omega) (by omega)
    refine gw_bI (R := fun x m => m = s1.2 ∧ x = gm_bb (a1 + 6) s1.1.toInt.toNat) ⟨_, _, tc7.1, rfl, rfl⟩ (fun x7 m7 ⟨z7, f7⟩ => ?_)
    replace z7 := z7.symm
    subst z7
    have dc7 : 0 ≤ x7.toInt := by rw [f7]; exact tc7.2
    refine gw_if k2.ri.t ?_
    refine gw_bI (s_X0_take k2.ri (by omega)) (fun x8 m8 ⟨g8, f8⟩ => ?_)
    have kk8 := k2.trans g8
    refine gw_ne (fun h19_9 => ?_) (fun h19_9 => ?_)
    ·
      have n10 : (s1.1 + (1 : Int32)).toInt = s1.1.toInt + (1 : Int32).toInt := gx_add (by omega) (by omega)
      exact gw_some (gs_inl ⟨kk8, (by show 0 ≤ (s1.1 + (1 : Int32)).toInt ∧ (s1.1 + (1 : Int32)).toInt ≤ 6; omega)⟩ (by show (6 - (s1.1 + (1 : Int32)).toInt) < (6 - s1.1.toInt); omega) (by show 0 ≤ (6 - (s1.1 + (1 : Int32)).toInt); omega))
    ·
      exact gw_some (gs_inr (gq_I kk8))
set_option maxHeartbeats 1000000 in
theorem s_b_readEither {R0 : Nat → Int32 → gm_M → Option (Option Value × gm_M)} {R1 : Nat → Int32 → gm_M → Option (Option Value × gm_M)} (d : Nat) (hR0 : ∀ {m : gm_M} {a0 : Nat} {b : Int32} (h : RI a0 m), 0 ≤ b.toInt ∧ b.toInt ≤ 5 → 2 * (5 - b.toInt) + 2 ≤ d → gwI (R0 a0 b m) (fun x m1 => RR a0 m m1 ∧ (x.toInt = 0 ∨ x.toInt = 1))) (hR1 : ∀ {m : gm_M} {a0 : Nat} {b : Int32} (h : RI a0 m), 0 ≤ b.toInt ∧ b.toInt ≤ 5 → 2 * (5 - b.toInt) + 1 ≤ d → gwI (R1 a0 b m) (fun x m1 => RR a0 m m1 ∧ (x.toInt = 0 ∨ x.toInt = 1))) {μ : gm_M} {a0 : Nat} {a1 : Int32} (h : RI a0 μ) (q0 : 0 ≤ a1.toInt ∧ a1.toInt ≤ 5) (q1 : 2 * (5 - a1.toInt) + 2 ≤ d + 1) : gwI (b_X0_readEither R0 R1 a0 a1 μ) (fun x m => RR a0 μ m ∧ (x.toInt = 0 ∨ x.toInt = 1)) := by
  refine gwI_of ?_
  unfold b_X0_readEither
  have lm3 : (-3 : Int32).toInt = -3 := rfl
  have lm2 : (-2 : Int32).toInt = -2 := rfl
  have l0 : (0 : Int32).toInt = 0 := rfl
  have l1 : (1 : Int32).toInt = 1 := rfl
  have l38 : (38 : Int32).toInt = 38 := rfl
  have l124 : (124 : Int32).toInt = 124 := rfl
  have k0 := RR.refl h
  refine gw_if k0.ri.t ?_
  refine gw_bI (hR1 k0.ri (by omega) (by omega)) (fun x1 m1 ⟨g1, f1⟩ => ?_)
  have kk1 := k0.trans g1
  refine gw_ne (fun h5_2 => ?_) (fun h5_2 => ?_)
  ·
    refine gw_gI kk1.ri.tc (fun v3 ev3 => ?_)
    have bbv3 := kk1.b8
    have bv3 := kk1.b9
    have dv3 : v3.toInt = (m1.2.1 a0 9).toInt := by rw [ev3]
    refine gw_loop (fun s4 => RR a0 μ s4.2.2 ∧ (0 ≤ s4.2.1.toInt ∧ s4.2.1.toInt ≤ 100)) (fun s4 => (100 - s4.2.1.toInt)) (fun s4 ⟨k5, u6⟩ => ?_) 5000 ((0 : Int32), v3, m1) ⟨kk1, (by show 0 ≤ v3.toInt ∧ v3.toInt ≤ 100; omega)⟩ (by show (100 - v3.toInt) < ((5000 : Nat) : Int); omega) (by show 0 ≤ (100 - v3.toInt); omega)
    refine gw_gI k5.ri.tc (fun v7 ev7 => ?_)
    have bv7 := k5.b8
    have dv7 : v7.toInt = (μ.2.1 a0 8).toInt := (congrArg Int32.toInt ev7).trans k5.s8
    refine gw_j (fun s8 => RR a0 μ s8) (fun s8 k10 => ?_) (fun j9 hj9 => ?_)
    ·
      refine gw_eq (fun h91_11 => ?_) (fun h91_11 => ?_)
      ·
        refine gw_z Iff.rfl (by omega) (gs_inr (gq_I ⟨k10, by omega⟩))
      ·
        refine gw_if k10.ri.t ?_
        refine gw_bV (s_X0_put k10.ri ) (fun m12 g12 => ?_)
        have kk12 := k10.trans g12
        refine gw_z Iff.rfl (by omega) (gs_inr (gq_I ⟨kk12, by omega⟩))
    ·
      refine gw_le (fun h22_13 => ?_) (fun h22_13 => ?_)
      ·
        exact hj9 _ k5
      ·
        refine gw_if k5.ri.t ?_
        refine gw_bI (s_X0_take k5.ri (by omega)) (fun x14 m14 ⟨g14, f14⟩ => ?_)
        have kk14 := k5.trans g14
        refine gw_j (fun s15 => RR a0 μ s15.2) (fun s15 k17 => ?_) (fun j16 hj16 => ?_)
        ·
          have n18 : (s4.2.1 + (1 : Int32)).toInt = s4.2.1.toInt + (1 : Int32).toInt := gx_add (by omega) (by omega)
          exact gw_some (gs_inl ⟨k17, (by show 0 ≤ (s4.2.1 + (1 : Int32)).toInt ∧ (s4.2.1 + (1 : Int32)).toInt ≤ 100; omega)⟩ (by show (100 - (s4.2.1 + (1 : Int32)).toInt) < (100 - s4.2.1.toInt); omega) (by show 0 ≤ (100 - (s4.2.1 + (1 : Int32)).toInt); omega))
        ·
          refine gw_eq (fun h31_19 => ?_) (fun h31_19 => ?_)
          ·
            refine gw_if kk14.ri.t ?_
            refine gw_bI (s_X0_take kk14.ri (by omega)) (fun x20 m20 ⟨g20, f20⟩ => ?_)
            have kk20 := kk14.trans g20
            refine gw_eq (fun h59_21 => ?_) (fun h59_21 => ?_)
            ·
              exact hj9 _ kk20
            ·
              refine gw_j (fun s22 => RR a0 μ s22) (fun s22 k24 => ?_) (fun j23 hj23 => ?_)
              ·
                refine gw_if k24.ri.t ?_
                refine gw_bI (hR1 k24.ri (by omega) (by omega)) (fun x25 m25 ⟨g25, f25⟩ => ?_)
                have kk25 := k24.trans g25
                refine gw_ne (fun h79_26 => ?_) (fun h79_26 => ?_)
                ·
                  exact hj16 _ kk25
                ·
                  refine gw_z Iff.rfl (by omega) (gs_inr (gq_I ⟨kk25, by omega⟩))
              ·
                refine gw_eq (fun h63_27 => ?_) (fun h63_27 => ?_)
                ·
                  exact hj23 _ kk20
                ·
                  refine gw_if kk20.ri.t ?_
                  refine gw_bV (s_X0_put kk20.ri ) (fun m28 g28 => ?_)
                  have kk28 := kk20.trans g28
                  exact hj23 _ kk28
          ·
            refine gw_if kk14.ri.t ?_
            refine gw_bI (hR1 kk14.ri (by omega) (by omega)) (fun x29 m29 ⟨g29, f29⟩ => ?_)
            have kk29 := kk14.trans g29
            refine gw_ne (fun h39_30 => ?_) (fun h39_30 => ?_)
            ·
              refine gw_if kk29.ri.t ?_
              refine gw_bV (s_X0_put kk29.ri ) (fun m31 g31 => ?_)
              have kk31 := kk29.trans g31
              exact hj16 _ kk31
            ·
              refine gw_z Iff.rfl (by omega) (gs_inr (gq_I ⟨kk29, by omega⟩))
  ·
    refine gw_z Iff.rfl (by omega) (gq_I ⟨kk1, by omega⟩)
set_option maxHeartbeats 1000000 in
theorem s_b_readFactor {R0 : Nat → Int32 → gm_M → Option (Option Value × gm_M)} {R1 : Nat → Int32 → gm_M → Option (Option Value × gm_M)} (d : Nat) (hR0 : ∀ {m : gm_M} {a0 : Nat} {b : Int32} (h : RI a0 m), 0 ≤ b.toInt ∧ b.toInt ≤ 5 → 2 * (5 - b.toInt) + 2 ≤ d → gwI (R0 a0 b m) (fun x m1 => RR a0 m m1 ∧ (x.toInt = 0 ∨ x.toInt = 1))) (hR1 : ∀ {m : gm_M} {a0 : Nat} {b : Int32} (h : RI a0 m), 0 ≤ b.toInt ∧ b.toInt ≤ 5 → 2 * (5 - b.toInt) + 1 ≤ d → gwI (R1 a0 b m) (fun x m1 => RR a0 m m1 ∧ (x.toInt = 0 ∨ x.toInt = 1))) {μ : gm_M} {a0 : Nat} {a1 : Int32} (h : RI a0 μ) (q0 : 0 ≤ a1.toInt ∧ a1.toInt ≤ 5) (q1 : 2 * (5 - a1.toInt) + 1 ≤ d + 1) : gwI (b_X0_readFactor R0 R1 a0 a1 μ) (fun x m => RR a0 μ m ∧ (x.toInt = 0 ∨ x.toInt = 1)) := by
  refine gwI_of ?_
  unfold b_X0_readFactor
  have lm1 : (-1 : Int32).toInt = -1 := rfl
  have l0 : (0 : Int32).toInt = 0 := rfl
  have l1 : (1 : Int32).toInt = 1 := rfl
  have l5 : (5 : Int32).toInt = 5 := rfl
  have l33 : (33 : Int32).toInt = 33 := rfl
  have l40 : (40 : Int32).toInt = 40 := rfl
  have l41 : (41 : Int32).toInt = 41 := rfl
  have k0 := RR.refl h
  refine gw_if k0.ri.t ?_
  refine gw_bI (s_X0_next k0.ri ) (fun x1 m1 ⟨z1, f1⟩ => ?_)
  replace z1 := z1.symm
  subst z1
  have z8_1 : (μ.2.1 a0 8).toInt = (μ.2.1 a0 8).toInt := k0.s8
  refine gw_j (fun s2 => (x1.toInt ≠ -1)) (fun s2 u4 => ?_) (fun j3 hj3 => ?_)
  ·
    refine gw_lt (fun h24_5 => ?_) (fun h24_5 => ?_)
    ·
      refine gw_gI k0.ri.tc (fun v6 ev6 => ?_)
      have bbv6 := k0.b8
      have bv6 := k0.b9
      have dv6 : v6.toInt = (μ.2.1 a0 9).toInt := by rw [ev6]
      have n7 : (v6 + (1 : Int32)).toInt = v6.toInt + (1 : Int32).toInt := gx_add (by omega) (by omega)
      refine gw_pI k0.ri.tc (fun m8 em8 => ?_)
      have km8 := k0.w em8 (by decide) (by intro _; omega) (by intro q; exact absurd q (by decide)) (by intro q; exact absurd q (by decide))
      refine gw_ne (fun h42_9 => ?_) (fun h42_9 => ?_)
      ·
        refine gw_if km8.ri.t ?_
        have n10 : (a1 + (1 : Int32)).toInt = a1.toInt + (1 : Int32).toInt := gx_add (by omega) (by omega)
        refine gw_bI (hR1 km8.ri (by omega) (by omega)) (fun x11 m11 ⟨g11, f11⟩ => ?_)
        have kk11 := km8.trans g11
        refine gw_ne (fun h77_12 => ?_) (fun h77_12 => ?_)
        ·
          refine gw_if kk11.ri.t ?_
          refine gw_bV (s_X0_put kk11.ri ) (fun m13 g13 => ?_)
          have kk13 := kk11.trans g13
          refine gw_z Iff.rfl (by omega) (gq_I ⟨kk13, by omega⟩)
        ·
          refine gw_z Iff.rfl (by omega) (gq_I ⟨kk11, by omega⟩)
      ·
        refine gw_if km8.ri.t ?_
        have n14 : (a1 + (1 : Int32)).toInt = a1.toInt + (1 : Int32).toInt := gx_add (by omega) (by omega)
        refine gw_bI (hR0 km8.ri (by omega) (by omega)) (fun x15 m15 ⟨g15, f15⟩ => ?_)
        have kk15 := km8.trans g15
        refine gw_eq (fun h52_16 => ?_) (fun h52_16 => ?_)
        ·
          refine gw_z Iff.rfl (by omega) (gq_I ⟨kk15, by omega⟩)
        ·
          refine gw_if kk15.ri.t ?_
          refine gw_bI (s_X0_take kk15.ri (by omega)) (fun x17 m17 ⟨g17, f17⟩ => ?_)
          have kk17 := kk15.trans g17
          refine gw_eq (fun h61_18 => ?_) (fun h61_18 => ?_)
          ·
            refine gw_z Iff.rfl (by omega) (gq_I ⟨kk17, by omega⟩)
          ·
            refine gw_z Iff.rfl (by omega) (gq_I ⟨kk17, by omega⟩)
    ·
      refine gw_z Iff.rfl (by omega) (gq_I ⟨k0, by omega⟩)
  ·
    refine gw_eq (fun h8_19 => ?_) (fun h8_19 => ?_)
    ·
      exact hj3 _ (by show x1.toInt ≠ -1; omega)
    ·
      refine gw_eq (fun h14_20 => ?_) (fun h14_20 => ?_)
      ·
        exact hj3 _ (by show x1.toInt ≠ -1; omega)
      ·
        refine gw_if k0.ri.t ?_
        refine gw_bI (s_X0_readTest k0.ri ) (fun x21 m21 ⟨g21, f21⟩ => ?_)
        have kk21 := k0.trans g21
        refine gw_z Iff.rfl (by omega) (gq_I ⟨kk21, by omega⟩)
theorem sr_read : ∀ d : Nat, (∀ {m : gm_M} {a0 : Nat} {b : Int32} (h : RI a0 m), 0 ≤ b.toInt ∧ b.toInt ≤ 5 → 2 * (5 - b.toInt) + 2 ≤ d → gwI ((r_X0_readEither d).1 a0 b m) (fun x m1 => RR a0 m m1 ∧ (x.toInt = 0 ∨ x.toInt = 1))) ∧ (∀ {m : gm_M} {a0 : Nat} {b : Int32} (h : RI a0 m), 0 ≤ b.toInt ∧ b.toInt ≤ 5 → 2 * (5 - b.toInt) + 1 ≤ d → gwI ((r_X0_readEither d).2 a0 b m) (fun x m1 => RR a0 m m1 ∧ (x.toInt = 0 ∨ x.toInt = 1)))
  | 0 => ⟨fun h q0 q1 => by omega, fun h q0 q1 => by omega⟩
  | d + 1 => ⟨fun h q0 q1 => s_b_readEither d (sr_read d).1 (sr_read d).2 h q0 (by omega), fun h q0 q1 => s_b_readFactor d (sr_read d).1 (sr_read d).2 h q0 (by omega)⟩
theorem s_X0_readEither {μ : gm_M} {a0 : Nat} {a1 : Int32} (h : RI a0 μ) (q0 : 0 ≤ a1.toInt ∧ a1.toInt ≤ 5) : gwI (f_X0_readEither a0 a1 μ) (fun x m => RR a0 μ m ∧ (x.toInt = 0 ∨ x.toInt = 1)) := (sr_read 64).1 h q0 (by omega)
