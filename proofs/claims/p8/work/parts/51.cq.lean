set_option maxHeartbeats 1000000 in
theorem s_X11_isOutside {μ : gm_M} {a0 : Int32} {a1 : Int32} {a2 : Int32}  : gwI (f_X11_isOutside a0 a1 a2 μ) (fun x m => m = μ ∧ ((x.toInt = 1 ∧ (a0.toInt < a1.toInt ∨ a2.toInt < a0.toInt)) ∨ (x.toInt = 0 ∧ a1.toInt ≤ a0.toInt ∧ a0.toInt ≤ a2.toInt))) := by
  refine gwI_of ?_
  unfold f_X11_isOutside
  have l0 : (0 : Int32).toInt = 0 := rfl
  have l1 : (1 : Int32).toInt = 1 := rfl
  refine gw_ji ?_
  refine gw_lt (fun h2_1 => ?_) (fun h2_1 => ?_)
  ·
    refine gw_z Iff.rfl (by omega) (gq_I ⟨rfl, by omega⟩)
  ·
    refine gw_le (fun h7_2 => ?_) (fun h7_2 => ?_)
    ·
      refine gw_z Iff.rfl (by omega) (gq_I ⟨rfl, by omega⟩)
    ·
      refine gw_z Iff.rfl (by omega) (gq_I ⟨rfl, by omega⟩)
set_option maxHeartbeats 1000000 in
theorem s_X11_isNobody {μ : gm_M} (h : CI μ) {a1 : Int32}  : gwI (f_X11_isNobody 1 a1 μ) (fun x m => m = μ ∧ ((x.toInt = 0 ∧ 0 ≤ a1.toInt ∧ a1.toInt < (μ.2.1 15 1).toInt ∧ a1.toInt < 5) ∨ (x.toInt = 1 ∧ (a1.toInt < 0 ∨ (μ.2.1 15 1).toInt ≤ a1.toInt)))) := by
  refine gwI_of ?_
  unfold f_X11_isNobody
  have l0 : (0 : Int32).toInt = 0 := rfl
  have l1 : (1 : Int32).toInt = 1 := rfl
  refine gw_gRa 15 (h.1.c (r := 1) rfl) (h.1.r (by decide)) ?_
  refine gw_gI (h.1.c (r := 15) rfl) (fun v1 ev1 => ?_)
  have bv1 := h.n1
  have dv1 : v1.toInt = (μ.2.1 15 1).toInt := by rw [ev1]
  have n2 : (v1 - (1 : Int32)).toInt = v1.toInt - (1 : Int32).toInt := gx_sub (by omega) (by omega)
  refine gw_bI (s_X11_isOutside ) (fun x3 m3 ⟨z3, f3⟩ => ?_)
  replace z3 := z3.symm
  subst z3
  refine gw_z Iff.rfl (by omega) (gq_I ⟨rfl, by (have := h.n1; omega)⟩)
set_option maxHeartbeats 1000000 in
theorem s_X0_passes {μ : gm_M} (h : CI μ) {a0 : Int32} {a1 : Nat} {a2 : Int32} (q0 : ict a1) : gwI (f_X0_passes a0 a1 a2 μ) (fun x m => m = μ ∧ (x.toInt = 0 ∨ x.toInt = 1)) := by
  refine gwI_of ?_
  unfold f_X0_passes
  have l0 : (0 : Int32).toInt = 0 := rfl
  have l1 : (1 : Int32).toInt = 1 := rfl
  have l2 : (2 : Int32).toInt = 2 := rfl
  have l3 : (3 : Int32).toInt = 3 := rfl
  have l4 : (4 : Int32).toInt = 4 := rfl
  have l10 : (10 : Int32).toInt = 10 := rfl
  have l100 : (100 : Int32).toInt = 100 := rfl
  have l1000 : (1000 : Int32).toInt = 1000 := rfl
  refine gw_dv (by omega) ?_
  refine gw_j (fun s1 => True) (fun s1 _ => ?_) (fun j2 hj2 => ?_)
  ·
    refine gw_dv (by omega) ?_
    refine gw_dv (by omega) ?_
    refine gw_dv (by omega) ?_
    refine gw_eq (fun h104_3 => ?_) (fun h104_3 => ?_)
    ·
      refine gw_le (fun h135_4 => ?_) (fun h135_4 => ?_)
      ·
        refine gw_z Iff.rfl (by omega) (gq_I ⟨rfl, by omega⟩)
      ·
        refine gw_z Iff.rfl (by omega) (gq_I ⟨rfl, by omega⟩)
    ·
      refine gw_eq (fun h104_5 => ?_) (fun h104_5 => ?_)
      ·
        refine gw_ne (fun h147_6 => ?_) (fun h147_6 => ?_)
        ·
          refine gw_z Iff.rfl (by omega) (gq_I ⟨rfl, by omega⟩)
        ·
          refine gw_z Iff.rfl (by omega) (gq_I ⟨rfl, by omega⟩)
      ·
        refine gw_le (fun h159_7 => ?_) (fun h159_7 => ?_)
        ·
          refine gw_z Iff.rfl (by omega) (gq_I ⟨rfl, by omega⟩)
        ·
          refine gw_z Iff.rfl (by omega) (gq_I ⟨rfl, by omega⟩)
  ·
    refine gw_eq (fun h5_8 => ?_) (fun h5_8 => ?_)
    ·
      refine gw_gI (ict.c h.1 q0) (fun v9 ev9 => ?_)
      exact hj2 _ trivial
    ·
      refine gw_eq (fun h5_10 => ?_) (fun h5_10 => ?_)
      ·
        refine gw_gR (ict.c h.1 q0) (fun v11 ev11 => ?_)
        have cv11 : kid v11 := by rw [ev11]; exact h.kd q0
        refine gw_gI (kid.c h.1 cv11) (fun v12 ev12 => ?_)
        exact hj2 _ trivial
      ·
        refine gw_eq (fun h5_13 => ?_) (fun h5_13 => ?_)
        ·
          refine gw_gI (ict.c h.1 q0) (fun v14 ev14 => ?_)
          exact hj2 _ trivial
        ·
          refine gw_eq (fun h5_15 => ?_) (fun h5_15 => ?_)
          ·
            refine gw_gI (ict.c h.1 q0) (fun v16 ev16 => ?_)
            exact hj2 _ trivial
          ·
            refine gw_eq (fun h5_17 => ?_) (fun h5_17 => ?_)
            ·
              refine gw_gI (ict.c h.1 q0) (fun v18 ev18 => ?_)
              refine gw_dv (by omega) ?_
              exact hj2 _ trivial
            ·
              refine gw_dv (by omega) ?_
              exact hj2 _ trivial
set_option maxHeartbeats 1000000 in
theorem s_X0_isSo {μ : gm_M} (h : CI μ) {a0 : Nat} {a1 : Int32} {a2 : Int32} {a3 : Nat} {a4 : Int32} (q0 : AfW μ a0) (q1 : 0 ≤ a1.toInt ∧ a1.toInt ≤ 100) (q2 : 0 ≤ a2.toInt ∧ a2.toInt ≤ 100) (q3 : ict a3) : gwI (f_X0_isSo a0 a1 a2 a3 a4 μ) (fun x m => m = μ ∧ (x.toInt = 0 ∨ x.toInt = 1)) := by
  refine gwI_of ?_
  unfold f_X0_isSo
  have lm3 : (-3 : Int32).toInt = -3 := rfl
  have lm2 : (-2 : Int32).toInt = -2 := rfl
  have lm1 : (-1 : Int32).toInt = -1 := rfl
  have l0 : (0 : Int32).toInt = 0 := rfl
  have l1 : (1 : Int32).toInt = 1 := rfl
  refine gw_loop (fun s1 => s1.2.2 = μ ∧ (0 ≤ s1.2.1.toInt ∧ s1.2.1.toInt ≤ 100)) (fun s1 => (100 - s1.2.1.toInt)) (fun s1 ⟨k2, u3⟩ => ?_) 5000 ((0 : Int32), a1, μ) ⟨rfl, (by show 0 ≤ a1.toInt ∧ a1.toInt ≤ 100; omega)⟩ (by show (100 - a1.toInt) < ((5000 : Nat) : Int); omega) (by show 0 ≤ (100 - a1.toInt); omega)
  refine gw_le (fun h9_4 => ?_) (fun h9_4 => ?_)
  ·
    refine gw_ne (fun h125_5 => ?_) (fun h125_5 => ?_)
    ·
      refine gw_z Iff.rfl (by omega) (gs_inr (gq_I ⟨k2, by omega⟩))
    ·
      refine gw_z Iff.rfl (by omega) (gs_inr (gq_I ⟨k2, by omega⟩))
  ·
    refine gw_gRa (a0 + 3) ((AfW.eq q0 k2).tc) (AfW.eq q0 k2).r3 ?_
    refine gw_aI (i := s1.2.1) ((AfW.eq q0 k2).t3) ((AfW.eq q0 k2).l3) (by omega) (by omega) (fun v7 ev7 => ?_)
    refine gw_j (fun s8 => s8.2 = μ) (fun s8 k10 => ?_) (fun j9 hj9 => ?_)
    ·
      have n11 : (s1.2.1 + (1 : Int32)).toInt = s1.2.1.toInt + (1 : Int32).toInt := gx_add (by omega) (by omega)
      exact gw_some (gs_inl ⟨k10, (by show 0 ≤ (s1.2.1 + (1 : Int32)).toInt ∧ (s1.2.1 + (1 : Int32)).toInt ≤ 100; omega)⟩ (by show (100 - (s1.2.1 + (1 : Int32)).toInt) < (100 - s1.2.1.toInt); omega) (by show 0 ≤ (100 - (s1.2.1 + (1 : Int32)).toInt); omega))
    ·
      refine gw_ne (fun h24_12 => ?_) (fun h24_12 => ?_)
      ·
        refine gw_ne (fun h40_13 => ?_) (fun h40_13 => ?_)
        ·
          refine gw_ne (fun h74_14 => ?_) (fun h74_14 => ?_)
          ·
            refine gw_bI (s_X0_passes (h.eq k2) q3) (fun x15 m15 ⟨z15, f15⟩ => ?_)
            replace z15 := z15.symm
            subst z15
            refine gw_j (fun s16 => True) (fun s16 _ => ?_) (fun j17 hj17 => ?_)
            ·
              exact hj9 _ k2
            ·
              refine gw_eq (fun h103_18 => ?_) (fun h103_18 => ?_)
              ·
                exact hj17 _ trivial
              ·
                exact hj17 _ trivial
          ·
            exact hj9 _ k2
        ·
          refine gw_j (fun s19 => True) (fun s19 _ => ?_) (fun j20 hj20 => ?_)
          ·
            exact hj9 _ k2
          ·
            refine gw_ne (fun h48_21 => ?_) (fun h48_21 => ?_)
            ·
              exact hj20 _ trivial
            ·
              exact hj20 _ trivial
      ·
        exact hj9 _ k2
set_option maxHeartbeats 1000000 in
theorem s_X0_stretchOf {μ : gm_M} (h : CI μ) {a0 : Nat} {a1 : Nat} {a2 : Int32} (q0 : AfW μ a0) (q1 : ict a1) : gwI (f_X0_stretchOf a0 a1 a2 μ) (fun x m => m = μ) := by
  refine gwI_of ?_
  unfold f_X0_stretchOf
  have l0 : (0 : Int32).toInt = 0 := rfl
  have l1 : (1 : Int32).toInt = 1 := rfl
  have l30 : (30 : Int32).toInt = 30 := rfl
  refine gw_loop (fun s1 => s1.2.2.2 = μ ∧ ((0 ≤ s1.2.2.1.toInt ∧ s1.2.2.1.toInt ≤ 10) ∧ (0 ≤ s1.2.1.toInt ∧ s1.2.1.toInt ≤ 100))) (fun s1 => (10 - s1.2.2.1.toInt)) (fun s1 ⟨k2, u3⟩ => ?_) 5000 ((30 : Int32), (0 : Int32), (0 : Int32), μ) ⟨rfl, (by show (0 ≤ (0 : Int32).toInt ∧ (0 : Int32).toInt ≤ 10) ∧ (0 ≤ (0 : Int32).toInt ∧ (0 : Int32).toInt ≤ 100); omega)⟩ (by show (10 - (0 : Int32).toInt) < ((5000 : Nat) : Int); omega) (by show 0 ≤ (10 - (0 : Int32).toInt); omega)
  refine gw_gI ((AfW.eq q0 k2).tc) (fun v4 ev4 => ?_)
  have bv4 := (AfW.eq q0 k2).n
  have dv4 : v4.toInt = (s1.2.2.2.2.1 a0 2).toInt := by rw [ev4]
  refine gw_le (fun h15_5 => ?_) (fun h15_5 => ?_)
  ·
    exact gw_some (gs_inr (gq_I k2))
  ·
    refine gw_gRa (a0 + 2) ((AfW.eq q0 k2).tc) (AfW.eq q0 k2).r2 ?_
    refine gw_aI (i := s1.2.2.1) ((AfW.eq q0 k2).t2) ((AfW.eq q0 k2).l2) (by omega) (by omega) (fun v7 ev7 => ?_)
    have bv7 := (AfW.eq q0 k2).en s1.2.2.1.toInt.toNat (by omega)
    rw [← ev7] at bv7
    refine gw_if ((AfW.eq q0 k2).t) ?_
    refine gw_bI (s_X0_isSo (h.eq k2) (AfW.eq q0 k2) (by omega) (by omega) q1) (fun x8 m8 ⟨z8, f8⟩ => ?_)
    replace z8 := z8.symm
    subst z8
    refine gw_j (fun s9 => True) (fun s9 _ => ?_) (fun j10 hj10 => ?_)
    ·
      refine gw_gRa (a0 + 2) ((AfW.eq q0 k2).tc) (AfW.eq q0 k2).r2 ?_
      refine gw_aI (i := s1.2.2.1) ((AfW.eq q0 k2).t2) ((AfW.eq q0 k2).l2) (by omega) (by omega) (fun v12 ev12 => ?_)
      have bv12 := (AfW.eq q0 k2).en s1.2.2.1.toInt.toNat (by omega)
      rw [← ev12] at bv12
      have n13 : (s1.2.2.1 + (1 : Int32)).toInt = s1.2.2.1.toInt + (1 : Int32).toInt := gx_add (by omega) (by omega)
      exact gw_some (gs_inl ⟨k2, (by show (0 ≤ (s1.2.2.1 + (1 : Int32)).toInt ∧ (s1.2.2.1 + (1 : Int32)).toInt ≤ 10) ∧ (0 ≤ v12.toInt ∧ v12.toInt ≤ 100); omega)⟩ (by show (10 - (s1.2.2.1 + (1 : Int32)).toInt) < (10 - s1.2.2.1.toInt); omega) (by show 0 ≤ (10 - (s1.2.2.1 + (1 : Int32)).toInt); omega))
    ·
      refine gw_eq (fun h33_14 => ?_) (fun h33_14 => ?_)
      ·
        exact hj10 _ trivial
      ·
        refine gw_gRa (a0 + 1) ((AfW.eq q0 k2).tc) (AfW.eq q0 k2).r1 ?_
        refine gw_aI (i := s1.2.2.1) ((AfW.eq q0 k2).t1) ((AfW.eq q0 k2).l1) (by omega) (by omega) (fun v16 ev16 => ?_)
        exact hj10 _ trivial
set_option maxHeartbeats 1000000 in
theorem s_X5_sugarChewed {μ : gm_M} (h : CI μ) {a0 : Nat} {a1 : Nat} {a2 : Int32} (qt : List.contains [10, 6, 8, 9, 11, 14, 15] (gm_tag μ a0) = true) (q1 : ict a1) : gwI (f_X5_sugarChewed a0 a1 a2 μ) (fun x m => m = μ) := by
  refine gwI_of ?_
  unfold f_X5_sugarChewed
  have l2 : (2 : Int32).toInt = 2 := rfl
  have l3 : (3 : Int32).toInt = 3 := rfl
  refine gw_gI (ict.c h.1 q1) (fun v1 ev1 => ?_)
  refine gw_dv (by omega) ?_
  exact gw_some (gq_I rfl)
set_option maxHeartbeats 1000000 in
theorem s_X6_sugarChewed {μ : gm_M} (h : CI μ) {a0 : Nat} {a1 : Nat} {a2 : Int32} (qt : List.contains [9, 11] (gm_tag μ a0) = true) (q1 : ict a1) : gwI (f_X6_sugarChewed a0 a1 a2 μ) (fun x m => m = μ) := by
  refine gwI_of ?_
  unfold f_X6_sugarChewed
  have l2 : (2 : Int32).toInt = 2 := rfl
  refine gw_if qt ?_
  refine gw_bI (s_X5_sugarChewed h (ks_mono qt (by decide)) q1) (fun x1 m1 z1 => ?_)
  replace z1 := z1.symm
  subst z1
  exact gw_some (gq_I rfl)
set_option maxHeartbeats 1000000 in
theorem s_X9_sugarChewed {μ : gm_M} (h : CI μ) {a0 : Nat} {a1 : Nat} {a2 : Int32} (qt : List.contains [6, 14] (gm_tag μ a0) = true) (q1 : ict a1) : gwI (f_X9_sugarChewed a0 a1 a2 μ) (fun x m => m = μ) := by
  refine gwI_of ?_
  unfold f_X9_sugarChewed
  have l2 : (2 : Int32).toInt = 2 := rfl
  refine gw_if qt ?_
  refine gw_bI (s_X5_sugarChewed h (ks_mono qt (by decide)) q1) (fun x1 m1 z1 => ?_)
  replace z1 := z1.symm
  subst z1
  refine gw_dv (by omega) ?_
  exact gw_some (gq_I rfl)
set_option maxHeartbeats 1000000 in
theorem s_X3_sugarChewed {μ : gm_M} (h : CI μ) {a0 : Nat} {a1 : Nat} {a2 : Int32} (qt : List.contains [8, 15] (gm_tag μ a0) = true) (q1 : ict a1) : gwI (f_X3_sugarChewed a0 a1 a2 μ) (fun x m => m = μ) := by
  refine gwI_of ?_
  unfold f_X3_sugarChewed
  have l0 : (0 : Int32).toInt = 0 := rfl
  have l2 : (2 : Int32).toInt = 2 := rfl
  refine gw_if qt ?_
  refine gw_bI (s_X5_sugarChewed h (ks_mono qt (by decide)) q1) (fun x1 m1 z1 => ?_)
  replace z1 := z1.symm
  subst z1
  exact gw_some (gq_I rfl)
set_option maxHeartbeats 1000000 in
theorem s_X4_sugarChewed {μ : gm_M} (h : CI μ) {a0 : Nat} {a1 : Nat} {a2 : Int32} (qt : List.contains [9] (gm_tag μ a0) = true) (q1 : ict a1) : gwI (f_X4_sugarChewed a0 a1 a2 μ) (fun x m => m = μ) := by
  refine gwI_of ?_
  unfold f_X4_sugarChewed
  refine gw_if qt ?_
  refine gw_bI (s_X6_sugarChewed h (ks_mono qt (by decide)) q1) (fun x1 m1 z1 => ?_)
  replace z1 := z1.symm
  subst z1
  refine gw_gI (ict.c h.1 q1) (fun v2 ev2 => ?_)
  exact gw_some (gq_I rfl)
set_option maxHeartbeats 1000000 in
theorem s_X1_sugarChewed {μ : gm_M} (h : CI μ) {a0 : Nat} {a1 : Nat} {a2 : Int32} (qt : List.contains [6] (gm_tag μ a0) = true) (q1 : ict a1) : gwI (f_X1_sugarChewed a0 a1 a2 μ) (fun x m => m = μ) := by
  refine gwI_of ?_
  unfold f_X1_sugarChewed
  have l1 : (1 : Int32).toInt = 1 := rfl
  refine gw_if qt ?_
  refine gw_bI (s_X9_sugarChewed h (ks_mono qt (by decide)) q1) (fun x1 m1 z1 => ?_)
  replace z1 := z1.symm
  subst z1
  exact gw_some (gq_I rfl)
set_option maxHeartbeats 1000000 in
theorem s_X10_sugarChewed {μ : gm_M} (h : CI μ) {a0 : Nat} {a1 : Nat} {a2 : Int32} (qt : List.contains [15] (gm_tag μ a0) = true) (q1 : ict a1) : gwI (f_X10_sugarChewed a0 a1 a2 μ) (fun x m => m = μ) := by
  refine gwI_of ?_
  unfold f_X10_sugarChewed
  have l3 : (3 : Int32).toInt = 3 := rfl
  refine gw_if qt ?_
  refine gw_bI (s_X3_sugarChewed h (ks_mono qt (by decide)) q1) (fun x1 m1 z1 => ?_)
  replace z1 := z1.symm
  subst z1
  refine gw_gRa (a1 + 1) (ict.c h.1 q1) (ict.row h.1 q1) ?_
  have n3 := gx_and3 a2
  refine gw_aI (i := (a2 &&& (3 : Int32))) (ict.rt h.1 q1) (ict.rl h.1 q1) (by omega) (by omega) (fun v4 ev4 => ?_)
  exact gw_some (gq_I rfl)
set_option maxHeartbeats 1000000 in
theorem s_X5_jawTired {μ : gm_M} (h : CI μ) {a0 : Nat} {a1 : Nat} (qt : List.contains [10, 6, 8, 9, 11, 14, 15] (gm_tag μ a0) = true) (q1 : ict a1) : gwI (f_X5_jawTired a0 a1 μ) (fun x m => m = μ) := by
  refine gwI_of ?_
  unfold f_X5_jawTired
  refine gw_gI (ict.c h.1 q1) (fun v1 ev1 => ?_)
  exact gw_some (gq_I rfl)
set_option maxHeartbeats 1000000 in
theorem s_X6_jawTired {μ : gm_M} (h : CI μ) {a0 : Nat} {a1 : Nat} (qt : List.contains [9, 11] (gm_tag μ a0) = true) (q1 : ict a1) : gwI (f_X6_jawTired a0 a1 μ) (fun x m => m = μ) := by
  refine gwI_of ?_
  unfold f_X6_jawTired
  have l1 : (1 : Int32).toInt = 1 := rfl
  refine gw_gI (ict.c h.1 q1) (fun v1 ev1 => ?_)
  exact gw_some (gq_I rfl)
set_option maxHeartbeats 1000000 in
theorem s_X3_jawTired {μ : gm_M} (h : CI μ) {a0 : Nat} {a1 : Nat} (qt : List.contains [8, 15] (gm_tag μ a0) = true) (q1 : ict a1) : gwI (f_X3_jawTired a0 a1 μ) (fun x m => m = μ) := by
  refine gwI_of ?_
  unfold f_X3_jawTired
  have l2 : (2 : Int32).toInt = 2 := rfl
  refine gw_gI (ict.c h.1 q1) (fun v1 ev1 => ?_)
  exact gw_some (gq_I rfl)
set_option maxHeartbeats 1000000 in
theorem s_X1_jawTired {μ : gm_M} (h : CI μ) {a0 : Nat} {a1 : Nat} (qt : List.contains [6] (gm_tag μ a0) = true) (q1 : ict a1) : gwI (f_X1_jawTired a0 a1 μ) (fun x m => m = μ) := by
  refine gwI_of ?_
  unfold f_X1_jawTired
  have l2 : (2 : Int32).toInt = 2 := rfl
  refine gw_gI (ict.c h.1 q1) (fun v1 ev1 => ?_)
  refine gw_dv (by omega) ?_
  exact gw_some (gq_I rfl)
set_option maxHeartbeats 1000000 in
theorem s_X5_dares {μ : gm_M} (h : CI μ) {a0 : Nat} {a1 : Int32} (qt : List.contains [10, 6, 8, 9, 11, 14, 15] (gm_tag μ a0) = true) : gwI (f_X5_dares a0 a1 μ) (fun x m => m = μ) := by
  refine gwI_of ?_
  unfold f_X5_dares
  exact gw_some (gq_I rfl)
set_option maxHeartbeats 1000000 in
theorem s_X1_dares {μ : gm_M} (h : CI μ) {a0 : Nat} {a1 : Int32} (qt : List.contains [6] (gm_tag μ a0) = true) : gwI (f_X1_dares a0 a1 μ) (fun x m => m = μ) := by
  refine gwI_of ?_
  unfold f_X1_dares
  have l0 : (0 : Int32).toInt = 0 := rfl
  have l10 : (10 : Int32).toInt = 10 := rfl
  exact gw_some (gq_I rfl)
theorem s_fv_sugarChewed {μ : gm_M} (h : CI μ) {r : Nat} {b0 : Nat} {b1 : Int32} (q0 : kid r) (q1 : ict b0) : gwI (fv_sugarChewed r b0 b1 μ) (fun x m => m = μ) := by
  have t := kid.t h.1 q0
  unfold fv_sugarChewed
  by_cases e5 : gm_tag μ r = 10
  · rw [if_pos e5]; exact s_X5_sugarChewed h (by rw [e5]; rfl) q1
  rw [if_neg e5]
  by_cases e6 : gm_tag μ r = 11
  · rw [if_pos e6]; exact s_X6_sugarChewed h (by rw [e6]; rfl) q1
  rw [if_neg e6]
  by_cases e9 : gm_tag μ r = 14
  · rw [if_pos e9]; exact s_X9_sugarChewed h (by rw [e9]; rfl) q1
  rw [if_neg e9]
  by_cases e3 : gm_tag μ r = 8
  · rw [if_pos e3]; exact s_X3_sugarChewed h (by rw [e3]; rfl) q1
  rw [if_neg e3]
  by_cases e4 : gm_tag μ r = 9
  · rw [if_pos e4]; exact s_X4_sugarChewed h (by rw [e4]; rfl) q1
  rw [if_neg e4]
  by_cases e1 : gm_tag μ r = 6
  · rw [if_pos e1]; exact s_X1_sugarChewed h (by rw [e1]; rfl) q1
  rw [if_neg e1]
  by_cases e10 : gm_tag μ r = 15
  · rw [if_pos e10]; exact s_X10_sugarChewed h (by rw [e10]; rfl) q1
  rw [if_neg e10]
  exfalso; omega
theorem s_fv_jawTired {μ : gm_M} (h : CI μ) {r : Nat} {b0 : Nat} (q0 : kid r) (q1 : ict b0) : gwI (fv_jawTired r b0 μ) (fun x m => m = μ) := by
  have t := kid.t h.1 q0
  unfold fv_jawTired
  by_cases e5 : gm_tag μ r = 10
  · rw [if_pos e5]; exact s_X5_jawTired h (by rw [e5]; rfl) q1
  rw [if_neg e5]
  by_cases e6 : gm_tag μ r = 11
  · rw [if_pos e6]; exact s_X6_jawTired h (by rw [e6]; rfl) q1
  rw [if_neg e6]
  by_cases e9 : gm_tag μ r = 14
  · rw [if_pos e9]; exact s_X5_jawTired h (by rw [e9]; rfl) q1
  rw [if_neg e9]
  by_cases e3 : gm_tag μ r = 8
  · rw [if_pos e3]; exact s_X3_jawTired h (by rw [e3]; rfl) q1
  rw [if_neg e3]
  by_cases e4 : gm_tag μ r = 9
  · rw [if_pos e4]; exact s_X6_jawTired h (by rw [e4]; rfl) q1
  rw [if_neg e4]
  by_cases e1 : gm_tag μ r = 6
  · rw [if_pos e1]; exact s_X1_jawTired h (by rw [e1]; rfl) q1
  rw [if_neg e1]
  by_cases e10 : gm_tag μ r = 15
  · rw [if_pos e10]; exact s_X3_jawTired h (by rw [e10]; rfl) q1
  rw [if_neg e10]
  exfalso; omega
theorem s_fv_dares {μ : gm_M} (h : CI μ) {r : Nat} {b0 : Int32} (q0 : kid r) : gwI (fv_dares r b0 μ) (fun x m => m = μ) := by
  have t := kid.t h.1 q0
  unfold fv_dares
  by_cases e5 : gm_tag μ r = 10
  · rw [if_pos e5]; exact s_X5_dares h (by rw [e5]; rfl)
  rw [if_neg e5]
  by_cases e6 : gm_tag μ r = 11
  · rw [if_pos e6]; exact s_X5_dares h (by rw [e6]; rfl)
  rw [if_neg e6]
  by_cases e9 : gm_tag μ r = 14
  · rw [if_pos e9]; exact s_X5_dares h (by rw [e9]; rfl)
  rw [if_neg e9]
  by_cases e3 : gm_tag μ r = 8
  · rw [if_pos e3]; exact s_X5_dares h (by rw [e3]; rfl)
  rw [if_neg e3]
  by_cases e4 : gm_tag μ r = 9
  · rw [if_pos e4]; exact s_X5_dares h (by rw [e4]; rfl)
  rw [if_neg e4]
  by_cases e1 : gm_tag μ r = 6
  · rw [if_pos e1]; exact s_X1_dares h (by rw [e1]; rfl)
  rw [if_neg e1]
  by_cases e10 : gm_tag μ r = 15
  · rw [if_pos e10]; exact s_X5_dares h (by rw [e10]; rfl)
  rw [if_neg e10]
  exfalso; omega
set_option maxHeartbeats 1000000 in
theorem s_X2_holds {μ : gm_M} (h : CI μ) {a0 : Nat} {a1 : Nat} {a2 : Int32} (q0 : ict a0) (q1 : AfW μ a1) : gwI (f_X2_holds a0 a1 a2 μ) (fun x m => m = μ) := by
  refine gwI_of ?_
  unfold f_X2_holds
  have l0 : (0 : Int32).toInt = 0 := rfl
  have l2 : (2 : Int32).toInt = 2 := rfl
  refine gw_if (q1.t) ?_
  refine gw_bI (s_X0_stretchOf h q1 q0) (fun x1 m1 z1 => ?_)
  replace z1 := z1.symm
  subst z1
  refine gw_gI (ict.c h.1 q0) (fun v2 ev2 => ?_)
  refine gw_gI (ict.c h.1 q0) (fun v3 ev3 => ?_)
  refine gw_gI (ict.c h.1 q0) (fun v4 ev4 => ?_)
  refine gw_dv (by omega) ?_
  refine gw_gI (q1.tc) (fun v5 ev5 => ?_)
  refine gw_gR (ict.c h.1 q0) (fun v6 ev6 => ?_)
  have cv6 : kid v6 := by rw [ev6]; exact h.kd q0
  refine gw_bI (s_fv_dares h cv6) (fun x7 m7 z7 => ?_)
  replace z7 := z7.symm
  subst z7
  exact gw_some (gq_I rfl)
set_option maxHeartbeats 1000000 in
theorem s_X2_passMinute {μ : gm_M} (h : CI μ) {a0 : Nat} {a1 : Int32} (q0 : ict a0) : gwV (f_X2_passMinute a0 a1 μ) (fun m => chg a0 μ m) := by
  refine gwV_of ?_
  unfold f_X2_passMinute
  have l0 : (0 : Int32).toInt = 0 := rfl
  have l1 : (1 : Int32).toInt = 1 := rfl
  have l5 : (5 : Int32).toInt = 5 := rfl
  have l99 : (99 : Int32).toInt = 99 := rfl
  have k0 := chg.refl a0 μ
  refine gw_gI (ict.c (h.ch q0 k0).1 q0) (fun v1 ev1 => ?_)
  refine gw_le (fun h4_2 => ?_) (fun h4_2 => ?_)
  ·
    refine gw_gI (ict.c (h.ch q0 k0).1 q0) (fun v3 ev3 => ?_)
    refine gw_le (fun h33_4 => ?_) (fun h33_4 => ?_)
    ·
      refine gw_gI (ict.c (h.ch q0 k0).1 q0) (fun v5 ev5 => ?_)
      refine gw_pI (ict.c (h.ch q0 k0).1 q0) (fun m6 em6 => ?_)
      have km6 := k0.w em6 (by decide)
      exact gw_some (gq_V km6)
    ·
      refine gw_gI (ict.c (h.ch q0 k0).1 q0) (fun v7 ev7 => ?_)
      refine gw_gR (ict.c (h.ch q0 k0).1 q0) (fun v8 ev8 => ?_)
      have cv8 : kid v8 := by rw [ev8]; exact (h.ch q0 k0).kd q0
      refine gw_bI (s_fv_sugarChewed (h.ch q0 k0) cv8 q0) (fun x9 m9 z9 => ?_)
      replace z9 := z9.symm
      subst z9
      refine gw_pI (ict.c (h.ch q0 k0).1 q0) (fun m10 em10 => ?_)
      have km10 := k0.w em10 (by decide)
      refine gw_gI (ict.c (h.ch q0 km10).1 q0) (fun v11 ev11 => ?_)
      refine gw_gR (ict.c (h.ch q0 km10).1 q0) (fun v12 ev12 => ?_)
      have cv12 : kid v12 := by rw [ev12]; exact (h.ch q0 km10).kd q0
      refine gw_bI (s_fv_jawTired (h.ch q0 km10) cv12 q0) (fun x13 m13 z13 => ?_)
      replace z13 := z13.symm
      subst z13
      refine gw_pI (ict.c (h.ch q0 km10).1 q0) (fun m14 em14 => ?_)
      have km14 := km10.w em14 (by decide)
      exact gw_some (gq_V km14)
  ·
    refine gw_gI (ict.c (h.ch q0 k0).1 q0) (fun v15 ev15 => ?_)
    refine gw_gI (ict.c (h.ch q0 k0).1 q0) (fun v16 ev16 => ?_)
    refine gw_pI (ict.c (h.ch q0 k0).1 q0) (fun m17 em17 => ?_)
    have km17 := k0.w em17 (by decide)
    exact gw_some (gq_V km17)
set_option maxHeartbeats 1000000 in
theorem s_X2_breathe {μ : gm_M} (h : CI μ) {a0 : Nat} {a1 : Int32} {a2 : Int32} (q0 : ict a0) : gwI (f_X2_breathe a0 a1 a2 μ) (fun x m => chg a0 μ m ∧ (x.toInt = 0 ∨ x.toInt = 1)) := by
  refine gwI_of ?_
  unfold f_X2_breathe
  have l0 : (0 : Int32).toInt = 0 := rfl
  have l1 : (1 : Int32).toInt = 1 := rfl
  have l10 : (10 : Int32).toInt = 10 := rfl
  have l9999 : (9999 : Int32).toInt = 9999 := rfl
  have k0 := chg.refl a0 μ
  refine gw_gI (ict.c (h.ch q0 k0).1 q0) (fun v1 ev1 => ?_)
  refine gw_pI (ict.c (h.ch q0 k0).1 q0) (fun m2 em2 => ?_)
  have km2 := k0.w em2 (by decide)
  refine gw_gI (ict.c (h.ch q0 km2).1 q0) (fun v3 ev3 => ?_)
  refine gw_lt (fun h15_4 => ?_) (fun h15_4 => ?_)
  ·
    refine gw_gI (ict.c (h.ch q0 km2).1 q0) (fun v5 ev5 => ?_)
    refine gw_gI (ict.c (h.ch q0 km2).1 q0) (fun v6 ev6 => ?_)
    refine gw_dv (by omega) ?_
    refine gw_pI (ict.c (h.ch q0 km2).1 q0) (fun m7 em7 => ?_)
    have km7 := km2.w em7 (by decide)
    refine gw_pI (ict.c (h.ch q0 km7).1 q0) (fun m8 em8 => ?_)
    have km8 := km7.w em8 (by decide)
    refine gw_z Iff.rfl (by omega) (gq_I ⟨km8, by omega⟩)
  ·
    refine gw_z Iff.rfl (by omega) (gq_I ⟨km2, by omega⟩)
