set_option maxHeartbeats 1000000 in
theorem s_X12_above {μ : gm_M} {a0 : Int32}  : gwI (f_X12_above a0 μ) (fun x m => m = μ) := by
  refine gwI_of ?_
  unfold f_X12_above
  have l0 : (0 : Int32).toInt = 0 := rfl
  refine gw_le (fun h1_1 => ?_) (fun h1_1 => ?_)
  ·
    exact gw_some (gq_I rfl)
  ·
    exact gw_some (gq_I rfl)
set_option maxHeartbeats 1000000 in
theorem s_X12_within {μ : gm_M} {a0 : Int32} {a1 : Int32} {a2 : Int32}  : gwI (f_X12_within a0 a1 a2 μ) (fun x m => m = μ) := by
  refine gwI_of ?_
  unfold f_X12_within
  refine gw_le (fun h2_1 => ?_) (fun h2_1 => ?_)
  ·
    refine gw_le (fun h11_2 => ?_) (fun h11_2 => ?_)
    ·
      exact gw_some (gq_I rfl)
    ·
      exact gw_some (gq_I rfl)
  ·
    exact gw_some (gq_I rfl)
set_option maxHeartbeats 1000000 in
theorem s_X12_thin {μ : gm_M} {a0 : Int32} {a1 : Int32}  : gwI (f_X12_thin a0 a1 μ) (fun x m => m = μ) := by
  refine gwI_of ?_
  unfold f_X12_thin
  have l5 : (5 : Int32).toInt = 5 := rfl
  refine gw_bI (s_X12_above  ) (fun x1 m1 z1 => ?_)
  replace z1 := z1.symm
  subst z1
  exact gw_some (gq_I rfl)
set_option maxHeartbeats 1000000 in
theorem s_X12_in {μ : gm_M} {a0 : Int32} {a1 : Int32} {a2 : Int32}  : gwI (f_X12_in a0 a1 a2 μ) (fun x m => m = μ ∧ ((x.toInt = 1 ∧ a1.toInt ≤ a0.toInt ∧ a0.toInt ≤ a2.toInt) ∨ (x.toInt = 0 ∧ (a0.toInt < a1.toInt ∨ a2.toInt < a0.toInt)))) := by
  refine gwI_of ?_
  unfold f_X12_in
  have l0 : (0 : Int32).toInt = 0 := rfl
  have l1 : (1 : Int32).toInt = 1 := rfl
  refine gw_lt (fun h2_1 => ?_) (fun h2_1 => ?_)
  ·
    refine gw_z Iff.rfl (by omega) (gq_I ⟨rfl, by omega⟩)
  ·
    refine gw_lt (fun h7_2 => ?_) (fun h7_2 => ?_)
    ·
      refine gw_z Iff.rfl (by omega) (gq_I ⟨rfl, by omega⟩)
    ·
      refine gw_z Iff.rfl (by omega) (gq_I ⟨rfl, by omega⟩)
set_option maxHeartbeats 1000000 in
theorem s_X12_isChild {μ : gm_M} (h : MI μ) {a1 : Int32}  : gwI (f_X12_isChild 65 a1 μ) (fun x m => m = μ ∧ ((x.toInt = 1 ∧ 0 ≤ a1.toInt ∧ a1.toInt < (μ.2.1 66 26).toInt ∧ a1.toInt < 5) ∨ (x.toInt = 0 ∧ (a1.toInt < 0 ∨ (μ.2.1 66 26).toInt ≤ a1.toInt)))) := by
  refine gwI_of ?_
  unfold f_X12_isChild
  have l0 : (0 : Int32).toInt = 0 := rfl
  have l1 : (1 : Int32).toInt = 1 := rfl
  have l26 : (26 : Int32).toInt = 26 := rfl
  have k0 := km.refl A0 μ
  refine gw_gRa 66 (h.1.c (r := 65) rfl) (h.1.r (by decide)) ?_
  refine gw_aI (i := (26 : Int32)) (h.1.t (r := 66) rfl) (h.1.l (r := 66) rfl) (by omega) (by omega) (fun v1 ev1 => ?_)
  have bv1 := h.n26
  have cv1 : v1 = μ.2.1 66 26 := ev1
  have dv1 : v1.toInt = (μ.2.1 66 26).toInt := by rw [cv1]
  have n2 : (v1 - (1 : Int32)).toInt = v1.toInt - (1 : Int32).toInt := gx_sub (by omega) (by omega)
  refine gw_bI (s_X12_in  ) (fun x3 m3 ⟨z3, f3⟩ => ?_)
  replace z3 := z3.symm
  subst z3
  refine gw_z Iff.rfl (by omega) (gq_I ⟨rfl, by (have := h.n26; omega)⟩)
set_option maxHeartbeats 1000000 in
theorem s_X12_isUnder {μ : gm_M} {a0 : Int32} {a1 : Int32}  : gwI (f_X12_isUnder a0 a1 μ) (fun x m => m = μ ∧ (x.toInt = 0 ∨ x.toInt = 1)) := by
  refine gwI_of ?_
  unfold f_X12_isUnder
  have l0 : (0 : Int32).toInt = 0 := rfl
  have l1 : (1 : Int32).toInt = 1 := rfl
  have l3 : (3 : Int32).toInt = 3 := rfl
  have l4 : (4 : Int32).toInt = 4 := rfl
  refine gw_j (fun s1 => True) (fun s1 _ => ?_) (fun j2 hj2 => ?_)
  ·
    refine gw_z Iff.rfl (by omega) (gq_I ⟨rfl, by omega⟩)
  ·
    refine gw_eq (fun h1_3 => ?_) (fun h1_3 => ?_)
    ·
      exact hj2 _ trivial
    ·
      refine gw_eq (fun h6_4 => ?_) (fun h6_4 => ?_)
      ·
        exact hj2 _ trivial
      ·
        refine gw_le (fun h10_5 => ?_) (fun h10_5 => ?_)
        ·
          refine gw_z Iff.rfl (by omega) (gq_I ⟨rfl, by omega⟩)
        ·
          refine gw_le (fun h15_6 => ?_) (fun h15_6 => ?_)
          ·
            refine gw_z Iff.rfl (by omega) (gq_I ⟨rfl, by omega⟩)
          ·
            refine gw_ne (fun h22_7 => ?_) (fun h22_7 => ?_)
            ·
              refine gw_z Iff.rfl (by omega) (gq_I ⟨rfl, by omega⟩)
            ·
              exact hj2 _ trivial
set_option maxHeartbeats 1000000 in
theorem s_X12_likelyOf {μ : gm_M} {a0 : Int32} {a1 : Int32}  : gwI (f_X12_likelyOf a0 a1 μ) (fun x m => m = μ) := by
  refine gwI_of ?_
  unfold f_X12_likelyOf
  have l0 : (0 : Int32).toInt = 0 := rfl
  have l1 : (1 : Int32).toInt = 1 := rfl
  have l10 : (10 : Int32).toInt = 10 := rfl
  refine gw_loop (fun s1 => s1.2.2 = μ ∧ (0 ≤ s1.2.1.toInt ∧ s1.2.1.toInt ≤ 10)) (fun s1 => (10 - s1.2.1.toInt)) (fun s1 ⟨k2, u3⟩ => ?_) 5000 ((0 : Int32), (0 : Int32), μ) ⟨rfl, (by show 0 ≤ (0 : Int32).toInt ∧ (0 : Int32).toInt ≤ 10; omega)⟩ (by show (10 - (0 : Int32).toInt) < ((5000 : Nat) : Int); omega) (by show 0 ≤ (10 - (0 : Int32).toInt); omega)
  refine gw_le (fun h7_4 => ?_) (fun h7_4 => ?_)
  ·
    exact gw_some (gs_inr (gq_I k2))
  ·
    refine gw_bI (s_X12_thin  ) (fun x5 m5 z5 => ?_)
    replace z5 := z5.symm
    subst z5
    refine gw_j (fun s6 => True) (fun s6 _ => ?_) (fun j7 hj7 => ?_)
    ·
      have n8 : (s1.2.1 + (1 : Int32)).toInt = s1.2.1.toInt + (1 : Int32).toInt := gx_add (by omega) (by omega)
      exact gw_some (gs_inl ⟨k2, (by show 0 ≤ (s1.2.1 + (1 : Int32)).toInt ∧ (s1.2.1 + (1 : Int32)).toInt ≤ 10; omega)⟩ (by show (10 - (s1.2.1 + (1 : Int32)).toInt) < (10 - s1.2.1.toInt); omega) (by show 0 ≤ (10 - (s1.2.1 + (1 : Int32)).toInt); omega))
    ·
      refine gw_lt (fun h17_9 => ?_) (fun h17_9 => ?_)
      ·
        exact hj7 _ trivial
      ·
        exact hj7 _ trivial
set_option maxHeartbeats 1000000 in
theorem s_X12_tellsOf {μ : gm_M} (h : MI μ) {a1 : Int32} {a2 : Int32} (q0 : 0 ≤ a1.toInt ∧ a1.toInt ≤ 400) : gwI (f_X12_tellsOf 65 a1 a2 μ) (fun x m => m = μ ∧ (((μ.2.1 66 32).toInt = -1 ∧ x = a2) ∨ (0 ≤ (μ.2.1 66 32).toInt ∧ (μ.2.1 66 32).toInt ≤ 4 ∧ x = μ.2.1 66 (a1.toInt + (μ.2.1 66 32).toInt).toNat))) := by
  refine gwI_of ?_
  unfold f_X12_tellsOf
  have lm1 : (-1 : Int32).toInt = -1 := rfl
  have l32 : (32 : Int32).toInt = 32 := rfl
  have k0 := km.refl A0 μ
  refine gw_gRa 66 (h.1.c (r := 65) rfl) (h.1.r (by decide)) ?_
  refine gw_aI (i := (32 : Int32)) (h.1.t (r := 66) rfl) (h.1.l (r := 66) rfl) (by omega) (by omega) (fun v1 ev1 => ?_)
  have bv1 := h.n32
  have cv1 : v1 = μ.2.1 66 32 := ev1
  have dv1 : v1.toInt = (μ.2.1 66 32).toInt := by rw [cv1]
  refine gw_ne (fun h8_2 => ?_) (fun h8_2 => ?_)
  ·
    refine gw_gRa 66 (h.1.c (r := 65) rfl) (h.1.r (by decide)) ?_
    refine gw_gRa 66 (h.1.c (r := 65) rfl) (h.1.r (by decide)) ?_
    refine gw_aI (i := (32 : Int32)) (h.1.t (r := 66) rfl) (h.1.l (r := 66) rfl) (by omega) (by omega) (fun v3 ev3 => ?_)
    have bv3 := h.n32
    have cv3 : v3 = μ.2.1 66 32 := ev3
    have dv3 : v3.toInt = (μ.2.1 66 32).toInt := by rw [cv3]
    have n4 : (a1 + v3).toInt = a1.toInt + v3.toInt := gx_add (by omega) (by omega)
    refine gw_aI (i := (a1 + v3)) (h.1.t (r := 66) rfl) (h.1.l (r := 66) rfl) (by omega) (by omega) (fun v5 ev5 => ?_)
    exact gw_some (gq_I ⟨rfl, by (first | exact Or.inl ⟨by omega, rfl⟩ | exact Or.inr ⟨by omega, by omega, by rw [ev5, n4, dv3]⟩)⟩)
  ·
    exact gw_some (gq_I ⟨rfl, by (first | exact Or.inl ⟨by omega, rfl⟩ | exact Or.inr ⟨by omega, by omega, by rw [ev5, n4, dv3]⟩)⟩)
set_option maxHeartbeats 1000000 in
theorem s_X12_sweetNow {μ : gm_M} (h : MI μ)   : gwI (f_X12_sweetNow 65 μ) (fun x m => m = μ) := by
  refine gwI_of ?_
  unfold f_X12_sweetNow
  have l20 : (20 : Int32).toInt = 20 := rfl
  have l215 : (215 : Int32).toInt = 215 := rfl
  have k0 := km.refl A0 μ
  refine gw_if (h.1.t (r := 65) rfl) ?_
  refine gw_bI (s_X12_tellsOf h  (by omega)) (fun x1 m1 ⟨z1, f1⟩ => ?_)
  replace z1 := z1.symm
  subst z1
  exact gw_some (gq_I rfl)
set_option maxHeartbeats 1000000 in
theorem s_X12_chewsOf {μ : gm_M} (h : MI μ) {a1 : Int32} (q0 : 0 ≤ a1.toInt ∧ a1.toInt < 5) : gwI (f_X12_chewsOf 65 a1 μ) (fun x m => m = μ) := by
  refine gwI_of ?_
  unfold f_X12_chewsOf
  have l0 : (0 : Int32).toInt = 0 := rfl
  have l1 : (1 : Int32).toInt = 1 := rfl
  have l2 : (2 : Int32).toInt = 2 := rfl
  have l3 : (3 : Int32).toInt = 3 := rfl
  have l4 : (4 : Int32).toInt = 4 := rfl
  have l5 : (5 : Int32).toInt = 5 := rfl
  have l6 : (6 : Int32).toInt = 6 := rfl
  have l33 : (33 : Int32).toInt = 33 := rfl
  have l38 : (38 : Int32).toInt = 38 := rfl
  have l43 : (43 : Int32).toInt = 43 := rfl
  have k0 := km.refl A0 μ
  refine gw_gRa 66 (h.1.c (r := 65) rfl) (h.1.r (by decide)) ?_
  have n1 : ((38 : Int32) + a1).toInt = (38 : Int32).toInt + a1.toInt := gx_add (by omega) (by omega)
  refine gw_aI (i := ((38 : Int32) + a1)) (h.1.t (r := 66) rfl) (h.1.l (r := 66) rfl) (by omega) (by omega) (fun v2 ev2 => ?_)
  refine gw_dv (by omega) ?_
  refine gw_gRa 66 (h.1.c (r := 65) rfl) (h.1.r (by decide)) ?_
  have n3 : ((33 : Int32) + a1).toInt = (33 : Int32).toInt + a1.toInt := gx_add (by omega) (by omega)
  refine gw_aI (i := ((33 : Int32) + a1)) (h.1.t (r := 66) rfl) (h.1.l (r := 66) rfl) (by omega) (by omega) (fun v4 ev4 => ?_)
  refine gw_eq (fun h23_5 => ?_) (fun h23_5 => ?_)
  ·
    exact gw_some (gq_I rfl)
  ·
    refine gw_eq (fun h23_6 => ?_) (fun h23_6 => ?_)
    ·
      refine gw_dv (by omega) ?_
      exact gw_some (gq_I rfl)
    ·
      refine gw_eq (fun h23_7 => ?_) (fun h23_7 => ?_)
      ·
        refine gw_bI (s_X12_above  ) (fun x8 m8 z8 => ?_)
        replace z8 := z8.symm
        subst z8
        exact gw_some (gq_I rfl)
      ·
        refine gw_eq (fun h23_9 => ?_) (fun h23_9 => ?_)
        ·
          refine gw_gRa 66 (h.1.c (r := 65) rfl) (h.1.r (by decide)) ?_
          have n10 : ((1 : Int32) + a1).toInt = (1 : Int32).toInt + a1.toInt := gx_add (by omega) (by omega)
          refine gw_aI (i := ((1 : Int32) + a1)) (h.1.t (r := 66) rfl) (h.1.l (r := 66) rfl) (by omega) (by omega) (fun v11 ev11 => ?_)
          exact gw_some (gq_I rfl)
        ·
          refine gw_eq (fun h23_12 => ?_) (fun h23_12 => ?_)
          ·
            refine gw_dv (by omega) ?_
            exact gw_some (gq_I rfl)
          ·
            refine gw_eq (fun h23_13 => ?_) (fun h23_13 => ?_)
            ·
              refine gw_bI (s_X12_above  ) (fun x14 m14 z14 => ?_)
              replace z14 := z14.symm
              subst z14
              refine gw_gRa 66 (h.1.c (r := 65) rfl) (h.1.r (by decide)) ?_
              refine gw_gRa 66 (h.1.c (r := 65) rfl) (h.1.r (by decide)) ?_
              refine gw_aI (i := (0 : Int32)) (h.1.t (r := 66) rfl) (h.1.l (r := 66) rfl) (by omega) (by omega) (fun v15 ev15 => ?_)
              refine gw_dv (by omega) ?_
              have n16 : ((4 : Int32) * a1).toInt = 4 * a1.toInt := gx_mul 4 rfl (by omega) (by omega)
              have n17 : ((43 : Int32) + ((4 : Int32) * a1)).toInt = (43 : Int32).toInt + ((4 : Int32) * a1).toInt := gx_add (by omega) (by omega)
              have n18 := gx_remk4 v15
              have n19 : (((43 : Int32) + ((4 : Int32) * a1)) + (v15 - v15 / (4 : Int32) * (4 : Int32))).toInt = ((43 : Int32) + ((4 : Int32) * a1)).toInt + (v15 - v15 / (4 : Int32) * (4 : Int32)).toInt := gx_add (by omega) (by omega)
              refine gw_aI (i := (((43 : Int32) + ((4 : Int32) * a1)) + (v15 - v15 / (4 : Int32) * (4 : Int32)))) (h.1.t (r := 66) rfl) (h.1.l (r := 66) rfl) (by omega) (by omega) (fun v20 ev20 => ?_)
              exact gw_some (gq_I rfl)
            ·
              exact gw_some (gq_I rfl)
set_option maxHeartbeats 1000000 in
theorem s_X12_tiresOf {μ : gm_M} (h : MI μ) {a1 : Int32} (q0 : 0 ≤ a1.toInt ∧ a1.toInt < 5) : gwI (f_X12_tiresOf 65 a1 μ) (fun x m => m = μ) := by
  refine gwI_of ?_
  unfold f_X12_tiresOf
  have l1 : (1 : Int32).toInt = 1 := rfl
  have l2 : (2 : Int32).toInt = 2 := rfl
  have l3 : (3 : Int32).toInt = 3 := rfl
  have l4 : (4 : Int32).toInt = 4 := rfl
  have l5 : (5 : Int32).toInt = 5 := rfl
  have l6 : (6 : Int32).toInt = 6 := rfl
  have l33 : (33 : Int32).toInt = 33 := rfl
  have k0 := km.refl A0 μ
  refine gw_gRa 66 (h.1.c (r := 65) rfl) (h.1.r (by decide)) ?_
  have n1 : ((1 : Int32) + a1).toInt = (1 : Int32).toInt + a1.toInt := gx_add (by omega) (by omega)
  refine gw_aI (i := ((1 : Int32) + a1)) (h.1.t (r := 66) rfl) (h.1.l (r := 66) rfl) (by omega) (by omega) (fun v2 ev2 => ?_)
  refine gw_gRa 66 (h.1.c (r := 65) rfl) (h.1.r (by decide)) ?_
  have n3 : ((33 : Int32) + a1).toInt = (33 : Int32).toInt + a1.toInt := gx_add (by omega) (by omega)
  refine gw_aI (i := ((33 : Int32) + a1)) (h.1.t (r := 66) rfl) (h.1.l (r := 66) rfl) (by omega) (by omega) (fun v4 ev4 => ?_)
  refine gw_eq (fun h18_5 => ?_) (fun h18_5 => ?_)
  ·
    exact gw_some (gq_I rfl)
  ·
    refine gw_eq (fun h18_6 => ?_) (fun h18_6 => ?_)
    ·
      exact gw_some (gq_I rfl)
    ·
      refine gw_eq (fun h18_7 => ?_) (fun h18_7 => ?_)
      ·
        exact gw_some (gq_I rfl)
      ·
        refine gw_eq (fun h18_8 => ?_) (fun h18_8 => ?_)
        ·
          refine gw_dv (by omega) ?_
          exact gw_some (gq_I rfl)
        ·
          refine gw_eq (fun h18_9 => ?_) (fun h18_9 => ?_)
          ·
            exact gw_some (gq_I rfl)
          ·
            exact gw_some (gq_I rfl)
set_option maxHeartbeats 1000000 in
theorem s_X12_allOf {μ : gm_M} (h : MI μ) {a1 : Int32} (q0 : 0 ≤ a1.toInt ∧ a1.toInt ≤ 400) : gwI (f_X12_allOf 65 a1 μ) (fun x m => m = μ) := by
  refine gwI_of ?_
  unfold f_X12_allOf
  have l0 : (0 : Int32).toInt = 0 := rfl
  have l1 : (1 : Int32).toInt = 1 := rfl
  have l26 : (26 : Int32).toInt = 26 := rfl
  have k0 := km.refl A0 μ
  refine gw_loop (fun s1 => (0 ≤ s1.2.toInt ∧ s1.2.toInt ≤ 5)) (fun s1 => (5 - s1.2.toInt)) (fun s1 u2 => ?_) 5000 ((0 : Int32), (0 : Int32)) (by show 0 ≤ (0 : Int32).toInt ∧ (0 : Int32).toInt ≤ 5; omega) (by show (5 - (0 : Int32).toInt) < ((5000 : Nat) : Int); omega) (by show 0 ≤ (5 - (0 : Int32).toInt); omega)
  refine gw_gRa 66 (h.1.c (r := 65) rfl) (h.1.r (by decide)) ?_
  refine gw_aI (i := (26 : Int32)) (h.1.t (r := 66) rfl) (h.1.l (r := 66) rfl) (by omega) (by omega) (fun v3 ev3 => ?_)
  have bv3 := h.n26
  have cv3 : v3 = μ.2.1 66 26 := ev3
  have dv3 : v3.toInt = (μ.2.1 66 26).toInt := by rw [cv3]
  refine gw_le (fun h12_4 => ?_) (fun h12_4 => ?_)
  ·
    exact gw_some (gs_inr (gq_I rfl))
  ·
    refine gw_gRa 66 (h.1.c (r := 65) rfl) (h.1.r (by decide)) ?_
    have n5 : (a1 + s1.2).toInt = a1.toInt + s1.2.toInt := gx_add (by omega) (by omega)
    refine gw_aI (i := (a1 + s1.2)) (h.1.t (r := 66) rfl) (h.1.l (r := 66) rfl) (by omega) (by omega) (fun v6 ev6 => ?_)
    have n7 : (s1.2 + (1 : Int32)).toInt = s1.2.toInt + (1 : Int32).toInt := gx_add (by omega) (by omega)
    exact gw_some (gs_inl (by show 0 ≤ (s1.2 + (1 : Int32)).toInt ∧ (s1.2 + (1 : Int32)).toInt ≤ 5; omega) (by show (5 - (s1.2 + (1 : Int32)).toInt) < (5 - s1.2.toInt); omega) (by show 0 ≤ (5 - (s1.2 + (1 : Int32)).toInt); omega))
set_option maxHeartbeats 1000000 in
theorem s_X12_bubbles {μ : gm_M} (h : MI μ)   : gwI (f_X12_bubbles 65 μ) (fun x m => m = μ) := by
  refine gwI_of ?_
  unfold f_X12_bubbles
  have l0 : (0 : Int32).toInt = 0 := rfl
  have l1 : (1 : Int32).toInt = 1 := rfl
  have l16 : (16 : Int32).toInt = 16 := rfl
  have l26 : (26 : Int32).toInt = 26 := rfl
  have k0 := km.refl A0 μ
  refine gw_loop (fun s1 => (0 ≤ s1.2.toInt ∧ s1.2.toInt ≤ 5)) (fun s1 => (5 - s1.2.toInt)) (fun s1 u2 => ?_) 5000 ((0 : Int32), (0 : Int32)) (by show 0 ≤ (0 : Int32).toInt ∧ (0 : Int32).toInt ≤ 5; omega) (by show (5 - (0 : Int32).toInt) < ((5000 : Nat) : Int); omega) (by show 0 ≤ (5 - (0 : Int32).toInt); omega)
  refine gw_gRa 66 (h.1.c (r := 65) rfl) (h.1.r (by decide)) ?_
  refine gw_aI (i := (26 : Int32)) (h.1.t (r := 66) rfl) (h.1.l (r := 66) rfl) (by omega) (by omega) (fun v3 ev3 => ?_)
  have bv3 := h.n26
  have cv3 : v3 = μ.2.1 66 26 := ev3
  have dv3 : v3.toInt = (μ.2.1 66 26).toInt := by rw [cv3]
  refine gw_le (fun h12_4 => ?_) (fun h12_4 => ?_)
  ·
    exact gw_some (gs_inr (gq_I rfl))
  ·
    refine gw_gRa 66 (h.1.c (r := 65) rfl) (h.1.r (by decide)) ?_
    have n5 : ((16 : Int32) + s1.2).toInt = (16 : Int32).toInt + s1.2.toInt := gx_add (by omega) (by omega)
    refine gw_aI (i := ((16 : Int32) + s1.2)) (h.1.t (r := 66) rfl) (h.1.l (r := 66) rfl) (by omega) (by omega) (fun v6 ev6 => ?_)
    refine gw_j (fun s7 => True) (fun s7 _ => ?_) (fun j8 hj8 => ?_)
    ·
      have n9 : (s1.2 + (1 : Int32)).toInt = s1.2.toInt + (1 : Int32).toInt := gx_add (by omega) (by omega)
      exact gw_some (gs_inl (by show 0 ≤ (s1.2 + (1 : Int32)).toInt ∧ (s1.2 + (1 : Int32)).toInt ≤ 5; omega) (by show (5 - (s1.2 + (1 : Int32)).toInt) < (5 - s1.2.toInt); omega) (by show 0 ≤ (5 - (s1.2 + (1 : Int32)).toInt); omega))
    ·
      refine gw_le (fun h25_10 => ?_) (fun h25_10 => ?_)
      ·
        exact hj8 _ trivial
      ·
        exact hj8 _ trivial
