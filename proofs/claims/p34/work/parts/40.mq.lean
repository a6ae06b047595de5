section
set_option maxHeartbeats 1000000 in
theorem s_X12_above {μ : gm_M} {a0 : Int32}  : gwI (f_X12_above a0 μ) (fun x m => m = μ) := by
  refine gwI_of ?_
  unfold f_X12_above
  have l0 : (0 : Int32).toInt = 0 := rfl
  refine gw_le (fun h1_1 => ?_) (fun h1_1 => ?_)
  ·
    exact gw_some (gq_I rfl)
  ·
    exact gw_some (gq_I rfl)
set_option maxHeartbeats 1000000 in
theorem s_X12_within {μ : gm_M} {a0 : Int32} {a1 : Int32} {a2 : Int32}  : gwI (f_X12_within a0 a1 a2 μ) (fun x m => m = μ) := by
  refine gwI_of ?_
  unfold f_X12_within
  refine gw_le (fun h2_1 => ?_) (fun h2_1 => ?_)
  ·
    refine gw_le (fun h11_2 => ?_) (fun h11_2 => ?_)
    ·
      exact gw_some (gq_I rfl)
    ·
      exact gw_some (gq_I rfl)
  ·
    exact gw_some (gq_I rfl)
set_option maxHeartbeats 1000000 in
theorem s_X12_thin {μ : gm_M} {a0 : Int32} {a1 : Int32}  : gwI (f_X12_thin a0 a1 μ) (fun x m => m = μ) := by
  refine gwI_of ?_
  unfold f_X12_thin
  have l5 : (5 : Int32).toInt = 5 := rfl
  refine gw_bI (s_X12_above  ) (fun x1 m1 z1 => ?_)
  replace z1 := z1.symm
  subst z1
  exact gw_some (gq_I rfl)
set_option maxHeartbeats 1000000 in
theorem s_X12_in {μ : gm_M} {a0 : Int32} {a1 : Int32} {a2 : Int32}  : gwI (f_X12_in a0 a1 a2 μ) (fun x m => m = μ ∧ ((x.toInt = 1 ∧ a1.toInt ≤ a0.toInt ∧ a0.toInt ≤ a2.toInt) ∨ (x.toInt = 0 ∧ (a0.toInt < a1.toInt ∨ a2.toInt < a0.toInt)))) := by
  refine gwI_of ?_
  unfold f_X12_in
  have l0 : (0 : Int32).toInt = 0 := rfl
  have l1 : (1 : Int32).toInt = 1 := rfl
  refine gw_lt (fun h2_1 => ?_) (fun h2_1 => ?_)
  ·
    refine gw_z Iff.rfl (by omega) (gq_I ⟨rfl, by omega⟩)
  ·
    refine gw_lt (fun h7_2 => ?_) (fun h7_2 => ?_)
    ·
      refine gw_z Iff.rfl (by omega) (gq_I ⟨rfl, by omega⟩)
    ·
      refine gw_z Iff.rfl (by omega) (gq_I ⟨rfl, by omega⟩)
set_option maxHeartbeats 1000000 in
theorem s_X12_isChild {μ : gm_M} (h : MI μ) {a1 : Int32}  : gwI (f_X12_isChild 65 a1 μ) (fun x m => m = μ ∧ ((x.toInt = 1 ∧ 0 ≤ a1.toInt ∧ a1.toInt < (μ.2.1 66 26).toInt ∧ a1.toInt < 5) ∨ (x.toInt = 0 ∧ (a1.toInt < 0 ∨ (μ.2.1 66 26).toInt ≤ a1.toInt)))) := by
  refine gwI_of ?_
  unfold f_X12_isChild
  have l0 : (0 : Int32).toInt = 0 := rfl
  have l1 : (1 : Int32).toInt = 1 := rfl
  have l26 : (26 : Int32).toInt = 26 := rfl
  have k0 := km.refl A0 μ
  refine gw_gRa 66 (h.1.c (r := 65) rfl) (h.1.r (by decide)) ?_
  refine gw_aI (i := (26 : Int32)) (h.1.t (r := 66) rfl) (h.1.l (r := 66) rfl) (by omega) (by omega) (fun v1 ev1 => ?_)
  have bv1 := h.n26
  have cv1 : v1 = μ.2.1 66 26 := ev1
  have dv1 : v1.toInt = (μ.2.1 66 26).toInt := by rw [cv1]
  have n2 : (v1 - (1 : Int32)).toInt = v1.toInt - (1 : Int32).toInt := gx_sub (by omega) (by omega)
  refine gw_bI (s_X12_in  ) (fun x3 m3 ⟨z3, f3⟩ => ?_)
  replace z3 := z3.symm
  subst z3
  refine gw_z Iff.rfl (by omega) (gq_I ⟨rfl, by (have := h.n26; omega)⟩)
set_option maxHeartbeats 1000000 in
theorem s_X12_isUnder {μ : gm_M} {a0 : Int32} {a1 : Int32}  : gwI (f_X12_isUnder a0 a1 μ) (fun x m => m = μ ∧ (x.toInt = 0 ∨ x.toInt = 1)) := by
  refine gwI_of ?_
  unfold f_X12_isUnder
  have l0 : (0 : Int32).toInt = 0 := rfl
  have l1 : (1 : Int32).toInt = 1 := rfl
  have l3 : (3 : Int32).toInt = 3 := rfl
  have l4 : (4 : Int32).toInt = 4 := rfl
  refine gw_j (fun s1 => True) (fun s1 _ => ?_) (fun j2 hj2 => ?_)
  ·
    refine gw_z Iff.rfl (by omega) (gq_I ⟨rfl, by omega⟩)
  ·
    refine gw_eq (fun h1_3 => ?_) (fun h1_3 => ?_)
    ·
      exact hj2 _ trivial
    ·
      refine gw_eq (fun h6_4 => ?_) (fun h6_4 => ?_)
      ·
        exact hj2 _ trivial
      ·
        refine gw_le (fun h10_5 => ?_) (fun h10_5 => ?_)
        ·
          refine gw_z Iff.rfl (by omega) (gq_I ⟨rfl, by omega⟩)
        ·
          refine gw_le (fun h15_6 => ?_) (fun h15_6 => ?_)
          ·
            refine gw_z Iff.rfl (by omega) (gq_I ⟨rfl, by omega⟩)
          ·
            refine gw_ne (fun h22_7 => ?_) (fun h22_7 => ?_)
            ·
              refine gw_z Iff.rfl (by omega) (gq_I ⟨rfl, by omega⟩)
            ·
              exact hj2 _ trivial
set_option maxHeartbeats 1000000 in
theorem s_X12_likelyOf {μ : gm_M} {a0 : Int32} {a1 : Int32}  : gwI (f_X12_likelyOf a0 a1 μ) (fun x m => m = μ) := by
  refine gwI_of ?_
  unfold f_X12_likelyOf
  have l0 : (0 : Int32).toInt = 0 := rfl
  have l1 : (1 : Int32).toInt = 1 := rfl
  have l10 : (10 : Int32).toInt = 10 := rfl
  refine gw_loop (fun s1 => s1.2.2 = μ ∧ (0 ≤ s1.2.1.toInt ∧ s1.2.1.toInt ≤ 10)) (fun s1 => (10 - s1.2.1.toInt)) (fun s1 ⟨k2, u3⟩ => ?_) 5000 ((0 : Int32), (0 : Int32), μ) ⟨rfl, (by show 0 ≤ (0 : Int32).toInt ∧ (0 : Int32).toInt ≤ 10; omega)⟩ (by show (10 - (0 : Int32).toInt) < ((5000 : Nat) : Int); omega) (by show 0 ≤ (10 - (0 : Int32).toInt); omega)
  refine gw_le (fun h7_4 => ?_) (fun h7_4 => ?_)
  ·
    exact gw_some (gs_inr (gq_I k2))
  ·
    refine gw_bI (s_X12_thin  ) (fun x5 m5 z5 => ?_)
    replace z5 := z5.symm
    subst z5
    refine gw_j (fun s6 => True) (fun s6 _ => ?_) (fun j7 hj7 => ?_)
    ·
      have n8 : (s1.2.1 + (1 : Int32)).toInt = s1.2.1.toInt + (1 : Int32).toInt := gx_add (by omega) (by omega)
      exact gw_some (gs_inl ⟨k2, (by show 0 ≤ (s1.2.1 + (1 : Int32)).toInt ∧ (s1.2.1 + (1 : Int32)).toInt ≤ 10; omega)⟩ (by show (10 - (s1.2.1 + (1 : Int32)).toInt) < (10 - s1.2.1.toInt); omega) (by show 0 ≤ (10 - (s1.2.1 + (1 : Int32)).toInt); omega))
    ·
      refine gw_lt (fun h17_9 => ?_) (fun h17_9 => ?_)
      ·
        exact hj7 _ trivial
      ·
        exact hj7 _ trivial
set_option maxHeartbeats 1000000 in
theorem s_X12_tellsOf {μ : gm_M} (h : MI μ) {a1 : Int32} {a2 : Int32} (q0 : 0 ≤ a1.toInt ∧ a1.toInt ≤ 400) : gwI (f_X12_tellsOf 65 a1 a2 μ) (fun x m => m = μ ∧ (((μ.2.1 66 32).toInt = -1 ∧ x = a2) ∨ (0 ≤ (μ.2.1 66 32).toInt ∧ (μ.2.1 66 32).toInt ≤ 4 ∧ x = μ.2.1 66 (a1.toInt + (μ.2.1 66 32).toInt).toNat))) := by
  refine gwI_of ?_
  unfold f_X12_tellsOf
  have lm1 : (-1 : Int32).toInt = -1 := rfl
  have l32 : (32 : Int32).toInt = 32 := rfl
  have k0 := km.refl A0 μ
  refine gw_gRa 66 (h.1.c (r := 65) rfl) (h.1.r (by decide)) ?_
  refine gw_aI (i := (32 : Int32)) (h.1.t (r := 66) rfl) (h.1.l (r := 66) rfl) (by omega) (by omega) (fun v1 ev1 => ?_)
  have bv1 := h.n32
  have cv1 : v1 = μ.2.1 66 32 := ev1
  have dv1 : v1.toInt = (μ.2.1 66 32).toInt := by rw [cv1]
  refine gw_ne (fun h8_2 => ?_) (fun h8_2 => ?_)
  ·
    refine gw_gRa 66 (h.1.c (r := 65) rfl) (h.1.r (by decide)) ?_
    refine gw_gRa 66 (h.1.c (r := 65) rfl) (h.1.r (by decide)) ?_
    refine gw_aI (i := (32 : Int32)) (h.1.t (r := 66) rfl) (h.1.l (r := 66) rfl) (by omega) (by omega) (fun v3 ev3 => ?_)
    have bv3 := h.n32
    have cv3 : v3 = μ.2.1 66 32 := ev3
    have dv3 : v3.toInt = (μ.2.1 66 32).toInt := by rw [cv3]
    have n4 : (a1 + v3).toInt = a1.toInt + v3.toInt := gx_add (by omega) (by omega)
    refine gw_aI (i := (a1 + v3)) (h.1.t (r := 66) rfl) (h.1.l (r := 66) rfl) (by omega) (by omega) (fun v5 ev5 => ?_)
    exact gw_some (gq_I ⟨rfl, by (first | exact Or.inl ⟨by omega, rfl⟩ | exact Or.inr ⟨by omega, by omega, by rw [ev5, n4, dv3]⟩)⟩)
  ·
    exact gw_some (gq_I ⟨rfl, by (first | exact Or.inl ⟨by omega, rfl⟩ | exact Or.inr ⟨by omega, by omega, by rw [ev5, n4, dv3]⟩)⟩)
set_option maxHeartbeats 1000000 in
theorem s_X12_sweetNow {μ : gm_M} (h : MI μ)   : gwI (f_X12_sweetNow 65 μ) (fun x m => m = μ) := by
  refine gwI_of ?_
  unfold f_X12_sweetNow
  have l20 : (20 : Int32).toInt = 20 := rfl
  have l215 : (215 : Int32).toInt = 215 := rfl
  have k0 := km.refl A0 μ
  refine gw_if (h.1.t (r := 65) rfl) ?_
  refine gw_bI (s_X12_tellsOf h  (by omega)) (fun x1 m1 ⟨z1, f1⟩ => ?_)
  replace z1 := z1.symm
  subst z1
  exact gw_some (gq_I rfl)
set_option maxHeartbeats 1000000 in
theorem s_X12_chewsOf {μ : gm_M} (h : MI μ) {a1 : Int32} (q0 : 0 ≤ a1.toInt ∧ a1.toInt < 5) : gwI (f_X12_chewsOf 65 a1 μ) (fun x m => m = μ) := by
  refine gwI_of ?_
  unfold f_X12_chewsOf
  have l0 : (0 : Int32).toInt = 0 := rfl
  have l1 : (1 : Int32).toInt = 1 := rfl
  have l2 : (2 : Int32).toInt = 2 := rfl
  have l3 : (3 : Int32).toInt = 3 := rfl
  have l4 : (4 : Int32).toInt = 4 := rfl
  have l5 : (5 : Int32).toInt = 5 := rfl
  have l6 : (6 : Int32).toInt = 6 := rfl
  have l33 : (33 : Int32).toInt = 33 := rfl
  have l38 : (38 : Int32).toInt = 38 := rfl
  have l43 : (43 : Int32).toInt = 43 := rfl
  have k0 := km.refl A0 μ
  refine gw_gRa 66 (h.1.c (r := 65) rfl) (h.1.r (by decide)) ?_
  have n1 : ((38 : Int32) + a1).toInt = (38 : Int32).toInt + a1.toInt := gx_add (by omega) (by omega)
  refine gw_aI (i := ((38 : Int32) + a1)) (h.1.t (r := 66) rfl) (h.1.l (r := 66) rfl) (by omega) (by omega) (fun v2 ev2 => ?_)
  refine gw_dv (by omega) ?_
  refine gw_gRa 66 (h.1.c (r := 65) rfl) (h.1.r (by decide)) ?_
  have n3 : ((33 : Int32) + a1).toInt = (33 : Int32).toInt + a1.toInt := gx_add (by omega) (by omega)
  refine gw_aI (i := ((33 : Int32) + a1)) (h.1.t (r := 66) rfl) (h.1.l (r := 66) rfl) (by omega) (by omega) (fun v4 ev4 => ?_)
  refine gw_eq (fun h23_5 => ?_) (fun h23_5 => ?_)
  ·
    exact gw_some (gq_I rfl)
  ·
    refine gw_eq (fun h23_6 => ?_) (fun h23_6 => ?_)
    ·
      refine gw_dv (by omega) ?_
      exact gw_some (gq_I rfl)
    ·
      refine gw_eq (fun h23_7 => ?_) (fun h23_7 => ?_)
      ·
        refine gw_bI (s_X12_above  ) (fun x8 m8 z8 => ?_)
        replace z8 := z8.symm
        subst z8
        exact gw_some (gq_I rfl)
      ·
        refine gw_eq (fun h23_9 => ?_) (fun h23_9 => ?_)
        ·
          refine gw_gRa 66 (h.1.c (r := 65) rfl) (h.1.r (by decide)) ?_
          have n10 : ((1 : Int32) + a1).toInt = (1 : Int32).toInt + a1.toInt := gx_add (by omega) (by omega)
          refine gw_aI (i := ((1 : Int32) + a1)) (h.1.t (r := 66) rfl) (h.1.l (r := 66) rfl) (by omega) (by omega) (fun v11 ev11 => ?_)
          exact gw_some (gq_I rfl)
        ·
          refine gw_eq (fun h23_12 => ?_) (fun h23_12 => ?_)
          ·
            refine gw_dv (by omega) ?_
            exact gw_some (gq_I rfl)
          ·
            refine gw_eq (fun h23_13 => ?_) (fun h23_13 => ?_)
            ·
              refine gw_bI (s_X12_above  ) (fun x14 m14 z14 => ?_)
              replace z14 := z14.symm
              subst z14
              refine gw_gRa 66 (h.1.c (r := 65) rfl) (h.1.r (by decide)) ?_
              refine gw_gRa 66 (h.1.c (r := 65) rfl) (h.1.r (by decide)) ?_
              refine gw_aI (i := (0 : Int32)) (h.1.t (r := 66) rfl) (h.1.l (r := 66) rfl) (by omega) (by omega) (fun v15 ev15 => ?_)
              refine gw_dv (by omega) ?_
              have n16 : ((4 : Int32) * a1).toInt = 4 * a1.toInt := gx_mul 4 rfl (by omega) (by omega)
              have n17 : ((43 : Int32) + ((4 : Int32) * a1)).toInt = (43 : Int32).toInt + ((4 : Int32) * a1).toInt := gx_add (by omega) (by omega)
              have n18 := gx_remk4 v15
              have n19 : (((43 : Int32) + ((4 : Int32) * a1)) + (v15 - v15 / (4 : Int32) * (4 : Int32))).toInt = ((43 : Int32) + ((4 : Int32) * a1)).toInt + (v15 - v15 / (4 : Int32) * (4 : Int32)).toInt := gx_add (by omega) (by omega)
              refine gw_aI (i := (((43 : Int32) + ((4 : Int32) * a1)) + (v15 - v15 / (4 : Int32) * (4 : Int32)))) (h.1.t (r := 66) rfl) (h.1.l (r := 66) rfl) (by omega) (by omega) (fun v20 ev20 => ?_)
              exact gw_some (gq_I rfl)
            ·
              exact gw_some (gq_I rfl)
set_option maxHeartbeats 1000000 in
theorem s_X12_tiresOf {μ : gm_M} (h : MI μ) {a1 : Int32} (q0 : 0 ≤ a1.toInt ∧ a1.toInt < 5) : gwI (f_X12_tiresOf 65 a1 μ) (fun x m => m = μ) := by
  refine gwI_of ?_
  unfold f_X12_tiresOf
  have l1 : (1 : Int32).toInt = 1 := rfl
  have l2 : (2 : Int32).toInt = 2 := rfl
  have l3 : (3 : Int32).toInt = 3 := rfl
  have l4 : (4 : Int32).toInt = 4 := rfl
  have l5 : (5 : Int32).toInt = 5 := rfl
  have l6 : (6 : Int32).toInt = 6 := rfl
  have l33 : (33 : Int32).toInt = 33 := rfl
  have k0 := km.refl A0 μ
  refine gw_gRa 66 (h.1.c (r := 65) rfl) (h.1.r (by decide)) ?_
  have n1 : ((1 : Int32) + a1).toInt = (1 : Int32).toInt + a1.toInt := gx_add (by omega) (by omega)
  refine gw_aI (i := ((1 : Int32) + a1)) (h.1.t (r := 66) rfl) (h.1.l (r := 66) rfl) (by omega) (by omega) (fun v2 ev2 => ?_)
  refine gw_gRa 66 (h.1.c (r := 65) rfl) (h.1.r (by decide)) ?_
  have n3 : ((33 : Int32) + a1).toInt = (33 : Int32).toInt + a1.toInt := gx_add (by omega) (by omega)
  refine gw_aI (i := ((33 : Int32) + a1)) (h.1.t (r := 66) rfl) (h.1.l (r := 66) rfl) (by omega) (by omega) (fun v4 ev4 => ?_)
  refine gw_eq (fun h18_5 => ?_) (fun h18_5 => ?_)
  ·
    exact gw_some (gq_I rfl)
  ·
    refine gw_eq (fun h18_6 => ?_) (fun h18_6 => ?_)
    ·
      exact gw_some (gq_I rfl)
    ·
      refine gw_eq (fun h18_7 => ?_) (fun h18_7 => ?_)
      ·
        exact gw_some (gq_I rfl)
      ·
        refine gw_eq (fun h18_8 => ?_) (fun h18_8 => ?_)
        ·
          refine gw_dv (by omega) ?_
          exact gw_some (gq_I rfl)
        ·
          refine gw_eq (fun h18_9 => ?_) (fun h18_9 => ?_)
          ·
            exact gw_some (gq_I rfl)
          ·
            exact gw_some (gq_I rfl)
set_option maxHeartbeats 1000000 in
theorem s_X12_allOf {μ : gm_M} (h : MI μ) {a1 : Int32} (q0 : 0 ≤ a1.toInt ∧ a1.toInt ≤ 400) : gwI (f_X12_allOf 65 a1 μ) (fun x m => m = μ) := by
  refine gwI_of ?_
  unfold f_X12_allOf
  have l0 : (0 : Int32).toInt = 0 := rfl
  have l1 : (1 : Int32).toInt = 1 := rfl
  have l26 : (26 : Int32).toInt = 26 := rfl
  have k0 := km.refl A0 μ
  refine gw_loop (fun s1 => (0 ≤ s1.2.toInt ∧ s1.2.toInt ≤ 5)) (fun s1 => (5 - s1.2.toInt)) (fun s1 u2 => ?_) 5000 ((0 : Int32), (0 : Int32)) (by show 0 ≤ (0 : Int32).toInt ∧ (0 : Int32).toInt ≤ 5; omega) (by show (5 - (0 : Int32).toInt) < ((5000 : Nat) : Int); omega) (by show 0 ≤ (5 - (0 : Int32).toInt); omega)
  refine gw_gRa 66 (h.1.c (r := 65) rfl) (h.1.r (by decide)) ?_
  refine gw_aI (i := (26 : Int32)) (h.1.t (r := 66) rfl) (h.1.l (r := 66) rfl) (by omega) (by omega) (fun v3 ev3 => ?_)
  have bv3 := h.n26
  have cv3 : v3 = μ.2.1 66 26 := ev3
  have dv3 : v3.toInt = (μ.2.1 66 26).toInt := by rw [cv3]
  refine gw_le (fun h12_4 => ?_) (fun h12_4 => ?_)
  ·
    exact gw_some (gs_inr (gq_I rfl))
  ·
    refine gw_gRa 66 (h.1.c (r := 65) rfl) (h.1.r (by decide)) ?_
    have n5 : (a1 + s1.2).toInt = a1.toInt + s1.2.toInt := gx_add (by omega) (by omega)
    refine gw_aI (i := (a1 + s1.2)) (h.1.t (r := 66) rfl) (h.1.l (r := 66) rfl) (by omega) (by omega) (fun v6 ev6 => ?_)
    have n7 : (s1.2 + (1 : Int32)).toInt = s1.2.toInt + (1 : Int32).toInt := gx_add (by omega) (by omega)
    exact gw_some (gs_inl (by show 0 ≤ (s1.2 + (1 : Int32)).toInt ∧ (s1.2 + (1 : Int32)).toInt ≤ 5; omega) (by show (5 - (s1.2 + (1 : Int32)).toInt) < (5 - s1.2.toInt); omega) (by show 0 ≤ (5 - (s1.2 + (1 : Int32)).toInt); omega))
set_option maxHeartbeats 1000000 in
theorem s_X12_bubbles {μ : gm_M} (h : MI μ)   : gwI (f_X12_bubbles 65 μ) (fun x m => m = μ) := by
  refine gwI_of ?_
  unfold f_X12_bubbles
  have l0 : (0 : Int32).toInt = 0 := rfl
  have l1 : (1 : Int32).toInt = 1 := rfl
  have l16 : (16 : Int32).toInt = 16 := rfl
  have l26 : (26 : Int32).toInt = 26 := rfl
  have k0 := km.refl A0 μ
  refine gw_loop (fun s1 => (0 ≤ s1.2.toInt ∧ s1.2.toInt ≤ 5)) (fun s1 => (5 - s1.2.toInt)) (fun s1 u2 => ?_) 5000 ((0 : Int32), (0 : Int32)) (by show 0 ≤ (0 : Int32).toInt ∧ (0 : Int32).toInt ≤ 5; omega) (by show (5 - (0 : Int32).toInt) < ((5000 : Nat) : Int); omega) (by show 0 ≤ (5 - (0 : Int32).toInt); omega)
  refine gw_gRa 66 (h.1.c (r := 65) rfl) (h.1.r (by decide)) ?_
  refine gw_aI (i := (26 : Int32)) (h.1.t (r := 66) rfl) (h.1.l (r := 66) rfl) (by omega) (by omega) (fun v3 ev3 => ?_)
  have bv3 := h.n26
  have cv3 : v3 = μ.2.1 66 26 := ev3
  have dv3 : v3.toInt = (μ.2.1 66 26).toInt := by rw [cv3]
  refine gw_le (fun h12_4 => ?_) (fun h12_4 => ?_)
  ·
    exact gw_some (gs_inr (gq_I rfl))
  ·
    refine gw_gRa 66 (h.1.c (r := 65) rfl) (h.1.r (by decide)) ?_
    have n5 : ((16 : Int32) + s1.2).toInt = (16 : Int32).toInt + s1.2.toInt := gx_add (by omega) (by omega)
    refine gw_aI (i := ((16 : Int32) + s1.2)) (h.1.t (r := 66) rfl) (h.1.l (r := 66) rfl) (by omega) (by omega) (fun v6 ev6 => ?_)
    refine gw_j (fun s7 => True) (fun s7 _ => ?_) (fun j8 hj8 => ?_)
    ·
      have n9 : (s1.2 + (1 : Int32)).toInt = s1.2.toInt + (1 : Int32).toInt := gx_add (by omega) (by omega)
      exact gw_some (gs_inl (by show 0 ≤ (s1.2 + (1 : Int32)).toInt ∧ (s1.2 + (1 : Int32)).toInt ≤ 5; omega) (by show (5 - (s1.2 + (1 : Int32)).toInt) < (5 - s1.2.toInt); omega) (by show 0 ≤ (5 - (s1.2 + (1 : Int32)).toInt); omega))
    ·
      refine gw_le (fun h25_10 => ?_) (fun h25_10 => ?_)
      ·
        exact hj8 _ trivial
      ·
        exact hj8 _ trivial
end
section
theorem s_X12_keeps {μ : gm_M} (h : MI μ) : gwV (f_X12_keeps 65 μ) (fun m => kp μ m) := by
  refine gwV_of ?_
  unfold f_X12_keeps
  have l0 : (0 : Int32).toInt = 0 := rfl
  have l1 : (1 : Int32).toInt = 1 := rfl
  have l26 : (26 : Int32).toInt = 26 := rfl
  refine gw_loop (fun s => (0 ≤ s.1.toInt ∧ s.1.toInt ≤ 26) ∧ s.2.1 = μ.1 ∧ s.2.2.2 = μ.2.2 ∧ (∀ r : Nat, r ≠ 68 → s.2.2.1 r = μ.2.1 r) ∧ ∀ k : Nat, (k : Int) < s.1.toInt → s.2.2.1 68 k = μ.2.1 66 k) (fun s => 26 - s.1.toInt) (fun s ⟨h1, h2, h3, h4, h5⟩ => ?_) 5000 ((0 : Int32), μ) ⟨⟨by show 0 ≤ (0 : Int32).toInt; omega, by show (0 : Int32).toInt ≤ 26; omega⟩, rfl, rfl, fun _ _ => rfl, fun k hk => by have : (k : Int) < (0 : Int32).toInt := hk; omega⟩ (by show 26 - (0 : Int32).toInt < ((5000 : Nat) : Int); omega) (by show 0 ≤ 26 - (0 : Int32).toInt; omega)
  have hS : gS s.2 := h.1.same h2 h3
  refine gw_le (fun g => ?_) (fun g => ?_)
  · exact gw_some (gs_inr (gq_V ⟨h2, h3, h4, fun k hk => h5 k (by omega)⟩))
  · refine gw_gRa 68 (hS.c (r := 65) rfl) (hS.r (by decide)) ?_
    refine gw_gRa 66 (hS.c (r := 65) rfl) (hS.r (by decide)) ?_
    refine gw_aI (i := s.1) (hS.t (r := 66) rfl) (hS.l (r := 66) rfl) (by omega) (by omega) (fun v ev => ?_)
    refine gw_sI (i := s.1) (hS.t (r := 68) rfl) (hS.l (r := 68) rfl) (by omega) (by omega) (fun m em => ?_)
    subst em
    have n : (s.1 + (1 : Int32)).toInt = s.1.toInt + (1 : Int32).toInt := gx_add (by omega) (by omega)
    refine gw_some (gs_inl ⟨⟨by show 0 ≤ (s.1 + (1 : Int32)).toInt; omega, by show (s.1 + (1 : Int32)).toInt ≤ 26; omega⟩, h2, h3, fun r hr => ?_, fun k hk => ?_⟩ (by show 26 - (s.1 + (1 : Int32)).toInt < 26 - s.1.toInt; omega) (by show 0 ≤ 26 - (s.1 + (1 : Int32)).toInt; omega))
    · show gm_u s.2.2.1 68 s.1.toInt.toNat v r = _
      rw [gu_row hr]; exact h4 r hr
    · have hk : (k : Int) < (s.1 + (1 : Int32)).toInt := hk
      show gm_u s.2.2.1 68 s.1.toInt.toNat v 68 k = _
      by_cases e : k = s.1.toInt.toNat
      · subst e
        rw [gu_eq, ev, h4 66 (by decide)]
      · rw [gu_ne e]; exact h5 k (by omega)
theorem s_X12_goesBack {μ : gm_M} (h : MI μ) : gwV (f_X12_goesBack 65 μ) (fun m => km A1 μ m ∧ rs m) := by
  refine gwV_of ?_
  unfold f_X12_goesBack
  have l0 : (0 : Int32).toInt = 0 := rfl
  have l1 : (1 : Int32).toInt = 1 := rfl
  have l26 : (26 : Int32).toInt = 26 := rfl
  refine gw_loop (fun s => (0 ≤ s.1.toInt ∧ s.1.toInt ≤ 26) ∧ km A1 μ s.2 ∧ ∀ k : Nat, (k : Int) < s.1.toInt → s.2.2.1 66 k = μ.2.1 68 k) (fun s => 26 - s.1.toInt) (fun s ⟨h1, h2, h3⟩ => ?_) 5000 ((0 : Int32), μ) ⟨⟨by show 0 ≤ (0 : Int32).toInt; omega, by show (0 : Int32).toInt ≤ 26; omega⟩, km.refl A1 μ, fun k hk => by have : (k : Int) < (0 : Int32).toInt := hk; omega⟩ (by show 26 - (0 : Int32).toInt < ((5000 : Nat) : Int); omega) (by show 0 ≤ 26 - (0 : Int32).toInt; omega)
  have hS : gS s.2 := (h.of1 h2).1
  have e68 : s.2.2.1 68 = μ.2.1 68 := h2.2.2.1 68 (by decide) (by decide) (by decide) (by decide) (by decide) (by decide) (by decide)
  refine gw_le (fun g => ?_) (fun g => ?_)
  · exact gw_some (gs_inr (gq_V ⟨h2, fun k hk => by rw [h3 k (by omega), e68]⟩))
  · refine gw_gRa 66 (hS.c (r := 65) rfl) (hS.r (by decide)) ?_
    refine gw_gRa 68 (hS.c (r := 65) rfl) (hS.r (by decide)) ?_
    refine gw_aI (i := s.1) (hS.t (r := 68) rfl) (hS.l (r := 68) rfl) (by omega) (by omega) (fun v ev => ?_)
    refine gw_sI (i := s.1) (hS.t (r := 66) rfl) (hS.l (r := 66) rfl) (by omega) (by omega) (fun m em => ?_)
    have hk1 := h2.ws em (by unfold A1; omega)
    subst em
    have n : (s.1 + (1 : Int32)).toInt = s.1.toInt + (1 : Int32).toInt := gx_add (by omega) (by omega)
    refine gw_some (gs_inl ⟨⟨by show 0 ≤ (s.1 + (1 : Int32)).toInt; omega, by show (s.1 + (1 : Int32)).toInt ≤ 26; omega⟩, hk1, fun k hk => ?_⟩ (by show 26 - (s.1 + (1 : Int32)).toInt < 26 - s.1.toInt; omega) (by show 0 ≤ 26 - (s.1 + (1 : Int32)).toInt; omega))
    have hk : (k : Int) < (s.1 + (1 : Int32)).toInt := hk
    show gm_u s.2.2.1 66 s.1.toInt.toNat v 66 k = _
    by_cases e : k = s.1.toInt.toNat
    · subst e
      rw [gu_eq, ev, e68]
    · rw [gu_ne e]; exact h3 k (by omega)
theorem gx_l0 {x : Int64} : x = 0 ↔ x.toInt = 0 := by
  constructor
  · intro e; rw [e]; rfl
  · intro e; exact Int64.toInt_inj.mp e
theorem gx_lcmp (x : Int64) : lg_cmp x 0 = 0 ↔ x.toInt = 0 := by
  rw [← gx_l0]
  constructor
  · intro e
    unfold lg_cmp at e
    by_cases h : x = 0
    · exact h
    · exfalso
      simp only [h, if_false] at e
      split at e <;> first | exact absurd e (by decide) | (split at e <;> exact absurd e (by decide))
  · intro e
    subst e
    simp [lg_cmp]
theorem s_X12_lowest {μ : gm_M} {a0 a1 : Int64} {a2 : Int32} (q0 : 1 ≤ a1.toInt ∧ a1.toInt ≤ 1000) : gwL (f_X12_lowest a0 a1 a2 μ) (fun x m => m = μ) := by
  refine gwL_of ?_
  unfold f_X12_lowest
  refine gw_loop (fun s => s.2.toInt.natAbs ≤ 1000 ∧ (s.2.toInt = 0 → s.1.toInt ≠ 0)) (fun s => (s.2.toInt.natAbs : Int)) (fun s ⟨h1, h2⟩ => ?_) 5000 (a0, a1) ⟨by show a1.toInt.natAbs ≤ 1000; omega, fun e => by have : a1.toInt = 0 := e; omega⟩ (by show (a1.toInt.natAbs : Int) < ((5000 : Nat) : Int); omega) (by show 0 ≤ (a1.toInt.natAbs : Int); omega)
  refine gw_ite (fun g => ?_) (fun g => ?_)
  · rw [gx_lcmp] at g
    have hx := h2 g
    have hne : ¬ s.1 = 0 := fun e => hx (gx_l0.mp e)
    refine gw_j (fun _ => True) (fun s2 _ => ?_) (fun j hj => ?_)
    · rw [if_neg hne]
      exact gw_some (gs_inr (gq_L rfl))
    · exact gw_ite (fun _ => hj _ trivial) (fun _ => hj _ trivial)
  · rw [gx_lcmp] at g
    have hne : ¬ s.2 = 0 := fun e => g (gx_l0.mp e)
    rw [if_neg hne, gx_mod64]
    have e : (s.1 % s.2).toInt = s.1.toInt.tmod s.2.toInt := Int64.toInt_mod _ _
    have b : (s.1.toInt.tmod s.2.toInt).natAbs < s.2.toInt.natAbs := by
      rw [Int.natAbs_tmod]
      exact Nat.mod_lt _ (by omega)
    exact gw_some (gs_inl ⟨by show (s.1 % s.2).toInt.natAbs ≤ 1000; rw [e]; omega, fun _ => by show s.2.toInt ≠ 0; exact g⟩ (by show ((s.1 % s.2).toInt.natAbs : Int) < (s.2.toInt.natAbs : Int); rw [e]; omega) (by show 0 ≤ ((s.1 % s.2).toInt.natAbs : Int); omega))
theorem MI.lk {μ : gm_M} (h : MI μ) {x : Int32} (f : ((μ.2.1 66 32).toInt = -1 ∧ x = 0) ∨ (0 ≤ (μ.2.1 66 32).toInt ∧ (μ.2.1 66 32).toInt ≤ 4 ∧ x = μ.2.1 66 ((220 : Int32).toInt + (μ.2.1 66 32).toInt).toNat)) : 0 ≤ x.toInt ∧ x.toInt ≤ 139 ∧ ∃ tp : Nat → Nat, tp 0 = 0 ∧ ∀ i : Nat, (i : Int) < x.toInt → wst (μ.2.1 66 ((225 + 140 * (μ.2.1 66 32).toInt) + (i : Int)).toNat) (tp i) (tp (i + 1)) := by
  have l0 : (0 : Int32).toInt = 0 := rfl
  have l220 : (220 : Int32).toInt = 220 := rfl
  rcases f with ⟨-, b⟩ | ⟨a1, a2, b⟩
  · subst b
    exact ⟨by omega, by omega, fun _ => 0, rfl, fun i hi => by omega⟩
  · obtain ⟨w1, w2, tp, w3, w4⟩ := h.prog (μ.2.1 66 32).toInt.toNat (by omega)
    rw [show ((220 : Int32).toInt + (μ.2.1 66 32).toInt).toNat = 220 + (μ.2.1 66 32).toInt.toNat by omega] at b
    rw [← b] at w1 w2 w4
    refine ⟨w1, w2, tp, w3, fun i hi => ?_⟩
    rw [show ((225 + 140 * (μ.2.1 66 32).toInt) + (i : Int)).toNat = 225 + 140 * (μ.2.1 66 32).toInt.toNat + i by omega]
    exact w4 i hi
end
section
set_option maxHeartbeats 1000000 in
theorem s_X12_looks {μ : gm_M} (h : MI μ) {a1 : Int32} (q0 : 0 ≤ a1.toInt ∧ a1.toInt < 5) : gwI (f_X12_looks 65 a1 μ) (fun x m => km A0 μ m) := by
  refine gwI_of ?_
  unfold f_X12_looks
  have lm200 : (-200 : Int32).toInt = -200 := rfl
  have lm10 : (-10 : Int32).toInt = -10 := rfl
  have lm2 : (-2 : Int32).toInt = -2 := rfl
  have lm1 : (-1 : Int32).toInt = -1 := rfl
  have l0 : (0 : Int32).toInt = 0 := rfl
  have l1 : (1 : Int32).toInt = 1 := rfl
  have l2 : (2 : Int32).toInt = 2 := rfl
  have l3 : (3 : Int32).toInt = 3 := rfl
  have l4 : (4 : Int32).toInt = 4 := rfl
  have l5 : (5 : Int32).toInt = 5 := rfl
  have l6 : (6 : Int32).toInt = 6 := rfl
  have l8 : (8 : Int32).toInt = 8 := rfl
  have l10 : (10 : Int32).toInt = 10 := rfl
  have l32 : (32 : Int32).toInt = 32 := rfl
  have l33 : (33 : Int32).toInt = 33 := rfl
  have l38 : (38 : Int32).toInt = 38 := rfl
  have l140 : (140 : Int32).toInt = 140 := rfl
  have l220 : (220 : Int32).toInt = 220 := rfl
  have l225 : (225 : Int32).toInt = 225 := rfl
  have k0 := km.refl A0 μ
  refine gw_gRa 69 ((h.of0 k0).1.c (r := 65) rfl) ((h.of0 k0).1.r (by decide)) ?_
  refine gw_sI (i := (0 : Int32)) ((h.of0 k0).1.t (r := 69) rfl) ((h.of0 k0).1.l (r := 69) rfl) (by omega) (by omega) (fun m1 em1 => ?_)
  have km1 := k0.wr em1 (by decide)
  refine gw_gRa 69 ((h.of0 km1).1.c (r := 65) rfl) ((h.of0 km1).1.r (by decide)) ?_
  refine gw_gRa 66 ((h.of0 km1).1.c (r := 65) rfl) ((h.of0 km1).1.r (by decide)) ?_
  have n2 : ((33 : Int32) + a1).toInt = (33 : Int32).toInt + a1.toInt := gx_add (by omega) (by omega)
  refine gw_aI (i := ((33 : Int32) + a1)) ((h.of0 km1).1.t (r := 66) rfl) ((h.of0 km1).1.l (r := 66) rfl) (by omega) (by omega) (fun v3 ev3 => ?_)
  refine gw_sI (i := (1 : Int32)) ((h.of0 km1).1.t (r := 69) rfl) ((h.of0 km1).1.l (r := 69) rfl) (by omega) (by omega) (fun m4 em4 => ?_)
  have km4 := km1.wr em4 (by decide)
  refine gw_gRa 69 ((h.of0 km4).1.c (r := 65) rfl) ((h.of0 km4).1.r (by decide)) ?_
  refine gw_gRa 66 ((h.of0 km4).1.c (r := 65) rfl) ((h.of0 km4).1.r (by decide)) ?_
  have n5 : ((38 : Int32) + a1).toInt = (38 : Int32).toInt + a1.toInt := gx_add (by omega) (by omega)
  refine gw_aI (i := ((38 : Int32) + a1)) ((h.of0 km4).1.t (r := 66) rfl) ((h.of0 km4).1.l (r := 66) rfl) (by omega) (by omega) (fun v6 ev6 => ?_)
  refine gw_sI (i := (2 : Int32)) ((h.of0 km4).1.t (r := 69) rfl) ((h.of0 km4).1.l (r := 69) rfl) (by omega) (by omega) (fun m7 em7 => ?_)
  have km7 := km4.wr em7 (by decide)
  refine gw_gRa 69 ((h.of0 km7).1.c (r := 65) rfl) ((h.of0 km7).1.r (by decide)) ?_
  refine gw_gRa 66 ((h.of0 km7).1.c (r := 65) rfl) ((h.of0 km7).1.r (by decide)) ?_
  have n8 : ((1 : Int32) + a1).toInt = (1 : Int32).toInt + a1.toInt := gx_add (by omega) (by omega)
  refine gw_aI (i := ((1 : Int32) + a1)) ((h.of0 km7).1.t (r := 66) rfl) ((h.of0 km7).1.l (r := 66) rfl) (by omega) (by omega) (fun v9 ev9 => ?_)
  refine gw_sI (i := (3 : Int32)) ((h.of0 km7).1.t (r := 69) rfl) ((h.of0 km7).1.l (r := 69) rfl) (by omega) (by omega) (fun m10 em10 => ?_)
  have km10 := km7.wr em10 (by decide)
  refine gw_gRa 69 ((h.of0 km10).1.c (r := 65) rfl) ((h.of0 km10).1.r (by decide)) ?_
  refine gw_gRa 66 ((h.of0 km10).1.c (r := 65) rfl) ((h.of0 km10).1.r (by decide)) ?_
  have n11 : ((6 : Int32) + a1).toInt = (6 : Int32).toInt + a1.toInt := gx_add (by omega) (by omega)
  refine gw_aI (i := ((6 : Int32) + a1)) ((h.of0 km10).1.t (r := 66) rfl) ((h.of0 km10).1.l (r := 66) rfl) (by omega) (by omega) (fun v12 ev12 => ?_)
  refine gw_dv (by omega) ?_
  refine gw_sI (i := (4 : Int32)) ((h.of0 km10).1.t (r := 69) rfl) ((h.of0 km10).1.l (r := 69) rfl) (by omega) (by omega) (fun m13 em13 => ?_)
  have km13 := km10.wr em13 (by decide)
  refine gw_gRa 69 ((h.of0 km13).1.c (r := 65) rfl) ((h.of0 km13).1.r (by decide)) ?_
  refine gw_gRa 66 ((h.of0 km13).1.c (r := 65) rfl) ((h.of0 km13).1.r (by decide)) ?_
  refine gw_aI (i := (0 : Int32)) ((h.of0 km13).1.t (r := 66) rfl) ((h.of0 km13).1.l (r := 66) rfl) (by omega) (by omega) (fun v14 ev14 => ?_)
  refine gw_dv (by omega) ?_
  refine gw_sI (i := (5 : Int32)) ((h.of0 km13).1.t (r := 69) rfl) ((h.of0 km13).1.l (r := 69) rfl) (by omega) (by omega) (fun m15 em15 => ?_)
  have km15 := km13.wr em15 (by decide)
  refine gw_if ((h.of0 km15).1.t (r := 65) rfl) ?_
  refine gw_bI (s_X12_tellsOf (h.of0 km15)  (by omega)) (fun x16 m16 ⟨z16, f16⟩ => ?_)
  replace z16 := z16.symm
  subst z16
  have ee : ∀ k : Nat, m15.2.1 66 k = μ.2.1 66 k := fun k => km15.2.2.2.1 k (fun q => q)
  obtain ⟨lx1, lx2, tp, lx3, lx4⟩ := (h.of0 km15).lk f16
  simp only [ee] at lx4
  clear f16
  refine gw_gRa 66 ((h.of0 km15).1.c (r := 65) rfl) ((h.of0 km15).1.r (by decide)) ?_
  refine gw_aI (i := (32 : Int32)) ((h.of0 km15).1.t (r := 66) rfl) ((h.of0 km15).1.l (r := 66) rfl) (by omega) (by omega) (fun v17 ev17 => ?_)
  have bv17 := (h.of0 km15).n32
  have cv17 : v17 = m15.2.1 66 32 := ev17
  have dv17 : v17.toInt = (m15.2.1 66 32).toInt := by rw [cv17]
  have yv17 : v17.toInt = (μ.2.1 66 32).toInt := by rw [dv17, km15.2.2.2.1 32 (by first | exact fun q => q | (unfold A0; omega))]
  have e32 : v17.toInt = (μ.2.1 66 32).toInt := by rw [ev17]; exact congrArg Int32.toInt (ee 32)
  have n19 : ((140 : Int32) * v17).toInt = 140 * v17.toInt := gx_mul 140 rfl (by omega) (by omega)
  have n20 : ((225 : Int32) + ((140 : Int32) * v17)).toInt = (225 : Int32).toInt + ((140 : Int32) * v17).toInt := gx_add (by omega) (by omega)
  refine gw_loop (fun s18 => km A0 μ s18.2.2.2 ∧ ((225 + 140 * (μ.2.1 66 32).toInt) ≤ s18.2.2.1.toInt ∧ s18.2.2.1.toInt ≤ (225 + 140 * (μ.2.1 66 32).toInt) + x16.toInt ∧ s18.2.1.toInt = ((tp (s18.2.2.1.toInt - (225 + 140 * (μ.2.1 66 32).toInt)).toNat : Nat) : Int))) (fun s18 => ((225 + 140 * (μ.2.1 66 32).toInt) + x16.toInt - s18.2.2.1.toInt)) (fun s18 ⟨k21, u22⟩ => ?_) 5000 ((0 : Int32), (0 : Int32), ((225 : Int32) + ((140 : Int32) * v17)), m15) ⟨km15, (by show (225 + 140 * (μ.2.1 66 32).toInt) ≤ ((225 : Int32) + ((140 : Int32) * v17)).toInt ∧ ((225 : Int32) + ((140 : Int32) * v17)).toInt ≤ (225 + 140 * (μ.2.1 66 32).toInt) + x16.toInt ∧ (0 : Int32).toInt = ((tp (((225 : Int32) + ((140 : Int32) * v17)).toInt - (225 + 140 * (μ.2.1 66 32).toInt)).toNat : Nat) : Int); refine ⟨by omega, by omega, ?_⟩; rw [show (((225 : Int32) + ((140 : Int32) * v17)).toInt - (225 + 140 * (μ.2.1 66 32).toInt)).toNat = 0 from by omega, lx3]; rfl)⟩ (by show ((225 + 140 * (μ.2.1 66 32).toInt) + x16.toInt - ((225 : Int32) + ((140 : Int32) * v17)).toInt) < ((5000 : Nat) : Int); omega) (by show 0 ≤ ((225 + 140 * (μ.2.1 66 32).toInt) + x16.toInt - ((225 : Int32) + ((140 : Int32) * v17)).toInt); omega)
  have n23 : ((140 : Int32) * v17).toInt = 140 * v17.toInt := gx_mul 140 rfl (by omega) (by omega)
  have n24 : ((225 : Int32) + ((140 : Int32) * v17)).toInt = (225 : Int32).toInt + ((140 : Int32) * v17).toInt := gx_add (by omega) (by omega)
  have n25 : (((225 : Int32) + ((140 : Int32) * v17)) + x16).toInt = ((225 : Int32) + ((140 : Int32) * v17)).toInt + x16.toInt := gx_add (by omega) (by omega)
  refine gw_le (fun h125_26 => ?_) (fun h125_26 => ?_)
  ·
    exact gw_some (gs_inr (gq_I k21))
  ·
    refine gw_gRa 66 ((h.of0 k21).1.c (r := 65) rfl) ((h.of0 k21).1.r (by decide)) ?_
    refine gw_aI (i := s18.2.2.1) ((h.of0 k21).1.t (r := 66) rfl) ((h.of0 k21).1.l (r := 66) rfl) (by omega) (by omega) (fun v27 ev27 => ?_)
    have gv27 : v27 = μ.2.1 66 ((225 + 140 * (μ.2.1 66 32).toInt) + (((s18.2.2.1.toInt - (225 + 140 * (μ.2.1 66 32).toInt)).toNat : Nat) : Int)).toNat := by rw [ev27, show ((225 + 140 * (μ.2.1 66 32).toInt) + (((s18.2.2.1.toInt - (225 + 140 * (μ.2.1 66 32).toInt)).toNat : Nat) : Int)).toNat = s18.2.2.1.toInt.toNat from by omega]; exact k21.2.2.2.1 _ (fun q => q)
    have wv27 := lx4 (s18.2.2.1.toInt - (225 + 140 * (μ.2.1 66 32).toInt)).toNat (by omega)
    rw [← gv27] at wv27
    generalize hT1 : tp (s18.2.2.1.toInt - (225 + 140 * (μ.2.1 66 32).toInt)).toNat = t1 at *
    generalize hT2 : tp ((s18.2.2.1.toInt - (225 + 140 * (μ.2.1 66 32).toInt)).toNat + 1) = t2 at *
    have ww := wv27
    refine gw_j (fun s28 => km A0 μ s28.2.2 ∧ (s28.2.1.toInt = (t2 : Int))) (fun s28 ⟨k30, u31⟩ => ?_) (fun j29 hj29 => ?_)
    ·
      have n32 : (s18.2.2.1 + (1 : Int32)).toInt = s18.2.2.1.toInt + (1 : Int32).toInt := gx_add (by omega) (by omega)
      exact gw_some (gs_inl ⟨k30, (by show (225 + 140 * (μ.2.1 66 32).toInt) ≤ (s18.2.2.1 + (1 : Int32)).toInt ∧ (s18.2.2.1 + (1 : Int32)).toInt ≤ (225 + 140 * (μ.2.1 66 32).toInt) + x16.toInt ∧ s28.2.1.toInt = ((tp ((s18.2.2.1 + (1 : Int32)).toInt - (225 + 140 * (μ.2.1 66 32).toInt)).toNat : Nat) : Int); refine ⟨by omega, by omega, ?_⟩; rw [show ((s18.2.2.1 + (1 : Int32)).toInt - (225 + 140 * (μ.2.1 66 32).toInt)).toNat = (s18.2.2.1.toInt - (225 + 140 * (μ.2.1 66 32).toInt)).toNat + 1 from by omega, hT2]; omega)⟩ (by show ((225 + 140 * (μ.2.1 66 32).toInt) + x16.toInt - (s18.2.2.1 + (1 : Int32)).toInt) < ((225 + 140 * (μ.2.1 66 32).toInt) + x16.toInt - s18.2.2.1.toInt); omega) (by show 0 ≤ ((225 + 140 * (μ.2.1 66 32).toInt) + x16.toInt - (s18.2.2.1 + (1 : Int32)).toInt); omega))
    ·
      refine gw_lt (fun h139_33 => ?_) (fun h139_33 => ?_)
      ·
        refine gw_ne (fun h239_34 => ?_) (fun h239_34 => ?_)
        ·
          refine gw_le (fun h275_35 => ?_) (fun h275_35 => ?_)
          ·
            have q1 := wst_D ww h275_35
            refine gw_gRa 70 ((h.of0 k21).1.c (r := 65) rfl) ((h.of0 k21).1.r (by decide)) ?_
            refine gw_aZ (i := (0 : Int32)) ((h.of0 k21).1.t (r := 70) rfl) ((h.of0 k21).1.l (r := 70) rfl) (by omega) (by omega) (fun v36 ev36 => ?_)
            refine gw_j (fun s37 => True) (fun s37 _ => ?_) (fun j38 hj38 => ?_)
            ·
              refine gw_j (fun s39 => True) (fun s39 _ => ?_) (fun j40 hj40 => ?_)
              ·
                exact hj29 _ ⟨k21, (by show (0 : Int32).toInt = (t2 : Int); omega)⟩
              ·
                refine gw_j (fun s41 => True) (fun s41 _ => ?_) (fun j42 hj42 => ?_)
                ·
                  exact hj40 _ trivial
                ·
                  refine gw_eq (fun _ => ?_) (fun _ => ?_)
                  ·
                    exact hj42 _ trivial
                  ·
                    refine gw_lt (fun _ => ?_) (fun _ => ?_)
                    ·
                      exact hj42 _ trivial
                    ·
                      exact hj40 _ trivial
            ·
              refine gw_j (fun s45 => True) (fun s45 _ => ?_) (fun j46 hj46 => ?_)
              ·
                exact hj38 _ trivial
              ·
                refine gw_eq (fun _ => ?_) (fun _ => ?_)
                ·
                  exact hj46 _ trivial
                ·
                  refine gw_le (fun _ => ?_) (fun _ => ?_)
                  ·
                    exact hj46 _ trivial
                  ·
                    exact hj38 _ trivial
          ·
            obtain ⟨q0, q1, q2⟩ := wst_C ww (by omega) (by omega)
            have n49 : (s18.2.1 + (-1 : Int32)).toInt = s18.2.1.toInt + (-1 : Int32).toInt := gx_add (by omega) (by omega)
            obtain ⟨w50, hw50⟩ : ∃ w : Int32, w = (s18.2.1 + (-1 : Int32)) := ⟨_, rfl⟩
            rw [← hw50]
            rw [← hw50] at n49
            refine gw_gRa 70 ((h.of0 k21).1.c (r := 65) rfl) ((h.of0 k21).1.r (by decide)) ?_
            refine gw_j (fun s51 => True) (fun s51 _ => ?_) (fun j52 hj52 => ?_)
            ·
              have n53 : (w50 - (1 : Int32)).toInt = w50.toInt - (1 : Int32).toInt := gx_sub (by omega) (by omega)
              refine gw_sZ (i := (w50 - (1 : Int32))) ((h.of0 k21).1.t (r := 70) rfl) ((h.of0 k21).1.l (r := 70) rfl) (by omega) (by omega) (fun m54 em54 => ?_)
              have km54 := k21.wr em54 (by decide)
              exact hj29 _ ⟨km54, (by show w50.toInt = (t2 : Int); omega)⟩
            ·
              refine gw_ne (fun _ => ?_) (fun _ => ?_)
              ·
                refine gw_gRa 70 ((h.of0 k21).1.c (r := 65) rfl) ((h.of0 k21).1.r (by decide)) ?_
                have n56 : (w50 - (1 : Int32)).toInt = w50.toInt - (1 : Int32).toInt := gx_sub (by omega) (by omega)
                refine gw_aZ (i := (w50 - (1 : Int32))) ((h.of0 k21).1.t (r := 70) rfl) ((h.of0 k21).1.l (r := 70) rfl) (by omega) (by omega) (fun v57 ev57 => ?_)
                refine gw_j (fun s58 => True) (fun s58 _ => ?_) (fun j59 hj59 => ?_)
                ·
                  exact hj52 _ trivial
                ·
                  refine gw_ne (fun _ => ?_) (fun _ => ?_)
                  ·
                    exact hj59 _ trivial
                  ·
                    refine gw_gRa 70 ((h.of0 k21).1.c (r := 65) rfl) ((h.of0 k21).1.r (by decide)) ?_
                    refine gw_aZ (i := w50) ((h.of0 k21).1.t (r := 70) rfl) ((h.of0 k21).1.l (r := 70) rfl) (by omega) (by omega) (fun v61 ev61 => ?_)
                    refine gw_eq (fun _ => ?_) (fun _ => ?_)
                    ·
                      exact hj52 _ trivial
                    ·
                      exact hj59 _ trivial
              ·
                refine gw_gRa 70 ((h.of0 k21).1.c (r := 65) rfl) ((h.of0 k21).1.r (by decide)) ?_
                have n63 : (w50 - (1 : Int32)).toInt = w50.toInt - (1 : Int32).toInt := gx_sub (by omega) (by omega)
                refine gw_aZ (i := (w50 - (1 : Int32))) ((h.of0 k21).1.t (r := 70) rfl) ((h.of0 k21).1.l (r := 70) rfl) (by omega) (by omega) (fun v64 ev64 => ?_)
                refine gw_j (fun s65 => True) (fun s65 _ => ?_) (fun j66 hj66 => ?_)
                ·
                  exact hj52 _ trivial
                ·
                  refine gw_eq (fun _ => ?_) (fun _ => ?_)
                  ·
                    exact hj66 _ trivial
                  ·
                    refine gw_gRa 70 ((h.of0 k21).1.c (r := 65) rfl) ((h.of0 k21).1.r (by decide)) ?_
                    refine gw_aZ (i := w50) ((h.of0 k21).1.t (r := 70) rfl) ((h.of0 k21).1.l (r := 70) rfl) (by omega) (by omega) (fun v68 ev68 => ?_)
                    refine gw_eq (fun _ => ?_) (fun _ => ?_)
                    ·
                      exact hj66 _ trivial
                    ·
                      exact hj52 _ trivial
        ·
          obtain ⟨q0, q1, q2⟩ := wst_B ww h239_34
          refine gw_gRa 70 ((h.of0 k21).1.c (r := 65) rfl) ((h.of0 k21).1.r (by decide)) ?_
          refine gw_gRa 70 ((h.of0 k21).1.c (r := 65) rfl) ((h.of0 k21).1.r (by decide)) ?_
          have n70 : (s18.2.1 - (1 : Int32)).toInt = s18.2.1.toInt - (1 : Int32).toInt := gx_sub (by omega) (by omega)
          refine gw_aZ (i := (s18.2.1 - (1 : Int32))) ((h.of0 k21).1.t (r := 70) rfl) ((h.of0 k21).1.l (r := 70) rfl) (by omega) (by omega) (fun v71 ev71 => ?_)
          refine gw_j (fun s72 => True) (fun s72 _ => ?_) (fun j73 hj73 => ?_)
          ·
            have n74 : (s18.2.1 - (1 : Int32)).toInt = s18.2.1.toInt - (1 : Int32).toInt := gx_sub (by omega) (by omega)
            refine gw_sZ (i := (s18.2.1 - (1 : Int32))) ((h.of0 k21).1.t (r := 70) rfl) ((h.of0 k21).1.l (r := 70) rfl) (by omega) (by omega) (fun m75 em75 => ?_)
            have km75 := k21.wr em75 (by decide)
            exact hj29 _ ⟨km75, (by show s18.2.1.toInt = (t2 : Int); omega)⟩
          ·
            refine gw_ne (fun _ => ?_) (fun _ => ?_)
            ·
              exact hj73 _ trivial
            ·
              exact hj73 _ trivial
      ·
        obtain ⟨q0, q1, q2, q3⟩ := wst_A ww h139_33
        refine gw_gRa 69 ((h.of0 k21).1.c (r := 65) rfl) ((h.of0 k21).1.r (by decide)) ?_
        refine gw_dv (by omega) ?_
        have n77 := gx_remk8 (x := v27) (by omega)
        refine gw_aI (i := (v27 - v27 / (8 : Int32) * (8 : Int32))) ((h.of0 k21).1.t (r := 69) rfl) ((h.of0 k21).1.l (r := 69) rfl) (by omega) (by omega) (fun v78 ev78 => ?_)
        refine gw_dv (by omega) ?_
        refine gw_dv (by omega) ?_
        refine gw_dv (by omega) ?_
        refine gw_gRa 70 ((h.of0 k21).1.c (r := 65) rfl) ((h.of0 k21).1.r (by decide)) ?_
        refine gw_j (fun s79 => True) (fun s79 _ => ?_) (fun j80 hj80 => ?_)
        ·
          refine gw_sZ (i := s18.2.1) ((h.of0 k21).1.t (r := 70) rfl) ((h.of0 k21).1.l (r := 70) rfl) (by omega) (by omega) (fun m81 em81 => ?_)
          have km81 := k21.wr em81 (by decide)
          have n82 : (s18.2.1 + (1 : Int32)).toInt = s18.2.1.toInt + (1 : Int32).toInt := gx_add (by omega) (by omega)
          exact hj29 _ ⟨km81, (by show (s18.2.1 + (1 : Int32)).toInt = (t2 : Int); omega)⟩
        ·
          refine gw_ne (fun _ => ?_) (fun _ => ?_)
          ·
            refine gw_ne (fun _ => ?_) (fun _ => ?_)
            ·
              refine gw_le (fun _ => ?_) (fun _ => ?_)
              ·
                exact hj80 _ trivial
              ·
                exact hj80 _ trivial
            ·
              refine gw_ne (fun _ => ?_) (fun _ => ?_)
              ·
                exact hj80 _ trivial
              ·
                exact hj80 _ trivial
          ·
            refine gw_le (fun _ => ?_) (fun _ => ?_)
            ·
              exact hj80 _ trivial
            ·
              exact hj80 _ trivial
end
section
set_option maxHeartbeats 1000000 in
theorem s_X12_stretchOf {μ : gm_M} (h : MI μ) {a1 : Int32} (q0 : 0 ≤ a1.toInt ∧ a1.toInt < 5) : gwI (f_X12_stretchOf 65 a1 μ) (fun x m => km A0 μ m) := by
  refine gwI_of ?_
  unfold f_X12_stretchOf
  have l1 : (1 : Int32).toInt = 1 := rfl
  have l30 : (30 : Int32).toInt = 30 := rfl
  have l1000000 : (1000000 : Int32).toInt = 1000000 := rfl
  have k0 := km.refl A0 μ
  refine gw_if ((h.of0 k0).1.t (r := 65) rfl) ?_
  refine gw_bI (s_X12_looks (h.of0 k0)  (by omega)) (fun x1 m1 g1 => ?_)
  have kk1 := k0.trans g1.w00
  refine gw_bI (s_X12_within  ) (fun x2 m2 z2 => ?_)
  replace z2 := z2.symm
  subst z2
  exact gw_some (gq_I kk1)
set_option maxHeartbeats 1000000 in
theorem s_X12_holdsOf {μ : gm_M} (h : MI μ) {a1 : Int32} (q0 : 0 ≤ a1.toInt ∧ a1.toInt < 5) : gwI (f_X12_holdsOf 65 a1 μ) (fun x m => km A0 μ m) := by
  refine gwI_of ?_
  unfold f_X12_holdsOf
  have l0 : (0 : Int32).toInt = 0 := rfl
  have l1 : (1 : Int32).toInt = 1 := rfl
  have l2 : (2 : Int32).toInt = 2 := rfl
  have l5 : (5 : Int32).toInt = 5 := rfl
  have l6 : (6 : Int32).toInt = 6 := rfl
  have l10 : (10 : Int32).toInt = 10 := rfl
  have l11 : (11 : Int32).toInt = 11 := rfl
  have l33 : (33 : Int32).toInt = 33 := rfl
  have l210 : (210 : Int32).toInt = 210 := rfl
  have k0 := km.refl A0 μ
  refine gw_gRa 66 ((h.of0 k0).1.c (r := 65) rfl) ((h.of0 k0).1.r (by decide)) ?_
  have n1 : ((1 : Int32) + a1).toInt = (1 : Int32).toInt + a1.toInt := gx_add (by omega) (by omega)
  refine gw_aI (i := ((1 : Int32) + a1)) ((h.of0 k0).1.t (r := 66) rfl) ((h.of0 k0).1.l (r := 66) rfl) (by omega) (by omega) (fun v2 ev2 => ?_)
  refine gw_if ((h.of0 k0).1.t (r := 65) rfl) ?_
  refine gw_bI (s_X12_stretchOf (h.of0 k0)  (by omega)) (fun x3 m3 g3 => ?_)
  have kk3 := k0.trans g3.w00
  refine gw_gRa 66 ((h.of0 kk3).1.c (r := 65) rfl) ((h.of0 kk3).1.r (by decide)) ?_
  have n4 : ((6 : Int32) + a1).toInt = (6 : Int32).toInt + a1.toInt := gx_add (by omega) (by omega)
  refine gw_aI (i := ((6 : Int32) + a1)) ((h.of0 kk3).1.t (r := 66) rfl) ((h.of0 kk3).1.l (r := 66) rfl) (by omega) (by omega) (fun v5 ev5 => ?_)
  refine gw_gRa 66 ((h.of0 kk3).1.c (r := 65) rfl) ((h.of0 kk3).1.r (by decide)) ?_
  have n6 : ((11 : Int32) + a1).toInt = (11 : Int32).toInt + a1.toInt := gx_add (by omega) (by omega)
  refine gw_aI (i := ((11 : Int32) + a1)) ((h.of0 kk3).1.t (r := 66) rfl) ((h.of0 kk3).1.l (r := 66) rfl) (by omega) (by omega) (fun v7 ev7 => ?_)
  refine gw_dv (by omega) ?_
  refine gw_if ((h.of0 kk3).1.t (r := 65) rfl) ?_
  refine gw_bI (s_X12_tellsOf (h.of0 kk3)  (by omega)) (fun x8 m8 ⟨z8, f8⟩ => ?_)
  replace z8 := z8.symm
  subst z8
  refine gw_bI (s_X12_above  ) (fun x9 m9 z9 => ?_)
  replace z9 := z9.symm
  subst z9
  refine gw_gRa 66 ((h.of0 kk3).1.c (r := 65) rfl) ((h.of0 kk3).1.r (by decide)) ?_
  have n10 : ((33 : Int32) + a1).toInt = (33 : Int32).toInt + a1.toInt := gx_add (by omega) (by omega)
  refine gw_aI (i := ((33 : Int32) + a1)) ((h.of0 kk3).1.t (r := 66) rfl) ((h.of0 kk3).1.l (r := 66) rfl) (by omega) (by omega) (fun v11 ev11 => ?_)
  refine gw_ne (fun h59_12 => ?_) (fun h59_12 => ?_)
  ·
    exact gw_some (gq_I kk3)
  ·
    refine gw_bI (s_X12_above  ) (fun x13 m13 z13 => ?_)
    replace z13 := z13.symm
    subst z13
    exact gw_some (gq_I kk3)
set_option maxHeartbeats 1000000 in
theorem s_X12_allHold {μ : gm_M} (h : MI μ)   : gwI (f_X12_allHold 65 μ) (fun x m => km A0 μ m) := by
  refine gwI_of ?_
  unfold f_X12_allHold
  have l0 : (0 : Int32).toInt = 0 := rfl
  have l1 : (1 : Int32).toInt = 1 := rfl
  have l26 : (26 : Int32).toInt = 26 := rfl
  have k0 := km.refl A0 μ
  refine gw_loop (fun s1 => km A0 μ s1.2.2 ∧ (0 ≤ s1.2.1.toInt ∧ s1.2.1.toInt ≤ 5)) (fun s1 => (5 - s1.2.1.toInt)) (fun s1 ⟨k2, u3⟩ => ?_) 5000 ((0 : Int32), (0 : Int32), μ) ⟨k0, (by show 0 ≤ (0 : Int32).toInt ∧ (0 : Int32).toInt ≤ 5; omega)⟩ (by show (5 - (0 : Int32).toInt) < ((5000 : Nat) : Int); omega) (by show 0 ≤ (5 - (0 : Int32).toInt); omega)
  refine gw_gRa 66 ((h.of0 k2).1.c (r := 65) rfl) ((h.of0 k2).1.r (by decide)) ?_
  refine gw_aI (i := (26 : Int32)) ((h.of0 k2).1.t (r := 66) rfl) ((h.of0 k2).1.l (r := 66) rfl) (by omega) (by omega) (fun v4 ev4 => ?_)
  have bv4 := (h.of0 k2).n26
  have cv4 : v4 = s1.2.2.2.1 66 26 := ev4
  have dv4 : v4.toInt = (s1.2.2.2.1 66 26).toInt := by rw [cv4]
  have yv4 : v4.toInt = (μ.2.1 66 26).toInt := by rw [dv4, k2.2.2.2.1 26 (by first | exact fun q => q | (unfold A0; omega))]
  refine gw_le (fun h12_5 => ?_) (fun h12_5 => ?_)
  ·
    exact gw_some (gs_inr (gq_I k2))
  ·
    refine gw_if ((h.of0 k2).1.t (r := 65) rfl) ?_
    refine gw_bI (s_X12_holdsOf (h.of0 k2)  (by omega)) (fun x6 m6 g6 => ?_)
    have kk6 := k2.trans g6.w00
    have n7 : (s1.2.1 + (1 : Int32)).toInt = s1.2.1.toInt + (1 : Int32).toInt := gx_add (by omega) (by omega)
    exact gw_some (gs_inl ⟨kk6, (by show 0 ≤ (s1.2.1 + (1 : Int32)).toInt ∧ (s1.2.1 + (1 : Int32)).toInt ≤ 5; omega)⟩ (by show (5 - (s1.2.1 + (1 : Int32)).toInt) < (5 - s1.2.1.toInt); omega) (by show 0 ≤ (5 - (s1.2.1 + (1 : Int32)).toInt); omega))
set_option maxHeartbeats 1000000 in
theorem s_X12_goesFor {μ : gm_M} (h : MI μ) {a1 : Int32} (q0 : 0 ≤ a1.toInt ∧ a1.toInt < 5) : gwV (f_X12_goesFor 65 a1 μ) (fun m => km A3 μ m) := by
  refine gwV_of ?_
  unfold f_X12_goesFor
  have l0 : (0 : Int32).toInt = 0 := rfl
  have l1 : (1 : Int32).toInt = 1 := rfl
  have l5 : (5 : Int32).toInt = 5 := rfl
  have l6 : (6 : Int32).toInt = 6 := rfl
  have l11 : (11 : Int32).toInt = 11 := rfl
  have l16 : (16 : Int32).toInt = 16 := rfl
  have l38 : (38 : Int32).toInt = 38 := rfl
  have l99 : (99 : Int32).toInt = 99 := rfl
  have k0 := km.refl A3 μ
  refine gw_gRa 66 ((h.of3 k0).1.c (r := 65) rfl) ((h.of3 k0).1.r (by decide)) ?_
  have n1 : ((16 : Int32) + a1).toInt = (16 : Int32).toInt + a1.toInt := gx_add (by omega) (by omega)
  refine gw_aI (i := ((16 : Int32) + a1)) ((h.of3 k0).1.t (r := 66) rfl) ((h.of3 k0).1.l (r := 66) rfl) (by omega) (by omega) (fun v2 ev2 => ?_)
  refine gw_le (fun h9_3 => ?_) (fun h9_3 => ?_)
  ·
    refine gw_gRa 66 ((h.of3 k0).1.c (r := 65) rfl) ((h.of3 k0).1.r (by decide)) ?_
    have n4 : ((1 : Int32) + a1).toInt = (1 : Int32).toInt + a1.toInt := gx_add (by omega) (by omega)
    refine gw_aI (i := ((1 : Int32) + a1)) ((h.of3 k0).1.t (r := 66) rfl) ((h.of3 k0).1.l (r := 66) rfl) (by omega) (by omega) (fun v5 ev5 => ?_)
    refine gw_le (fun h56_6 => ?_) (fun h56_6 => ?_)
    ·
      refine gw_gRa 66 ((h.of3 k0).1.c (r := 65) rfl) ((h.of3 k0).1.r (by decide)) ?_
      refine gw_gRa 66 ((h.of3 k0).1.c (r := 65) rfl) ((h.of3 k0).1.r (by decide)) ?_
      have n7 : ((11 : Int32) + a1).toInt = (11 : Int32).toInt + a1.toInt := gx_add (by omega) (by omega)
      refine gw_aI (i := ((11 : Int32) + a1)) ((h.of3 k0).1.t (r := 66) rfl) ((h.of3 k0).1.l (r := 66) rfl) (by omega) (by omega) (fun v8 ev8 => ?_)
      refine gw_bI (s_X12_above  ) (fun x9 m9 z9 => ?_)
      replace z9 := z9.symm
      subst z9
      have n10 : ((11 : Int32) + a1).toInt = (11 : Int32).toInt + a1.toInt := gx_add (by omega) (by omega)
      refine gw_sI (i := ((11 : Int32) + a1)) ((h.of3 k0).1.t (r := 66) rfl) ((h.of3 k0).1.l (r := 66) rfl) (by omega) (by omega) (fun m11 em11 => ?_)
      have km11 := k0.ws em11 (by unfold A3; omega)
      exact gw_some (gq_V km11)
    ·
      refine gw_if ((h.of3 k0).1.t (r := 65) rfl) ?_
      refine gw_bI (s_X12_chewsOf (h.of3 k0)  (by omega)) (fun x12 m12 z12 => ?_)
      replace z12 := z12.symm
      subst z12
      refine gw_gRa 66 ((h.of3 k0).1.c (r := 65) rfl) ((h.of3 k0).1.r (by decide)) ?_
      refine gw_gRa 66 ((h.of3 k0).1.c (r := 65) rfl) ((h.of3 k0).1.r (by decide)) ?_
      have n13 : ((11 : Int32) + a1).toInt = (11 : Int32).toInt + a1.toInt := gx_add (by omega) (by omega)
      refine gw_aI (i := ((11 : Int32) + a1)) ((h.of3 k0).1.t (r := 66) rfl) ((h.of3 k0).1.l (r := 66) rfl) (by omega) (by omega) (fun v14 ev14 => ?_)
      refine gw_if ((h.of3 k0).1.t (r := 65) rfl) ?_
      refine gw_bI (s_X12_tiresOf (h.of3 k0)  (by omega)) (fun x15 m15 z15 => ?_)
      replace z15 := z15.symm
      subst z15
      refine gw_bI (s_X12_within  ) (fun x16 m16 z16 => ?_)
      replace z16 := z16.symm
      subst z16
      have n17 : ((11 : Int32) + a1).toInt = (11 : Int32).toInt + a1.toInt := gx_add (by omega) (by omega)
      refine gw_sI (i := ((11 : Int32) + a1)) ((h.of3 k0).1.t (r := 66) rfl) ((h.of3 k0).1.l (r := 66) rfl) (by omega) (by omega) (fun m18 em18 => ?_)
      have km18 := k0.ws em18 (by unfold A3; omega)
      refine gw_gRa 66 ((h.of3 km18).1.c (r := 65) rfl) ((h.of3 km18).1.r (by decide)) ?_
      refine gw_gRa 66 ((h.of3 km18).1.c (r := 65) rfl) ((h.of3 km18).1.r (by decide)) ?_
      have n19 : ((6 : Int32) + a1).toInt = (6 : Int32).toInt + a1.toInt := gx_add (by omega) (by omega)
      refine gw_aI (i := ((6 : Int32) + a1)) ((h.of3 km18).1.t (r := 66) rfl) ((h.of3 km18).1.l (r := 66) rfl) (by omega) (by omega) (fun v20 ev20 => ?_)
      refine gw_bI (s_X12_above  ) (fun x21 m21 z21 => ?_)
      replace z21 := z21.symm
      subst z21
      have n22 : ((6 : Int32) + a1).toInt = (6 : Int32).toInt + a1.toInt := gx_add (by omega) (by omega)
      refine gw_sI (i := ((6 : Int32) + a1)) ((h.of3 km18).1.t (r := 66) rfl) ((h.of3 km18).1.l (r := 66) rfl) (by omega) (by omega) (fun m23 em23 => ?_)
      have km23 := km18.ws em23 (by unfold A3; omega)
      exact gw_some (gq_V km23)
  ·
    refine gw_gRa 66 ((h.of3 k0).1.c (r := 65) rfl) ((h.of3 k0).1.r (by decide)) ?_
    refine gw_gRa 66 ((h.of3 k0).1.c (r := 65) rfl) ((h.of3 k0).1.r (by decide)) ?_
    have n24 : ((16 : Int32) + a1).toInt = (16 : Int32).toInt + a1.toInt := gx_add (by omega) (by omega)
    refine gw_aI (i := ((16 : Int32) + a1)) ((h.of3 k0).1.t (r := 66) rfl) ((h.of3 k0).1.l (r := 66) rfl) (by omega) (by omega) (fun v25 ev25 => ?_)
    refine gw_gRa 66 ((h.of3 k0).1.c (r := 65) rfl) ((h.of3 k0).1.r (by decide)) ?_
    have n26 : ((38 : Int32) + a1).toInt = (38 : Int32).toInt + a1.toInt := gx_add (by omega) (by omega)
    refine gw_aI (i := ((38 : Int32) + a1)) ((h.of3 k0).1.t (r := 66) rfl) ((h.of3 k0).1.l (r := 66) rfl) (by omega) (by omega) (fun v27 ev27 => ?_)
    refine gw_bI (s_X12_above  ) (fun x28 m28 z28 => ?_)
    replace z28 := z28.symm
    subst z28
    have n29 : ((16 : Int32) + a1).toInt = (16 : Int32).toInt + a1.toInt := gx_add (by omega) (by omega)
    refine gw_sI (i := ((16 : Int32) + a1)) ((h.of3 k0).1.t (r := 66) rfl) ((h.of3 k0).1.l (r := 66) rfl) (by omega) (by omega) (fun m30 em30 => ?_)
    have km30 := k0.ws em30 (by unfold A3; omega)
    exact gw_some (gq_V km30)
set_option maxHeartbeats 1000000 in
theorem s_X12_goes {μ : gm_M} (h : MI μ)   : gwV (f_X12_goes 65 μ) (fun m => km A1 μ m ∧ m.2.1 66 0 = μ.2.1 66 0 + 1) := by
  refine gwV_of ?_
  unfold f_X12_goes
  have l0 : (0 : Int32).toInt = 0 := rfl
  have l1 : (1 : Int32).toInt = 1 := rfl
  have l26 : (26 : Int32).toInt = 26 := rfl
  have k0 := km.refl A1 μ
  refine gw_loop (fun s1 => km A1 μ s1.2 ∧ ((0 ≤ s1.1.toInt ∧ s1.1.toInt ≤ 5) ∧ s1.2.2.1 66 0 = μ.2.1 66 0)) (fun s1 => (5 - s1.1.toInt)) (fun s1 ⟨k2, u3⟩ => ?_) 5000 ((0 : Int32), μ) ⟨k0, (by show (0 ≤ (0 : Int32).toInt ∧ (0 : Int32).toInt ≤ 5) ∧ μ.2.1 66 0 = μ.2.1 66 0; exact ⟨by omega, rfl⟩)⟩ (by show (5 - (0 : Int32).toInt) < ((5000 : Nat) : Int); omega) (by show 0 ≤ (5 - (0 : Int32).toInt); omega)
  obtain ⟨uu1, uu2⟩ := u3
  refine gw_gRa 66 ((h.of1 k2).1.c (r := 65) rfl) ((h.of1 k2).1.r (by decide)) ?_
  refine gw_aI (i := (26 : Int32)) ((h.of1 k2).1.t (r := 66) rfl) ((h.of1 k2).1.l (r := 66) rfl) (by omega) (by omega) (fun v4 ev4 => ?_)
  have bv4 := (h.of1 k2).n26
  have cv4 : v4 = s1.2.2.1 66 26 := ev4
  have dv4 : v4.toInt = (s1.2.2.1 66 26).toInt := by rw [cv4]
  have yv4 : v4.toInt = (μ.2.1 66 26).toInt := by rw [dv4, k2.2.2.2.1 26 (by first | exact fun q => q | (unfold A1; omega))]
  refine gw_le (fun h10_5 => ?_) (fun h10_5 => ?_)
  ·
    refine gw_gRa 66 ((h.of1 k2).1.c (r := 65) rfl) ((h.of1 k2).1.r (by decide)) ?_
    refine gw_aI (i := (0 : Int32)) ((h.of1 k2).1.t (r := 66) rfl) ((h.of1 k2).1.l (r := 66) rfl) (by omega) (by omega) (fun v6 ev6 => ?_)
    have ev0 := ev6
    refine gw_sI (i := (0 : Int32)) ((h.of1 k2).1.t (r := 66) rfl) ((h.of1 k2).1.l (r := 66) rfl) (by omega) (by omega) (fun m7 em7 => ?_)
    have km7 := k2.ws em7 (by unfold A1; omega)
    have VAL : m7.2.1 66 0 = μ.2.1 66 0 + 1 := by
      have q : m7.2.1 66 0 = (v6 + (1 : Int32)) := by rw [em7]; show gm_u s1.2.2.1 66 0 (v6 + (1 : Int32)) 66 0 = (v6 + (1 : Int32)); exact gu_eq
      rw [q, ev0]; exact congrArg (· + (1 : Int32)) uu2
    exact gw_some (gs_inr (gq_V ⟨km7, by exact VAL⟩))
  ·
    refine gw_if ((h.of1 k2).1.t (r := 65) rfl) ?_
    refine gw_bV (s_X12_goesFor (h.of1 k2)  (by omega)) (fun m8 g8 => ?_)
    have kk8 := k2.trans g8.w31
    have z0 : m8.2.1 66 0 = μ.2.1 66 0 := (g8.2.2.2.1 0 (by unfold A3; omega)).trans uu2
    have n9 : (s1.1 + (1 : Int32)).toInt = s1.1.toInt + (1 : Int32).toInt := gx_add (by omega) (by omega)
    exact gw_some (gs_inl ⟨kk8, (by show (0 ≤ (s1.1 + (1 : Int32)).toInt ∧ (s1.1 + (1 : Int32)).toInt ≤ 5) ∧ m8.2.1 66 0 = μ.2.1 66 0; exact ⟨by omega, z0⟩)⟩ (by show (5 - (s1.1 + (1 : Int32)).toInt) < (5 - s1.1.toInt); omega) (by show 0 ≤ (5 - (s1.1 + (1 : Int32)).toInt); omega))
set_option maxHeartbeats 1000000 in
theorem s_X12_goesOn {μ : gm_M} (h : MI μ) {a1 : Int32} (q0 : 0 ≤ a1.toInt ∧ a1.toInt ≤ 100) : gwV (f_X12_goesOn 65 a1 μ) (fun m => km A1 μ m ∧ m.2.1 66 0 = itn a1.toInt.toNat (μ.2.1 66 0)) := by
  refine gwV_of ?_
  unfold f_X12_goesOn
  have l0 : (0 : Int32).toInt = 0 := rfl
  have l1 : (1 : Int32).toInt = 1 := rfl
  have k0 := km.refl A1 μ
  refine gw_loop (fun s1 => km A1 μ s1.2 ∧ ((0 ≤ s1.1.toInt ∧ s1.1.toInt ≤ a1.toInt) ∧ s1.2.2.1 66 0 = itn s1.1.toInt.toNat (μ.2.1 66 0))) (fun s1 => (100 - s1.1.toInt)) (fun s1 ⟨k2, u3⟩ => ?_) 5000 ((0 : Int32), μ) ⟨k0, (by show (0 ≤ (0 : Int32).toInt ∧ (0 : Int32).toInt ≤ a1.toInt) ∧ μ.2.1 66 0 = itn (0 : Int32).toInt.toNat (μ.2.1 66 0); exact ⟨by omega, rfl⟩)⟩ (by show (100 - (0 : Int32).toInt) < ((5000 : Nat) : Int); omega) (by show 0 ≤ (100 - (0 : Int32).toInt); omega)
  obtain ⟨uu1, uu2⟩ := u3
  refine gw_le (fun h4_4 => ?_) (fun h4_4 => ?_)
  ·
    exact gw_some (gs_inr (gq_V ⟨k2, by (rw [uu2]; congr 1; omega)⟩))
  ·
    refine gw_if ((h.of1 k2).1.t (r := 65) rfl) ?_
    refine gw_bV (s_X12_goes (h.of1 k2)  ) (fun m5 ⟨g5, f5⟩ => ?_)
    have kk5 := k2.trans g5.w11
    have zf := f5
    have n6 : (s1.1 + (1 : Int32)).toInt = s1.1.toInt + (1 : Int32).toInt := gx_add (by omega) (by omega)
    exact gw_some (gs_inl ⟨kk5, (by show (0 ≤ (s1.1 + (1 : Int32)).toInt ∧ (s1.1 + (1 : Int32)).toInt ≤ a1.toInt) ∧ m5.2.1 66 0 = itn (s1.1 + (1 : Int32)).toInt.toNat (μ.2.1 66 0); exact ⟨by omega, by rw [show (s1.1 + (1 : Int32)).toInt.toNat = s1.1.toInt.toNat + 1 from by omega, zf, uu2]; rfl⟩)⟩ (by show (100 - (s1.1 + (1 : Int32)).toInt) < (100 - s1.1.toInt); omega) (by show 0 ≤ (100 - (s1.1 + (1 : Int32)).toInt); omega))
set_option maxHeartbeats 1000000 in
theorem s_X12_goesAlone {μ : gm_M} (h : MI μ) {a1 : Int32} (q0 : 0 ≤ a1.toInt ∧ a1.toInt < 5) : gwV (f_X12_goesAlone 65 a1 μ) (fun m => km A1 μ m) := by
  refine gwV_of ?_
  unfold f_X12_goesAlone
  have l0 : (0 : Int32).toInt = 0 := rfl
  have l1 : (1 : Int32).toInt = 1 := rfl
  have k0 := km.refl A1 μ
  refine gw_if ((h.of1 k0).1.t (r := 65) rfl) ?_
  refine gw_bV (s_X12_goesFor (h.of1 k0)  (by omega)) (fun m1 g1 => ?_)
  have kk1 := k0.trans g1.w31
  refine gw_gRa 66 ((h.of1 kk1).1.c (r := 65) rfl) ((h.of1 kk1).1.r (by decide)) ?_
  refine gw_aI (i := (0 : Int32)) ((h.of1 kk1).1.t (r := 66) rfl) ((h.of1 kk1).1.l (r := 66) rfl) (by omega) (by omega) (fun v2 ev2 => ?_)
  refine gw_sI (i := (0 : Int32)) ((h.of1 kk1).1.t (r := 66) rfl) ((h.of1 kk1).1.l (r := 66) rfl) (by omega) (by omega) (fun m3 em3 => ?_)
  have km3 := kk1.ws em3 (by unfold A1; omega)
  exact gw_some (gq_V km3)
set_option maxHeartbeats 1000000 in
theorem s_X12_slackOf {μ : gm_M} (h : MI μ) {a1 : Int32} (q0 : 0 ≤ a1.toInt ∧ a1.toInt < 5) : gwI (f_X12_slackOf 65 a1 μ) (fun x m => km A0 μ m) := by
  refine gwI_of ?_
  unfold f_X12_slackOf
  have l16 : (16 : Int32).toInt = 16 := rfl
  have k0 := km.refl A0 μ
  refine gw_if ((h.of0 k0).1.t (r := 65) rfl) ?_
  refine gw_bI (s_X12_holdsOf (h.of0 k0)  (by omega)) (fun x1 m1 g1 => ?_)
  have kk1 := k0.trans g1.w00
  refine gw_gRa 66 ((h.of0 kk1).1.c (r := 65) rfl) ((h.of0 kk1).1.r (by decide)) ?_
  have n2 : ((16 : Int32) + a1).toInt = (16 : Int32).toInt + a1.toInt := gx_add (by omega) (by omega)
  refine gw_aI (i := ((16 : Int32) + a1)) ((h.of0 kk1).1.t (r := 66) rfl) ((h.of0 kk1).1.l (r := 66) rfl) (by omega) (by omega) (fun v3 ev3 => ?_)
  exact gw_some (gq_I kk1)
set_option maxHeartbeats 1000000 in
theorem s_X12_blows {μ : gm_M} (h : MI μ) {a1 : Int32} {a2 : Int32} (q0 : 0 ≤ a1.toInt ∧ a1.toInt < 5) : gwI (f_X12_blows 65 a1 a2 μ) (fun x m => km A3 μ m ∧ (x.toInt = 0 ∨ x.toInt = 1)) := by
  refine gwI_of ?_
  unfold f_X12_blows
  have l0 : (0 : Int32).toInt = 0 := rfl
  have l1 : (1 : Int32).toInt = 1 := rfl
  have l10 : (10 : Int32).toInt = 10 := rfl
  have l16 : (16 : Int32).toInt = 16 := rfl
  have l21 : (21 : Int32).toInt = 21 := rfl
  have l9999 : (9999 : Int32).toInt = 9999 := rfl
  have k0 := km.refl A3 μ
  refine gw_gRa 66 ((h.of3 k0).1.c (r := 65) rfl) ((h.of3 k0).1.r (by decide)) ?_
  have n1 : ((16 : Int32) + a1).toInt = (16 : Int32).toInt + a1.toInt := gx_add (by omega) (by omega)
  refine gw_aI (i := ((16 : Int32) + a1)) ((h.of3 k0).1.t (r := 66) rfl) ((h.of3 k0).1.l (r := 66) rfl) (by omega) (by omega) (fun v2 ev2 => ?_)
  have n3 : ((16 : Int32) + a1).toInt = (16 : Int32).toInt + a1.toInt := gx_add (by omega) (by omega)
  refine gw_sI (i := ((16 : Int32) + a1)) ((h.of3 k0).1.t (r := 66) rfl) ((h.of3 k0).1.l (r := 66) rfl) (by omega) (by omega) (fun m4 em4 => ?_)
  have km4 := k0.ws em4 (by unfold A3; omega)
  refine gw_gRa 66 ((h.of3 km4).1.c (r := 65) rfl) ((h.of3 km4).1.r (by decide)) ?_
  have n5 : ((16 : Int32) + a1).toInt = (16 : Int32).toInt + a1.toInt := gx_add (by omega) (by omega)
  refine gw_aI (i := ((16 : Int32) + a1)) ((h.of3 km4).1.t (r := 66) rfl) ((h.of3 km4).1.l (r := 66) rfl) (by omega) (by omega) (fun v6 ev6 => ?_)
  refine gw_if ((h.of3 km4).1.t (r := 65) rfl) ?_
  refine gw_bI (s_X12_holdsOf (h.of3 km4)  (by omega)) (fun x7 m7 g7 => ?_)
  have kk7 := km4.trans g7.w03
  refine gw_lt (fun h27_8 => ?_) (fun h27_8 => ?_)
  ·
    refine gw_gRa 66 ((h.of3 kk7).1.c (r := 65) rfl) ((h.of3 kk7).1.r (by decide)) ?_
    refine gw_gRa 66 ((h.of3 kk7).1.c (r := 65) rfl) ((h.of3 kk7).1.r (by decide)) ?_
    have n9 : ((21 : Int32) + a1).toInt = (21 : Int32).toInt + a1.toInt := gx_add (by omega) (by omega)
    refine gw_aI (i := ((21 : Int32) + a1)) ((h.of3 kk7).1.t (r := 66) rfl) ((h.of3 kk7).1.l (r := 66) rfl) (by omega) (by omega) (fun v10 ev10 => ?_)
    refine gw_gRa 66 ((h.of3 kk7).1.c (r := 65) rfl) ((h.of3 kk7).1.r (by decide)) ?_
    have n11 : ((16 : Int32) + a1).toInt = (16 : Int32).toInt + a1.toInt := gx_add (by omega) (by omega)
    refine gw_aI (i := ((16 : Int32) + a1)) ((h.of3 kk7).1.t (r := 66) rfl) ((h.of3 kk7).1.l (r := 66) rfl) (by omega) (by omega) (fun v12 ev12 => ?_)
    refine gw_dv (by omega) ?_
    refine gw_bI (s_X12_within  ) (fun x13 m13 z13 => ?_)
    replace z13 := z13.symm
    subst z13
    have n14 : ((21 : Int32) + a1).toInt = (21 : Int32).toInt + a1.toInt := gx_add (by omega) (by omega)
    refine gw_sI (i := ((21 : Int32) + a1)) ((h.of3 kk7).1.t (r := 66) rfl) ((h.of3 kk7).1.l (r := 66) rfl) (by omega) (by omega) (fun m15 em15 => ?_)
    have km15 := kk7.ws em15 (by unfold A3; omega)
    refine gw_gRa 66 ((h.of3 km15).1.c (r := 65) rfl) ((h.of3 km15).1.r (by decide)) ?_
    have n16 : ((16 : Int32) + a1).toInt = (16 : Int32).toInt + a1.toInt := gx_add (by omega) (by omega)
    refine gw_sI (i := ((16 : Int32) + a1)) ((h.of3 km15).1.t (r := 66) rfl) ((h.of3 km15).1.l (r := 66) rfl) (by omega) (by omega) (fun m17 em17 => ?_)
    have km17 := km15.ws em17 (by unfold A3; omega)
    refine gw_z Iff.rfl (by omega) (gq_I ⟨km17, by omega⟩)
  ·
    refine gw_z Iff.rfl (by omega) (gq_I ⟨kk7, by omega⟩)
set_option maxHeartbeats 1000000 in
theorem s_X12_does {μ : gm_M} (h : MI μ) {a1 : Int32} {a2 : Int32} (q0 : 0 ≤ a1.toInt ∧ a1.toInt ≤ 3) (q1 : a1.toInt ≠ 0 → 0 ≤ a2.toInt ∧ a2.toInt < 5) : gwV (f_X12_does 65 a1 a2 μ) (fun m => km A1 μ m) := by
  refine gwV_of ?_
  unfold f_X12_does
  have l0 : (0 : Int32).toInt = 0 := rfl
  have l1 : (1 : Int32).toInt = 1 := rfl
  have l2 : (2 : Int32).toInt = 2 := rfl
  have l6 : (6 : Int32).toInt = 6 := rfl
  have l10 : (10 : Int32).toInt = 10 := rfl
  have l16 : (16 : Int32).toInt = 16 := rfl
  have l999 : (999 : Int32).toInt = 999 := rfl
  have k0 := km.refl A1 μ
  refine gw_eq (fun h1_1 => ?_) (fun h1_1 => ?_)
  ·
    refine gw_if ((h.of1 k0).1.t (r := 65) rfl) ?_
    refine gw_bV (s_X12_goes (h.of1 k0)  ) (fun m2 ⟨g2, f2⟩ => ?_)
    have kk2 := k0.trans g2.w11
    exact gw_some (gq_V kk2)
  ·
    refine gw_eq (fun h1_3 => ?_) (fun h1_3 => ?_)
    ·
      refine gw_gRa 66 ((h.of1 k0).1.c (r := 65) rfl) ((h.of1 k0).1.r (by decide)) ?_
      refine gw_gRa 66 ((h.of1 k0).1.c (r := 65) rfl) ((h.of1 k0).1.r (by decide)) ?_
      have n4 : ((1 : Int32) + a2).toInt = (1 : Int32).toInt + a2.toInt := gx_add (by omega) (by omega)
      refine gw_aI (i := ((1 : Int32) + a2)) ((h.of1 k0).1.t (r := 66) rfl) ((h.of1 k0).1.l (r := 66) rfl) (by omega) (by omega) (fun v5 ev5 => ?_)
      refine gw_bI (s_X12_within  ) (fun x6 m6 z6 => ?_)
      replace z6 := z6.symm
      subst z6
      have n7 : ((1 : Int32) + a2).toInt = (1 : Int32).toInt + a2.toInt := gx_add (by omega) (by omega)
      refine gw_sI (i := ((1 : Int32) + a2)) ((h.of1 k0).1.t (r := 66) rfl) ((h.of1 k0).1.l (r := 66) rfl) (by omega) (by omega) (fun m8 em8 => ?_)
      have km8 := k0.ws em8 (by unfold A1; omega)
      refine gw_gRa 66 ((h.of1 km8).1.c (r := 65) rfl) ((h.of1 km8).1.r (by decide)) ?_
      refine gw_gRa 66 ((h.of1 km8).1.c (r := 65) rfl) ((h.of1 km8).1.r (by decide)) ?_
      have n9 : ((6 : Int32) + a2).toInt = (6 : Int32).toInt + a2.toInt := gx_add (by omega) (by omega)
      refine gw_aI (i := ((6 : Int32) + a2)) ((h.of1 km8).1.t (r := 66) rfl) ((h.of1 km8).1.l (r := 66) rfl) (by omega) (by omega) (fun v10 ev10 => ?_)
      refine gw_if ((h.of1 km8).1.t (r := 65) rfl) ?_
      refine gw_bI (s_X12_sweetNow (h.of1 km8)  ) (fun x11 m11 z11 => ?_)
      replace z11 := z11.symm
      subst z11
      refine gw_bI (s_X12_within  ) (fun x12 m12 z12 => ?_)
      replace z12 := z12.symm
      subst z12
      have n13 : ((6 : Int32) + a2).toInt = (6 : Int32).toInt + a2.toInt := gx_add (by omega) (by omega)
      refine gw_sI (i := ((6 : Int32) + a2)) ((h.of1 km8).1.t (r := 66) rfl) ((h.of1 km8).1.l (r := 66) rfl) (by omega) (by omega) (fun m14 em14 => ?_)
      have km14 := km8.ws em14 (by unfold A1; omega)
      exact gw_some (gq_V km14)
    ·
      refine gw_eq (fun h1_15 => ?_) (fun h1_15 => ?_)
      ·
        refine gw_gRa 66 ((h.of1 k0).1.c (r := 65) rfl) ((h.of1 k0).1.r (by decide)) ?_
        have n16 : ((1 : Int32) + a2).toInt = (1 : Int32).toInt + a2.toInt := gx_add (by omega) (by omega)
        refine gw_sI (i := ((1 : Int32) + a2)) ((h.of1 k0).1.t (r := 66) rfl) ((h.of1 k0).1.l (r := 66) rfl) (by omega) (by omega) (fun m17 em17 => ?_)
        have km17 := k0.ws em17 (by unfold A1; omega)
        refine gw_gRa 66 ((h.of1 km17).1.c (r := 65) rfl) ((h.of1 km17).1.r (by decide)) ?_
        have n18 : ((6 : Int32) + a2).toInt = (6 : Int32).toInt + a2.toInt := gx_add (by omega) (by omega)
        refine gw_sI (i := ((6 : Int32) + a2)) ((h.of1 km17).1.t (r := 66) rfl) ((h.of1 km17).1.l (r := 66) rfl) (by omega) (by omega) (fun m19 em19 => ?_)
        have km19 := km17.ws em19 (by unfold A1; omega)
        refine gw_gRa 66 ((h.of1 km19).1.c (r := 65) rfl) ((h.of1 km19).1.r (by decide)) ?_
        have n20 : ((16 : Int32) + a2).toInt = (16 : Int32).toInt + a2.toInt := gx_add (by omega) (by omega)
        refine gw_sI (i := ((16 : Int32) + a2)) ((h.of1 km19).1.t (r := 66) rfl) ((h.of1 km19).1.l (r := 66) rfl) (by omega) (by omega) (fun m21 em21 => ?_)
        have km21 := km19.ws em21 (by unfold A1; omega)
        exact gw_some (gq_V km21)
      ·
        refine gw_gRa 66 ((h.of1 k0).1.c (r := 65) rfl) ((h.of1 k0).1.r (by decide)) ?_
        have n22 : ((1 : Int32) + a2).toInt = (1 : Int32).toInt + a2.toInt := gx_add (by omega) (by omega)
        refine gw_aI (i := ((1 : Int32) + a2)) ((h.of1 k0).1.t (r := 66) rfl) ((h.of1 k0).1.l (r := 66) rfl) (by omega) (by omega) (fun v23 ev23 => ?_)
        refine gw_le (fun h132_24 => ?_) (fun h132_24 => ?_)
        ·
          exact gw_some (gq_V k0)
        ·
          refine gw_if ((h.of1 k0).1.t (r := 65) rfl) ?_
          refine gw_bI (s_X12_blows (h.of1 k0)  (by omega)) (fun x25 m25 ⟨g25, f25⟩ => ?_)
          have kk25 := k0.trans g25.w31
          exact gw_some (gq_V kk25)
set_option maxHeartbeats 1000000 in
theorem s_X12_looksForWhen {μ : gm_M} (h : MI μ) {a1 : Int32} (q0 : 0 ≤ a1.toInt ∧ a1.toInt < 5) : gwV (f_X12_looksForWhen 65 a1 μ) (fun m => km A1 μ m ∧ rs m) := by
  refine gwV_of ?_
  unfold f_X12_looksForWhen
  have lm1 : (-1 : Int32).toInt = -1 := rfl
  have l0 : (0 : Int32).toInt = 0 := rfl
  have l1 : (1 : Int32).toInt = 1 := rfl
  have l60 : (60 : Int32).toInt = 60 := rfl
  have k0 := km.refl A1 μ
  refine gw_pI ((h.of1 k0).1.c (r := 65) rfl) (fun m1 em1 => ?_)
  have km1 := k0.wf em1 (by decide)
  refine gw_pI ((h.of1 km1).1.c (r := 65) rfl) (fun m2 em2 => ?_)
  have km2 := km1.wf em2 (by decide)
  refine gw_loop (fun s3 => km A1 μ s3.2 ∧ (0 ≤ s3.1.toInt ∧ s3.1.toInt ≤ 61)) (fun s3 => (61 - s3.1.toInt)) (fun s3 ⟨k4, u5⟩ => ?_) 5000 ((0 : Int32), m2) ⟨km2, (by show 0 ≤ (0 : Int32).toInt ∧ (0 : Int32).toInt ≤ 61; omega)⟩ (by show (61 - (0 : Int32).toInt) < ((5000 : Nat) : Int); omega) (by show 0 ≤ (61 - (0 : Int32).toInt); omega)
  refine gw_lt (fun h15_6 => ?_) (fun h15_6 => ?_)
  ·
    refine gw_if ((h.of1 k4).1.t (r := 65) rfl) ?_
    refine gw_bV (s_X12_goesBack (h.of1 k4)  ) (fun m7 ⟨g7, r7⟩ => ?_)
    have kk7 := k4.trans g7.w11
    exact gw_some (gs_inr (gq_V ⟨kk7, r7⟩))
  ·
    refine gw_if ((h.of1 k4).1.t (r := 65) rfl) ?_
    refine gw_bI (s_X12_holdsOf (h.of1 k4)  (by omega)) (fun x8 m8 g8 => ?_)
    have kk8 := k4.trans g8.w01
    refine gw_gI ((h.of1 kk8).1.c (r := 65) rfl) (fun v9 ev9 => ?_)
    refine gw_j (fun s10 => True) (fun s10 _ => ?_) (fun j11 hj11 => ?_)
    ·
      refine gw_pI ((h.of1 kk8).1.c (r := 65) rfl) (fun m12 em12 => ?_)
      have km12 := kk8.wf em12 (by decide)
      refine gw_gI ((h.of1 km12).1.c (r := 65) rfl) (fun v13 ev13 => ?_)
      refine gw_j (fun s14 => True) (fun s14 _ => ?_) (fun j15 hj15 => ?_)
      ·
        refine gw_pI ((h.of1 km12).1.c (r := 65) rfl) (fun m16 em16 => ?_)
        have km16 := km12.wf em16 (by decide)
        refine gw_if ((h.of1 km16).1.t (r := 65) rfl) ?_
        refine gw_bV (s_X12_goesAlone (h.of1 km16)  (by omega)) (fun m17 g17 => ?_)
        have kk17 := km16.trans g17.w11
        have n18 : (s3.1 + (1 : Int32)).toInt = s3.1.toInt + (1 : Int32).toInt := gx_add (by omega) (by omega)
        exact gw_some (gs_inl ⟨kk17, (by show 0 ≤ (s3.1 + (1 : Int32)).toInt ∧ (s3.1 + (1 : Int32)).toInt ≤ 61; omega)⟩ (by show (61 - (s3.1 + (1 : Int32)).toInt) < (61 - s3.1.toInt); omega) (by show 0 ≤ (61 - (s3.1 + (1 : Int32)).toInt); omega))
      ·
        refine gw_le (fun h50_19 => ?_) (fun h50_19 => ?_)
        ·
          refine gw_gI ((h.of1 km12).1.c (r := 65) rfl) (fun v20 ev20 => ?_)
          exact hj15 _ trivial
        ·
          exact hj15 _ trivial
    ·
      refine gw_le (fun h30_21 => ?_) (fun h30_21 => ?_)
      ·
        refine gw_gI ((h.of1 kk8).1.c (r := 65) rfl) (fun v22 ev22 => ?_)
        exact hj11 _ trivial
      ·
        exact hj11 _ trivial
set_option maxHeartbeats 1000000 in
theorem s_X12_isAsSeen {μ : gm_M} (h : MI μ) {a1 : Int32}  : gwI (f_X12_isAsSeen 65 a1 μ) (fun x m => km A0 μ m ∧ (x.toInt = 0 ∨ x.toInt = 1)) := by
  refine gwI_of ?_
  unfold f_X12_isAsSeen
  have l0 : (0 : Int32).toInt = 0 := rfl
  have l1 : (1 : Int32).toInt = 1 := rfl
  have l28 : (28 : Int32).toInt = 28 := rfl
  have l63 : (63 : Int32).toInt = 63 := rfl
  have l68 : (68 : Int32).toInt = 68 := rfl
  have l73 : (73 : Int32).toInt = 73 := rfl
  have k0 := km.refl A0 μ
  refine gw_loop (fun s1 => km A0 μ s1.2.2 ∧ ((0 ≤ s1.2.1.toInt ∧ s1.2.1.toInt ≤ 5) ∧ (s1.1.toInt = 0 ∨ s1.1.toInt = 1))) (fun s1 => (5 - s1.2.1.toInt)) (fun s1 ⟨k2, u3⟩ => ?_) 5000 ((1 : Int32), (0 : Int32), μ) ⟨k0, (by show (0 ≤ (0 : Int32).toInt ∧ (0 : Int32).toInt ≤ 5) ∧ ((1 : Int32).toInt = 0 ∨ (1 : Int32).toInt = 1); omega)⟩ (by show (5 - (0 : Int32).toInt) < ((5000 : Nat) : Int); omega) (by show 0 ≤ (5 - (0 : Int32).toInt); omega)
  refine gw_gRa 66 ((h.of0 k2).1.c (r := 65) rfl) ((h.of0 k2).1.r (by decide)) ?_
  refine gw_aI (i := (28 : Int32)) ((h.of0 k2).1.t (r := 66) rfl) ((h.of0 k2).1.l (r := 66) rfl) (by omega) (by omega) (fun v4 ev4 => ?_)
  have bv4 := (h.of0 k2).n28
  have cv4 : v4 = s1.2.2.2.1 66 28 := ev4
  have dv4 : v4.toInt = (s1.2.2.2.1 66 28).toInt := by rw [cv4]
  have yv4 : v4.toInt = (μ.2.1 66 28).toInt := by rw [dv4, k2.2.2.2.1 28 (by first | exact fun q => q | (unfold A0; omega))]
  refine gw_le (fun h12_5 => ?_) (fun h12_5 => ?_)
  ·
    refine gw_z Iff.rfl (by omega) (gs_inr (gq_I ⟨k2, by omega⟩))
  ·
    refine gw_eq (fun h16_6 => ?_) (fun h16_6 => ?_)
    ·
      refine gw_z Iff.rfl (by omega) (gs_inr (gq_I ⟨k2, by omega⟩))
    ·
      refine gw_gRa 66 ((h.of0 k2).1.c (r := 65) rfl) ((h.of0 k2).1.r (by decide)) ?_
      have n7 : ((73 : Int32) + s1.2.1).toInt = (73 : Int32).toInt + s1.2.1.toInt := gx_add (by omega) (by omega)
      refine gw_aI (i := ((73 : Int32) + s1.2.1)) ((h.of0 k2).1.t (r := 66) rfl) ((h.of0 k2).1.l (r := 66) rfl) (by omega) (by omega) (fun v8 ev8 => ?_)
      refine gw_j (fun s9 => km A0 μ s9.2 ∧ (s9.1.toInt = 0 ∨ s9.1.toInt = 1)) (fun s9 ⟨k11, u12⟩ => ?_) (fun j10 hj10 => ?_)
      ·
        have n13 : (s1.2.1 + (1 : Int32)).toInt = s1.2.1.toInt + (1 : Int32).toInt := gx_add (by omega) (by omega)
        exact gw_some (gs_inl ⟨k11, (by show (0 ≤ (s1.2.1 + (1 : Int32)).toInt ∧ (s1.2.1 + (1 : Int32)).toInt ≤ 5) ∧ (s9.1.toInt = 0 ∨ s9.1.toInt = 1); omega)⟩ (by show (5 - (s1.2.1 + (1 : Int32)).toInt) < (5 - s1.2.1.toInt); omega) (by show 0 ≤ (5 - (s1.2.1 + (1 : Int32)).toInt); omega))
      ·
        refine gw_j (fun s14 => km A0 μ s14) (fun s14 k16 => ?_) (fun j15 hj15 => ?_)
        ·
          exact hj10 _ ⟨k16, (by show (1 : Int32).toInt = 0 ∨ (1 : Int32).toInt = 1; omega)⟩
        ·
          refine gw_ne (fun h29_17 => ?_) (fun h29_17 => ?_)
          ·
            exact hj15 _ k2
          ·
            refine gw_gRa 66 ((h.of0 k2).1.c (r := 65) rfl) ((h.of0 k2).1.r (by decide)) ?_
            have n18 : ((63 : Int32) + s1.2.1).toInt = (63 : Int32).toInt + s1.2.1.toInt := gx_add (by omega) (by omega)
            refine gw_aI (i := ((63 : Int32) + s1.2.1)) ((h.of0 k2).1.t (r := 66) rfl) ((h.of0 k2).1.l (r := 66) rfl) (by omega) (by omega) (fun v19 ev19 => ?_)
            have yv19 := (h.of0 k2).seen ((63 : Int32) + s1.2.1).toInt.toNat (by omega) (by omega)
            rw [← ev19] at yv19
            refine gw_if ((h.of0 k2).1.t (r := 65) rfl) ?_
            refine gw_bI (s_X12_holdsOf (h.of0 k2)  (by omega)) (fun x20 m20 g20 => ?_)
            have kk20 := k2.trans g20.w00
            refine gw_gRa 66 ((h.of0 kk20).1.c (r := 65) rfl) ((h.of0 kk20).1.r (by decide)) ?_
            have n21 : ((68 : Int32) + s1.2.1).toInt = (68 : Int32).toInt + s1.2.1.toInt := gx_add (by omega) (by omega)
            refine gw_aI (i := ((68 : Int32) + s1.2.1)) ((h.of0 kk20).1.t (r := 66) rfl) ((h.of0 kk20).1.l (r := 66) rfl) (by omega) (by omega) (fun v22 ev22 => ?_)
            refine gw_ne (fun h54_23 => ?_) (fun h54_23 => ?_)
            ·
              exact hj10 _ ⟨kk20, (by show (0 : Int32).toInt = 0 ∨ (0 : Int32).toInt = 1; omega)⟩
            ·
              exact hj15 _ kk20
set_option maxHeartbeats 1000000 in
theorem s_X12_areAsSeen {μ : gm_M} (h : MI μ)   : gwI (f_X12_areAsSeen 65 μ) (fun x m => km A1 μ m ∧ rs m ∧ (x.toInt = 0 ∨ x.toInt = 1)) := by
  refine gwI_of ?_
  unfold f_X12_areAsSeen
  have l0 : (0 : Int32).toInt = 0 := rfl
  have l1 : (1 : Int32).toInt = 1 := rfl
  have l20 : (20 : Int32).toInt = 20 := rfl
  have k0 := km.refl A1 μ
  refine gw_loop (fun s1 => km A1 μ s1.2.2 ∧ ((0 ≤ s1.2.1.toInt ∧ s1.2.1.toInt ≤ 21) ∧ (s1.1.toInt = 0 ∨ s1.1.toInt = 1))) (fun s1 => (21 - s1.2.1.toInt)) (fun s1 ⟨k2, u3⟩ => ?_) 5000 ((1 : Int32), (0 : Int32), μ) ⟨k0, (by show (0 ≤ (0 : Int32).toInt ∧ (0 : Int32).toInt ≤ 21) ∧ ((1 : Int32).toInt = 0 ∨ (1 : Int32).toInt = 1); omega)⟩ (by show (21 - (0 : Int32).toInt) < ((5000 : Nat) : Int); omega) (by show 0 ≤ (21 - (0 : Int32).toInt); omega)
  refine gw_j (fun s4 => True) (fun s4 _ => ?_) (fun j5 hj5 => ?_)
  ·
    refine gw_if ((h.of1 k2).1.t (r := 65) rfl) ?_
    refine gw_bV (s_X12_goesBack (h.of1 k2)  ) (fun m6 ⟨g6, r6⟩ => ?_)
    have kk6 := k2.trans g6.w11
    refine gw_z Iff.rfl (by omega) (gs_inr (gq_I ⟨kk6, r6, by omega⟩))
  ·
    refine gw_lt (fun h7_7 => ?_) (fun h7_7 => ?_)
    ·
      exact hj5 _ trivial
    ·
      refine gw_eq (fun h11_8 => ?_) (fun h11_8 => ?_)
      ·
        exact hj5 _ trivial
      ·
        refine gw_if ((h.of1 k2).1.t (r := 65) rfl) ?_
        refine gw_bI (s_X12_isAsSeen (h.of1 k2)  ) (fun x9 m9 ⟨g9, f9⟩ => ?_)
        have kk9 := k2.trans g9.w01
        refine gw_if ((h.of1 kk9).1.t (r := 65) rfl) ?_
        refine gw_bV (s_X12_goes (h.of1 kk9)  ) (fun m10 ⟨g10, f10⟩ => ?_)
        have kk10 := kk9.trans g10.w11
        have n11 : (s1.2.1 + (1 : Int32)).toInt = s1.2.1.toInt + (1 : Int32).toInt := gx_add (by omega) (by omega)
        exact gw_some (gs_inl ⟨kk10, (by show (0 ≤ (s1.2.1 + (1 : Int32)).toInt ∧ (s1.2.1 + (1 : Int32)).toInt ≤ 21) ∧ (x9.toInt = 0 ∨ x9.toInt = 1); omega)⟩ (by show (21 - (s1.2.1 + (1 : Int32)).toInt) < (21 - s1.2.1.toInt); omega) (by show 0 ≤ (21 - (s1.2.1 + (1 : Int32)).toInt); omega))
end
section
set_option maxHeartbeats 1000000 in
theorem s_X12_of {μ : gm_M} (h : MI μ) {a1 : Int32} {a2 : Int32}  : gwI (f_X12_of 65 a1 a2 μ) (fun x m => qm μ m) := by
  refine gwI_of ?_
  unfold f_X12_of
  have lm1 : (-1 : Int32).toInt = -1 := rfl
  have l0 : (0 : Int32).toInt = 0 := rfl
  have l1 : (1 : Int32).toInt = 1 := rfl
  have l2 : (2 : Int32).toInt = 2 := rfl
  have l5 : (5 : Int32).toInt = 5 := rfl
  have l7 : (7 : Int32).toInt = 7 := rfl
  have l8 : (8 : Int32).toInt = 8 := rfl
  have l9 : (9 : Int32).toInt = 9 := rfl
  have l10 : (10 : Int32).toInt = 10 := rfl
  have l33 : (33 : Int32).toInt = 33 := rfl
  have l38 : (38 : Int32).toInt = 38 := rfl
  have k0 := km.refl A0 μ
  refine gw_if ((h.of0 k0).1.t (r := 65) rfl) ?_
  refine gw_bI (s_X12_isChild (h.of0 k0)  ) (fun x1 m1 ⟨z1, f1⟩ => ?_)
  replace z1 := z1.symm
  subst z1
  refine gw_eq (fun h5_2 => ?_) (fun h5_2 => ?_)
  ·
    exact gw_some (gq_I (qm.of0 k0))
  ·
    refine gw_bI (s_X12_in  ) (fun x3 m3 ⟨z3, f3⟩ => ?_)
    replace z3 := z3.symm
    subst z3
    refine gw_ne (fun h15_4 => ?_) (fun h15_4 => ?_)
    ·
      refine gw_eq (fun h21_5 => ?_) (fun h21_5 => ?_)
      ·
        refine gw_gRa 66 ((h.of0 k0).1.c (r := 65) rfl) ((h.of0 k0).1.r (by decide)) ?_
        have n6 : ((33 : Int32) + a1).toInt = (33 : Int32).toInt + a1.toInt := gx_add (by omega) (by omega)
        refine gw_aI (i := ((33 : Int32) + a1)) ((h.of0 k0).1.t (r := 66) rfl) ((h.of0 k0).1.l (r := 66) rfl) (by omega) (by omega) (fun v7 ev7 => ?_)
        exact gw_some (gq_I (qm.of0 k0))
      ·
        refine gw_eq (fun h21_8 => ?_) (fun h21_8 => ?_)
        ·
          refine gw_gRa 66 ((h.of0 k0).1.c (r := 65) rfl) ((h.of0 k0).1.r (by decide)) ?_
          have n9 : ((38 : Int32) + a1).toInt = (38 : Int32).toInt + a1.toInt := gx_add (by omega) (by omega)
          refine gw_aI (i := ((38 : Int32) + a1)) ((h.of0 k0).1.t (r := 66) rfl) ((h.of0 k0).1.l (r := 66) rfl) (by omega) (by omega) (fun v10 ev10 => ?_)
          exact gw_some (gq_I (qm.of0 k0))
        ·
          refine gw_eq (fun h21_11 => ?_) (fun h21_11 => ?_)
          ·
            refine gw_if ((h.of0 k0).1.t (r := 65) rfl) ?_
            refine gw_bI (s_X12_stretchOf (h.of0 k0)  (by omega)) (fun x12 m12 g12 => ?_)
            have kk12 := k0.trans g12.w00
            exact gw_some (gq_I (qm.of0 kk12))
          ·
            refine gw_eq (fun h21_13 => ?_) (fun h21_13 => ?_)
            ·
              refine gw_if ((h.of0 k0).1.t (r := 65) rfl) ?_
              refine gw_bI (s_X12_chewsOf (h.of0 k0)  (by omega)) (fun x14 m14 z14 => ?_)
              replace z14 := z14.symm
              subst z14
              exact gw_some (gq_I (qm.of0 k0))
            ·
              refine gw_eq (fun h21_15 => ?_) (fun h21_15 => ?_)
              ·
                refine gw_if ((h.of0 k0).1.t (r := 65) rfl) ?_
                refine gw_bI (s_X12_tiresOf (h.of0 k0)  (by omega)) (fun x16 m16 z16 => ?_)
                replace z16 := z16.symm
                subst z16
                exact gw_some (gq_I (qm.of0 k0))
              ·
                refine gw_eq (fun h21_17 => ?_) (fun h21_17 => ?_)
                ·
                  refine gw_if ((h.of0 k0).1.t (r := 65) rfl) ?_
                  refine gw_bI (s_X12_holdsOf (h.of0 k0)  (by omega)) (fun x18 m18 g18 => ?_)
                  have kk18 := k0.trans g18.w00
                  exact gw_some (gq_I (qm.of0 kk18))
                ·
                  refine gw_gRa 66 ((h.of0 k0).1.c (r := 65) rfl) ((h.of0 k0).1.r (by decide)) ?_
                  have n19 : (a2 - (2 : Int32)).toInt = a2.toInt - (2 : Int32).toInt := gx_sub (by omega) (by omega)
                  have n20 : ((5 : Int32) * (a2 - (2 : Int32))).toInt = 5 * (a2 - (2 : Int32)).toInt := gx_mul 5 rfl (by omega) (by omega)
                  have n21 : ((1 : Int32) + ((5 : Int32) * (a2 - (2 : Int32)))).toInt = (1 : Int32).toInt + ((5 : Int32) * (a2 - (2 : Int32))).toInt := gx_add (by omega) (by omega)
                  have n22 : (((1 : Int32) + ((5 : Int32) * (a2 - (2 : Int32)))) + a1).toInt = ((1 : Int32) + ((5 : Int32) * (a2 - (2 : Int32)))).toInt + a1.toInt := gx_add (by omega) (by omega)
                  refine gw_aI (i := (((1 : Int32) + ((5 : Int32) * (a2 - (2 : Int32)))) + a1)) ((h.of0 k0).1.t (r := 66) rfl) ((h.of0 k0).1.l (r := 66) rfl) (by omega) (by omega) (fun v23 ev23 => ?_)
                  exact gw_some (gq_I (qm.of0 k0))
    ·
      exact gw_some (gq_I (qm.of0 k0))
set_option maxHeartbeats 1000000 in
theorem s_X12_told {μ : gm_M} (h : MI μ) {a1 : Int32}  : gwI (f_X12_told 65 a1 μ) (fun x m => qm μ m) := by
  refine gwI_of ?_
  unfold f_X12_told
  have lm1 : (-1 : Int32).toInt = -1 := rfl
  have l0 : (0 : Int32).toInt = 0 := rfl
  have l1 : (1 : Int32).toInt = 1 := rfl
  have l2 : (2 : Int32).toInt = 2 := rfl
  have l3 : (3 : Int32).toInt = 3 := rfl
  have l4 : (4 : Int32).toInt = 4 := rfl
  have l210 : (210 : Int32).toInt = 210 := rfl
  have k0 := km.refl A0 μ
  refine gw_eq (fun h1_1 => ?_) (fun h1_1 => ?_)
  ·
    refine gw_gRa 66 ((h.of0 k0).1.c (r := 65) rfl) ((h.of0 k0).1.r (by decide)) ?_
    refine gw_aI (i := (0 : Int32)) ((h.of0 k0).1.t (r := 66) rfl) ((h.of0 k0).1.l (r := 66) rfl) (by omega) (by omega) (fun v2 ev2 => ?_)
    exact gw_some (gq_I (qm.of0 k0))
  ·
    refine gw_eq (fun h1_3 => ?_) (fun h1_3 => ?_)
    ·
      refine gw_if ((h.of0 k0).1.t (r := 65) rfl) ?_
      refine gw_bI (s_X12_tellsOf (h.of0 k0)  (by omega)) (fun x4 m4 ⟨z4, f4⟩ => ?_)
      replace z4 := z4.symm
      subst z4
      exact gw_some (gq_I (qm.of0 k0))
    ·
      refine gw_eq (fun h1_5 => ?_) (fun h1_5 => ?_)
      ·
        refine gw_if ((h.of0 k0).1.t (r := 65) rfl) ?_
        refine gw_bI (s_X12_sweetNow (h.of0 k0)  ) (fun x6 m6 z6 => ?_)
        replace z6 := z6.symm
        subst z6
        exact gw_some (gq_I (qm.of0 k0))
      ·
        refine gw_eq (fun h1_7 => ?_) (fun h1_7 => ?_)
        ·
          refine gw_if ((h.of0 k0).1.t (r := 65) rfl) ?_
          refine gw_bI (s_X12_allHold (h.of0 k0)  ) (fun x8 m8 g8 => ?_)
          have kk8 := k0.trans g8.w00
          exact gw_some (gq_I (qm.of0 kk8))
        ·
          refine gw_eq (fun h1_9 => ?_) (fun h1_9 => ?_)
          ·
            refine gw_if ((h.of0 k0).1.t (r := 65) rfl) ?_
            refine gw_bI (s_X12_bubbles (h.of0 k0)  ) (fun x10 m10 z10 => ?_)
            replace z10 := z10.symm
            subst z10
            exact gw_some (gq_I (qm.of0 k0))
          ·
            exact gw_some (gq_I (qm.of0 k0))
set_option maxHeartbeats 1000000 in
theorem s_X12_on {μ : gm_M} (h : MI μ) {a1 : Int32} {a2 : Int32}  : gwI (f_X12_on 65 a1 a2 μ) (fun x m => qm μ m) := by
  refine gwI_of ?_
  unfold f_X12_on
  have lm2 : (-2 : Int32).toInt = -2 := rfl
  have lm1 : (-1 : Int32).toInt = -1 := rfl
  have l0 : (0 : Int32).toInt = 0 := rfl
  have l6 : (6 : Int32).toInt = 6 := rfl
  have l10 : (10 : Int32).toInt = 10 := rfl
  have l20 : (20 : Int32).toInt = 20 := rfl
  have l60 : (60 : Int32).toInt = 60 := rfl
  have k0 := km.refl A0 μ
  refine gw_ji ?_
  refine gw_eq (fun h1_1 => ?_) (fun h1_1 => ?_)
  ·
    refine gw_bI (s_X12_in  ) (fun x2 m2 ⟨z2, f2⟩ => ?_)
    replace z2 := z2.symm
    subst z2
    refine gw_ne (fun h35_3 => ?_) (fun h35_3 => ?_)
    ·
      refine gw_if ((h.of0 k0).1.t (r := 65) rfl) ?_
      refine gw_bV (s_X12_keeps (h.of0 k0)  ) (fun m4 g4 => ?_)
      have hh4 := g4.mi (h.of0 k0)
      have kq4 := km.refl A1 m4
      have rr4 := g4.rs
      refine gw_if ((hh4.of1 kq4).1.t (r := 65) rfl) ?_
      refine gw_bV (s_X12_goesOn (hh4.of1 kq4)  (by omega)) (fun m5 ⟨g5, f5⟩ => ?_)
      have kk5 := kq4.trans g5.w11
      refine gw_j (fun s6 => km A1 m4 s6.2) (fun s6 k8 => ?_) (fun j7 hj7 => ?_)
      ·
        refine gw_if ((hh4.of1 k8).1.t (r := 65) rfl) ?_
        refine gw_bV (s_X12_goesBack (hh4.of1 k8)  ) (fun m9 ⟨g9, r9⟩ => ?_)
        have kk9 := k8.trans g9.w11
        exact gw_some (gq_I (qm.kp g4 kk9 r9))
      ·
        refine gw_ne (fun h51_10 => ?_) (fun h51_10 => ?_)
        ·
          refine gw_le (fun h64_11 => ?_) (fun h64_11 => ?_)
          ·
            refine gw_gRa 66 ((hh4.of1 kk5).1.c (r := 65) rfl) ((hh4.of1 kk5).1.r (by decide)) ?_
            have n12 := gx_addw (6 : Int32) a2
            have n12a := gx_lo (6 : Int32)
            have n12b := gx_hi (6 : Int32)
            have n12c := gx_lo ((6 : Int32) + a2)
            have n12d := gx_hi ((6 : Int32) + a2)
            have n13 := gx_subw ((6 : Int32) + a2) (20 : Int32)
            have n13a := gx_lo ((6 : Int32) + a2)
            have n13b := gx_hi ((6 : Int32) + a2)
            have n13c := gx_lo (((6 : Int32) + a2) - (20 : Int32))
            have n13d := gx_hi (((6 : Int32) + a2) - (20 : Int32))
            refine gw_aI (i := (((6 : Int32) + a2) - (20 : Int32))) ((hh4.of1 kk5).1.t (r := 66) rfl) ((hh4.of1 kk5).1.l (r := 66) rfl) (by omega) (by omega) (fun v14 ev14 => ?_)
            exact hj7 _ kk5
          ·
            refine gw_if ((hh4.of1 kk5).1.t (r := 65) rfl) ?_
            have n15 := gx_subw a2 (10 : Int32)
            have n15a := gx_lo a2
            have n15b := gx_hi a2
            have n15c := gx_lo (a2 - (10 : Int32))
            have n15d := gx_hi (a2 - (10 : Int32))
            refine gw_bI (s_X12_holdsOf (hh4.of1 kk5)  (by omega)) (fun x16 m16 g16 => ?_)
            have kk16 := kk5.trans g16.w01
            exact hj7 _ kk16
        ·
          refine gw_if ((hh4.of1 kk5).1.t (r := 65) rfl) ?_
          refine gw_bI (s_X12_allHold (hh4.of1 kk5)  ) (fun x17 m17 g17 => ?_)
          have kk17 := kk5.trans g17.w01
          exact hj7 _ kk17
    ·
      exact gw_some (gq_I (qm.of0 k0))
  ·
    refine gw_if ((h.of0 k0).1.t (r := 65) rfl) ?_
    have n18 := gx_subw a2 (10 : Int32)
    have n18a := gx_lo a2
    have n18b := gx_hi a2
    have n18c := gx_lo (a2 - (10 : Int32))
    have n18d := gx_hi (a2 - (10 : Int32))
    refine gw_bI (s_X12_isChild (h.of0 k0)  ) (fun x19 m19 ⟨z19, f19⟩ => ?_)
    replace z19 := z19.symm
    subst z19
    refine gw_ne (fun h12_20 => ?_) (fun h12_20 => ?_)
    ·
      refine gw_bI (s_X12_in  ) (fun x21 m21 ⟨z21, f21⟩ => ?_)
      replace z21 := z21.symm
      subst z21
      refine gw_ne (fun h35_22 => ?_) (fun h35_22 => ?_)
      ·
        refine gw_if ((h.of0 k0).1.t (r := 65) rfl) ?_
        refine gw_bV (s_X12_keeps (h.of0 k0)  ) (fun m23 g23 => ?_)
        have hh23 := g23.mi (h.of0 k0)
        have kq23 := km.refl A1 m23
        have rr23 := g23.rs
        refine gw_if ((hh23.of1 kq23).1.t (r := 65) rfl) ?_
        refine gw_bV (s_X12_goesOn (hh23.of1 kq23)  (by omega)) (fun m24 ⟨g24, f24⟩ => ?_)
        have kk24 := kq23.trans g24.w11
        refine gw_j (fun s25 => km A1 m23 s25.2) (fun s25 k27 => ?_) (fun j26 hj26 => ?_)
        ·
          refine gw_if ((hh23.of1 k27).1.t (r := 65) rfl) ?_
          refine gw_bV (s_X12_goesBack (hh23.of1 k27)  ) (fun m28 ⟨g28, r28⟩ => ?_)
          have kk28 := k27.trans g28.w11
          exact gw_some (gq_I (qm.kp g23 kk28 r28))
        ·
          refine gw_ne (fun h51_29 => ?_) (fun h51_29 => ?_)
          ·
            refine gw_le (fun h64_30 => ?_) (fun h64_30 => ?_)
            ·
              refine gw_gRa 66 ((hh23.of1 kk24).1.c (r := 65) rfl) ((hh23.of1 kk24).1.r (by decide)) ?_
              have n31 := gx_addw (6 : Int32) a2
              have n31a := gx_lo (6 : Int32)
              have n31b := gx_hi (6 : Int32)
              have n31c := gx_lo ((6 : Int32) + a2)
              have n31d := gx_hi ((6 : Int32) + a2)
              have n32 := gx_subw ((6 : Int32) + a2) (20 : Int32)
              have n32a := gx_lo ((6 : Int32) + a2)
              have n32b := gx_hi ((6 : Int32) + a2)
              have n32c := gx_lo (((6 : Int32) + a2) - (20 : Int32))
              have n32d := gx_hi (((6 : Int32) + a2) - (20 : Int32))
              refine gw_aI (i := (((6 : Int32) + a2) - (20 : Int32))) ((hh23.of1 kk24).1.t (r := 66) rfl) ((hh23.of1 kk24).1.l (r := 66) rfl) (by omega) (by omega) (fun v33 ev33 => ?_)
              exact hj26 _ kk24
            ·
              refine gw_if ((hh23.of1 kk24).1.t (r := 65) rfl) ?_
              have n34 := gx_subw a2 (10 : Int32)
              have n34a := gx_lo a2
              have n34b := gx_hi a2
              have n34c := gx_lo (a2 - (10 : Int32))
              have n34d := gx_hi (a2 - (10 : Int32))
              refine gw_bI (s_X12_holdsOf (hh23.of1 kk24)  (by omega)) (fun x35 m35 g35 => ?_)
              have kk35 := kk24.trans g35.w01
              exact hj26 _ kk35
          ·
            refine gw_if ((hh23.of1 kk24).1.t (r := 65) rfl) ?_
            refine gw_bI (s_X12_allHold (hh23.of1 kk24)  ) (fun x36 m36 g36 => ?_)
            have kk36 := kk24.trans g36.w01
            exact hj26 _ kk36
      ·
        exact gw_some (gq_I (qm.of0 k0))
    ·
      refine gw_if ((h.of0 k0).1.t (r := 65) rfl) ?_
      have n37 := gx_subw a2 (20 : Int32)
      have n37a := gx_lo a2
      have n37b := gx_hi a2
      have n37c := gx_lo (a2 - (20 : Int32))
      have n37d := gx_hi (a2 - (20 : Int32))
      refine gw_bI (s_X12_isChild (h.of0 k0)  ) (fun x38 m38 ⟨z38, f38⟩ => ?_)
      replace z38 := z38.symm
      subst z38
      refine gw_ne (fun h23_39 => ?_) (fun h23_39 => ?_)
      ·
        refine gw_bI (s_X12_in  ) (fun x40 m40 ⟨z40, f40⟩ => ?_)
        replace z40 := z40.symm
        subst z40
        refine gw_ne (fun h35_41 => ?_) (fun h35_41 => ?_)
        ·
          refine gw_if ((h.of0 k0).1.t (r := 65) rfl) ?_
          refine gw_bV (s_X12_keeps (h.of0 k0)  ) (fun m42 g42 => ?_)
          have hh42 := g42.mi (h.of0 k0)
          have kq42 := km.refl A1 m42
          have rr42 := g42.rs
          refine gw_if ((hh42.of1 kq42).1.t (r := 65) rfl) ?_
          refine gw_bV (s_X12_goesOn (hh42.of1 kq42)  (by omega)) (fun m43 ⟨g43, f43⟩ => ?_)
          have kk43 := kq42.trans g43.w11
          refine gw_j (fun s44 => km A1 m42 s44.2) (fun s44 k46 => ?_) (fun j45 hj45 => ?_)
          ·
            refine gw_if ((hh42.of1 k46).1.t (r := 65) rfl) ?_
            refine gw_bV (s_X12_goesBack (hh42.of1 k46)  ) (fun m47 ⟨g47, r47⟩ => ?_)
            have kk47 := k46.trans g47.w11
            exact gw_some (gq_I (qm.kp g42 kk47 r47))
          ·
            refine gw_ne (fun h51_48 => ?_) (fun h51_48 => ?_)
            ·
              refine gw_le (fun h64_49 => ?_) (fun h64_49 => ?_)
              ·
                refine gw_gRa 66 ((hh42.of1 kk43).1.c (r := 65) rfl) ((hh42.of1 kk43).1.r (by decide)) ?_
                have n50 := gx_addw (6 : Int32) a2
                have n50a := gx_lo (6 : Int32)
                have n50b := gx_hi (6 : Int32)
                have n50c := gx_lo ((6 : Int32) + a2)
                have n50d := gx_hi ((6 : Int32) + a2)
                have n51 := gx_subw ((6 : Int32) + a2) (20 : Int32)
                have n51a := gx_lo ((6 : Int32) + a2)
                have n51b := gx_hi ((6 : Int32) + a2)
                have n51c := gx_lo (((6 : Int32) + a2) - (20 : Int32))
                have n51d := gx_hi (((6 : Int32) + a2) - (20 : Int32))
                refine gw_aI (i := (((6 : Int32) + a2) - (20 : Int32))) ((hh42.of1 kk43).1.t (r := 66) rfl) ((hh42.of1 kk43).1.l (r := 66) rfl) (by omega) (by omega) (fun v52 ev52 => ?_)
                exact hj45 _ kk43
              ·
                refine gw_if ((hh42.of1 kk43).1.t (r := 65) rfl) ?_
                have n53 := gx_subw a2 (10 : Int32)
                have n53a := gx_lo a2
                have n53b := gx_hi a2
                have n53c := gx_lo (a2 - (10 : Int32))
                have n53d := gx_hi (a2 - (10 : Int32))
                refine gw_bI (s_X12_holdsOf (hh42.of1 kk43)  (by omega)) (fun x54 m54 g54 => ?_)
                have kk54 := kk43.trans g54.w01
                exact hj45 _ kk54
            ·
              refine gw_if ((hh42.of1 kk43).1.t (r := 65) rfl) ?_
              refine gw_bI (s_X12_allHold (hh42.of1 kk43)  ) (fun x55 m55 g55 => ?_)
              have kk55 := kk43.trans g55.w01
              exact hj45 _ kk55
        ·
          exact gw_some (gq_I (qm.of0 k0))
      ·
        exact gw_some (gq_I (qm.of0 k0))
set_option maxHeartbeats 1000000 in
theorem s_X12_when {μ : gm_M} (h : MI μ) {a1 : Int32} {a2 : Int32}  : gwI (f_X12_when 65 a1 a2 μ) (fun x m => qm μ m) := by
  refine gwI_of ?_
  unfold f_X12_when
  have lm1 : (-1 : Int32).toInt = -1 := rfl
  have l0 : (0 : Int32).toInt = 0 := rfl
  have l1 : (1 : Int32).toInt = 1 := rfl
  have k0 := km.refl A0 μ
  refine gw_if ((h.of0 k0).1.t (r := 65) rfl) ?_
  refine gw_bI (s_X12_isChild (h.of0 k0)  ) (fun x1 m1 ⟨z1, f1⟩ => ?_)
  replace z1 := z1.symm
  subst z1
  refine gw_eq (fun h5_2 => ?_) (fun h5_2 => ?_)
  ·
    exact gw_some (gq_I (qm.of0 k0))
  ·
    refine gw_bI (s_X12_in  ) (fun x3 m3 ⟨z3, f3⟩ => ?_)
    replace z3 := z3.symm
    subst z3
    refine gw_ne (fun h14_4 => ?_) (fun h14_4 => ?_)
    ·
      refine gw_if ((h.of0 k0).1.t (r := 65) rfl) ?_
      refine gw_bV (s_X12_keeps (h.of0 k0)  ) (fun m5 g5 => ?_)
      have hh5 := g5.mi (h.of0 k0)
      have kq5 := km.refl A1 m5
      have rr5 := g5.rs
      refine gw_if ((hh5.of1 kq5).1.t (r := 65) rfl) ?_
      refine gw_bV (s_X12_looksForWhen (hh5.of1 kq5)  (by omega)) (fun m6 ⟨g6, r6⟩ => ?_)
      have kk6 := kq5.trans g6.w11
      refine gw_ne (fun h29_7 => ?_) (fun h29_7 => ?_)
      ·
        refine gw_gI ((hh5.of1 kk6).1.c (r := 65) rfl) (fun v8 ev8 => ?_)
        exact gw_some (gq_I (qm.kp g5 kk6 r6))
      ·
        refine gw_gI ((hh5.of1 kk6).1.c (r := 65) rfl) (fun v9 ev9 => ?_)
        exact gw_some (gq_I (qm.kp g5 kk6 r6))
    ·
      exact gw_some (gq_I (qm.of0 k0))
set_option maxHeartbeats 1000000 in
theorem s_X12_soon {μ : gm_M} (h : MI μ) {a1 : Int32} {a2 : Int32}  : gwI (f_X12_soon 65 a1 a2 μ) (fun x m => qm μ m) := by
  refine gwI_of ?_
  unfold f_X12_soon
  have lm5 : (-5 : Int32).toInt = -5 := rfl
  have lm2 : (-2 : Int32).toInt = -2 := rfl
  have lm1 : (-1 : Int32).toInt = -1 := rfl
  have l0 : (0 : Int32).toInt = 0 := rfl
  have l1 : (1 : Int32).toInt = 1 := rfl
  have l60 : (60 : Int32).toInt = 60 := rfl
  have l999 : (999 : Int32).toInt = 999 := rfl
  have k0 := km.refl A0 μ
  refine gw_if ((h.of0 k0).1.t (r := 65) rfl) ?_
  refine gw_bI (s_X12_isChild (h.of0 k0)  ) (fun x1 m1 ⟨z1, f1⟩ => ?_)
  replace z1 := z1.symm
  subst z1
  refine gw_ne (fun h5_2 => ?_) (fun h5_2 => ?_)
  ·
    refine gw_bI (s_X12_in  ) (fun x3 m3 ⟨z3, f3⟩ => ?_)
    replace z3 := z3.symm
    subst z3
    refine gw_ne (fun h18_4 => ?_) (fun h18_4 => ?_)
    ·
      refine gw_if ((h.of0 k0).1.t (r := 65) rfl) ?_
      refine gw_bV (s_X12_keeps (h.of0 k0)  ) (fun m5 g5 => ?_)
      have hh5 := g5.mi (h.of0 k0)
      have kq5 := km.refl A1 m5
      have rr5 := g5.rs
      refine gw_loop (fun s6 => km A1 m5 s6.2.2 ∧ (0 ≤ s6.2.1.toInt ∧ s6.2.1.toInt ≤ 61)) (fun s6 => (61 - s6.2.1.toInt)) (fun s6 ⟨k7, u8⟩ => ?_) 5000 ((-5 : Int32), (0 : Int32), m5) ⟨kq5, (by show 0 ≤ (0 : Int32).toInt ∧ (0 : Int32).toInt ≤ 61; omega)⟩ (by show (61 - (0 : Int32).toInt) < ((5000 : Nat) : Int); omega) (by show 0 ≤ (61 - (0 : Int32).toInt); omega)
      refine gw_j (fun s9 => True) (fun s9 _ => ?_) (fun j10 hj10 => ?_)
      ·
        refine gw_if ((hh5.of1 k7).1.t (r := 65) rfl) ?_
        refine gw_bV (s_X12_goesBack (hh5.of1 k7)  ) (fun m11 ⟨g11, r11⟩ => ?_)
        have kk11 := k7.trans g11.w11
        exact gw_some (gs_inr (gq_I (qm.kp g5 kk11 r11)))
      ·
        refine gw_lt (fun h38_12 => ?_) (fun h38_12 => ?_)
        ·
          exact hj10 _ trivial
        ·
          refine gw_ne (fun h44_13 => ?_) (fun h44_13 => ?_)
          ·
            exact hj10 _ trivial
          ·
            refine gw_if ((hh5.of1 k7).1.t (r := 65) rfl) ?_
            refine gw_bI (s_X12_holdsOf (hh5.of1 k7)  (by omega)) (fun x14 m14 g14 => ?_)
            have kk14 := k7.trans g14.w01
            refine gw_j (fun s15 => True) (fun s15 _ => ?_) (fun j16 hj16 => ?_)
            ·
              refine gw_if ((hh5.of1 kk14).1.t (r := 65) rfl) ?_
              refine gw_bV (s_X12_goesAlone (hh5.of1 kk14)  (by omega)) (fun m17 g17 => ?_)
              have kk17 := kk14.trans g17.w11
              have n18 : (s6.2.1 + (1 : Int32)).toInt = s6.2.1.toInt + (1 : Int32).toInt := gx_add (by omega) (by omega)
              exact gw_some (gs_inl ⟨kk17, (by show 0 ≤ (s6.2.1 + (1 : Int32)).toInt ∧ (s6.2.1 + (1 : Int32)).toInt ≤ 61; omega)⟩ (by show (61 - (s6.2.1 + (1 : Int32)).toInt) < (61 - s6.2.1.toInt); omega) (by show 0 ≤ (61 - (s6.2.1 + (1 : Int32)).toInt); omega))
            ·
              refine gw_lt (fun h53_19 => ?_) (fun h53_19 => ?_)
              ·
                exact hj16 _ trivial
              ·
                exact hj16 _ trivial
    ·
      exact gw_some (gq_I (qm.of0 k0))
  ·
    exact gw_some (gq_I (qm.of0 k0))
set_option maxHeartbeats 1000000 in
theorem s_X12_pieces {μ : gm_M} (h : MI μ) {a1 : Int32} {a2 : Int32}  : gwI (f_X12_pieces 65 a1 a2 μ) (fun x m => qm μ m) := by
  refine gwI_of ?_
  unfold f_X12_pieces
  have lm1 : (-1 : Int32).toInt = -1 := rfl
  have l0 : (0 : Int32).toInt = 0 := rfl
  have l1 : (1 : Int32).toInt = 1 := rfl
  have l6 : (6 : Int32).toInt = 6 := rfl
  have l16 : (16 : Int32).toInt = 16 := rfl
  have k0 := km.refl A0 μ
  refine gw_if ((h.of0 k0).1.t (r := 65) rfl) ?_
  refine gw_bI (s_X12_isChild (h.of0 k0)  ) (fun x1 m1 ⟨z1, f1⟩ => ?_)
  replace z1 := z1.symm
  subst z1
  refine gw_eq (fun h5_2 => ?_) (fun h5_2 => ?_)
  ·
    exact gw_some (gq_I (qm.of0 k0))
  ·
    refine gw_bI (s_X12_in  ) (fun x3 m3 ⟨z3, f3⟩ => ?_)
    replace z3 := z3.symm
    subst z3
    refine gw_ne (fun h14_4 => ?_) (fun h14_4 => ?_)
    ·
      refine gw_if ((h.of0 k0).1.t (r := 65) rfl) ?_
      refine gw_bV (s_X12_keeps (h.of0 k0)  ) (fun m5 g5 => ?_)
      have hh5 := g5.mi (h.of0 k0)
      have kq5 := km.refl A1 m5
      have rr5 := g5.rs
      refine gw_loop (fun s6 => km A1 m5 s6.2.2.2 ∧ rs s6.2.2.2 ∧ (0 ≤ s6.2.2.1.toInt ∧ s6.2.2.1.toInt ≤ 7)) (fun s6 => (7 - s6.2.2.1.toInt)) (fun s6 ⟨k7, r7, u8⟩ => ?_) 5000 ((0 : Int32), (-1 : Int32), (0 : Int32), m5) ⟨kq5, rr5, (by show 0 ≤ (0 : Int32).toInt ∧ (0 : Int32).toInt ≤ 7; omega)⟩ (by show (7 - (0 : Int32).toInt) < ((5000 : Nat) : Int); omega) (by show 0 ≤ (7 - (0 : Int32).toInt); omega)
      refine gw_lt (fun h35_9 => ?_) (fun h35_9 => ?_)
      ·
        refine gw_ne (fun h122_10 => ?_) (fun h122_10 => ?_)
        ·
          exact gw_some (gs_inr (gq_I (qm.kp g5 k7 r7)))
        ·
          exact gw_some (gs_inr (gq_I (qm.kp g5 k7 r7)))
      ·
        refine gw_gRa 66 ((hh5.of1 k7).1.c (r := 65) rfl) ((hh5.of1 k7).1.r (by decide)) ?_
        have n11 : ((1 : Int32) + a1).toInt = (1 : Int32).toInt + a1.toInt := gx_add (by omega) (by omega)
        refine gw_sI (i := ((1 : Int32) + a1)) ((hh5.of1 k7).1.t (r := 66) rfl) ((hh5.of1 k7).1.l (r := 66) rfl) (by omega) (by omega) (fun m12 em12 => ?_)
        have km12 := k7.ws em12 (by unfold A1; omega)
        refine gw_gRa 66 ((hh5.of1 km12).1.c (r := 65) rfl) ((hh5.of1 km12).1.r (by decide)) ?_
        refine gw_if ((hh5.of1 km12).1.t (r := 65) rfl) ?_
        refine gw_bI (s_X12_sweetNow (hh5.of1 km12)  ) (fun x13 m13 z13 => ?_)
        replace z13 := z13.symm
        subst z13
        have n14 : ((6 : Int32) + a1).toInt = (6 : Int32).toInt + a1.toInt := gx_add (by omega) (by omega)
        refine gw_sI (i := ((6 : Int32) + a1)) ((hh5.of1 km12).1.t (r := 66) rfl) ((hh5.of1 km12).1.l (r := 66) rfl) (by omega) (by omega) (fun m15 em15 => ?_)
        have km15 := km12.ws em15 (by unfold A1; omega)
        refine gw_gRa 66 ((hh5.of1 km15).1.c (r := 65) rfl) ((hh5.of1 km15).1.r (by decide)) ?_
        have n16 : ((16 : Int32) + a1).toInt = (16 : Int32).toInt + a1.toInt := gx_add (by omega) (by omega)
        refine gw_sI (i := ((16 : Int32) + a1)) ((hh5.of1 km15).1.t (r := 66) rfl) ((hh5.of1 km15).1.l (r := 66) rfl) (by omega) (by omega) (fun m17 em17 => ?_)
        have km17 := km15.ws em17 (by unfold A1; omega)
        refine gw_if ((hh5.of1 km17).1.t (r := 65) rfl) ?_
        refine gw_bV (s_X12_looksForWhen (hh5.of1 km17)  (by omega)) (fun m18 ⟨g18, r18⟩ => ?_)
        have kk18 := km17.trans g18.w11
        refine gw_gI ((hh5.of1 kk18).1.c (r := 65) rfl) (fun v19 ev19 => ?_)
        refine gw_j (fun s20 => True) (fun s20 _ => ?_) (fun j21 hj21 => ?_)
        ·
          refine gw_gI ((hh5.of1 kk18).1.c (r := 65) rfl) (fun v22 ev22 => ?_)
          refine gw_j (fun s23 => True) (fun s23 _ => ?_) (fun j24 hj24 => ?_)
          ·
            have n25 : (s6.2.2.1 + (1 : Int32)).toInt = s6.2.2.1.toInt + (1 : Int32).toInt := gx_add (by omega) (by omega)
            exact gw_some (gs_inl ⟨kk18, r18, (by show 0 ≤ (s6.2.2.1 + (1 : Int32)).toInt ∧ (s6.2.2.1 + (1 : Int32)).toInt ≤ 7; omega)⟩ (by show (7 - (s6.2.2.1 + (1 : Int32)).toInt) < (7 - s6.2.2.1.toInt); omega) (by show 0 ≤ (7 - (s6.2.2.1 + (1 : Int32)).toInt); omega))
          ·
            refine gw_le (fun h101_26 => ?_) (fun h101_26 => ?_)
            ·
              exact hj24 _ trivial
            ·
              refine gw_gI ((hh5.of1 kk18).1.c (r := 65) rfl) (fun v27 ev27 => ?_)
              exact hj24 _ trivial
        ·
          refine gw_le (fun h85_28 => ?_) (fun h85_28 => ?_)
          ·
            exact hj21 _ trivial
          ·
            exact hj21 _ trivial
    ·
      exact gw_some (gq_I (qm.of0 k0))
set_option maxHeartbeats 1000000 in
theorem s_X12_breaths {μ : gm_M} (h : MI μ) {a1 : Int32} {a2 : Int32}  : gwI (f_X12_breaths 65 a1 a2 μ) (fun x m => qm μ m) := by
  refine gwI_of ?_
  unfold f_X12_breaths
  have lm2 : (-2 : Int32).toInt = -2 := rfl
  have lm1 : (-1 : Int32).toInt = -1 := rfl
  have l0 : (0 : Int32).toInt = 0 := rfl
  have l1 : (1 : Int32).toInt = 1 := rfl
  have l99 : (99 : Int32).toInt = 99 := rfl
  have k0 := km.refl A0 μ
  refine gw_if ((h.of0 k0).1.t (r := 65) rfl) ?_
  refine gw_bI (s_X12_isChild (h.of0 k0)  ) (fun x1 m1 ⟨z1, f1⟩ => ?_)
  replace z1 := z1.symm
  subst z1
  refine gw_ne (fun h5_2 => ?_) (fun h5_2 => ?_)
  ·
    refine gw_bI (s_X12_in  ) (fun x3 m3 ⟨z3, f3⟩ => ?_)
    replace z3 := z3.symm
    subst z3
    refine gw_eq (fun h17_4 => ?_) (fun h17_4 => ?_)
    ·
      exact gw_some (gq_I (qm.of0 k0))
    ·
      refine gw_if ((h.of0 k0).1.t (r := 65) rfl) ?_
      refine gw_bI (s_X12_slackOf (h.of0 k0)  (by omega)) (fun x5 m5 g5 => ?_)
      have kk5 := k0.trans g5.w00
      refine gw_bI (s_X12_above  ) (fun x6 m6 z6 => ?_)
      replace z6 := z6.symm
      subst z6
      refine gw_dv (by omega) ?_
      exact gw_some (gq_I (qm.of0 kk5))
  ·
    exact gw_some (gq_I (qm.of0 k0))
set_option maxHeartbeats 1000000 in
theorem s_X12_slack {μ : gm_M} (h : MI μ) {a1 : Int32}  : gwI (f_X12_slack 65 a1 μ) (fun x m => qm μ m) := by
  refine gwI_of ?_
  unfold f_X12_slack
  have lm10001 : (-10001 : Int32).toInt = -10001 := rfl
  have l0 : (0 : Int32).toInt = 0 := rfl
  have k0 := km.refl A0 μ
  refine gw_if ((h.of0 k0).1.t (r := 65) rfl) ?_
  refine gw_bI (s_X12_isChild (h.of0 k0)  ) (fun x1 m1 ⟨z1, f1⟩ => ?_)
  replace z1 := z1.symm
  subst z1
  refine gw_eq (fun h5_2 => ?_) (fun h5_2 => ?_)
  ·
    exact gw_some (gq_I (qm.of0 k0))
  ·
    refine gw_if ((h.of0 k0).1.t (r := 65) rfl) ?_
    refine gw_bI (s_X12_slackOf (h.of0 k0)  (by omega)) (fun x3 m3 g3 => ?_)
    have kk3 := k0.trans g3.w00
    exact gw_some (gq_I (qm.of0 kk3))
set_option maxHeartbeats 1000000 in
theorem s_X12_likely {μ : gm_M} (h : MI μ) {a1 : Int32} {a2 : Int32} {a3 : Int32}  : gwL (f_X12_likely 65 a1 a2 a3 μ) (fun x m => qm μ m) := by
  refine gwL_of ?_
  unfold f_X12_likely
  have l0 : (0 : Int32).toInt = 0 := rfl
  have l1 : (1 : Int32).toInt = 1 := rfl
  have l999 : (999 : Int32).toInt = 999 := rfl
  have k0 := km.refl A0 μ
  refine gw_if ((h.of0 k0).1.t (r := 65) rfl) ?_
  refine gw_bI (s_X12_isChild (h.of0 k0)  ) (fun x1 m1 ⟨z1, f1⟩ => ?_)
  replace z1 := z1.symm
  subst z1
  refine gw_j (fun s2 => km A0 μ s2) (fun s2 k4 => ?_) (fun j3 hj3 => ?_)
  ·
    exact gw_some (gq_L (qm.of0 k4))
  ·
    refine gw_eq (fun h5_5 => ?_) (fun h5_5 => ?_)
    ·
      exact hj3 _ k0
    ·
      refine gw_bI (s_X12_in  ) (fun x6 m6 ⟨z6, f6⟩ => ?_)
      replace z6 := z6.symm
      subst z6
      refine gw_eq (fun h16_7 => ?_) (fun h16_7 => ?_)
      ·
        exact hj3 _ k0
      ·
        refine gw_bI (s_X12_in  ) (fun x8 m8 ⟨z8, f8⟩ => ?_)
        replace z8 := z8.symm
        subst z8
        refine gw_ne (fun h25_9 => ?_) (fun h25_9 => ?_)
        ·
          refine gw_if ((h.of0 k0).1.t (r := 65) rfl) ?_
          refine gw_bI (s_X12_holdsOf (h.of0 k0)  (by omega)) (fun x10 m10 g10 => ?_)
          have kk10 := k0.trans g10.w00
          refine gw_bI (s_X12_likelyOf  ) (fun x11 m11 z11 => ?_)
          replace z11 := z11.symm
          subst z11
          refine gw_bL (s_X12_lowest  (by (first | decide | (rw [Int32.toInt_toInt64]; omega)))) (fun x12 m12 z12 => ?_)
          replace z12 := z12.symm
          subst z12
          exact gw_some (gq_L (qm.of0 kk10))
        ·
          exact hj3 _ k0
set_option maxHeartbeats 1000000 in
theorem s_X12_dare {μ : gm_M} (h : MI μ) {a1 : Int32}  : gwI (f_X12_dare 65 a1 μ) (fun x m => qm μ m) := by
  refine gwI_of ?_
  unfold f_X12_dare
  have lm1 : (-1 : Int32).toInt = -1 := rfl
  have l0 : (0 : Int32).toInt = 0 := rfl
  have l1 : (1 : Int32).toInt = 1 := rfl
  have l1000 : (1000 : Int32).toInt = 1000 := rfl
  have k0 := km.refl A0 μ
  refine gw_if ((h.of0 k0).1.t (r := 65) rfl) ?_
  refine gw_bI (s_X12_isChild (h.of0 k0)  ) (fun x1 m1 ⟨z1, f1⟩ => ?_)
  replace z1 := z1.symm
  subst z1
  refine gw_ne (fun h5_2 => ?_) (fun h5_2 => ?_)
  ·
    refine gw_if ((h.of0 k0).1.t (r := 65) rfl) ?_
    refine gw_bI (s_X12_holdsOf (h.of0 k0)  (by omega)) (fun x3 m3 g3 => ?_)
    have kk3 := k0.trans g3.w00
    refine gw_loop (fun s4 => km A0 μ s4.2.2.2 ∧ (0 ≤ s4.2.2.1.toInt ∧ s4.2.2.1.toInt ≤ 1000)) (fun s4 => (1000 - s4.2.2.1.toInt)) (fun s4 ⟨k5, u6⟩ => ?_) 5000 ((0 : Int32), (-1 : Int32), (0 : Int32), m3) ⟨kk3, (by show 0 ≤ (0 : Int32).toInt ∧ (0 : Int32).toInt ≤ 1000; omega)⟩ (by show (1000 - (0 : Int32).toInt) < ((5000 : Nat) : Int); omega) (by show 0 ≤ (1000 - (0 : Int32).toInt); omega)
    refine gw_le (fun h29_7 => ?_) (fun h29_7 => ?_)
    ·
      exact gw_some (gs_inr (gq_I (qm.of0 k5)))
    ·
      refine gw_bI (s_X12_likelyOf  ) (fun x8 m8 z8 => ?_)
      replace z8 := z8.symm
      subst z8
      refine gw_j (fun s9 => True) (fun s9 _ => ?_) (fun j10 hj10 => ?_)
      ·
        refine gw_j (fun s11 => True) (fun s11 _ => ?_) (fun j12 hj12 => ?_)
        ·
          have n13 : (s4.2.2.1 + (1 : Int32)).toInt = s4.2.2.1.toInt + (1 : Int32).toInt := gx_add (by omega) (by omega)
          exact gw_some (gs_inl ⟨k5, (by show 0 ≤ (s4.2.2.1 + (1 : Int32)).toInt ∧ (s4.2.2.1 + (1 : Int32)).toInt ≤ 1000; omega)⟩ (by show (1000 - (s4.2.2.1 + (1 : Int32)).toInt) < (1000 - s4.2.2.1.toInt); omega) (by show 0 ≤ (1000 - (s4.2.2.1 + (1 : Int32)).toInt); omega))
        ·
          refine gw_le (fun h61_14 => ?_) (fun h61_14 => ?_)
          ·
            exact hj12 _ trivial
          ·
            exact hj12 _ trivial
      ·
        refine gw_le (fun h47_15 => ?_) (fun h47_15 => ?_)
        ·
          exact hj10 _ trivial
        ·
          exact hj10 _ trivial
  ·
    exact gw_some (gq_I (qm.of0 k0))
set_option maxHeartbeats 1000000 in
theorem s_X12_first {μ : gm_M} (h : MI μ)   : gwI (f_X12_first 65 μ) (fun x m => qm μ m) := by
  refine gwI_of ?_
  unfold f_X12_first
  have lm5 : (-5 : Int32).toInt = -5 := rfl
  have lm1 : (-1 : Int32).toInt = -1 := rfl
  have l0 : (0 : Int32).toInt = 0 := rfl
  have l1 : (1 : Int32).toInt = 1 := rfl
  have l26 : (26 : Int32).toInt = 26 := rfl
  have k0 := km.refl A0 μ
  refine gw_loop (fun s1 => km A0 μ s1.2.2.2 ∧ (0 ≤ s1.2.2.1.toInt ∧ s1.2.2.1.toInt ≤ 5)) (fun s1 => (5 - s1.2.2.1.toInt)) (fun s1 ⟨k2, u3⟩ => ?_) 5000 ((-5 : Int32), (-1 : Int32), (0 : Int32), μ) ⟨k0, (by show 0 ≤ (0 : Int32).toInt ∧ (0 : Int32).toInt ≤ 5; omega)⟩ (by show (5 - (0 : Int32).toInt) < ((5000 : Nat) : Int); omega) (by show 0 ≤ (5 - (0 : Int32).toInt); omega)
  refine gw_gRa 66 ((h.of0 k2).1.c (r := 65) rfl) ((h.of0 k2).1.r (by decide)) ?_
  refine gw_aI (i := (26 : Int32)) ((h.of0 k2).1.t (r := 66) rfl) ((h.of0 k2).1.l (r := 66) rfl) (by omega) (by omega) (fun v4 ev4 => ?_)
  have bv4 := (h.of0 k2).n26
  have cv4 : v4 = s1.2.2.2.2.1 66 26 := ev4
  have dv4 : v4.toInt = (s1.2.2.2.2.1 66 26).toInt := by rw [cv4]
  have yv4 : v4.toInt = (μ.2.1 66 26).toInt := by rw [dv4, k2.2.2.2.1 26 (by first | exact fun q => q | (unfold A0; omega))]
  refine gw_le (fun h15_5 => ?_) (fun h15_5 => ?_)
  ·
    exact gw_some (gs_inr (gq_I (qm.of0 k2)))
  ·
    refine gw_if ((h.of0 k2).1.t (r := 65) rfl) ?_
    refine gw_bI (s_X12_holdsOf (h.of0 k2)  (by omega)) (fun x6 m6 g6 => ?_)
    have kk6 := k2.trans g6.w00
    refine gw_j (fun s7 => True) (fun s7 _ => ?_) (fun j8 hj8 => ?_)
    ·
      refine gw_j (fun s9 => True) (fun s9 _ => ?_) (fun j10 hj10 => ?_)
      ·
        have n11 : (s1.2.2.1 + (1 : Int32)).toInt = s1.2.2.1.toInt + (1 : Int32).toInt := gx_add (by omega) (by omega)
        exact gw_some (gs_inl ⟨kk6, (by show 0 ≤ (s1.2.2.1 + (1 : Int32)).toInt ∧ (s1.2.2.1 + (1 : Int32)).toInt ≤ 5; omega)⟩ (by show (5 - (s1.2.2.1 + (1 : Int32)).toInt) < (5 - s1.2.2.1.toInt); omega) (by show 0 ≤ (5 - (s1.2.2.1 + (1 : Int32)).toInt); omega))
      ·
        refine gw_le (fun h40_12 => ?_) (fun h40_12 => ?_)
        ·
          exact hj10 _ trivial
        ·
          exact hj10 _ trivial
    ·
      refine gw_le (fun h28_13 => ?_) (fun h28_13 => ?_)
      ·
        exact hj8 _ trivial
      ·
        exact hj8 _ trivial
set_option maxHeartbeats 1000000 in
theorem s_X12_beats {μ : gm_M} (h : MI μ) {a1 : Int32} {a2 : Int32} {a3 : Int32}  : gwL (f_X12_beats 65 a1 a2 a3 μ) (fun x m => qm μ m) := by
  refine gwL_of ?_
  unfold f_X12_beats
  have l0 : (0 : Int32).toInt = 0 := rfl
  have l1 : (1 : Int32).toInt = 1 := rfl
  have l10 : (10 : Int32).toInt = 10 := rfl
  have k0 := km.refl A0 μ
  refine gw_if ((h.of0 k0).1.t (r := 65) rfl) ?_
  refine gw_bI (s_X12_isChild (h.of0 k0)  ) (fun x1 m1 ⟨z1, f1⟩ => ?_)
  replace z1 := z1.symm
  subst z1
  refine gw_j (fun s2 => km A0 μ s2) (fun s2 k4 => ?_) (fun j3 hj3 => ?_)
  ·
    exact gw_some (gq_L (qm.of0 k4))
  ·
    refine gw_eq (fun h5_5 => ?_) (fun h5_5 => ?_)
    ·
      exact hj3 _ k0
    ·
      refine gw_if ((h.of0 k0).1.t (r := 65) rfl) ?_
      refine gw_bI (s_X12_isChild (h.of0 k0)  ) (fun x6 m6 ⟨z6, f6⟩ => ?_)
      replace z6 := z6.symm
      subst z6
      refine gw_eq (fun h13_7 => ?_) (fun h13_7 => ?_)
      ·
        exact hj3 _ k0
      ·
        refine gw_eq (fun h18_8 => ?_) (fun h18_8 => ?_)
        ·
          exact hj3 _ k0
        ·
          refine gw_bI (s_X12_in  ) (fun x9 m9 ⟨z9, f9⟩ => ?_)
          replace z9 := z9.symm
          subst z9
          refine gw_ne (fun h27_10 => ?_) (fun h27_10 => ?_)
          ·
            refine gw_if ((h.of0 k0).1.t (r := 65) rfl) ?_
            refine gw_bI (s_X12_holdsOf (h.of0 k0)  (by omega)) (fun x11 m11 g11 => ?_)
            have kk11 := k0.trans g11.w00
            refine gw_if ((h.of0 kk11).1.t (r := 65) rfl) ?_
            refine gw_bI (s_X12_holdsOf (h.of0 kk11)  (by omega)) (fun x12 m12 g12 => ?_)
            have kk12 := kk11.trans g12.w00
            refine gw_loop (fun s13 => km A0 μ s13.2.2 ∧ (0 ≤ s13.2.1.toInt ∧ s13.2.1.toInt ≤ 10)) (fun s13 => (10 - s13.2.1.toInt)) (fun s13 ⟨k14, u15⟩ => ?_) 5000 ((0 : Int64), (0 : Int32), m12) ⟨kk12, (by show 0 ≤ (0 : Int32).toInt ∧ (0 : Int32).toInt ≤ 10; omega)⟩ (by show (10 - (0 : Int32).toInt) < ((5000 : Nat) : Int); omega) (by show 0 ≤ (10 - (0 : Int32).toInt); omega)
            refine gw_le (fun h58_16 => ?_) (fun h58_16 => ?_)
            ·
              refine gw_bL (s_X12_lowest  (by (first | decide | (rw [Int32.toInt_toInt64]; omega)))) (fun x17 m17 z17 => ?_)
              replace z17 := z17.symm
              subst z17
              exact gw_some (gs_inr (gq_L (qm.of0 k14)))
            ·
              refine gw_loop (fun s18 => km A0 μ s18.2.2 ∧ (0 ≤ s18.2.1.toInt ∧ s18.2.1.toInt ≤ 10)) (fun s18 => (10 - s18.2.1.toInt)) (fun s18 ⟨k19, u20⟩ => ?_) 5000 (s13.1, (0 : Int32), s13.2.2) ⟨k14, (by show 0 ≤ (0 : Int32).toInt ∧ (0 : Int32).toInt ≤ 10; omega)⟩ (by show (10 - (0 : Int32).toInt) < ((5000 : Nat) : Int); omega) (by show 0 ≤ (10 - (0 : Int32).toInt); omega)
              refine gw_le (fun h68_21 => ?_) (fun h68_21 => ?_)
              ·
                have n22 : (s13.2.1 + (1 : Int32)).toInt = s13.2.1.toInt + (1 : Int32).toInt := gx_add (by omega) (by omega)
                exact gw_some (gs_inr (gs_inl ⟨k19, (by show 0 ≤ (s13.2.1 + (1 : Int32)).toInt ∧ (s13.2.1 + (1 : Int32)).toInt ≤ 10; omega)⟩ (by show (10 - (s13.2.1 + (1 : Int32)).toInt) < (10 - s13.2.1.toInt); omega) (by show 0 ≤ (10 - (s13.2.1 + (1 : Int32)).toInt); omega)))
              ·
                refine gw_bI (s_X12_thin  ) (fun x23 m23 z23 => ?_)
                replace z23 := z23.symm
                subst z23
                refine gw_bI (s_X12_thin  ) (fun x24 m24 z24 => ?_)
                replace z24 := z24.symm
                subst z24
                refine gw_j (fun s25 => True) (fun s25 _ => ?_) (fun j26 hj26 => ?_)
                ·
                  have n27 : (s18.2.1 + (1 : Int32)).toInt = s18.2.1.toInt + (1 : Int32).toInt := gx_add (by omega) (by omega)
                  exact gw_some (gs_inl ⟨k19, (by show 0 ≤ (s18.2.1 + (1 : Int32)).toInt ∧ (s18.2.1 + (1 : Int32)).toInt ≤ 10; omega)⟩ (by show (10 - (s18.2.1 + (1 : Int32)).toInt) < (10 - s18.2.1.toInt); omega) (by show 0 ≤ (10 - (s18.2.1 + (1 : Int32)).toInt); omega))
                ·
                  refine gw_le (fun h87_28 => ?_) (fun h87_28 => ?_)
                  ·
                    exact hj26 _ trivial
                  ·
                    exact hj26 _ trivial
          ·
            exact hj3 _ k0
set_option maxHeartbeats 1000000 in
theorem s_X12_clean {μ : gm_M} (h : MI μ) {a1 : Int32} {a2 : Int32}  : gwI (f_X12_clean 65 a1 a2 μ) (fun x m => qm μ m) := by
  refine gwI_of ?_
  unfold f_X12_clean
  have lm2 : (-2 : Int32).toInt = -2 := rfl
  have lm1 : (-1 : Int32).toInt = -1 := rfl
  have l0 : (0 : Int32).toInt = 0 := rfl
  have l1 : (1 : Int32).toInt = 1 := rfl
  have l21 : (21 : Int32).toInt = 21 := rfl
  have l99 : (99 : Int32).toInt = 99 := rfl
  have k0 := km.refl A0 μ
  refine gw_if ((h.of0 k0).1.t (r := 65) rfl) ?_
  refine gw_bI (s_X12_isChild (h.of0 k0)  ) (fun x1 m1 ⟨z1, f1⟩ => ?_)
  replace z1 := z1.symm
  subst z1
  refine gw_ne (fun h5_2 => ?_) (fun h5_2 => ?_)
  ·
    refine gw_bI (s_X12_in  ) (fun x3 m3 ⟨z3, f3⟩ => ?_)
    replace z3 := z3.symm
    subst z3
    refine gw_eq (fun h17_4 => ?_) (fun h17_4 => ?_)
    ·
      exact gw_some (gq_I (qm.of0 k0))
    ·
      refine gw_gRa 66 ((h.of0 k0).1.c (r := 65) rfl) ((h.of0 k0).1.r (by decide)) ?_
      have n5 : ((21 : Int32) + a1).toInt = (21 : Int32).toInt + a1.toInt := gx_add (by omega) (by omega)
      refine gw_aI (i := ((21 : Int32) + a1)) ((h.of0 k0).1.t (r := 66) rfl) ((h.of0 k0).1.l (r := 66) rfl) (by omega) (by omega) (fun v6 ev6 => ?_)
      refine gw_dv (by omega) ?_
      exact gw_some (gq_I (qm.of0 k0))
  ·
    exact gw_some (gq_I (qm.of0 k0))
set_option maxHeartbeats 1000000 in
theorem s_X12_who {μ : gm_M} (h : MI μ) {a1 : Int32} {a2 : Int32}  : gwI (f_X12_who 65 a1 a2 μ) (fun x m => qm μ m) := by
  refine gwI_of ?_
  unfold f_X12_who
  have lm2 : (-2 : Int32).toInt = -2 := rfl
  have l0 : (0 : Int32).toInt = 0 := rfl
  have l1 : (1 : Int32).toInt = 1 := rfl
  have l26 : (26 : Int32).toInt = 26 := rfl
  have l40 : (40 : Int32).toInt = 40 := rfl
  have l999 : (999 : Int32).toInt = 999 := rfl
  have k0 := km.refl A0 μ
  refine gw_bI (s_X12_in  ) (fun x1 m1 ⟨z1, f1⟩ => ?_)
  replace z1 := z1.symm
  subst z1
  refine gw_eq (fun h8_2 => ?_) (fun h8_2 => ?_)
  ·
    exact gw_some (gq_I (qm.of0 k0))
  ·
    refine gw_bI (s_X12_in  ) (fun x3 m3 ⟨z3, f3⟩ => ?_)
    replace z3 := z3.symm
    subst z3
    refine gw_ne (fun h18_4 => ?_) (fun h18_4 => ?_)
    ·
      refine gw_if ((h.of0 k0).1.t (r := 65) rfl) ?_
      refine gw_bV (s_X12_keeps (h.of0 k0)  ) (fun m5 g5 => ?_)
      have hh5 := g5.mi (h.of0 k0)
      have kq5 := km.refl A1 m5
      have rr5 := g5.rs
      refine gw_if ((hh5.of1 kq5).1.t (r := 65) rfl) ?_
      refine gw_bV (s_X12_goesOn (hh5.of1 kq5)  (by omega)) (fun m6 ⟨g6, f6⟩ => ?_)
      have kk6 := kq5.trans g6.w11
      refine gw_loop (fun s7 => km A1 m5 s7.2.2 ∧ (0 ≤ s7.2.1.toInt ∧ s7.2.1.toInt ≤ 5)) (fun s7 => (5 - s7.2.1.toInt)) (fun s7 ⟨k8, u9⟩ => ?_) 5000 ((0 : Int32), (0 : Int32), m6) ⟨kk6, (by show 0 ≤ (0 : Int32).toInt ∧ (0 : Int32).toInt ≤ 5; omega)⟩ (by show (5 - (0 : Int32).toInt) < ((5000 : Nat) : Int); omega) (by show 0 ≤ (5 - (0 : Int32).toInt); omega)
      refine gw_gRa 66 ((hh5.of1 k8).1.c (r := 65) rfl) ((hh5.of1 k8).1.r (by decide)) ?_
      refine gw_aI (i := (26 : Int32)) ((hh5.of1 k8).1.t (r := 66) rfl) ((hh5.of1 k8).1.l (r := 66) rfl) (by omega) (by omega) (fun v10 ev10 => ?_)
      have bv10 := (hh5.of1 k8).n26
      have cv10 : v10 = s7.2.2.2.1 66 26 := ev10
      have dv10 : v10.toInt = (s7.2.2.2.1 66 26).toInt := by rw [cv10]
      have yv10 : v10.toInt = (μ.2.1 66 26).toInt := by rw [dv10, k8.2.2.2.1 26 (by first | exact fun q => q | (unfold A1; omega)), g5.2.2.1 66 (by decide)]
      refine gw_le (fun h47_11 => ?_) (fun h47_11 => ?_)
      ·
        refine gw_if ((hh5.of1 k8).1.t (r := 65) rfl) ?_
        refine gw_bV (s_X12_goesBack (hh5.of1 k8)  ) (fun m12 ⟨g12, r12⟩ => ?_)
        have kk12 := k8.trans g12.w11
        exact gw_some (gs_inr (gq_I (qm.kp g5 kk12 r12)))
      ·
        refine gw_if ((hh5.of1 k8).1.t (r := 65) rfl) ?_
        refine gw_bI (s_X12_holdsOf (hh5.of1 k8)  (by omega)) (fun x13 m13 g13 => ?_)
        have kk13 := k8.trans g13.w01
        refine gw_j (fun s14 => True) (fun s14 _ => ?_) (fun j15 hj15 => ?_)
        ·
          have n16 : (s7.2.1 + (1 : Int32)).toInt = s7.2.1.toInt + (1 : Int32).toInt := gx_add (by omega) (by omega)
          exact gw_some (gs_inl ⟨kk13, (by show 0 ≤ (s7.2.1 + (1 : Int32)).toInt ∧ (s7.2.1 + (1 : Int32)).toInt ≤ 5; omega)⟩ (by show (5 - (s7.2.1 + (1 : Int32)).toInt) < (5 - s7.2.1.toInt); omega) (by show 0 ≤ (5 - (s7.2.1 + (1 : Int32)).toInt); omega))
        ·
          refine gw_ne (fun h58_17 => ?_) (fun h58_17 => ?_)
          ·
            exact hj15 _ trivial
          ·
            exact hj15 _ trivial
    ·
      exact gw_some (gq_I (qm.of0 k0))
set_option maxHeartbeats 1000000 in
theorem s_X12_had {μ : gm_M} (h : MI μ) {a1 : Int32}  : gwI (f_X12_had 65 a1 μ) (fun x m => qm μ m) := by
  refine gwI_of ?_
  unfold f_X12_had
  have lm1 : (-1 : Int32).toInt = -1 := rfl
  have l0 : (0 : Int32).toInt = 0 := rfl
  have l1 : (1 : Int32).toInt = 1 := rfl
  have l6 : (6 : Int32).toInt = 6 := rfl
  have k0 := km.refl A0 μ
  refine gw_if ((h.of0 k0).1.t (r := 65) rfl) ?_
  refine gw_bI (s_X12_isChild (h.of0 k0)  ) (fun x1 m1 ⟨z1, f1⟩ => ?_)
  replace z1 := z1.symm
  subst z1
  refine gw_ne (fun h5_2 => ?_) (fun h5_2 => ?_)
  ·
    refine gw_if ((h.of0 k0).1.t (r := 65) rfl) ?_
    refine gw_bV (s_X12_keeps (h.of0 k0)  ) (fun m3 g3 => ?_)
    have hh3 := g3.mi (h.of0 k0)
    have kq3 := km.refl A1 m3
    have rr3 := g3.rs
    refine gw_loop (fun s4 => km A1 m3 s4.2.2 ∧ rs s4.2.2 ∧ (0 ≤ s4.2.1.toInt ∧ s4.2.1.toInt ≤ 7)) (fun s4 => (7 - s4.2.1.toInt)) (fun s4 ⟨k5, r5, u6⟩ => ?_) 5000 ((0 : Int32), (0 : Int32), m3) ⟨kq3, rr3, (by show 0 ≤ (0 : Int32).toInt ∧ (0 : Int32).toInt ≤ 7; omega)⟩ (by show (7 - (0 : Int32).toInt) < ((5000 : Nat) : Int); omega) (by show 0 ≤ (7 - (0 : Int32).toInt); omega)
    refine gw_lt (fun h21_7 => ?_) (fun h21_7 => ?_)
    ·
      exact gw_some (gs_inr (gq_I (qm.kp g3 k5 r5)))
    ·
      refine gw_gRa 66 ((hh3.of1 k5).1.c (r := 65) rfl) ((hh3.of1 k5).1.r (by decide)) ?_
      have n8 : ((1 : Int32) + a1).toInt = (1 : Int32).toInt + a1.toInt := gx_add (by omega) (by omega)
      refine gw_sI (i := ((1 : Int32) + a1)) ((hh3.of1 k5).1.t (r := 66) rfl) ((hh3.of1 k5).1.l (r := 66) rfl) (by omega) (by omega) (fun m9 em9 => ?_)
      have km9 := k5.ws em9 (by unfold A1; omega)
      refine gw_if ((hh3.of1 km9).1.t (r := 65) rfl) ?_
      refine gw_bI (s_X12_areAsSeen (hh3.of1 km9)  ) (fun x10 m10 ⟨g10, r10, f10⟩ => ?_)
      have kk10 := km9.trans g10.w11
      refine gw_j (fun s11 => True) (fun s11 _ => ?_) (fun j12 hj12 => ?_)
      ·
        have n13 : (s4.2.1 + (1 : Int32)).toInt = s4.2.1.toInt + (1 : Int32).toInt := gx_add (by omega) (by omega)
        exact gw_some (gs_inl ⟨kk10, r10, (by show 0 ≤ (s4.2.1 + (1 : Int32)).toInt ∧ (s4.2.1 + (1 : Int32)).toInt ≤ 7; omega)⟩ (by show (7 - (s4.2.1 + (1 : Int32)).toInt) < (7 - s4.2.1.toInt); omega) (by show 0 ≤ (7 - (s4.2.1 + (1 : Int32)).toInt); omega))
      ·
        refine gw_eq (fun h38_14 => ?_) (fun h38_14 => ?_)
        ·
          exact hj12 _ trivial
        ·
          exact hj12 _ trivial
  ·
    exact gw_some (gq_I (qm.of0 k0))
set_option maxHeartbeats 1000000 in
theorem s_X12_mean {μ : gm_M} (h : MI μ) {a1 : Int32} {a2 : Int32}  : gwL (f_X12_mean 65 a1 a2 μ) (fun x m => qm μ m) := by
  refine gwL_of ?_
  unfold f_X12_mean
  have l0 : (0 : Int32).toInt = 0 := rfl
  have l1 : (1 : Int32).toInt = 1 := rfl
  have l26 : (26 : Int32).toInt = 26 := rfl
  have l60 : (60 : Int32).toInt = 60 := rfl
  have k0 := km.refl A0 μ
  refine gw_bI (s_X12_in  ) (fun x1 m1 ⟨z1, f1⟩ => ?_)
  replace z1 := z1.symm
  subst z1
  refine gw_j (fun s2 => km A0 μ s2) (fun s2 k4 => ?_) (fun j3 hj3 => ?_)
  ·
    exact gw_some (gq_L (qm.of0 k4))
  ·
    refine gw_eq (fun h7_5 => ?_) (fun h7_5 => ?_)
    ·
      exact hj3 _ k0
    ·
      refine gw_bI (s_X12_in  ) (fun x6 m6 ⟨z6, f6⟩ => ?_)
      replace z6 := z6.symm
      subst z6
      refine gw_eq (fun h16_7 => ?_) (fun h16_7 => ?_)
      ·
        exact hj3 _ k0
      ·
        refine gw_gRa 66 ((h.of0 k0).1.c (r := 65) rfl) ((h.of0 k0).1.r (by decide)) ?_
        refine gw_aI (i := (26 : Int32)) ((h.of0 k0).1.t (r := 66) rfl) ((h.of0 k0).1.l (r := 66) rfl) (by omega) (by omega) (fun v8 ev8 => ?_)
        have bv8 := (h.of0 k0).n26
        have cv8 : v8 = μ.2.1 66 26 := ev8
        have dv8 : v8.toInt = (μ.2.1 66 26).toInt := by rw [cv8]
        refine gw_ne (fun h26_9 => ?_) (fun h26_9 => ?_)
        ·
          refine gw_if ((h.of0 k0).1.t (r := 65) rfl) ?_
          refine gw_bV (s_X12_keeps (h.of0 k0)  ) (fun m10 g10 => ?_)
          have hh10 := g10.mi (h.of0 k0)
          have kq10 := km.refl A1 m10
          have rr10 := g10.rs
          refine gw_if ((hh10.of1 kq10).1.t (r := 65) rfl) ?_
          refine gw_bV (s_X12_goesOn (hh10.of1 kq10)  (by omega)) (fun m11 ⟨g11, f11⟩ => ?_)
          have kk11 := kq10.trans g11.w11
          refine gw_if ((hh10.of1 kk11).1.t (r := 65) rfl) ?_
          refine gw_bI (s_X12_allHold (hh10.of1 kk11)  ) (fun x12 m12 g12 => ?_)
          have kk12 := kk11.trans g12.w01
          refine gw_if ((hh10.of1 kk12).1.t (r := 65) rfl) ?_
          refine gw_bV (s_X12_goesBack (hh10.of1 kk12)  ) (fun m13 ⟨g13, r13⟩ => ?_)
          have kk13 := kk12.trans g13.w11
          refine gw_gRa 66 ((hh10.of1 kk13).1.c (r := 65) rfl) ((hh10.of1 kk13).1.r (by decide)) ?_
          refine gw_aI (i := (26 : Int32)) ((hh10.of1 kk13).1.t (r := 66) rfl) ((hh10.of1 kk13).1.l (r := 66) rfl) (by omega) (by omega) (fun v14 ev14 => ?_)
          have bv14 := (hh10.of1 kk13).n26
          have cv14 : v14 = m13.2.1 66 26 := ev14
          have dv14 : v14.toInt = (m13.2.1 66 26).toInt := by rw [cv14]
          have yv14 : v14.toInt = (μ.2.1 66 26).toInt := by rw [dv14, kk13.2.2.2.1 26 (by first | exact fun q => q | (unfold A1; omega)), g10.2.2.1 66 (by decide)]
          refine gw_bL (s_X12_lowest  (by (first | decide | (rw [Int32.toInt_toInt64]; omega)))) (fun x15 m15 z15 => ?_)
          replace z15 := z15.symm
          subst z15
          exact gw_some (gq_L (qm.kp g10 kk13 r13))
        ·
          exact hj3 _ k0
set_option maxHeartbeats 1000000 in
theorem s_X12_done {μ : gm_M} (h : MI μ) {a1 : Int32}  : gwI (f_X12_done 65 a1 μ) (fun x m => qm μ m) := by
  refine gwI_of ?_
  unfold f_X12_done
  have lm1 : (-1 : Int32).toInt = -1 := rfl
  have l0 : (0 : Int32).toInt = 0 := rfl
  have l1 : (1 : Int32).toInt = 1 := rfl
  have l16 : (16 : Int32).toInt = 16 := rfl
  have l21 : (21 : Int32).toInt = 21 := rfl
  have l29 : (29 : Int32).toInt = 29 := rfl
  have l78 : (78 : Int32).toInt = 78 := rfl
  have l86 : (86 : Int32).toInt = 86 := rfl
  have k0 := km.refl A0 μ
  refine gw_bI (s_X12_in  ) (fun x1 m1 ⟨z1, f1⟩ => ?_)
  replace z1 := z1.symm
  subst z1
  refine gw_ne (fun h6_2 => ?_) (fun h6_2 => ?_)
  ·
    refine gw_if ((h.of0 k0).1.t (r := 65) rfl) ?_
    refine gw_bV (s_X12_keeps (h.of0 k0)  ) (fun m3 g3 => ?_)
    have hh3 := g3.mi (h.of0 k0)
    have kq3 := km.refl A1 m3
    have rr3 := g3.rs
    refine gw_if ((hh3.of1 kq3).1.t (r := 65) rfl) ?_
    refine gw_bI (s_X12_allOf (hh3.of1 kq3)  (by omega)) (fun x4 m4 z4 => ?_)
    replace z4 := z4.symm
    subst z4
    refine gw_loop (fun s5 => km A1 m3 s5.2 ∧ (0 ≤ s5.1.toInt ∧ s5.1.toInt ≤ 8)) (fun s5 => (8 - s5.1.toInt)) (fun s5 ⟨k6, u7⟩ => ?_) 5000 ((0 : Int32), m3) ⟨kq3, (by show 0 ≤ (0 : Int32).toInt ∧ (0 : Int32).toInt ≤ 8; omega)⟩ (by show (8 - (0 : Int32).toInt) < ((5000 : Nat) : Int); omega) (by show 0 ≤ (8 - (0 : Int32).toInt); omega)
    refine gw_gRa 66 ((hh3.of1 k6).1.c (r := 65) rfl) ((hh3.of1 k6).1.r (by decide)) ?_
    refine gw_aI (i := (29 : Int32)) ((hh3.of1 k6).1.t (r := 66) rfl) ((hh3.of1 k6).1.l (r := 66) rfl) (by omega) (by omega) (fun v8 ev8 => ?_)
    have bv8 := (hh3.of1 k6).n29
    have cv8 : v8 = s5.2.2.1 66 29 := ev8
    have dv8 : v8.toInt = (s5.2.2.1 66 29).toInt := by rw [cv8]
    have yv8 : v8.toInt = (μ.2.1 66 29).toInt := by rw [dv8, k6.2.2.2.1 29 (by first | exact fun q => q | (unfold A1; omega)), g3.2.2.1 66 (by decide)]
    refine gw_le (fun h32_9 => ?_) (fun h32_9 => ?_)
    ·
      refine gw_j (fun s10 => km A1 m3 s10.2) (fun s10 k12 => ?_) (fun j11 hj11 => ?_)
      ·
        refine gw_if ((hh3.of1 k12).1.t (r := 65) rfl) ?_
        refine gw_bV (s_X12_goesBack (hh3.of1 k12)  ) (fun m13 ⟨g13, r13⟩ => ?_)
        have kk13 := k12.trans g13.w11
        exact gw_some (gs_inr (gq_I (qm.kp g3 kk13 r13)))
      ·
        refine gw_ne (fun h64_14 => ?_) (fun h64_14 => ?_)
        ·
          refine gw_if ((hh3.of1 k6).1.t (r := 65) rfl) ?_
          refine gw_bI (s_X12_allOf (hh3.of1 k6)  (by omega)) (fun x15 m15 z15 => ?_)
          replace z15 := z15.symm
          subst z15
          exact hj11 _ k6
        ·
          refine gw_if ((hh3.of1 k6).1.t (r := 65) rfl) ?_
          refine gw_bI (s_X12_allOf (hh3.of1 k6)  (by omega)) (fun x16 m16 z16 => ?_)
          replace z16 := z16.symm
          subst z16
          exact hj11 _ k6
    ·
      refine gw_gRa 66 ((hh3.of1 k6).1.c (r := 65) rfl) ((hh3.of1 k6).1.r (by decide)) ?_
      have n17 : ((78 : Int32) + s5.1).toInt = (78 : Int32).toInt + s5.1.toInt := gx_add (by omega) (by omega)
      refine gw_aI (i := ((78 : Int32) + s5.1)) ((hh3.of1 k6).1.t (r := 66) rfl) ((hh3.of1 k6).1.l (r := 66) rfl) (by omega) (by omega) (fun v18 ev18 => ?_)
      have zv18 : v18.toInt = (s5.2.2.1 66 (s5.1.toInt + 78).toNat).toInt := by rw [ev18, show ((78 : Int32) + s5.1).toInt.toNat = (s5.1.toInt + 78).toNat by omega]
      have z2v18 := (hh3.of1 k6).what ((78 : Int32) + s5.1).toInt.toNat (by omega) (by omega)
      rw [← ev18] at z2v18
      refine gw_gRa 66 ((hh3.of1 k6).1.c (r := 65) rfl) ((hh3.of1 k6).1.r (by decide)) ?_
      have n19 : ((86 : Int32) + s5.1).toInt = (86 : Int32).toInt + s5.1.toInt := gx_add (by omega) (by omega)
      refine gw_aI (i := ((86 : Int32) + s5.1)) ((hh3.of1 k6).1.t (r := 66) rfl) ((hh3.of1 k6).1.l (r := 66) rfl) (by omega) (by omega) (fun v20 ev20 => ?_)
      have yv20 := (hh3.of1 k6).whom (s5.1.toInt + 78).toNat (by omega) (by omega)
      rw [show (s5.1.toInt + 78).toNat + 8 = ((86 : Int32) + s5.1).toInt.toNat by omega, ← ev20] at yv20
      refine gw_if ((hh3.of1 k6).1.t (r := 65) rfl) ?_
      refine gw_bV (s_X12_does (hh3.of1 k6)  (by omega) (by omega)) (fun m21 g21 => ?_)
      have kk21 := k6.trans g21.w11
      have n22 : (s5.1 + (1 : Int32)).toInt = s5.1.toInt + (1 : Int32).toInt := gx_add (by omega) (by omega)
      exact gw_some (gs_inl ⟨kk21, (by show 0 ≤ (s5.1 + (1 : Int32)).toInt ∧ (s5.1 + (1 : Int32)).toInt ≤ 8; omega)⟩ (by show (8 - (s5.1 + (1 : Int32)).toInt) < (8 - s5.1.toInt); omega) (by show 0 ≤ (8 - (s5.1 + (1 : Int32)).toInt); omega))
  ·
    exact gw_some (gq_I (qm.of0 k0))
set_option maxHeartbeats 1000000 in
theorem s_X12_looked {μ : gm_M} (h : MI μ)   : gwI (f_X12_looked 65 μ) (fun x m => qm μ m) := by
  refine gwI_of ?_
  unfold f_X12_looked
  have lm5 : (-5 : Int32).toInt = -5 := rfl
  have l0 : (0 : Int32).toInt = 0 := rfl
  have l1 : (1 : Int32).toInt = 1 := rfl
  have l16 : (16 : Int32).toInt = 16 := rfl
  have l30 : (30 : Int32).toInt = 30 := rfl
  have l94 : (94 : Int32).toInt = 94 := rfl
  have l102 : (102 : Int32).toInt = 102 := rfl
  have k0 := km.refl A0 μ
  refine gw_loop (fun s1 => (0 ≤ s1.toInt ∧ s1.toInt ≤ 8)) (fun s1 => (8 - s1.toInt)) (fun s1 u2 => ?_) 5000 (0 : Int32) (by show 0 ≤ (0 : Int32).toInt ∧ (0 : Int32).toInt ≤ 8; omega) (by show (8 - (0 : Int32).toInt) < ((5000 : Nat) : Int); omega) (by show 0 ≤ (8 - (0 : Int32).toInt); omega)
  refine gw_gRa 66 ((h.of0 k0).1.c (r := 65) rfl) ((h.of0 k0).1.r (by decide)) ?_
  refine gw_aI (i := (30 : Int32)) ((h.of0 k0).1.t (r := 66) rfl) ((h.of0 k0).1.l (r := 66) rfl) (by omega) (by omega) (fun v3 ev3 => ?_)
  have bv3 := (h.of0 k0).n30
  have cv3 : v3 = μ.2.1 66 30 := ev3
  have dv3 : v3.toInt = (μ.2.1 66 30).toInt := by rw [cv3]
  refine gw_le (fun h10_4 => ?_) (fun h10_4 => ?_)
  ·
    exact gw_some (gs_inr (gq_I (qm.of0 k0)))
  ·
    refine gw_gRa 66 ((h.of0 k0).1.c (r := 65) rfl) ((h.of0 k0).1.r (by decide)) ?_
    refine gw_gRa 66 ((h.of0 k0).1.c (r := 65) rfl) ((h.of0 k0).1.r (by decide)) ?_
    have n5 : ((94 : Int32) + s1).toInt = (94 : Int32).toInt + s1.toInt := gx_add (by omega) (by omega)
    refine gw_aI (i := ((94 : Int32) + s1)) ((h.of0 k0).1.t (r := 66) rfl) ((h.of0 k0).1.l (r := 66) rfl) (by omega) (by omega) (fun v6 ev6 => ?_)
    have yv6 := (h.of0 k0).booked ((94 : Int32) + s1).toInt.toNat (by omega) (by omega)
    rw [← ev6] at yv6
    have n7 : ((16 : Int32) + v6).toInt = (16 : Int32).toInt + v6.toInt := gx_add (by omega) (by omega)
    refine gw_aI (i := ((16 : Int32) + v6)) ((h.of0 k0).1.t (r := 66) rfl) ((h.of0 k0).1.l (r := 66) rfl) (by omega) (by omega) (fun v8 ev8 => ?_)
    refine gw_gRa 66 ((h.of0 k0).1.c (r := 65) rfl) ((h.of0 k0).1.r (by decide)) ?_
    have n9 : ((102 : Int32) + s1).toInt = (102 : Int32).toInt + s1.toInt := gx_add (by omega) (by omega)
    refine gw_aI (i := ((102 : Int32) + s1)) ((h.of0 k0).1.t (r := 66) rfl) ((h.of0 k0).1.l (r := 66) rfl) (by omega) (by omega) (fun v10 ev10 => ?_)
    refine gw_eq (fun h39_11 => ?_) (fun h39_11 => ?_)
    ·
      have n12 : (s1 + (1 : Int32)).toInt = s1.toInt + (1 : Int32).toInt := gx_add (by omega) (by omega)
      exact gw_some (gs_inl (by show 0 ≤ (s1 + (1 : Int32)).toInt ∧ (s1 + (1 : Int32)).toInt ≤ 8; omega) (by show (8 - (s1 + (1 : Int32)).toInt) < (8 - s1.toInt); omega) (by show 0 ≤ (8 - (s1 + (1 : Int32)).toInt); omega))
    ·
      exact gw_some (gs_inr (gq_I (qm.of0 k0)))
set_option maxHeartbeats 1000000 in
theorem s_X12_as {μ : gm_M} (h : MI μ) {a1 : Int32} {a2 : Int32}  : gwI (f_X12_as 65 a1 a2 μ) (fun x m => qm μ m) := by
  refine gwI_of ?_
  unfold f_X12_as
  have lm6 : (-6 : Int32).toInt = -6 := rfl
  have lm1 : (-1 : Int32).toInt = -1 := rfl
  have l0 : (0 : Int32).toInt = 0 := rfl
  have l6 : (6 : Int32).toInt = 6 := rfl
  have l33 : (33 : Int32).toInt = 33 := rfl
  have l38 : (38 : Int32).toInt = 38 := rfl
  have k0 := km.refl A0 μ
  refine gw_if ((h.of0 k0).1.t (r := 65) rfl) ?_
  refine gw_bI (s_X12_isChild (h.of0 k0)  ) (fun x1 m1 ⟨z1, f1⟩ => ?_)
  replace z1 := z1.symm
  subst z1
  refine gw_eq (fun h5_2 => ?_) (fun h5_2 => ?_)
  ·
    exact gw_some (gq_I (qm.of0 k0))
  ·
    refine gw_bI (s_X12_in  ) (fun x3 m3 ⟨z3, f3⟩ => ?_)
    replace z3 := z3.symm
    subst z3
    refine gw_ne (fun h15_4 => ?_) (fun h15_4 => ?_)
    ·
      refine gw_gRa 66 ((h.of0 k0).1.c (r := 65) rfl) ((h.of0 k0).1.r (by decide)) ?_
      have n5 : ((33 : Int32) + a1).toInt = (33 : Int32).toInt + a1.toInt := gx_add (by omega) (by omega)
      refine gw_aI (i := ((33 : Int32) + a1)) ((h.of0 k0).1.t (r := 66) rfl) ((h.of0 k0).1.l (r := 66) rfl) (by omega) (by omega) (fun v6 ev6 => ?_)
      refine gw_bI (s_X12_isUnder  ) (fun x7 m7 ⟨z7, f7⟩ => ?_)
      replace z7 := z7.symm
      subst z7
      refine gw_eq (fun h33_8 => ?_) (fun h33_8 => ?_)
      ·
        exact gw_some (gq_I (qm.of0 k0))
      ·
        refine gw_gRa 66 ((h.of0 k0).1.c (r := 65) rfl) ((h.of0 k0).1.r (by decide)) ?_
        have n9 : ((38 : Int32) + a1).toInt = (38 : Int32).toInt + a1.toInt := gx_add (by omega) (by omega)
        refine gw_aI (i := ((38 : Int32) + a1)) ((h.of0 k0).1.t (r := 66) rfl) ((h.of0 k0).1.l (r := 66) rfl) (by omega) (by omega) (fun v10 ev10 => ?_)
        exact gw_some (gq_I (qm.of0 k0))
    ·
      exact gw_some (gq_I (qm.of0 k0))
set_option maxHeartbeats 1000000 in
theorem s_X12_count {μ : gm_M} (h : MI μ) {a1 : Int32}  : gwI (f_X12_count 65 a1 μ) (fun x m => qm μ m) := by
  refine gwI_of ?_
  unfold f_X12_count
  have lm1 : (-1 : Int32).toInt = -1 := rfl
  have l0 : (0 : Int32).toInt = 0 := rfl
  have l5 : (5 : Int32).toInt = 5 := rfl
  have l6 : (6 : Int32).toInt = 6 := rfl
  have l26 : (26 : Int32).toInt = 26 := rfl
  have k0 := km.refl A0 μ
  refine gw_ne (fun h3_1 => ?_) (fun h3_1 => ?_)
  ·
    refine gw_bI (s_X12_in  ) (fun x2 m2 ⟨z2, f2⟩ => ?_)
    replace z2 := z2.symm
    subst z2
    refine gw_eq (fun h19_3 => ?_) (fun h19_3 => ?_)
    ·
      exact gw_some (gq_I (qm.of0 k0))
    ·
      refine gw_gRa 66 ((h.of0 k0).1.c (r := 65) rfl) ((h.of0 k0).1.r (by decide)) ?_
      have n4 : ((26 : Int32) + a1).toInt = (26 : Int32).toInt + a1.toInt := gx_add (by omega) (by omega)
      refine gw_aI (i := ((26 : Int32) + a1)) ((h.of0 k0).1.t (r := 66) rfl) ((h.of0 k0).1.l (r := 66) rfl) (by omega) (by omega) (fun v5 ev5 => ?_)
      exact gw_some (gq_I (qm.of0 k0))
  ·
    refine gw_gI ((h.of0 k0).1.c (r := 65) rfl) (fun v6 ev6 => ?_)
    exact gw_some (gq_I (qm.of0 k0))
end
section
set_option maxHeartbeats 1000000 in
theorem sb_X12_ordersFrom {R0 : Nat → Int32 → Int32 → Int32 → gm_M → Option (Option Value × gm_M)} (n : Int) (d : Nat) (hR : ∀ {m : gm_M} (h : MI m) {b1 b2 b3 : Int32}, (m.2.1 66 26).toInt = n → 0 ≤ b1.toInt ∧ b1.toInt ≤ n → n - b1.toInt < d → gwV (R0 65 b1 b2 b3 m) (fun m1 => km A0 m m1)) {μ : gm_M} (h : MI μ) {a1 a2 a3 : Int32} (e0 : (μ.2.1 66 26).toInt = n) (q0 : 0 ≤ a1.toInt ∧ a1.toInt ≤ n) (q1 : n - a1.toInt < d + 1) : gwV (b_X12_ordersFrom R0 65 a1 a2 a3 μ) (fun m => km A0 μ m) := by
  refine gwV_of ?_
  unfold b_X12_ordersFrom
  have hn := h.n26
  have l0 : (0 : Int32).toInt = 0 := rfl
  have l1 : (1 : Int32).toInt = 1 := rfl
  have l5 : (5 : Int32).toInt = 5 := rfl
  have l26 : (26 : Int32).toInt = 26 := rfl
  have k0 := km.refl A0 μ
  refine gw_gRa 66 ((h.of0 k0).1.c (r := 65) rfl) ((h.of0 k0).1.r (by decide)) ?_
  refine gw_aI (i := (26 : Int32)) ((h.of0 k0).1.t (r := 66) rfl) ((h.of0 k0).1.l (r := 66) rfl) (by omega) (by omega) (fun v1 ev1 => ?_)
  have bv1 := (h.of0 k0).n26
  have cv1 : v1 = μ.2.1 66 26 := ev1
  have dv1 : v1.toInt = (μ.2.1 66 26).toInt := by rw [cv1]
  refine gw_ne (fun h8_2 => ?_) (fun h8_2 => ?_)
  ·
    refine gw_loop (fun s3 => km A0 μ s3.2 ∧ (0 ≤ s3.1.toInt ∧ s3.1.toInt ≤ 5)) (fun s3 => (5 - s3.1.toInt)) (fun s3 ⟨k4, u5⟩ => ?_) 5000 ((0 : Int32), μ) ⟨k0, (by show 0 ≤ (0 : Int32).toInt ∧ (0 : Int32).toInt ≤ 5; omega)⟩ (by show (5 - (0 : Int32).toInt) < ((5000 : Nat) : Int); omega) (by show 0 ≤ (5 - (0 : Int32).toInt); omega)
    refine gw_gRa 66 ((h.of0 k4).1.c (r := 65) rfl) ((h.of0 k4).1.r (by decide)) ?_
    refine gw_aI (i := (26 : Int32)) ((h.of0 k4).1.t (r := 66) rfl) ((h.of0 k4).1.l (r := 66) rfl) (by omega) (by omega) (fun v6 ev6 => ?_)
    have bv6 := (h.of0 k4).n26
    have cv6 : v6 = s3.2.2.1 66 26 := ev6
    have dv6 : v6.toInt = (s3.2.2.1 66 26).toInt := by rw [cv6]
    have yv6 : v6.toInt = (μ.2.1 66 26).toInt := by rw [dv6, k4.2.2.2.1 26 (by first | exact fun q => q | (unfold A0; omega))]
    refine gw_le (fun h66_7 => ?_) (fun h66_7 => ?_)
    ·
      exact gw_some (gs_inr (gq_V k4))
    ·
      refine gw_j (fun s8 => km A0 μ s8) (fun s8 k10 => ?_) (fun j9 hj9 => ?_)
      ·
        have n11 : (s3.1 + (1 : Int32)).toInt = s3.1.toInt + (1 : Int32).toInt := gx_add (by omega) (by omega)
        exact gw_some (gs_inl ⟨k10, (by show 0 ≤ (s3.1 + (1 : Int32)).toInt ∧ (s3.1 + (1 : Int32)).toInt ≤ 5; omega)⟩ (by show (5 - (s3.1 + (1 : Int32)).toInt) < (5 - s3.1.toInt); omega) (by show 0 ≤ (5 - (s3.1 + (1 : Int32)).toInt); omega))
      ·
        refine gw_ne (fun h75_12 => ?_) (fun h75_12 => ?_)
        ·
          exact hj9 _ k4
        ·
          refine gw_gRa 72 ((h.of0 k4).1.c (r := 65) rfl) ((h.of0 k4).1.r (by decide)) ?_
          refine gw_sI (i := a1) ((h.of0 k4).1.t (r := 72) rfl) ((h.of0 k4).1.l (r := 72) rfl) (by omega) (by omega) (fun m13 em13 => ?_)
          have km13 := k4.wr em13 (by decide)
          refine gw_gRa 71 ((h.of0 km13).1.c (r := 65) rfl) ((h.of0 km13).1.r (by decide)) ?_
          have n14 : ((5 : Int32) * s3.1).toInt = 5 * s3.1.toInt := gx_mul 5 rfl (by omega) (by omega)
          have n15 : (((5 : Int32) * s3.1) + a1).toInt = ((5 : Int32) * s3.1).toInt + a1.toInt := gx_add (by omega) (by omega)
          refine gw_aI (i := (((5 : Int32) * s3.1) + a1)) ((h.of0 km13).1.t (r := 71) rfl) ((h.of0 km13).1.l (r := 71) rfl) (by omega) (by omega) (fun v16 ev16 => ?_)
          refine gw_if ((h.of0 km13).1.t (r := 65) rfl) ?_
          have n17 : (a1 + (1 : Int32)).toInt = a1.toInt + (1 : Int32).toInt := gx_add (by omega) (by omega)
          have zz := congrArg Int32.toInt (km13.2.2.2.1 26 (fun q => q))
          refine gw_bV (hR (h.of0 km13)  (by omega) (by omega) (by omega)) (fun m18 g18 => ?_)
          have kk18 := km13.trans g18.w00
          exact hj9 _ kk18
  ·
    refine gw_gI ((h.of0 k0).1.c (r := 65) rfl) (fun v19 ev19 => ?_)
    refine gw_le (fun h16_20 => ?_) (fun h16_20 => ?_)
    ·
      exact gw_some (gq_V k0)
    ·
      refine gw_pI ((h.of0 k0).1.c (r := 65) rfl) (fun m21 em21 => ?_)
      have km21 := k0.wf em21 (by decide)
      refine gw_loop (fun s22 => km A0 μ s22.2 ∧ (0 ≤ s22.1.toInt ∧ s22.1.toInt ≤ 5)) (fun s22 => (5 - s22.1.toInt)) (fun s22 ⟨k23, u24⟩ => ?_) 5000 ((0 : Int32), m21) ⟨km21, (by show 0 ≤ (0 : Int32).toInt ∧ (0 : Int32).toInt ≤ 5; omega)⟩ (by show (5 - (0 : Int32).toInt) < ((5000 : Nat) : Int); omega) (by show 0 ≤ (5 - (0 : Int32).toInt); omega)
      refine gw_le (fun h30_25 => ?_) (fun h30_25 => ?_)
      ·
        exact gw_some (gs_inr (gq_V k23))
      ·
        refine gw_gRa 73 ((h.of0 k23).1.c (r := 65) rfl) ((h.of0 k23).1.r (by decide)) ?_
        refine gw_gRa 72 ((h.of0 k23).1.c (r := 65) rfl) ((h.of0 k23).1.r (by decide)) ?_
        refine gw_aI (i := s22.1) ((h.of0 k23).1.t (r := 72) rfl) ((h.of0 k23).1.l (r := 72) rfl) (by omega) (by omega) (fun v26 ev26 => ?_)
        refine gw_sI (i := s22.1) ((h.of0 k23).1.t (r := 73) rfl) ((h.of0 k23).1.l (r := 73) rfl) (by omega) (by omega) (fun m27 em27 => ?_)
        have km27 := k23.wr em27 (by decide)
        have n28 : (s22.1 + (1 : Int32)).toInt = s22.1.toInt + (1 : Int32).toInt := gx_add (by omega) (by omega)
        exact gw_some (gs_inl ⟨km27, (by show 0 ≤ (s22.1 + (1 : Int32)).toInt ∧ (s22.1 + (1 : Int32)).toInt ≤ 5; omega)⟩ (by show (5 - (s22.1 + (1 : Int32)).toInt) < (5 - s22.1.toInt); omega) (by show 0 ≤ (5 - (s22.1 + (1 : Int32)).toInt); omega))
theorem sr_X12_ordersFrom (n : Int) : ∀ (d : Nat) {m : gm_M} (h : MI m) {b1 b2 b3 : Int32}, (m.2.1 66 26).toInt = n → 0 ≤ b1.toInt ∧ b1.toInt ≤ n → n - b1.toInt < d → gwV (r_X12_ordersFrom d 65 b1 b2 b3 m) (fun m1 => km A0 m m1)
  | 0, m, h, b1, b2, b3, e, q0, q1 => by omega
  | d + 1, m, h, b1, b2, b3, e, q0, q1 => sb_X12_ordersFrom n d (fun h => sr_X12_ordersFrom n d h) h e q0 (by omega)
theorem s_X12_ordersFrom {μ : gm_M} (h : MI μ) {a1 a2 a3 : Int32} (q0 : 0 ≤ a1.toInt ∧ a1.toInt ≤ (μ.2.1 66 26).toInt) : gwV (f_X12_ordersFrom 65 a1 a2 a3 μ) (fun m => km A0 μ m) := sr_X12_ordersFrom _ 64 h rfl q0 (by have := h.n26; omega)
set_option maxHeartbeats 1000000 in
theorem s_X12_order {μ : gm_M} (h : MI μ) {a1 : Int32}  : gwI (f_X12_order 65 a1 μ) (fun x m => qm μ m) := by
  refine gwI_of ?_
  unfold f_X12_order
  have lm5 : (-5 : Int32).toInt = -5 := rfl
  have lm1 : (-1 : Int32).toInt = -1 := rfl
  have l0 : (0 : Int32).toInt = 0 := rfl
  have l1 : (1 : Int32).toInt = 1 := rfl
  have l4 : (4 : Int32).toInt = 4 := rfl
  have l5 : (5 : Int32).toInt = 5 := rfl
  have l26 : (26 : Int32).toInt = 26 := rfl
  have k0 := km.refl A0 μ
  refine gw_bI (s_X12_in  ) (fun x1 m1 ⟨z1, f1⟩ => ?_)
  replace z1 := z1.symm
  subst z1
  refine gw_ne (fun h6_2 => ?_) (fun h6_2 => ?_)
  ·
    refine gw_if ((h.of0 k0).1.t (r := 65) rfl) ?_
    refine gw_bV (s_X12_keeps (h.of0 k0)  ) (fun m3 g3 => ?_)
    have hh3 := g3.mi (h.of0 k0)
    have kq3 := km.refl A1 m3
    have rr3 := g3.rs
    refine gw_loop (fun s4 => km A1 m3 s4.2 ∧ (0 ≤ s4.1.toInt ∧ s4.1.toInt ≤ 5)) (fun s4 => (5 - s4.1.toInt)) (fun s4 ⟨k5, u6⟩ => ?_) 5000 ((0 : Int32), m3) ⟨kq3, (by show 0 ≤ (0 : Int32).toInt ∧ (0 : Int32).toInt ≤ 5; omega)⟩ (by show (5 - (0 : Int32).toInt) < ((5000 : Nat) : Int); omega) (by show 0 ≤ (5 - (0 : Int32).toInt); omega)
    refine gw_le (fun h19_7 => ?_) (fun h19_7 => ?_)
    ·
      refine gw_if ((hh3.of1 k5).1.t (r := 65) rfl) ?_
      refine gw_bV (s_X12_goesBack (hh3.of1 k5)  ) (fun m8 ⟨g8, r8⟩ => ?_)
      have kk8 := k5.trans g8.w11
      refine gw_pI ((hh3.of1 kk8).1.c (r := 65) rfl) (fun m9 em9 => ?_)
      have km9 := kk8.wf em9 (by decide)
      have rm9 := rs.k0 r8 ((km.refl A0 m8).wf em9 (by decide))
      refine gw_if ((hh3.of1 km9).1.t (r := 65) rfl) ?_
      have zz := (hh3.of1 km9).n26
      refine gw_bV (s_X12_ordersFrom (hh3.of1 km9)  (by omega)) (fun m10 g10 => ?_)
      have kk10 := km9.trans g10.w01
      have r10 := rs.k0 rm9 g10
      refine gw_ne (fun h84_11 => ?_) (fun h84_11 => ?_)
      ·
        refine gw_gRa 66 ((hh3.of1 kk10).1.c (r := 65) rfl) ((hh3.of1 kk10).1.r (by decide)) ?_
        refine gw_aI (i := (26 : Int32)) ((hh3.of1 kk10).1.t (r := 66) rfl) ((hh3.of1 kk10).1.l (r := 66) rfl) (by omega) (by omega) (fun v12 ev12 => ?_)
        have bv12 := (hh3.of1 kk10).n26
        have cv12 : v12 = m10.2.1 66 26 := ev12
        have dv12 : v12.toInt = (m10.2.1 66 26).toInt := by rw [cv12]
        have yv12 : v12.toInt = (μ.2.1 66 26).toInt := by rw [dv12, kk10.2.2.2.1 26 (by first | exact fun q => q | (unfold A1; omega)), g3.2.2.1 66 (by decide)]
        refine gw_le (fun h102_13 => ?_) (fun h102_13 => ?_)
        ·
          exact gw_some (gs_inr (gq_I (qm.kp g3 kk10 r10)))
        ·
          refine gw_gRa 73 ((hh3.of1 kk10).1.c (r := 65) rfl) ((hh3.of1 kk10).1.r (by decide)) ?_
          refine gw_aI (i := a1) ((hh3.of1 kk10).1.t (r := 73) rfl) ((hh3.of1 kk10).1.l (r := 73) rfl) (by omega) (by omega) (fun v14 ev14 => ?_)
          exact gw_some (gs_inr (gq_I (qm.kp g3 kk10 r10)))
      ·
        refine gw_gI ((hh3.of1 kk10).1.c (r := 65) rfl) (fun v15 ev15 => ?_)
        exact gw_some (gs_inr (gq_I (qm.kp g3 kk10 r10)))
    ·
      refine gw_loop (fun s16 => km A1 m3 s16.2 ∧ (0 ≤ s16.1.toInt ∧ s16.1.toInt ≤ 5)) (fun s16 => (5 - s16.1.toInt)) (fun s16 ⟨k17, u18⟩ => ?_) 5000 ((0 : Int32), s4.2) ⟨k5, (by show 0 ≤ (0 : Int32).toInt ∧ (0 : Int32).toInt ≤ 5; omega)⟩ (by show (5 - (0 : Int32).toInt) < ((5000 : Nat) : Int); omega) (by show 0 ≤ (5 - (0 : Int32).toInt); omega)
      refine gw_gRa 66 ((hh3.of1 k17).1.c (r := 65) rfl) ((hh3.of1 k17).1.r (by decide)) ?_
      refine gw_aI (i := (26 : Int32)) ((hh3.of1 k17).1.t (r := 66) rfl) ((hh3.of1 k17).1.l (r := 66) rfl) (by omega) (by omega) (fun v19 ev19 => ?_)
      have bv19 := (hh3.of1 k17).n26
      have cv19 : v19 = s16.2.2.1 66 26 := ev19
      have dv19 : v19.toInt = (s16.2.2.1 66 26).toInt := by rw [cv19]
      have yv19 : v19.toInt = (μ.2.1 66 26).toInt := by rw [dv19, k17.2.2.2.1 26 (by first | exact fun q => q | (unfold A1; omega)), g3.2.2.1 66 (by decide)]
      refine gw_le (fun h32_20 => ?_) (fun h32_20 => ?_)
      ·
        refine gw_if ((hh3.of1 k17).1.t (r := 65) rfl) ?_
        refine gw_bV (s_X12_goes (hh3.of1 k17)  ) (fun m21 ⟨g21, f21⟩ => ?_)
        have kk21 := k17.trans g21.w11
        have n22 : (s4.1 + (1 : Int32)).toInt = s4.1.toInt + (1 : Int32).toInt := gx_add (by omega) (by omega)
        exact gw_some (gs_inr (gs_inl ⟨kk21, (by show 0 ≤ (s4.1 + (1 : Int32)).toInt ∧ (s4.1 + (1 : Int32)).toInt ≤ 5; omega)⟩ (by show (5 - (s4.1 + (1 : Int32)).toInt) < (5 - s4.1.toInt); omega) (by show 0 ≤ (5 - (s4.1 + (1 : Int32)).toInt); omega)))
      ·
        refine gw_gRa 71 ((hh3.of1 k17).1.c (r := 65) rfl) ((hh3.of1 k17).1.r (by decide)) ?_
        refine gw_if ((hh3.of1 k17).1.t (r := 65) rfl) ?_
        refine gw_bI (s_X12_holdsOf (hh3.of1 k17)  (by omega)) (fun x23 m23 g23 => ?_)
        have kk23 := k17.trans g23.w01
        have n24 : ((5 : Int32) * s16.1).toInt = 5 * s16.1.toInt := gx_mul 5 rfl (by omega) (by omega)
        have n25 : (((5 : Int32) * s16.1) + s4.1).toInt = ((5 : Int32) * s16.1).toInt + s4.1.toInt := gx_add (by omega) (by omega)
        refine gw_sI (i := (((5 : Int32) * s16.1) + s4.1)) ((hh3.of1 kk23).1.t (r := 71) rfl) ((hh3.of1 kk23).1.l (r := 71) rfl) (by omega) (by omega) (fun m26 em26 => ?_)
        have km26 := kk23.wr em26 (by decide)
        have n27 : (s16.1 + (1 : Int32)).toInt = s16.1.toInt + (1 : Int32).toInt := gx_add (by omega) (by omega)
        exact gw_some (gs_inl ⟨km26, (by show 0 ≤ (s16.1 + (1 : Int32)).toInt ∧ (s16.1 + (1 : Int32)).toInt ≤ 5; omega)⟩ (by show (5 - (s16.1 + (1 : Int32)).toInt) < (5 - s16.1.toInt); omega) (by show 0 ≤ (5 - (s16.1 + (1 : Int32)).toInt); omega))
  ·
    exact gw_some (gq_I (qm.of0 k0))
end
section
def sw (w a b : Nat) (σ : Nat → Int32) : Nat → Int32 := fun k => if k = w + a then σ (w + b) else if k = w + b then σ (w + a) else σ k
def sw2 (a b : Nat) (σ : Nat → Int32) : Nat → Int32 := sw 6 a b (sw 1 a b σ)
theorem sw_sw (w a b : Nat) (σ : Nat → Int32) : sw w a b (sw w a b σ) = σ := by
  funext k
  unfold sw
  by_cases h1 : k = w + a
  · subst h1
    by_cases h2 : w + b = w + a
    · rw [if_pos rfl, if_pos h2]; exact congrArg σ h2
    · rw [if_pos rfl, if_neg h2, if_pos rfl]
  · by_cases h2 : k = w + b
    · subst h2
      rw [if_neg h1, if_pos rfl, if_pos rfl]
    · rw [if_neg h1, if_neg h2, if_neg h1, if_neg h2]
theorem sw_comm {a b : Nat} (ha : a < 5) (hb : b < 5) (σ : Nat → Int32) : sw 6 a b (sw 1 a b σ) = sw 1 a b (sw 6 a b σ) := by
  funext k
  unfold sw
  by_cases h1 : k = 6 + a
  · rw [if_pos h1, if_neg (show ¬ 6 + b = 1 + a by omega), if_neg (show ¬ 6 + b = 1 + b by omega), if_neg (show ¬ k = 1 + a by omega), if_neg (show ¬ k = 1 + b by omega), if_pos h1]
  · by_cases h2 : k = 6 + b
    · rw [if_neg h1, if_pos h2, if_neg (show ¬ 6 + a = 1 + a by omega), if_neg (show ¬ 6 + a = 1 + b by omega), if_neg (show ¬ k = 1 + a by omega), if_neg (show ¬ k = 1 + b by omega), if_neg h1, if_pos h2]
    · rw [if_neg h1, if_neg h2]
      by_cases h3 : k = 1 + a
      · rw [if_pos h3, if_pos h3, if_neg (show ¬ 1 + b = 6 + a by omega), if_neg (show ¬ 1 + b = 6 + b by omega)]
      · by_cases h4 : k = 1 + b
        · rw [if_neg h3, if_pos h4, if_neg h3, if_pos h4, if_neg (show ¬ 1 + a = 6 + a by omega), if_neg (show ¬ 1 + a = 6 + b by omega)]
        · rw [if_neg h3, if_neg h4, if_neg h3, if_neg h4, if_neg h1, if_neg h2]
theorem sw2_sw2 {a b : Int32} (ha : 0 ≤ a.toInt ∧ a.toInt < 5) (hb : 0 ≤ b.toInt ∧ b.toInt < 5) (σ : Nat → Int32) : sw2 a.toInt.toNat b.toInt.toNat (sw2 a.toInt.toNat b.toInt.toNat σ) = σ := by
  unfold sw2
  rw [sw_comm (by omega) (by omega) σ, sw_sw, sw_sw]
theorem s_X12_swapsAt {μ : gm_M} (h : MI μ) {w a b : Int32} (hw : w.toInt = 1 ∨ w.toInt = 6) (ha : 0 ≤ a.toInt ∧ a.toInt < 5) (hb : 0 ≤ b.toInt ∧ b.toInt < 5) : gwV (f_X12_swapsAt 65 w a b μ) (fun m => km A1 μ m ∧ m.2.1 66 = sw w.toInt.toNat a.toInt.toNat b.toInt.toNat (μ.2.1 66)) := by
  refine gwV_of ?_
  unfold f_X12_swapsAt
  have k0 := km.refl A1 μ
  have n1 : (w + a).toInt = w.toInt + a.toInt := gx_add (by omega) (by omega)
  have n2 : (w + b).toInt = w.toInt + b.toInt := gx_add (by omega) (by omega)
  refine gw_gRa 66 (h.1.c (r := 65) rfl) (h.1.r (by decide)) ?_
  refine gw_aI (i := w + a) (h.1.t (r := 66) rfl) (h.1.l (r := 66) rfl) (by omega) (by omega) (fun v2 e2 => ?_)
  refine gw_gRa 66 (h.1.c (r := 65) rfl) (h.1.r (by decide)) ?_
  refine gw_gRa 66 (h.1.c (r := 65) rfl) (h.1.r (by decide)) ?_
  refine gw_aI (i := w + b) (h.1.t (r := 66) rfl) (h.1.l (r := 66) rfl) (by omega) (by omega) (fun v5 e5 => ?_)
  refine gw_sI (i := w + a) (h.1.t (r := 66) rfl) (h.1.l (r := 66) rfl) (by omega) (by omega) (fun m6 e6 => ?_)
  have k6 := k0.ws e6 (by unfold A1; omega)
  have h6 := h.of1 k6
  refine gw_gRa 66 (h6.1.c (r := 65) rfl) (h6.1.r (by decide)) ?_
  refine gw_sI (i := w + b) (h6.1.t (r := 66) rfl) (h6.1.l (r := 66) rfl) (by omega) (by omega) (fun m8 e8 => ?_)
  have k8 := k6.ws e8 (by unfold A1; omega)
  refine gw_some (gq_V ⟨k8, ?_⟩)
  subst e8
  subst e6
  funext k
  show gm_u (gm_u μ.2.1 66 (w + a).toInt.toNat v5) 66 (w + b).toInt.toNat v2 66 k = _
  rw [e2, e5, show (w + a).toInt.toNat = w.toInt.toNat + a.toInt.toNat by omega, show (w + b).toInt.toNat = w.toInt.toNat + b.toInt.toNat by omega]
  unfold sw
  by_cases g2 : k = w.toInt.toNat + b.toInt.toNat
  · subst g2
    rw [gu_eq, if_pos rfl]
    by_cases g1 : w.toInt.toNat + b.toInt.toNat = w.toInt.toNat + a.toInt.toNat
    · rw [if_pos g1, g1]
    · rw [if_neg g1]
  · rw [gu_ne g2, if_neg g2]
    by_cases g1 : k = w.toInt.toNat + a.toInt.toNat
    · subst g1
      rw [gu_eq, if_pos rfl]
    · rw [gu_ne g1, if_neg g1]
theorem s_X12_swaps {μ : gm_M} (h : MI μ) {a1 a2 : Int32} (q0 : 0 ≤ a1.toInt ∧ a1.toInt < 5) (q1 : 0 ≤ a2.toInt ∧ a2.toInt < 5) : gwV (f_X12_swaps 65 a1 a2 μ) (fun m => km A1 μ m ∧ m.2.1 66 = sw2 a1.toInt.toNat a2.toInt.toNat (μ.2.1 66)) := by
  refine gwV_of ?_
  unfold f_X12_swaps
  refine gw_if (h.1.t (r := 65) rfl) ?_
  refine gw_bV (s_X12_swapsAt h (Or.inl rfl) q0 q1) (fun m1 ⟨k1, f1⟩ => ?_)
  have h1 := h.of1 k1
  refine gw_if (h1.1.t (r := 65) rfl) ?_
  refine gw_bV (s_X12_swapsAt h1 (Or.inr rfl) q0 q1) (fun m2 ⟨k2, f2⟩ => ?_)
  refine gw_some (gq_V ⟨k1.trans k2, ?_⟩)
  rw [f2, f1]
  rfl
theorem km.s66 {μ m : gm_M} (h : km A1 μ m) (e : m.2.1 66 = μ.2.1 66) : km A0 μ m := by
  obtain ⟨h1, h2, h3, h4, h5, h6, h7⟩ := h
  exact ⟨h1, h2, h3, fun k _ => by rw [e], h5, h6, h7⟩
/-- the places of v, but i -/
def vs (i : Nat) (b m : gm_M) : Prop := ∀ k : Nat, 38 ≤ k → k < 43 → k ≠ i → m.2.1 66 k = b.2.1 66 k
theorem vs.refl {i : Nat} {b : gm_M} : vs i b b := fun _ _ _ _ => rfl
theorem vs.ws {i j : Nat} {b m m' : gm_M} {x : Int32} (h : vs i b m) (e : m' = (m.1, gm_u m.2.1 66 j x, m.2.2)) (hj : j = i) : vs i b m' := by
  subst e; subst hj
  intro k h1 h2 h3
  show gm_u m.2.1 66 j x 66 k = _
  rw [gu_ne h3]
  exact h k h1 h2 h3
theorem vs.k1 {i : Nat} {b m m' : gm_M} (h : vs i b m) (g : km A1 m m') : vs i b m' := fun k h1 h2 h3 => by
  rw [g.2.2.2.1 k (by unfold A1; omega)]
  exact h k h1 h2 h3
theorem vs.fin {i j : Nat} {b m m' : gm_M} {x : Int32} (h : vs i b m) (e : m' = (m.1, gm_u m.2.1 66 j x, m.2.2)) (hj : j = i) (hx : x = b.2.1 66 i) : ∀ k : Nat, 38 ≤ k → k < 43 → m'.2.1 66 k = b.2.1 66 k := by
  subst e; subst hj
  intro k h1 h2
  show gm_u m.2.1 66 j x 66 k = _
  by_cases hk : k = j
  · subst hk; rw [gu_eq, hx]
  · rw [gu_ne hk]; exact h k h1 h2 hk
theorem km.rest {b m : gm_M} (h : km A2 b m) (z : ∀ k : Nat, 38 ≤ k → k < 43 → m.2.1 66 k = b.2.1 66 k) : km A1 b m := by
  obtain ⟨h1, h2, h3, h4, h5, h6, h7⟩ := h
  refine ⟨h1, h2, h3, fun k hk => ?_, h5, h6, h7⟩
  by_cases hv : 38 ≤ k ∧ k < 43
  · exact z k hv.1 hv.2
  · exact h4 k (fun q => by unfold A2 at q; unfold A1 at hk; omega)
theorem rs.ws {m m' : gm_M} {j : Nat} {x : Int32} (h : rs m) (e : m' = (m.1, gm_u m.2.1 66 j x, m.2.2)) (hj : 26 ≤ j) : rs m' := by
  subst e
  intro k hk
  show gm_u m.2.1 66 j x 66 k = gm_u m.2.1 66 j x 68 k
  rw [gu_ne (by omega), gu_row (by decide)]
  exact h k hk
end
section
set_option maxHeartbeats 1000000 in
theorem s_X12_swap {μ : gm_M} (h : MI μ)   : gwI (f_X12_swap 65 μ) (fun x m => qm μ m) := by
  refine gwI_of ?_
  unfold f_X12_swap
  have lm5 : (-5 : Int32).toInt = -5 := rfl
  have l0 : (0 : Int32).toInt = 0 := rfl
  have l1 : (1 : Int32).toInt = 1 := rfl
  have l10 : (10 : Int32).toInt = 10 := rfl
  have l26 : (26 : Int32).toInt = 26 := rfl
  have k0 := km.refl A1 μ
  refine gw_if ((h.of1 k0).1.t (r := 65) rfl) ?_
  refine gw_bI (s_X12_allHold (h.of1 k0)  ) (fun x1 m1 g1 => ?_)
  have kk1 := k0.trans g1.w01
  have ea0 : m1.2.1 66 = μ.2.1 66 := funext fun k => g1.2.2.2.1 k (fun q => q)
  refine gw_loop (fun s2 => km A1 μ s2.2.2.2 ∧ ((0 ≤ s2.2.2.1.toInt ∧ s2.2.2.1.toInt ≤ 5) ∧ s2.2.2.2.2.1 66 = μ.2.1 66)) (fun s2 => (5 - s2.2.2.1.toInt)) (fun s2 ⟨k3, u4⟩ => ?_) 5000 ((-5 : Int32), x1, (0 : Int32), m1) ⟨kk1, (by show (0 ≤ (0 : Int32).toInt ∧ (0 : Int32).toInt ≤ 5) ∧ m1.2.1 66 = μ.2.1 66; exact ⟨by omega, ea0⟩)⟩ (by show (5 - (0 : Int32).toInt) < ((5000 : Nat) : Int); omega) (by show 0 ≤ (5 - (0 : Int32).toInt); omega)
  obtain ⟨uu1, uu2⟩ := u4
  refine gw_gRa 66 ((h.of1 k3).1.c (r := 65) rfl) ((h.of1 k3).1.r (by decide)) ?_
  refine gw_aI (i := (26 : Int32)) ((h.of1 k3).1.t (r := 66) rfl) ((h.of1 k3).1.l (r := 66) rfl) (by omega) (by omega) (fun v5 ev5 => ?_)
  have bv5 := (h.of1 k3).n26
  have cv5 : v5 = s2.2.2.2.2.1 66 26 := ev5
  have dv5 : v5.toInt = (s2.2.2.2.2.1 66 26).toInt := by rw [cv5]
  have yv5 : v5.toInt = (μ.2.1 66 26).toInt := by rw [dv5, k3.2.2.2.1 26 (by first | exact fun q => q | (unfold A1; omega))]
  refine gw_le (fun h18_6 => ?_) (fun h18_6 => ?_)
  ·
    exact gw_some (gs_inr (gq_I (qm.of0 (km.s66 k3 (by assumption)))))
  ·
    have n8 : (s2.2.2.1 + (1 : Int32)).toInt = s2.2.2.1.toInt + (1 : Int32).toInt := gx_add (by omega) (by omega)
    refine gw_loop (fun s7 => km A1 μ s7.2.2.2 ∧ ((0 ≤ s7.2.2.1.toInt ∧ s7.2.2.1.toInt ≤ 5) ∧ s7.2.2.2.2.1 66 = μ.2.1 66)) (fun s7 => (5 - s7.2.2.1.toInt)) (fun s7 ⟨k9, u10⟩ => ?_) 5000 (s2.1, s2.2.1, (s2.2.2.1 + (1 : Int32)), s2.2.2.2) ⟨k3, (by show (0 ≤ (s2.2.2.1 + (1 : Int32)).toInt ∧ (s2.2.2.1 + (1 : Int32)).toInt ≤ 5) ∧ s2.2.2.2.2.1 66 = μ.2.1 66; exact ⟨by omega, uu2⟩)⟩ (by show (5 - (s2.2.2.1 + (1 : Int32)).toInt) < ((5000 : Nat) : Int); omega) (by show 0 ≤ (5 - (s2.2.2.1 + (1 : Int32)).toInt); omega)
    obtain ⟨uu1, uu2⟩ := u10
    refine gw_gRa 66 ((h.of1 k9).1.c (r := 65) rfl) ((h.of1 k9).1.r (by decide)) ?_
    refine gw_aI (i := (26 : Int32)) ((h.of1 k9).1.t (r := 66) rfl) ((h.of1 k9).1.l (r := 66) rfl) (by omega) (by omega) (fun v11 ev11 => ?_)
    have bv11 := (h.of1 k9).n26
    have cv11 : v11 = s7.2.2.2.2.1 66 26 := ev11
    have dv11 : v11.toInt = (s7.2.2.2.2.1 66 26).toInt := by rw [cv11]
    have yv11 : v11.toInt = (μ.2.1 66 26).toInt := by rw [dv11, k9.2.2.2.1 26 (by first | exact fun q => q | (unfold A1; omega))]
    refine gw_le (fun h35_12 => ?_) (fun h35_12 => ?_)
    ·
      have n13 : (s2.2.2.1 + (1 : Int32)).toInt = s2.2.2.1.toInt + (1 : Int32).toInt := gx_add (by omega) (by omega)
      exact gw_some (gs_inr (gs_inl ⟨k9, (by show (0 ≤ (s2.2.2.1 + (1 : Int32)).toInt ∧ (s2.2.2.1 + (1 : Int32)).toInt ≤ 5) ∧ s7.2.2.2.2.1 66 = μ.2.1 66; exact ⟨by omega, uu2⟩)⟩ (by show (5 - (s2.2.2.1 + (1 : Int32)).toInt) < (5 - s2.2.2.1.toInt); omega) (by show 0 ≤ (5 - (s2.2.2.1 + (1 : Int32)).toInt); omega)))
    ·
      refine gw_if ((h.of1 k9).1.t (r := 65) rfl) ?_
      refine gw_bV (s_X12_swaps (h.of1 k9)  (by omega) (by omega)) (fun m14 ⟨g14, f14⟩ => ?_)
      have kk14 := k9.trans g14.w11
      have f1 := f14
      refine gw_if ((h.of1 kk14).1.t (r := 65) rfl) ?_
      refine gw_bI (s_X12_allHold (h.of1 kk14)  ) (fun x15 m15 g15 => ?_)
      have kk15 := kk14.trans g15.w01
      have ea : m15.2.1 66 = m14.2.1 66 := funext fun k => g15.2.2.2.1 k (fun q => q)
      refine gw_if ((h.of1 kk15).1.t (r := 65) rfl) ?_
      refine gw_bV (s_X12_swaps (h.of1 kk15)  (by omega) (by omega)) (fun m16 ⟨g16, f16⟩ => ?_)
      have kk16 := kk15.trans g16.w11
      have hb := f16
      rw [ea, f1, sw2_sw2 (a := s2.2.2.1) (b := s7.2.2.1) (by omega) (by omega)] at hb
      refine gw_j (fun s17 => True) (fun s17 _ => ?_) (fun j18 hj18 => ?_)
      ·
        refine gw_j (fun s19 => True) (fun s19 _ => ?_) (fun j20 hj20 => ?_)
        ·
          have n21 : (s7.2.2.1 + (1 : Int32)).toInt = s7.2.2.1.toInt + (1 : Int32).toInt := gx_add (by omega) (by omega)
          exact gw_some (gs_inl ⟨kk16, (by show (0 ≤ (s7.2.2.1 + (1 : Int32)).toInt ∧ (s7.2.2.1 + (1 : Int32)).toInt ≤ 5) ∧ m16.2.1 66 = μ.2.1 66; exact ⟨by omega, hb.trans uu2⟩)⟩ (by show (5 - (s7.2.2.1 + (1 : Int32)).toInt) < (5 - s7.2.2.1.toInt); omega) (by show 0 ≤ (5 - (s7.2.2.1 + (1 : Int32)).toInt); omega))
        ·
          refine gw_le (fun h79_22 => ?_) (fun h79_22 => ?_)
          ·
            exact hj20 _ trivial
          ·
            exact hj20 _ trivial
      ·
        refine gw_le (fun h61_23 => ?_) (fun h61_23 => ?_)
        ·
          exact hj18 _ trivial
        ·
          exact hj18 _ trivial
set_option maxHeartbeats 1000000 in
theorem s_X12_firm {μ : gm_M} (h : MI μ) {a1 : Int32} {a2 : Int32}  : gwI (f_X12_firm 65 a1 a2 μ) (fun x m => qm μ m) := by
  refine gwI_of ?_
  unfold f_X12_firm
  have lm5 : (-5 : Int32).toInt = -5 := rfl
  have lm1 : (-1 : Int32).toInt = -1 := rfl
  have l0 : (0 : Int32).toInt = 0 := rfl
  have l1 : (1 : Int32).toInt = 1 := rfl
  have l9 : (9 : Int32).toInt = 9 := rfl
  have l38 : (38 : Int32).toInt = 38 := rfl
  have k0 := km.refl A0 μ
  refine gw_if ((h.of0 k0).1.t (r := 65) rfl) ?_
  refine gw_bI (s_X12_isChild (h.of0 k0)  ) (fun x1 m1 ⟨z1, f1⟩ => ?_)
  replace z1 := z1.symm
  subst z1
  refine gw_eq (fun h5_2 => ?_) (fun h5_2 => ?_)
  ·
    exact gw_some (gq_I (qm.of0 k0))
  ·
    refine gw_bI (s_X12_in  ) (fun x3 m3 ⟨z3, f3⟩ => ?_)
    replace z3 := z3.symm
    subst z3
    refine gw_ne (fun h14_4 => ?_) (fun h14_4 => ?_)
    ·
      refine gw_gRa 66 ((h.of0 k0).1.c (r := 65) rfl) ((h.of0 k0).1.r (by decide)) ?_
      have n5 : ((38 : Int32) + a1).toInt = (38 : Int32).toInt + a1.toInt := gx_add (by omega) (by omega)
      refine gw_aI (i := ((38 : Int32) + a1)) ((h.of0 k0).1.t (r := 66) rfl) ((h.of0 k0).1.l (r := 66) rfl) (by omega) (by omega) (fun v6 ev6 => ?_)
      have hv6 : v6 = μ.2.1 66 (38 + a1.toInt).toNat := by rw [ev6, show ((38 : Int32) + a1).toInt.toNat = (38 + a1.toInt).toNat by omega]
      refine gw_if ((h.of0 k0).1.t (r := 65) rfl) ?_
      refine gw_bV (s_X12_keeps (h.of0 k0)  ) (fun m7 g7 => ?_)
      have hh7 := g7.mi (h.of0 k0)
      have kq7 := km.refl A2 m7
      have rr7 := g7.rs
      refine gw_loop (fun s8 => km A2 m7 s8.2.2.2 ∧ rs s8.2.2.2 ∧ ((-1 ≤ s8.2.2.1.toInt ∧ s8.2.2.1.toInt ≤ 9) ∧ vs (38 + a1.toInt).toNat m7 s8.2.2.2)) (fun s8 => (s8.2.2.1.toInt + 1)) (fun s8 ⟨k9, r9, u10⟩ => ?_) 5000 ((0 : Int32), (-5 : Int32), (9 : Int32), m7) ⟨kq7, rr7, (by show (-1 ≤ (9 : Int32).toInt ∧ (9 : Int32).toInt ≤ 9) ∧ vs (38 + a1.toInt).toNat m7 m7; exact ⟨by omega, vs.refl⟩)⟩ (by show ((9 : Int32).toInt + 1) < ((5000 : Nat) : Int); omega) (by show 0 ≤ ((9 : Int32).toInt + 1); omega)
      obtain ⟨uu1, uu2⟩ := u10
      refine gw_lt (fun h46_11 => ?_) (fun h46_11 => ?_)
      ·
        refine gw_gRa 66 ((hh7.of2 k9).1.c (r := 65) rfl) ((hh7.of2 k9).1.r (by decide)) ?_
        have n12 : ((38 : Int32) + a1).toInt = (38 : Int32).toInt + a1.toInt := gx_add (by omega) (by omega)
        refine gw_sI (i := ((38 : Int32) + a1)) ((hh7.of2 k9).1.t (r := 66) rfl) ((hh7.of2 k9).1.l (r := 66) rfl) (by omega) (by omega) (fun m13 em13 => ?_)
        have km13 := k9.ws em13 (by unfold A2; omega)
        have rm13 := rs.ws r9 em13 (by omega)
        have hz := uu2.fin em13 (by omega) (by rw [hv6, g7.2.2.1 66 (by decide)])
        refine gw_ne (fun h112_14 => ?_) (fun h112_14 => ?_)
        ·
          exact gw_some (gs_inr (gq_I (qm.kp g7 (km.rest km13 hz) rm13)))
        ·
          exact gw_some (gs_inr (gq_I (qm.kp g7 (km.rest km13 hz) rm13)))
      ·
        refine gw_gRa 66 ((hh7.of2 k9).1.c (r := 65) rfl) ((hh7.of2 k9).1.r (by decide)) ?_
        have n15 : ((38 : Int32) + a1).toInt = (38 : Int32).toInt + a1.toInt := gx_add (by omega) (by omega)
        refine gw_sI (i := ((38 : Int32) + a1)) ((hh7.of2 k9).1.t (r := 66) rfl) ((hh7.of2 k9).1.l (r := 66) rfl) (by omega) (by omega) (fun m16 em16 => ?_)
        have km16 := k9.ws em16 (by unfold A2; omega)
        have hv := uu2.ws em16 (by omega)
        refine gw_if ((hh7.of2 km16).1.t (r := 65) rfl) ?_
        refine gw_bI (s_X12_areAsSeen (hh7.of2 km16)  ) (fun x17 m17 ⟨g17, r17, f17⟩ => ?_)
        have kk17 := km16.trans g17.w12
        have hw := hv.k1 g17
        refine gw_j (fun s18 => True) (fun s18 _ => ?_) (fun j19 hj19 => ?_)
        ·
          refine gw_j (fun s20 => True) (fun s20 _ => ?_) (fun j21 hj21 => ?_)
          ·
            have n22 : (s8.2.2.1 + (-1 : Int32)).toInt = s8.2.2.1.toInt + (-1 : Int32).toInt := gx_add (by omega) (by omega)
            obtain ⟨w23, hw23⟩ : ∃ w : Int32, w = (s8.2.2.1 + (-1 : Int32)) := ⟨_, rfl⟩
            rw [← hw23]
            rw [← hw23] at n22
            exact gw_some (gs_inl ⟨kk17, r17, (by show (-1 ≤ w23.toInt ∧ w23.toInt ≤ 9) ∧ vs (38 + a1.toInt).toNat m7 m17; exact ⟨by omega, hw⟩)⟩ (by show (w23.toInt + 1) < (s8.2.2.1.toInt + 1); omega) (by show 0 ≤ (w23.toInt + 1); omega))
          ·
            refine gw_eq (fun h83_24 => ?_) (fun h83_24 => ?_)
            ·
              exact hj21 _ trivial
            ·
              exact hj21 _ trivial
        ·
          refine gw_eq (fun h70_25 => ?_) (fun h70_25 => ?_)
          ·
            exact hj19 _ trivial
          ·
            exact hj19 _ trivial
    ·
      exact gw_some (gq_I (qm.of0 k0))
end
