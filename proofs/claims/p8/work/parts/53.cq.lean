set_option maxHeartbeats 1000000 in
theorem s_X11_isAllSeen {μ : gm_M} (h : CI μ) {a1 : Int32} {a2 : Int32} {a3 : Int32}  : gwI (f_X11_isAllSeen 1 a1 a2 a3 μ) (fun x m => kc μ m ∧ (x.toInt = 0 ∨ x.toInt = 1)) := by
  refine gwI_of ?_
  unfold f_X11_isAllSeen
  have l0 : (0 : Int32).toInt = 0 := rfl
  have l1 : (1 : Int32).toInt = 1 := rfl
  have l2 : (2 : Int32).toInt = 2 := rfl
  have k0 := kc.refl μ
  refine gw_loop (fun s1 => kc μ s1.2 ∧ (0 ≤ s1.1.toInt ∧ s1.1.toInt ≤ 5)) (fun s1 => (5 - s1.1.toInt)) (fun s1 ⟨k2, u3⟩ => ?_) 5000 ((0 : Int32), μ) ⟨k0, (by show 0 ≤ (0 : Int32).toInt ∧ (0 : Int32).toInt ≤ 5; omega)⟩ (by show (5 - (0 : Int32).toInt) < ((5000 : Nat) : Int); omega) (by show 0 ≤ (5 - (0 : Int32).toInt); omega)
  refine gw_gRa 15 ((h.of k2).1.c (r := 1) rfl) ((h.of k2).1.r (by decide)) ?_
  refine gw_gRa 23 ((h.of k2).1.c (r := 15) rfl) ((h.of k2).1.r (by decide)) ?_
  refine gw_gI ((h.of k2).1.c (r := 23) rfl) (fun v4 ev4 => ?_)
  have bv4 := (h.of k2).n23
  have dv4 : v4.toInt = (s1.2.2.1 23 2).toInt := by rw [ev4]
  have yv4 : v4.toInt = (μ.2.1 23 2).toInt := by rw [dv4, k2.row (by decide)]
  refine gw_le (fun h15_5 => ?_) (fun h15_5 => ?_)
  ·
    refine gw_z Iff.rfl (by omega) (gs_inr (gq_I ⟨k2, by omega⟩))
  ·
    refine gw_gRa 15 ((h.of k2).1.c (r := 1) rfl) ((h.of k2).1.r (by decide)) ?_
    refine gw_gRa 23 ((h.of k2).1.c (r := 15) rfl) ((h.of k2).1.r (by decide)) ?_
    refine gw_if ((h.of k2).1.t (r := 23) rfl) ?_
    refine gw_bI (s_X7_cell_23 (h.of k2) ) (fun x6 m6 ⟨z6, f6⟩ => ?_)
    replace z6 := z6.symm
    subst z6
    refine gw_if ((h.of k2).1.t (r := 1) rfl) ?_
    refine gw_bI (s_X11_isNobody (h.of k2) ) (fun x7 m7 ⟨z7, f7⟩ => ?_)
    replace z7 := z7.symm
    subst z7
    refine gw_j (fun s8 => kc μ s8) (fun s8 k10 => ?_) (fun j9 hj9 => ?_)
    ·
      have n11 : (s1.1 + (1 : Int32)).toInt = s1.1.toInt + (1 : Int32).toInt := gx_add (by omega) (by omega)
      exact gw_some (gs_inl ⟨k10, (by show 0 ≤ (s1.1 + (1 : Int32)).toInt ∧ (s1.1 + (1 : Int32)).toInt ≤ 5; omega)⟩ (by show (5 - (s1.1 + (1 : Int32)).toInt) < (5 - s1.1.toInt); omega) (by show 0 ≤ (5 - (s1.1 + (1 : Int32)).toInt); omega))
    ·
      refine gw_eq (fun h39_12 => ?_) (fun h39_12 => ?_)
      ·
        refine gw_gRa 63 ((h.of k2).1.c (r := 1) rfl) ((h.of k2).1.r (by decide)) ?_
        refine gw_gRa 15 ((h.of k2).1.c (r := 1) rfl) ((h.of k2).1.r (by decide)) ?_
        refine gw_gRa 16 ((h.of k2).1.c (r := 15) rfl) ((h.of k2).1.r (by decide)) ?_
        refine gw_aR (i := x6) ((h.of k2).1.t (r := 16) rfl) ((h.of k2).1.l (r := 16) rfl) (by omega) (by omega) (fun v13 ev13 => ?_)
        have cv13 : isch v13 := by rw [ev13]; exact isch.of (h.of k2).1 (by omega) (by omega)
        refine gw_if (ict.t (h.of k2).1 (Or.inr rfl)) ?_
        refine gw_bV (s_X2_copy_63 (h.of k2) cv13) (fun m14 g14 => ?_)
        have kk14 := k2.trans g14
        refine gw_j (fun s15 => kc μ s15) (fun s15 k17 => ?_) (fun j16 hj16 => ?_)
        ·
          refine gw_gRa 15 ((h.of k17).1.c (r := 1) rfl) ((h.of k17).1.r (by decide)) ?_
          refine gw_gRa 23 ((h.of k17).1.c (r := 15) rfl) ((h.of k17).1.r (by decide)) ?_
          refine gw_if ((h.of k17).1.t (r := 23) rfl) ?_
          refine gw_bI (s_X7_cell_23 (h.of k17) ) (fun x18 m18 ⟨z18, f18⟩ => ?_)
          replace z18 := z18.symm
          subst z18
          refine gw_if ((h.of k17).1.t (r := 1) rfl) ?_
          refine gw_bI (s_X11_trialBehind (h.of k17) (by omega)) (fun x19 m19 g19 => ?_)
          have kk19 := k17.trans g19
          refine gw_gRa 15 ((h.of kk19).1.c (r := 1) rfl) ((h.of kk19).1.r (by decide)) ?_
          refine gw_gRa 23 ((h.of kk19).1.c (r := 15) rfl) ((h.of kk19).1.r (by decide)) ?_
          refine gw_if ((h.of kk19).1.t (r := 23) rfl) ?_
          refine gw_bI (s_X7_cell_23 (h.of kk19) ) (fun x20 m20 ⟨z20, f20⟩ => ?_)
          replace z20 := z20.symm
          subst z20
          refine gw_eq (fun h114_21 => ?_) (fun h114_21 => ?_)
          ·
            exact hj9 _ kk19
          ·
            refine gw_z Iff.rfl (by omega) (gs_inr (gq_I ⟨kk19, by omega⟩))
        ·
          refine gw_ne (fun h65_22 => ?_) (fun h65_22 => ?_)
          ·
            exact hj16 _ kk14
          ·
            refine gw_gRa 63 ((h.of kk14).1.c (r := 1) rfl) ((h.of kk14).1.r (by decide)) ?_
            refine gw_pI (ict.c (h.of kk14).1 (Or.inr rfl)) (fun m23 em23 => ?_)
            have km23 := kk14.wr em23 (by decide)
            refine gw_gRa 63 ((h.of km23).1.c (r := 1) rfl) ((h.of km23).1.r (by decide)) ?_
            refine gw_pI (ict.c (h.of km23).1 (Or.inr rfl)) (fun m24 em24 => ?_)
            have km24 := km23.wr em24 (by decide)
            exact hj16 _ km24
      ·
        exact hj9 _ k2
set_option maxHeartbeats 1000000 in
theorem s_X11_tryPlanRow {μ : gm_M} (h : CI μ) {a1 : Int32} {a2 : Int32}  : gwV (f_X11_tryPlanRow 1 a1 a2 μ) (fun m => kc μ m) := by
  refine gwV_of ?_
  unfold f_X11_tryPlanRow
  have l0 : (0 : Int32).toInt = 0 := rfl
  have l1 : (1 : Int32).toInt = 1 := rfl
  have l2 : (2 : Int32).toInt = 2 := rfl
  have l6 : (6 : Int32).toInt = 6 := rfl
  have l10 : (10 : Int32).toInt = 10 := rfl
  have l999 : (999 : Int32).toInt = 999 := rfl
  have k0 := kc.refl μ
  refine gw_ne (fun h2_1 => ?_) (fun h2_1 => ?_)
  ·
    refine gw_ne (fun h62_2 => ?_) (fun h62_2 => ?_)
    ·
      refine gw_gRa 63 ((h.of k0).1.c (r := 1) rfl) ((h.of k0).1.r (by decide)) ?_
      refine gw_gRa 63 ((h.of k0).1.c (r := 1) rfl) ((h.of k0).1.r (by decide)) ?_
      refine gw_gRa 15 ((h.of k0).1.c (r := 1) rfl) ((h.of k0).1.r (by decide)) ?_
      refine gw_gR ((h.of k0).1.c (r := 15) rfl) (fun v3 ev3 => ?_)
      have cv3 : AfW μ v3 := by rw [ev3]; exact (h.of k0).af
      refine gw_if (ict.t (h.of k0).1 (Or.inr rfl)) ?_
      refine gw_bI (s_X2_holds (h.of k0) (Or.inr rfl) cv3) (fun x4 m4 z4 => ?_)
      replace z4 := z4.symm
      subst z4
      refine gw_if (ict.t (h.of k0).1 (Or.inr rfl)) ?_
      refine gw_bI (s_X2_breathe (h.of k0) (Or.inr rfl)) (fun x5 m5 ⟨g5, f5⟩ => ?_)
      have kk5 := k0.ch g5
      exact gw_some (gq_V kk5)
    ·
      refine gw_gRa 63 ((h.of k0).1.c (r := 1) rfl) ((h.of k0).1.r (by decide)) ?_
      refine gw_pI (ict.c (h.of k0).1 (Or.inr rfl)) (fun m6 em6 => ?_)
      have km6 := k0.wr em6 (by decide)
      refine gw_gRa 63 ((h.of km6).1.c (r := 1) rfl) ((h.of km6).1.r (by decide)) ?_
      refine gw_pI (ict.c (h.of km6).1 (Or.inr rfl)) (fun m7 em7 => ?_)
      have km7 := km6.wr em7 (by decide)
      refine gw_gRa 63 ((h.of km7).1.c (r := 1) rfl) ((h.of km7).1.r (by decide)) ?_
      refine gw_pI (ict.c (h.of km7).1 (Or.inr rfl)) (fun m8 em8 => ?_)
      have km8 := km7.wr em8 (by decide)
      exact gw_some (gq_V km8)
  ·
    refine gw_gRa 63 ((h.of k0).1.c (r := 1) rfl) ((h.of k0).1.r (by decide)) ?_
    refine gw_gRa 63 ((h.of k0).1.c (r := 1) rfl) ((h.of k0).1.r (by decide)) ?_
    refine gw_gI (ict.c (h.of k0).1 (Or.inr rfl)) (fun v9 ev9 => ?_)
    refine gw_pI (ict.c (h.of k0).1 (Or.inr rfl)) (fun m10 em10 => ?_)
    have km10 := k0.wr em10 (by decide)
    refine gw_gRa 63 ((h.of km10).1.c (r := 1) rfl) ((h.of km10).1.r (by decide)) ?_
    refine gw_gRa 63 ((h.of km10).1.c (r := 1) rfl) ((h.of km10).1.r (by decide)) ?_
    refine gw_gI (ict.c (h.of km10).1 (Or.inr rfl)) (fun v11 ev11 => ?_)
    refine gw_gRa 15 ((h.of km10).1.c (r := 1) rfl) ((h.of km10).1.r (by decide)) ?_
    refine gw_gR ((h.of km10).1.c (r := 15) rfl) (fun v12 ev12 => ?_)
    have cv12 : AfW m10 v12 := by rw [ev12]; exact (h.of km10).af
    refine gw_gI (cv12.tc) (fun v13 ev13 => ?_)
    refine gw_pI (ict.c (h.of km10).1 (Or.inr rfl)) (fun m14 em14 => ?_)
    have km14 := km10.wr em14 (by decide)
    exact gw_some (gq_V km14)
set_option maxHeartbeats 1000000 in
theorem s_X11_tryPlan {μ : gm_M} (h : CI μ)   : gwV (f_X11_tryPlan 1 μ) (fun m => kc μ m) := by
  refine gwV_of ?_
  unfold f_X11_tryPlan
  have l0 : (0 : Int32).toInt = 0 := rfl
  have l1 : (1 : Int32).toInt = 1 := rfl
  have k0 := kc.refl μ
  refine gw_gRa 15 ((h.of k0).1.c (r := 1) rfl) ((h.of k0).1.r (by decide)) ?_
  refine gw_gI ((h.of k0).1.c (r := 15) rfl) (fun v1 ev1 => ?_)
  refine gw_loop (fun s2 => kc μ s2.2.2 ∧ (0 ≤ s2.2.1.toInt ∧ s2.2.1.toInt ≤ 8)) (fun s2 => (8 - s2.2.1.toInt)) (fun s2 ⟨k3, u4⟩ => ?_) 5000 (v1, (0 : Int32), μ) ⟨k0, (by show 0 ≤ (0 : Int32).toInt ∧ (0 : Int32).toInt ≤ 8; omega)⟩ (by show (8 - (0 : Int32).toInt) < ((5000 : Nat) : Int); omega) (by show 0 ≤ (8 - (0 : Int32).toInt); omega)
  refine gw_gRa 15 ((h.of k3).1.c (r := 1) rfl) ((h.of k3).1.r (by decide)) ?_
  refine gw_gRa 25 ((h.of k3).1.c (r := 15) rfl) ((h.of k3).1.r (by decide)) ?_
  refine gw_gI ((h.of k3).1.c (r := 25) rfl) (fun v5 ev5 => ?_)
  have bv5 := (h.of k3).n25
  have dv5 : v5.toInt = (s2.2.2.2.1 25 2).toInt := by rw [ev5]
  have yv5 : v5.toInt = (μ.2.1 25 2).toInt := by rw [dv5, k3.row (by decide)]
  refine gw_le (fun h21_6 => ?_) (fun h21_6 => ?_)
  ·
    exact gw_some (gs_inr (gq_V k3))
  ·
    refine gw_gRa 15 ((h.of k3).1.c (r := 1) rfl) ((h.of k3).1.r (by decide)) ?_
    refine gw_gRa 25 ((h.of k3).1.c (r := 15) rfl) ((h.of k3).1.r (by decide)) ?_
    refine gw_if ((h.of k3).1.t (r := 25) rfl) ?_
    refine gw_bI (s_X7_cell_25 (h.of k3) ) (fun x7 m7 z7 => ?_)
    replace z7 := z7.symm
    subst z7
    refine gw_j (fun s8 => kc μ s8.2) (fun s8 k10 => ?_) (fun j9 hj9 => ?_)
    ·
      have n11 : (s2.2.1 + (1 : Int32)).toInt = s2.2.1.toInt + (1 : Int32).toInt := gx_add (by omega) (by omega)
      exact gw_some (gs_inl ⟨k10, (by show 0 ≤ (s2.2.1 + (1 : Int32)).toInt ∧ (s2.2.1 + (1 : Int32)).toInt ≤ 8; omega)⟩ (by show (8 - (s2.2.1 + (1 : Int32)).toInt) < (8 - s2.2.1.toInt); omega) (by show 0 ≤ (8 - (s2.2.1 + (1 : Int32)).toInt); omega))
    ·
      refine gw_ne (fun h38_12 => ?_) (fun h38_12 => ?_)
      ·
        refine gw_gRa 15 ((h.of k3).1.c (r := 1) rfl) ((h.of k3).1.r (by decide)) ?_
        refine gw_gRa 25 ((h.of k3).1.c (r := 15) rfl) ((h.of k3).1.r (by decide)) ?_
        refine gw_if ((h.of k3).1.t (r := 25) rfl) ?_
        refine gw_bI (s_X7_cell_25 (h.of k3) ) (fun x13 m13 z13 => ?_)
        replace z13 := z13.symm
        subst z13
        refine gw_gRa 63 ((h.of k3).1.c (r := 1) rfl) ((h.of k3).1.r (by decide)) ?_
        refine gw_gI (ict.c (h.of k3).1 (Or.inr rfl)) (fun v14 ev14 => ?_)
        refine gw_ne (fun h74_15 => ?_) (fun h74_15 => ?_)
        ·
          exact hj9 _ k3
        ·
          refine gw_if ((h.of k3).1.t (r := 1) rfl) ?_
          refine gw_bV (s_X11_tryPlanRow (h.of k3) ) (fun m16 g16 => ?_)
          have kk16 := k3.trans g16
          exact hj9 _ kk16
      ·
        refine gw_gRa 63 ((h.of k3).1.c (r := 1) rfl) ((h.of k3).1.r (by decide)) ?_
        refine gw_if (ict.t (h.of k3).1 (Or.inr rfl)) ?_
        refine gw_bV (s_X2_passMinute (h.of k3) (Or.inr rfl)) (fun m17 g17 => ?_)
        have kk17 := k3.ch g17
        exact hj9 _ kk17
set_option maxHeartbeats 1000000 in
theorem sb_X11_arrange {R0 : Nat → Int32 → Int32 → Int32 → gm_M → Option (Option Value × gm_M)} (d : Nat) (hR : ∀ {m : gm_M} (h : CI m) {b1 b2 b3 : Int32}, 0 ≤ b1.toInt ∧ b1.toInt ≤ 5 → 5 - b1.toInt < d → gwV (R0 1 b1 b2 b3 m) (fun m1 => kc m m1)) {μ : gm_M} (h : CI μ) {a1 a2 a3 : Int32} (q0 : 0 ≤ a1.toInt ∧ a1.toInt ≤ 5) (q1 : 5 - a1.toInt < d + 1) : gwV (b_X11_arrange R0 1 a1 a2 a3 μ) (fun m => kc μ m) := by
  refine gwV_of ?_
  unfold b_X11_arrange
  have l0 : (0 : Int32).toInt = 0 := rfl
  have l1 : (1 : Int32).toInt = 1 := rfl
  have l5 : (5 : Int32).toInt = 5 := rfl
  have k0 := kc.refl μ
  refine gw_gRa 15 ((h.of k0).1.c (r := 1) rfl) ((h.of k0).1.r (by decide)) ?_
  refine gw_gI ((h.of k0).1.c (r := 15) rfl) (fun v1 ev1 => ?_)
  have bv1 := (h.of k0).n1
  have dv1 : v1.toInt = (μ.2.1 15 1).toInt := by rw [ev1]
  refine gw_ji ?_
  refine gw_le (fun h8_2 => ?_) (fun h8_2 => ?_)
  ·
    refine gw_gI ((h.of k0).1.c (r := 1) rfl) (fun v3 ev3 => ?_)
    refine gw_le (fun h21_4 => ?_) (fun h21_4 => ?_)
    ·
      exact gw_some (gq_V k0)
    ·
      refine gw_pI ((h.of k0).1.c (r := 1) rfl) (fun m5 em5 => ?_)
      have km5 := k0.w1 em5
      refine gw_gRa 6 ((h.of km5).1.c (r := 1) rfl) ((h.of km5).1.r (by decide)) ?_
      refine gw_gRa 7 ((h.of km5).1.c (r := 1) rfl) ((h.of km5).1.r (by decide)) ?_
      refine gx_cp (by decide) ((h.of km5).1.t (r := 6) rfl) ((h.of km5).1.t (r := 7) rfl) ((h.of km5).1.l (r := 6) rfl) ((h.of km5).1.l (r := 7) rfl) (by omega) (by omega) (by omega) (by omega) (by omega) (fun m6 e1m6 e2m6 e3m6 e4m6 => ?_)
      have km6 := km5.cp e1m6 e2m6 e3m6 (by decide)
      exact gw_some (gq_V km6)
  ·
    refine gw_lt (fun h13_7 => ?_) (fun h13_7 => ?_)
    ·
      refine gw_loop (fun s8 => kc μ s8.2 ∧ (0 ≤ s8.1.toInt ∧ s8.1.toInt ≤ 5)) (fun s8 => (5 - s8.1.toInt)) (fun s8 ⟨k9, u10⟩ => ?_) 5000 ((0 : Int32), μ) ⟨k0, (by show 0 ≤ (0 : Int32).toInt ∧ (0 : Int32).toInt ≤ 5; omega)⟩ (by show (5 - (0 : Int32).toInt) < ((5000 : Nat) : Int); omega) (by show 0 ≤ (5 - (0 : Int32).toInt); omega)
      refine gw_gRa 15 ((h.of k9).1.c (r := 1) rfl) ((h.of k9).1.r (by decide)) ?_
      refine gw_gI ((h.of k9).1.c (r := 15) rfl) (fun v11 ev11 => ?_)
      have bv11 := (h.of k9).n1
      have dv11 : v11.toInt = (s8.2.2.1 15 1).toInt := by rw [ev11]
      have yv11 : v11.toInt = (μ.2.1 15 1).toInt := by rw [dv11, k9.row (by decide)]
      refine gw_le (fun h56_12 => ?_) (fun h56_12 => ?_)
      ·
        exact gw_some (gs_inr (gq_V k9))
      ·
        refine gw_j (fun s13 => kc μ s13) (fun s13 k15 => ?_) (fun j14 hj14 => ?_)
        ·
          have n16 : (s8.1 + (1 : Int32)).toInt = s8.1.toInt + (1 : Int32).toInt := gx_add (by omega) (by omega)
          exact gw_some (gs_inl ⟨k15, (by show 0 ≤ (s8.1 + (1 : Int32)).toInt ∧ (s8.1 + (1 : Int32)).toInt ≤ 5; omega)⟩ (by show (5 - (s8.1 + (1 : Int32)).toInt) < (5 - s8.1.toInt); omega) (by show 0 ≤ (5 - (s8.1 + (1 : Int32)).toInt); omega))
        ·
          refine gw_eq (fun h65_17 => ?_) (fun h65_17 => ?_)
          ·
            refine gw_gRa 6 ((h.of k9).1.c (r := 1) rfl) ((h.of k9).1.r (by decide)) ?_
            refine gw_sI (i := a1) ((h.of k9).1.t (r := 6) rfl) ((h.of k9).1.l (r := 6) rfl) (by omega) (by omega) (fun m18 em18 => ?_)
            have km18 := k9.wr em18 (by decide)
            refine gw_gRa 5 ((h.of km18).1.c (r := 1) rfl) ((h.of km18).1.r (by decide)) ?_
            have n19 : (s8.1 * (5 : Int32)).toInt = 5 * s8.1.toInt := gx_mulr 5 rfl (by omega) (by omega)
            have n20 : ((s8.1 * (5 : Int32)) + a1).toInt = (s8.1 * (5 : Int32)).toInt + a1.toInt := gx_add (by omega) (by omega)
            refine gw_aI (i := ((s8.1 * (5 : Int32)) + a1)) ((h.of km18).1.t (r := 5) rfl) ((h.of km18).1.l (r := 5) rfl) (by omega) (by omega) (fun v21 ev21 => ?_)
            refine gw_if ((h.of km18).1.t (r := 1) rfl) ?_
            have n22 : (a1 + (1 : Int32)).toInt = a1.toInt + (1 : Int32).toInt := gx_add (by omega) (by omega)
            refine gw_bV (hR (h.of km18) (by omega) (by omega)) (fun m23 g23 => ?_)
            have kk23 := km18.trans g23
            exact hj14 _ kk23
          ·
            exact hj14 _ k9
    ·
      refine gw_gI ((h.of k0).1.c (r := 1) rfl) (fun v24 ev24 => ?_)
      refine gw_le (fun h21_25 => ?_) (fun h21_25 => ?_)
      ·
        exact gw_some (gq_V k0)
      ·
        refine gw_pI ((h.of k0).1.c (r := 1) rfl) (fun m26 em26 => ?_)
        have km26 := k0.w1 em26
        refine gw_gRa 6 ((h.of km26).1.c (r := 1) rfl) ((h.of km26).1.r (by decide)) ?_
        refine gw_gRa 7 ((h.of km26).1.c (r := 1) rfl) ((h.of km26).1.r (by decide)) ?_
        refine gx_cp (by decide) ((h.of km26).1.t (r := 6) rfl) ((h.of km26).1.t (r := 7) rfl) ((h.of km26).1.l (r := 6) rfl) ((h.of km26).1.l (r := 7) rfl) (by omega) (by omega) (by omega) (by omega) (by omega) (fun m27 e1m27 e2m27 e3m27 e4m27 => ?_)
        have km27 := km26.cp e1m27 e2m27 e3m27 (by decide)
        exact gw_some (gq_V km27)
theorem sr_X11_arrange : ∀ (d : Nat) {m : gm_M} (h : CI m) {b1 b2 b3 : Int32}, 0 ≤ b1.toInt ∧ b1.toInt ≤ 5 → 5 - b1.toInt < d → gwV (r_X11_arrange d 1 b1 b2 b3 m) (fun m1 => kc m m1)
  | 0, m, h, b1, b2, b3, q0, q1 => by omega
  | d + 1, m, h, b1, b2, b3, q0, q1 => sb_X11_arrange d (fun h => sr_X11_arrange d h) h q0 (by omega)
theorem s_X11_arrange {μ : gm_M} (h : CI μ) {a1 a2 a3 : Int32} (q0 : 0 ≤ a1.toInt ∧ a1.toInt ≤ 5) : gwV (f_X11_arrange 1 a1 a2 a3 μ) (fun m => kc μ m) := sr_X11_arrange 64 h q0 (by omega)
set_option maxHeartbeats 1000000 in
theorem s_X11_of {μ : gm_M} (h : CI μ) {a1 : Int32} {a2 : Int32}  : gwI (f_X11_of 1 a1 a2 μ) (fun x m => kc μ m) := by
  refine gwI_of ?_
  unfold f_X11_of
  have lm1 : (-1 : Int32).toInt = -1 := rfl
  have l0 : (0 : Int32).toInt = 0 := rfl
  have l1 : (1 : Int32).toInt = 1 := rfl
  have l2 : (2 : Int32).toInt = 2 := rfl
  have l3 : (3 : Int32).toInt = 3 := rfl
  have l4 : (4 : Int32).toInt = 4 := rfl
  have l5 : (5 : Int32).toInt = 5 := rfl
  have l6 : (6 : Int32).toInt = 6 := rfl
  have l7 : (7 : Int32).toInt = 7 := rfl
  have l8 : (8 : Int32).toInt = 8 := rfl
  have l9 : (9 : Int32).toInt = 9 := rfl
  have l10 : (10 : Int32).toInt = 10 := rfl
  have k0 := kc.refl μ
  refine gw_if ((h.of k0).1.t (r := 1) rfl) ?_
  refine gw_bI (s_X11_isNobody (h.of k0) ) (fun x1 m1 ⟨z1, f1⟩ => ?_)
  replace z1 := z1.symm
  subst z1
  refine gw_eq (fun h5_2 => ?_) (fun h5_2 => ?_)
  ·
    refine gw_gRa 15 ((h.of k0).1.c (r := 1) rfl) ((h.of k0).1.r (by decide)) ?_
    refine gw_gRa 16 ((h.of k0).1.c (r := 15) rfl) ((h.of k0).1.r (by decide)) ?_
    refine gw_aR (i := a1) ((h.of k0).1.t (r := 16) rfl) ((h.of k0).1.l (r := 16) rfl) (by omega) (by omega) (fun v3 ev3 => ?_)
    have cv3 : isch v3 := by rw [ev3]; exact isch.of (h.of k0).1 (by omega) (by omega)
    refine gw_eq (fun h21_4 => ?_) (fun h21_4 => ?_)
    ·
      refine gw_gR (ict.c (h.of k0).1 (Or.inl cv3)) (fun v5 ev5 => ?_)
      have cv5 : kid v5 := by rw [ev5]; exact (h.of k0).kd (Or.inl cv3)
      refine gw_gI (kid.c (h.of k0).1 cv5) (fun v6 ev6 => ?_)
      exact gw_some (gq_I k0)
    ·
      refine gw_eq (fun h21_7 => ?_) (fun h21_7 => ?_)
      ·
        refine gw_gI (ict.c (h.of k0).1 (Or.inl cv3)) (fun v8 ev8 => ?_)
        exact gw_some (gq_I k0)
      ·
        refine gw_eq (fun h21_9 => ?_) (fun h21_9 => ?_)
        ·
          refine gw_gI (ict.c (h.of k0).1 (Or.inl cv3)) (fun v10 ev10 => ?_)
          exact gw_some (gq_I k0)
        ·
          refine gw_eq (fun h21_11 => ?_) (fun h21_11 => ?_)
          ·
            refine gw_gI (ict.c (h.of k0).1 (Or.inl cv3)) (fun v12 ev12 => ?_)
            exact gw_some (gq_I k0)
          ·
            refine gw_eq (fun h21_13 => ?_) (fun h21_13 => ?_)
            ·
              refine gw_gI (ict.c (h.of k0).1 (Or.inl cv3)) (fun v14 ev14 => ?_)
              exact gw_some (gq_I k0)
            ·
              refine gw_eq (fun h21_15 => ?_) (fun h21_15 => ?_)
              ·
                refine gw_gI (ict.c (h.of k0).1 (Or.inl cv3)) (fun v16 ev16 => ?_)
                exact gw_some (gq_I k0)
              ·
                refine gw_eq (fun h21_17 => ?_) (fun h21_17 => ?_)
                ·
                  refine gw_gI (ict.c (h.of k0).1 (Or.inl cv3)) (fun v18 ev18 => ?_)
                  exact gw_some (gq_I k0)
                ·
                  refine gw_eq (fun h21_19 => ?_) (fun h21_19 => ?_)
                  ·
                    refine gw_gRa 15 ((h.of k0).1.c (r := 1) rfl) ((h.of k0).1.r (by decide)) ?_
                    refine gw_gR ((h.of k0).1.c (r := 15) rfl) (fun v20 ev20 => ?_)
                    have cv20 : AfW μ v20 := by rw [ev20]; exact (h.of k0).af
                    refine gw_gRa 15 ((h.of k0).1.c (r := 1) rfl) ((h.of k0).1.r (by decide)) ?_
                    refine gw_gI ((h.of k0).1.c (r := 15) rfl) (fun v21 ev21 => ?_)
                    refine gw_if (cv20.t) ?_
                    refine gw_bI (s_X0_stretchOf (h.of k0) cv20 (Or.inl cv3)) (fun x22 m22 z22 => ?_)
                    replace z22 := z22.symm
                    subst z22
                    exact gw_some (gq_I k0)
                  ·
                    refine gw_eq (fun h21_23 => ?_) (fun h21_23 => ?_)
                    ·
                      refine gw_gR (ict.c (h.of k0).1 (Or.inl cv3)) (fun v24 ev24 => ?_)
                      have cv24 : kid v24 := by rw [ev24]; exact (h.of k0).kd (Or.inl cv3)
                      refine gw_gRa 15 ((h.of k0).1.c (r := 1) rfl) ((h.of k0).1.r (by decide)) ?_
                      refine gw_gI ((h.of k0).1.c (r := 15) rfl) (fun v25 ev25 => ?_)
                      refine gw_bI (s_fv_sugarChewed (h.of k0) cv24 (Or.inl cv3)) (fun x26 m26 z26 => ?_)
                      replace z26 := z26.symm
                      subst z26
                      exact gw_some (gq_I k0)
                    ·
                      refine gw_eq (fun h21_27 => ?_) (fun h21_27 => ?_)
                      ·
                        refine gw_gR (ict.c (h.of k0).1 (Or.inl cv3)) (fun v28 ev28 => ?_)
                        have cv28 : kid v28 := by rw [ev28]; exact (h.of k0).kd (Or.inl cv3)
                        refine gw_bI (s_fv_jawTired (h.of k0) cv28 (Or.inl cv3)) (fun x29 m29 z29 => ?_)
                        replace z29 := z29.symm
                        subst z29
                        exact gw_some (gq_I k0)
                      ·
                        refine gw_eq (fun h21_30 => ?_) (fun h21_30 => ?_)
                        ·
                          refine gw_if ((h.of k0).1.t (r := 1) rfl) ?_
                          refine gw_bI (s_X11_holdsNow (h.of k0) (by omega)) (fun x31 m31 z31 => ?_)
                          replace z31 := z31.symm
                          subst z31
                          exact gw_some (gq_I k0)
                        ·
                          exact gw_some (gq_I k0)
  ·
    exact gw_some (gq_I k0)
set_option maxHeartbeats 1000000 in
theorem s_X11_told {μ : gm_M} (h : CI μ) {a1 : Int32}  : gwI (f_X11_told 1 a1 μ) (fun x m => kc μ m) := by
  refine gwI_of ?_
  unfold f_X11_told
  have lm1 : (-1 : Int32).toInt = -1 := rfl
  have l0 : (0 : Int32).toInt = 0 := rfl
  have l1 : (1 : Int32).toInt = 1 := rfl
  have l2 : (2 : Int32).toInt = 2 := rfl
  have l3 : (3 : Int32).toInt = 3 := rfl
  have l4 : (4 : Int32).toInt = 4 := rfl
  have k0 := kc.refl μ
  refine gw_eq (fun h1_1 => ?_) (fun h1_1 => ?_)
  ·
    refine gw_gRa 15 ((h.of k0).1.c (r := 1) rfl) ((h.of k0).1.r (by decide)) ?_
    refine gw_gI ((h.of k0).1.c (r := 15) rfl) (fun v2 ev2 => ?_)
    exact gw_some (gq_I k0)
  ·
    refine gw_eq (fun h1_3 => ?_) (fun h1_3 => ?_)
    ·
      refine gw_gRa 15 ((h.of k0).1.c (r := 1) rfl) ((h.of k0).1.r (by decide)) ?_
      refine gw_gR ((h.of k0).1.c (r := 15) rfl) (fun v4 ev4 => ?_)
      have cv4 : AfW μ v4 := by rw [ev4]; exact (h.of k0).af
      refine gw_gI (cv4.tc) (fun v5 ev5 => ?_)
      exact gw_some (gq_I k0)
    ·
      refine gw_eq (fun h1_6 => ?_) (fun h1_6 => ?_)
      ·
        refine gw_gRa 15 ((h.of k0).1.c (r := 1) rfl) ((h.of k0).1.r (by decide)) ?_
        refine gw_gR ((h.of k0).1.c (r := 15) rfl) (fun v7 ev7 => ?_)
        have cv7 : AfW μ v7 := by rw [ev7]; exact (h.of k0).af
        refine gw_gI (cv7.tc) (fun v8 ev8 => ?_)
        exact gw_some (gq_I k0)
      ·
        refine gw_eq (fun h1_9 => ?_) (fun h1_9 => ?_)
        ·
          refine gw_if ((h.of k0).1.t (r := 1) rfl) ?_
          refine gw_bI (s_X11_sumBehind (h.of k0) (by omega)) (fun x10 m10 g10 => ?_)
          have kk10 := k0.trans g10
          exact gw_some (gq_I kk10)
        ·
          refine gw_eq (fun h1_11 => ?_) (fun h1_11 => ?_)
          ·
            refine gw_if ((h.of k0).1.t (r := 1) rfl) ?_
            refine gw_bI (s_X11_bubbleBits (h.of k0) ) (fun x12 m12 z12 => ?_)
            replace z12 := z12.symm
            subst z12
            exact gw_some (gq_I k0)
          ·
            exact gw_some (gq_I k0)
set_option maxHeartbeats 1000000 in
theorem s_X11_on {μ : gm_M} (h : CI μ) {a1 : Int32} {a2 : Int32}  : gwI (f_X11_on 1 a1 a2 μ) (fun x m => kc μ m) := by
  refine gwI_of ?_
  unfold f_X11_on
  have lm2 : (-2 : Int32).toInt = -2 := rfl
  have lm1 : (-1 : Int32).toInt = -1 := rfl
  have l0 : (0 : Int32).toInt = 0 := rfl
  have l10 : (10 : Int32).toInt = 10 := rfl
  have l20 : (20 : Int32).toInt = 20 := rfl
  have l60 : (60 : Int32).toInt = 60 := rfl
  have k0 := kc.refl μ
  refine gw_ji ?_
  refine gw_lt (fun h3_1 => ?_) (fun h3_1 => ?_)
  ·
    refine gw_ji ?_
    refine gw_eq (fun h19_2 => ?_) (fun h19_2 => ?_)
    ·
      refine gw_bI (s_X11_isOutside ) (fun x3 m3 ⟨z3, f3⟩ => ?_)
      replace z3 := z3.symm
      subst z3
      refine gw_eq (fun h39_4 => ?_) (fun h39_4 => ?_)
      ·
        refine gw_ne (fun h46_5 => ?_) (fun h46_5 => ?_)
        ·
          refine gw_if ((h.of k0).1.t (r := 1) rfl) ?_
          have n6 := gx_subw a2 (10 : Int32)
          have n6a := gx_lo a2
          have n6b := gx_hi a2
          have n6c := gx_lo (a2 - (10 : Int32))
          have n6d := gx_hi (a2 - (10 : Int32))
          refine gw_bI (s_X11_holdsBehind (h.of k0) (by omega) (by omega)) (fun x7 m7 g7 => ?_)
          have kk7 := k0.trans g7
          refine gw_lt (fun h66_8 => ?_) (fun h66_8 => ?_)
          ·
            exact gw_some (gq_I kk7)
          ·
            refine gw_gRa 63 ((h.of kk7).1.c (r := 1) rfl) ((h.of kk7).1.r (by decide)) ?_
            refine gw_gI (ict.c (h.of kk7).1 (Or.inr rfl)) (fun v9 ev9 => ?_)
            exact gw_some (gq_I kk7)
        ·
          refine gw_if ((h.of k0).1.t (r := 1) rfl) ?_
          refine gw_bI (s_X11_sumBehind (h.of k0) (by omega)) (fun x10 m10 g10 => ?_)
          have kk10 := k0.trans g10
          exact gw_some (gq_I kk10)
      ·
        exact gw_some (gq_I k0)
    ·
      refine gw_if ((h.of k0).1.t (r := 1) rfl) ?_
      have n11 := gx_subw a2 (10 : Int32)
      have n11a := gx_lo a2
      have n11b := gx_hi a2
      have n11c := gx_lo (a2 - (10 : Int32))
      have n11d := gx_hi (a2 - (10 : Int32))
      refine gw_bI (s_X11_isNobody (h.of k0) ) (fun x12 m12 ⟨z12, f12⟩ => ?_)
      replace z12 := z12.symm
      subst z12
      refine gw_eq (fun h27_13 => ?_) (fun h27_13 => ?_)
      ·
        refine gw_bI (s_X11_isOutside ) (fun x14 m14 ⟨z14, f14⟩ => ?_)
        replace z14 := z14.symm
        subst z14
        refine gw_eq (fun h39_15 => ?_) (fun h39_15 => ?_)
        ·
          refine gw_ne (fun h46_16 => ?_) (fun h46_16 => ?_)
          ·
            refine gw_if ((h.of k0).1.t (r := 1) rfl) ?_
            have n17 := gx_subw a2 (10 : Int32)
            have n17a := gx_lo a2
            have n17b := gx_hi a2
            have n17c := gx_lo (a2 - (10 : Int32))
            have n17d := gx_hi (a2 - (10 : Int32))
            refine gw_bI (s_X11_holdsBehind (h.of k0) (by omega) (by omega)) (fun x18 m18 g18 => ?_)
            have kk18 := k0.trans g18
            refine gw_lt (fun h66_19 => ?_) (fun h66_19 => ?_)
            ·
              exact gw_some (gq_I kk18)
            ·
              refine gw_gRa 63 ((h.of kk18).1.c (r := 1) rfl) ((h.of kk18).1.r (by decide)) ?_
              refine gw_gI (ict.c (h.of kk18).1 (Or.inr rfl)) (fun v20 ev20 => ?_)
              exact gw_some (gq_I kk18)
          ·
            refine gw_if ((h.of k0).1.t (r := 1) rfl) ?_
            refine gw_bI (s_X11_sumBehind (h.of k0) (by omega)) (fun x21 m21 g21 => ?_)
            have kk21 := k0.trans g21
            exact gw_some (gq_I kk21)
        ·
          exact gw_some (gq_I k0)
      ·
        exact gw_some (gq_I k0)
  ·
    refine gw_ji ?_
    refine gw_eq (fun h19_22 => ?_) (fun h19_22 => ?_)
    ·
      refine gw_bI (s_X11_isOutside ) (fun x23 m23 ⟨z23, f23⟩ => ?_)
      replace z23 := z23.symm
      subst z23
      refine gw_eq (fun h39_24 => ?_) (fun h39_24 => ?_)
      ·
        refine gw_ne (fun h46_25 => ?_) (fun h46_25 => ?_)
        ·
          refine gw_if ((h.of k0).1.t (r := 1) rfl) ?_
          have n26 := gx_subw a2 (20 : Int32)
          have n26a := gx_lo a2
          have n26b := gx_hi a2
          have n26c := gx_lo (a2 - (20 : Int32))
          have n26d := gx_hi (a2 - (20 : Int32))
          refine gw_bI (s_X11_holdsBehind (h.of k0) (by omega) (by omega)) (fun x27 m27 g27 => ?_)
          have kk27 := k0.trans g27
          refine gw_lt (fun h66_28 => ?_) (fun h66_28 => ?_)
          ·
            exact gw_some (gq_I kk27)
          ·
            refine gw_gRa 63 ((h.of kk27).1.c (r := 1) rfl) ((h.of kk27).1.r (by decide)) ?_
            refine gw_gI (ict.c (h.of kk27).1 (Or.inr rfl)) (fun v29 ev29 => ?_)
            exact gw_some (gq_I kk27)
        ·
          refine gw_if ((h.of k0).1.t (r := 1) rfl) ?_
          refine gw_bI (s_X11_sumBehind (h.of k0) (by omega)) (fun x30 m30 g30 => ?_)
          have kk30 := k0.trans g30
          exact gw_some (gq_I kk30)
      ·
        exact gw_some (gq_I k0)
    ·
      refine gw_if ((h.of k0).1.t (r := 1) rfl) ?_
      have n31 := gx_subw a2 (20 : Int32)
      have n31a := gx_lo a2
      have n31b := gx_hi a2
      have n31c := gx_lo (a2 - (20 : Int32))
      have n31d := gx_hi (a2 - (20 : Int32))
      refine gw_bI (s_X11_isNobody (h.of k0) ) (fun x32 m32 ⟨z32, f32⟩ => ?_)
      replace z32 := z32.symm
      subst z32
      refine gw_eq (fun h27_33 => ?_) (fun h27_33 => ?_)
      ·
        refine gw_bI (s_X11_isOutside ) (fun x34 m34 ⟨z34, f34⟩ => ?_)
        replace z34 := z34.symm
        subst z34
        refine gw_eq (fun h39_35 => ?_) (fun h39_35 => ?_)
        ·
          refine gw_ne (fun h46_36 => ?_) (fun h46_36 => ?_)
          ·
            refine gw_if ((h.of k0).1.t (r := 1) rfl) ?_
            have n37 := gx_subw a2 (20 : Int32)
            have n37a := gx_lo a2
            have n37b := gx_hi a2
            have n37c := gx_lo (a2 - (20 : Int32))
            have n37d := gx_hi (a2 - (20 : Int32))
            refine gw_bI (s_X11_holdsBehind (h.of k0) (by omega) (by omega)) (fun x38 m38 g38 => ?_)
            have kk38 := k0.trans g38
            refine gw_lt (fun h66_39 => ?_) (fun h66_39 => ?_)
            ·
              exact gw_some (gq_I kk38)
            ·
              refine gw_gRa 63 ((h.of kk38).1.c (r := 1) rfl) ((h.of kk38).1.r (by decide)) ?_
              refine gw_gI (ict.c (h.of kk38).1 (Or.inr rfl)) (fun v40 ev40 => ?_)
              exact gw_some (gq_I kk38)
          ·
            refine gw_if ((h.of k0).1.t (r := 1) rfl) ?_
            refine gw_bI (s_X11_sumBehind (h.of k0) (by omega)) (fun x41 m41 g41 => ?_)
            have kk41 := k0.trans g41
            exact gw_some (gq_I kk41)
        ·
          exact gw_some (gq_I k0)
      ·
        exact gw_some (gq_I k0)
set_option maxHeartbeats 1000000 in
theorem s_X11_when {μ : gm_M} (h : CI μ) {a1 : Int32} {a2 : Int32}  : gwI (f_X11_when 1 a1 a2 μ) (fun x m => kc μ m) := by
  refine gwI_of ?_
  unfold f_X11_when
  have lm1 : (-1 : Int32).toInt = -1 := rfl
  have l0 : (0 : Int32).toInt = 0 := rfl
  have l1 : (1 : Int32).toInt = 1 := rfl
  have k0 := kc.refl μ
  refine gw_if ((h.of k0).1.t (r := 1) rfl) ?_
  refine gw_bI (s_X11_isNobody (h.of k0) ) (fun x1 m1 ⟨z1, f1⟩ => ?_)
  replace z1 := z1.symm
  subst z1
  refine gw_ne (fun h5_2 => ?_) (fun h5_2 => ?_)
  ·
    exact gw_some (gq_I k0)
  ·
    refine gw_bI (s_X11_isOutside ) (fun x3 m3 ⟨z3, f3⟩ => ?_)
    replace z3 := z3.symm
    subst z3
    refine gw_eq (fun h14_4 => ?_) (fun h14_4 => ?_)
    ·
      refine gw_gRa 63 ((h.of k0).1.c (r := 1) rfl) ((h.of k0).1.r (by decide)) ?_
      refine gw_gRa 15 ((h.of k0).1.c (r := 1) rfl) ((h.of k0).1.r (by decide)) ?_
      refine gw_gRa 16 ((h.of k0).1.c (r := 15) rfl) ((h.of k0).1.r (by decide)) ?_
      refine gw_aR (i := a1) ((h.of k0).1.t (r := 16) rfl) ((h.of k0).1.l (r := 16) rfl) (by omega) (by omega) (fun v5 ev5 => ?_)
      have cv5 : isch v5 := by rw [ev5]; exact isch.of (h.of k0).1 (by omega) (by omega)
      refine gw_if (ict.t (h.of k0).1 (Or.inr rfl)) ?_
      refine gw_bV (s_X2_copy_63 (h.of k0) cv5) (fun m6 g6 => ?_)
      have kk6 := k0.trans g6
      refine gw_if ((h.of kk6).1.t (r := 1) rfl) ?_
      refine gw_bI (s_X11_trialWhen (h.of kk6) ) (fun x7 m7 g7 => ?_)
      have kk7 := kk6.trans g7
      exact gw_some (gq_I kk7)
    ·
      exact gw_some (gq_I k0)
set_option maxHeartbeats 1000000 in
theorem s_X11_soon {μ : gm_M} (h : CI μ) {a1 : Int32} {a2 : Int32}  : gwI (f_X11_soon 1 a1 a2 μ) (fun x m => kc μ m) := by
  refine gwI_of ?_
  unfold f_X11_soon
  have lm5 : (-5 : Int32).toInt = -5 := rfl
  have lm2 : (-2 : Int32).toInt = -2 := rfl
  have lm1 : (-1 : Int32).toInt = -1 := rfl
  have l0 : (0 : Int32).toInt = 0 := rfl
  have l1 : (1 : Int32).toInt = 1 := rfl
  have l60 : (60 : Int32).toInt = 60 := rfl
  have l999 : (999 : Int32).toInt = 999 := rfl
  have k0 := kc.refl μ
  refine gw_if ((h.of k0).1.t (r := 1) rfl) ?_
  refine gw_bI (s_X11_isNobody (h.of k0) ) (fun x1 m1 ⟨z1, f1⟩ => ?_)
  replace z1 := z1.symm
  subst z1
  refine gw_eq (fun h5_2 => ?_) (fun h5_2 => ?_)
  ·
    refine gw_bI (s_X11_isOutside ) (fun x3 m3 ⟨z3, f3⟩ => ?_)
    replace z3 := z3.symm
    subst z3
    refine gw_eq (fun h18_4 => ?_) (fun h18_4 => ?_)
    ·
      refine gw_gRa 63 ((h.of k0).1.c (r := 1) rfl) ((h.of k0).1.r (by decide)) ?_
      refine gw_gRa 15 ((h.of k0).1.c (r := 1) rfl) ((h.of k0).1.r (by decide)) ?_
      refine gw_gRa 16 ((h.of k0).1.c (r := 15) rfl) ((h.of k0).1.r (by decide)) ?_
      refine gw_aR (i := a1) ((h.of k0).1.t (r := 16) rfl) ((h.of k0).1.l (r := 16) rfl) (by omega) (by omega) (fun v5 ev5 => ?_)
      have cv5 : isch v5 := by rw [ev5]; exact isch.of (h.of k0).1 (by omega) (by omega)
      refine gw_if (ict.t (h.of k0).1 (Or.inr rfl)) ?_
      refine gw_bV (s_X2_copy_63 (h.of k0) cv5) (fun m6 g6 => ?_)
      have kk6 := k0.trans g6
      refine gw_loop (fun s7 => kc μ s7.2 ∧ (0 ≤ s7.1.toInt ∧ s7.1.toInt ≤ 61)) (fun s7 => (61 - s7.1.toInt)) (fun s7 ⟨k8, u9⟩ => ?_) 5000 ((0 : Int32), m6) ⟨kk6, (by show 0 ≤ (0 : Int32).toInt ∧ (0 : Int32).toInt ≤ 61; omega)⟩ (by show (61 - (0 : Int32).toInt) < ((5000 : Nat) : Int); omega) (by show 0 ≤ (61 - (0 : Int32).toInt); omega)
      refine gw_lt (fun h45_10 => ?_) (fun h45_10 => ?_)
      ·
        exact gw_some (gs_inr (gq_I k8))
      ·
        refine gw_gRa 63 ((h.of k8).1.c (r := 1) rfl) ((h.of k8).1.r (by decide)) ?_
        refine gw_gRa 15 ((h.of k8).1.c (r := 1) rfl) ((h.of k8).1.r (by decide)) ?_
        refine gw_gR ((h.of k8).1.c (r := 15) rfl) (fun v11 ev11 => ?_)
        have cv11 : AfW s7.2 v11 := by rw [ev11]; exact (h.of k8).af
        refine gw_gRa 15 ((h.of k8).1.c (r := 1) rfl) ((h.of k8).1.r (by decide)) ?_
        refine gw_gI ((h.of k8).1.c (r := 15) rfl) (fun v12 ev12 => ?_)
        refine gw_if (ict.t (h.of k8).1 (Or.inr rfl)) ?_
        refine gw_bI (s_X2_holds (h.of k8) (Or.inr rfl) cv11) (fun x13 m13 z13 => ?_)
        replace z13 := z13.symm
        subst z13
        refine gw_lt (fun h72_14 => ?_) (fun h72_14 => ?_)
        ·
          refine gw_gRa 63 ((h.of k8).1.c (r := 1) rfl) ((h.of k8).1.r (by decide)) ?_
          refine gw_gRa 15 ((h.of k8).1.c (r := 1) rfl) ((h.of k8).1.r (by decide)) ?_
          refine gw_gI ((h.of k8).1.c (r := 15) rfl) (fun v15 ev15 => ?_)
          refine gw_if (ict.t (h.of k8).1 (Or.inr rfl)) ?_
          refine gw_bV (s_X2_passMinute (h.of k8) (Or.inr rfl)) (fun m16 g16 => ?_)
          have kk16 := k8.ch g16
          have n17 : (s7.1 + (1 : Int32)).toInt = s7.1.toInt + (1 : Int32).toInt := gx_add (by omega) (by omega)
          exact gw_some (gs_inl ⟨kk16, (by show 0 ≤ (s7.1 + (1 : Int32)).toInt ∧ (s7.1 + (1 : Int32)).toInt ≤ 61; omega)⟩ (by show (61 - (s7.1 + (1 : Int32)).toInt) < (61 - s7.1.toInt); omega) (by show 0 ≤ (61 - (s7.1 + (1 : Int32)).toInt); omega))
        ·
          exact gw_some (gs_inr (gq_I k8))
    ·
      exact gw_some (gq_I k0)
  ·
    exact gw_some (gq_I k0)
set_option maxHeartbeats 1000000 in
theorem s_X11_pieces {μ : gm_M} (h : CI μ) {a1 : Int32} {a2 : Int32}  : gwI (f_X11_pieces 1 a1 a2 μ) (fun x m => kc μ m) := by
  refine gwI_of ?_
  unfold f_X11_pieces
  have lm1 : (-1 : Int32).toInt = -1 := rfl
  have l0 : (0 : Int32).toInt = 0 := rfl
  have l1 : (1 : Int32).toInt = 1 := rfl
  have l6 : (6 : Int32).toInt = 6 := rfl
  have k0 := kc.refl μ
  refine gw_if ((h.of k0).1.t (r := 1) rfl) ?_
  refine gw_bI (s_X11_isNobody (h.of k0) ) (fun x1 m1 ⟨z1, f1⟩ => ?_)
  replace z1 := z1.symm
  subst z1
  refine gw_ne (fun h5_2 => ?_) (fun h5_2 => ?_)
  ·
    exact gw_some (gq_I k0)
  ·
    refine gw_bI (s_X11_isOutside ) (fun x3 m3 ⟨z3, f3⟩ => ?_)
    replace z3 := z3.symm
    subst z3
    refine gw_eq (fun h14_4 => ?_) (fun h14_4 => ?_)
    ·
      refine gw_loop (fun s5 => kc μ s5.2.2.2 ∧ (0 ≤ s5.2.2.1.toInt ∧ s5.2.2.1.toInt ≤ 7)) (fun s5 => (7 - s5.2.2.1.toInt)) (fun s5 ⟨k6, u7⟩ => ?_) 5000 ((-1 : Int32), (0 : Int32), (0 : Int32), μ) ⟨k0, (by show 0 ≤ (0 : Int32).toInt ∧ (0 : Int32).toInt ≤ 7; omega)⟩ (by show (7 - (0 : Int32).toInt) < ((5000 : Nat) : Int); omega) (by show 0 ≤ (7 - (0 : Int32).toInt); omega)
      refine gw_lt (fun h31_8 => ?_) (fun h31_8 => ?_)
      ·
        refine gw_ne (fun h114_9 => ?_) (fun h114_9 => ?_)
        ·
          exact gw_some (gs_inr (gq_I k6))
        ·
          exact gw_some (gs_inr (gq_I k6))
      ·
        refine gw_gRa 63 ((h.of k6).1.c (r := 1) rfl) ((h.of k6).1.r (by decide)) ?_
        refine gw_gRa 15 ((h.of k6).1.c (r := 1) rfl) ((h.of k6).1.r (by decide)) ?_
        refine gw_gRa 16 ((h.of k6).1.c (r := 15) rfl) ((h.of k6).1.r (by decide)) ?_
        refine gw_aR (i := a1) ((h.of k6).1.t (r := 16) rfl) ((h.of k6).1.l (r := 16) rfl) (by omega) (by omega) (fun v10 ev10 => ?_)
        have cv10 : isch v10 := by rw [ev10]; exact isch.of (h.of k6).1 (by omega) (by omega)
        refine gw_if (ict.t (h.of k6).1 (Or.inr rfl)) ?_
        refine gw_bV (s_X2_copy_63 (h.of k6) cv10) (fun m11 g11 => ?_)
        have kk11 := k6.trans g11
        refine gw_gRa 63 ((h.of kk11).1.c (r := 1) rfl) ((h.of kk11).1.r (by decide)) ?_
        refine gw_pI (ict.c (h.of kk11).1 (Or.inr rfl)) (fun m12 em12 => ?_)
        have km12 := kk11.wr em12 (by decide)
        refine gw_gRa 63 ((h.of km12).1.c (r := 1) rfl) ((h.of km12).1.r (by decide)) ?_
        refine gw_gRa 15 ((h.of km12).1.c (r := 1) rfl) ((h.of km12).1.r (by decide)) ?_
        refine gw_gR ((h.of km12).1.c (r := 15) rfl) (fun v13 ev13 => ?_)
        have cv13 : AfW m12 v13 := by rw [ev13]; exact (h.of km12).af
        refine gw_gI (cv13.tc) (fun v14 ev14 => ?_)
        refine gw_pI (ict.c (h.of km12).1 (Or.inr rfl)) (fun m15 em15 => ?_)
        have km15 := km12.wr em15 (by decide)
        refine gw_gRa 63 ((h.of km15).1.c (r := 1) rfl) ((h.of km15).1.r (by decide)) ?_
        refine gw_pI (ict.c (h.of km15).1 (Or.inr rfl)) (fun m16 em16 => ?_)
        have km16 := km15.wr em16 (by decide)
        refine gw_if ((h.of km16).1.t (r := 1) rfl) ?_
        refine gw_bI (s_X11_trialWhen (h.of km16) ) (fun x17 m17 g17 => ?_)
        have kk17 := km16.trans g17
        refine gw_j (fun s18 => True) (fun s18 _ => ?_) (fun j19 hj19 => ?_)
        ·
          have n20 : (s5.2.2.1 + (1 : Int32)).toInt = s5.2.2.1.toInt + (1 : Int32).toInt := gx_add (by omega) (by omega)
          exact gw_some (gs_inl ⟨kk17, (by show 0 ≤ (s5.2.2.1 + (1 : Int32)).toInt ∧ (s5.2.2.1 + (1 : Int32)).toInt ≤ 7; omega)⟩ (by show (7 - (s5.2.2.1 + (1 : Int32)).toInt) < (7 - s5.2.2.1.toInt); omega) (by show 0 ≤ (7 - (s5.2.2.1 + (1 : Int32)).toInt); omega))
        ·
          refine gw_le (fun h97_21 => ?_) (fun h97_21 => ?_)
          ·
            exact hj19 _ trivial
          ·
            exact hj19 _ trivial
    ·
      exact gw_some (gq_I k0)
set_option maxHeartbeats 1000000 in
theorem s_X11_breaths {μ : gm_M} (h : CI μ) {a1 : Int32} {a2 : Int32}  : gwI (f_X11_breaths 1 a1 a2 μ) (fun x m => kc μ m) := by
  refine gwI_of ?_
  unfold f_X11_breaths
  have lm2 : (-2 : Int32).toInt = -2 := rfl
  have lm1 : (-1 : Int32).toInt = -1 := rfl
  have l0 : (0 : Int32).toInt = 0 := rfl
  have l1 : (1 : Int32).toInt = 1 := rfl
  have l99 : (99 : Int32).toInt = 99 := rfl
  have k0 := kc.refl μ
  refine gw_if ((h.of k0).1.t (r := 1) rfl) ?_
  refine gw_bI (s_X11_isNobody (h.of k0) ) (fun x1 m1 ⟨z1, f1⟩ => ?_)
  replace z1 := z1.symm
  subst z1
  refine gw_eq (fun h5_2 => ?_) (fun h5_2 => ?_)
  ·
    refine gw_bI (s_X11_isOutside ) (fun x3 m3 ⟨z3, f3⟩ => ?_)
    replace z3 := z3.symm
    subst z3
    refine gw_eq (fun h17_4 => ?_) (fun h17_4 => ?_)
    ·
      refine gw_if ((h.of k0).1.t (r := 1) rfl) ?_
      refine gw_bI (s_X11_holdsNow (h.of k0) (by omega)) (fun x5 m5 z5 => ?_)
      replace z5 := z5.symm
      subst z5
      refine gw_gRa 15 ((h.of k0).1.c (r := 1) rfl) ((h.of k0).1.r (by decide)) ?_
      refine gw_gRa 16 ((h.of k0).1.c (r := 15) rfl) ((h.of k0).1.r (by decide)) ?_
      refine gw_aR (i := a1) ((h.of k0).1.t (r := 16) rfl) ((h.of k0).1.l (r := 16) rfl) (by omega) (by omega) (fun v6 ev6 => ?_)
      have cv6 : isch v6 := by rw [ev6]; exact isch.of (h.of k0).1 (by omega) (by omega)
      refine gw_gI (ict.c (h.of k0).1 (Or.inl cv6)) (fun v7 ev7 => ?_)
      refine gw_dv (by omega) ?_
      exact gw_some (gq_I k0)
    ·
      exact gw_some (gq_I k0)
  ·
    exact gw_some (gq_I k0)
set_option maxHeartbeats 1000000 in
theorem s_X11_slack {μ : gm_M} (h : CI μ) {a1 : Int32}  : gwI (f_X11_slack 1 a1 μ) (fun x m => kc μ m) := by
  refine gwI_of ?_
  unfold f_X11_slack
  have lm10001 : (-10001 : Int32).toInt = -10001 := rfl
  have l0 : (0 : Int32).toInt = 0 := rfl
  have k0 := kc.refl μ
  refine gw_if ((h.of k0).1.t (r := 1) rfl) ?_
  refine gw_bI (s_X11_isNobody (h.of k0) ) (fun x1 m1 ⟨z1, f1⟩ => ?_)
  replace z1 := z1.symm
  subst z1
  refine gw_eq (fun h5_2 => ?_) (fun h5_2 => ?_)
  ·
    refine gw_if ((h.of k0).1.t (r := 1) rfl) ?_
    refine gw_bI (s_X11_holdsNow (h.of k0) (by omega)) (fun x3 m3 z3 => ?_)
    replace z3 := z3.symm
    subst z3
    refine gw_gRa 15 ((h.of k0).1.c (r := 1) rfl) ((h.of k0).1.r (by decide)) ?_
    refine gw_gRa 16 ((h.of k0).1.c (r := 15) rfl) ((h.of k0).1.r (by decide)) ?_
    refine gw_aR (i := a1) ((h.of k0).1.t (r := 16) rfl) ((h.of k0).1.l (r := 16) rfl) (by omega) (by omega) (fun v4 ev4 => ?_)
    have cv4 : isch v4 := by rw [ev4]; exact isch.of (h.of k0).1 (by omega) (by omega)
    refine gw_gI (ict.c (h.of k0).1 (Or.inl cv4)) (fun v5 ev5 => ?_)
    exact gw_some (gq_I k0)
  ·
    exact gw_some (gq_I k0)
set_option maxHeartbeats 1000000 in
theorem s_X11_likely {μ : gm_M} (h : CI μ) {a1 : Int32} {a2 : Int32} {a3 : Int32}  : gwL (f_X11_likely 1 a1 a2 a3 μ) (fun x m => kc μ m) := by
  refine gwL_of ?_
  unfold f_X11_likely
  have l0 : (0 : Int32).toInt = 0 := rfl
  have l1 : (1 : Int32).toInt = 1 := rfl
  have l10 : (10 : Int32).toInt = 10 := rfl
  have l999 : (999 : Int32).toInt = 999 := rfl
  have k0 := kc.refl μ
  refine gw_if ((h.of k0).1.t (r := 1) rfl) ?_
  refine gw_bI (s_X11_isNobody (h.of k0) ) (fun x1 m1 ⟨z1, f1⟩ => ?_)
  replace z1 := z1.symm
  subst z1
  refine gw_j (fun s2 => kc μ s2) (fun s2 k4 => ?_) (fun j3 hj3 => ?_)
  ·
    exact gw_some (gq_L k4)
  ·
    refine gw_ne (fun h5_5 => ?_) (fun h5_5 => ?_)
    ·
      exact hj3 _ k0
    ·
      refine gw_bI (s_X11_isOutside ) (fun x6 m6 ⟨z6, f6⟩ => ?_)
      replace z6 := z6.symm
      subst z6
      refine gw_ne (fun h16_7 => ?_) (fun h16_7 => ?_)
      ·
        exact hj3 _ k0
      ·
        refine gw_bI (s_X11_isOutside ) (fun x8 m8 ⟨z8, f8⟩ => ?_)
        replace z8 := z8.symm
        subst z8
        refine gw_eq (fun h25_9 => ?_) (fun h25_9 => ?_)
        ·
          refine gw_if ((h.of k0).1.t (r := 1) rfl) ?_
          refine gw_bI (s_X11_holdsNow (h.of k0) (by omega)) (fun x10 m10 z10 => ?_)
          replace z10 := z10.symm
          subst z10
          refine gw_bI (s_X11_thinsBearing ) (fun x11 m11 z11 => ?_)
          replace z11 := z11.symm
          subst z11
          refine gw_bL (s_X11_fraction ) (fun x12 m12 z12 => ?_)
          replace z12 := z12.symm
          subst z12
          exact gw_some (gq_L k0)
        ·
          exact hj3 _ k0
set_option maxHeartbeats 1000000 in
theorem s_X11_dare {μ : gm_M} (h : CI μ) {a1 : Int32}  : gwI (f_X11_dare 1 a1 μ) (fun x m => kc μ m) := by
  refine gwI_of ?_
  unfold f_X11_dare
  have lm1 : (-1 : Int32).toInt = -1 := rfl
  have l0 : (0 : Int32).toInt = 0 := rfl
  have l9 : (9 : Int32).toInt = 9 := rfl
  have l999 : (999 : Int32).toInt = 999 := rfl
  have k0 := kc.refl μ
  refine gw_if ((h.of k0).1.t (r := 1) rfl) ?_
  refine gw_bI (s_X11_isNobody (h.of k0) ) (fun x1 m1 ⟨z1, f1⟩ => ?_)
  replace z1 := z1.symm
  subst z1
  refine gw_eq (fun h5_2 => ?_) (fun h5_2 => ?_)
  ·
    refine gw_if ((h.of k0).1.t (r := 1) rfl) ?_
    refine gw_bI (s_X11_holdsNow (h.of k0) (by omega)) (fun x3 m3 z3 => ?_)
    replace z3 := z3.symm
    subst z3
    refine gw_loop (fun s4 => kc μ s4.2.2.2 ∧ (-1 ≤ s4.2.2.1.toInt ∧ s4.2.2.1.toInt ≤ 9)) (fun s4 => (s4.2.2.1.toInt + 1)) (fun s4 ⟨k5, u6⟩ => ?_) 5000 ((0 : Int32), (0 : Int32), (9 : Int32), μ) ⟨k0, (by show -1 ≤ (9 : Int32).toInt ∧ (9 : Int32).toInt ≤ 9; omega)⟩ (by show ((9 : Int32).toInt + 1) < ((5000 : Nat) : Int); omega) (by show 0 ≤ ((9 : Int32).toInt + 1); omega)
    refine gw_lt (fun h27_7 => ?_) (fun h27_7 => ?_)
    ·
      exact gw_some (gs_inr (gq_I k5))
    ·
      refine gw_bI (s_X11_thinned ) (fun x8 m8 z8 => ?_)
      replace z8 := z8.symm
      subst z8
      refine gw_bI (s_X11_thinsBearing ) (fun x9 m9 z9 => ?_)
      replace z9 := z9.symm
      subst z9
      refine gw_j (fun s10 => True) (fun s10 _ => ?_) (fun j11 hj11 => ?_)
      ·
        have n12 : (s4.2.2.1 + (-1 : Int32)).toInt = s4.2.2.1.toInt + (-1 : Int32).toInt := gx_add (by omega) (by omega)
        obtain ⟨w13, hw13⟩ : ∃ w : Int32, w = (s4.2.2.1 + (-1 : Int32)) := ⟨_, rfl⟩
        rw [← hw13]
        rw [← hw13] at n12
        exact gw_some (gs_inl ⟨k5, (by show -1 ≤ w13.toInt ∧ w13.toInt ≤ 9; omega)⟩ (by show (w13.toInt + 1) < (s4.2.2.1.toInt + 1); omega) (by show 0 ≤ (w13.toInt + 1); omega))
      ·
        refine gw_le (fun h58_14 => ?_) (fun h58_14 => ?_)
        ·
          exact hj11 _ trivial
        ·
          exact hj11 _ trivial
  ·
    exact gw_some (gq_I k0)
set_option maxHeartbeats 1000000 in
theorem s_X11_first {μ : gm_M} (h : CI μ)   : gwI (f_X11_first 1 μ) (fun x m => kc μ m) := by
  refine gwI_of ?_
  unfold f_X11_first
  have lm5 : (-5 : Int32).toInt = -5 := rfl
  have lm1 : (-1 : Int32).toInt = -1 := rfl
  have l0 : (0 : Int32).toInt = 0 := rfl
  have l1 : (1 : Int32).toInt = 1 := rfl
  have k0 := kc.refl μ
  refine gw_loop (fun s1 => kc μ s1.2.2.2 ∧ (0 ≤ s1.2.2.1.toInt ∧ s1.2.2.1.toInt ≤ 5)) (fun s1 => (5 - s1.2.2.1.toInt)) (fun s1 ⟨k2, u3⟩ => ?_) 5000 ((-5 : Int32), (-1 : Int32), (0 : Int32), μ) ⟨k0, (by show 0 ≤ (0 : Int32).toInt ∧ (0 : Int32).toInt ≤ 5; omega)⟩ (by show (5 - (0 : Int32).toInt) < ((5000 : Nat) : Int); omega) (by show 0 ≤ (5 - (0 : Int32).toInt); omega)
  refine gw_gRa 15 ((h.of k2).1.c (r := 1) rfl) ((h.of k2).1.r (by decide)) ?_
  refine gw_gI ((h.of k2).1.c (r := 15) rfl) (fun v4 ev4 => ?_)
  have bv4 := (h.of k2).n1
  have dv4 : v4.toInt = (s1.2.2.2.2.1 15 1).toInt := by rw [ev4]
  have yv4 : v4.toInt = (μ.2.1 15 1).toInt := by rw [dv4, k2.row (by decide)]
  refine gw_le (fun h15_5 => ?_) (fun h15_5 => ?_)
  ·
    exact gw_some (gs_inr (gq_I k2))
  ·
    refine gw_if ((h.of k2).1.t (r := 1) rfl) ?_
    refine gw_bI (s_X11_holdsNow (h.of k2) (by omega)) (fun x6 m6 z6 => ?_)
    replace z6 := z6.symm
    subst z6
    refine gw_j (fun s7 => True) (fun s7 _ => ?_) (fun j8 hj8 => ?_)
    ·
      have n9 : (s1.2.2.1 + (1 : Int32)).toInt = s1.2.2.1.toInt + (1 : Int32).toInt := gx_add (by omega) (by omega)
      exact gw_some (gs_inl ⟨k2, (by show 0 ≤ (s1.2.2.1 + (1 : Int32)).toInt ∧ (s1.2.2.1 + (1 : Int32)).toInt ≤ 5; omega)⟩ (by show (5 - (s1.2.2.1 + (1 : Int32)).toInt) < (5 - s1.2.2.1.toInt); omega) (by show 0 ≤ (5 - (s1.2.2.1 + (1 : Int32)).toInt); omega))
    ·
      refine gw_le (fun h28_10 => ?_) (fun h28_10 => ?_)
      ·
        exact hj8 _ trivial
      ·
        exact hj8 _ trivial
set_option maxHeartbeats 1000000 in
theorem s_X11_beats {μ : gm_M} (h : CI μ) {a1 : Int32} {a2 : Int32} {a3 : Int32}  : gwL (f_X11_beats 1 a1 a2 a3 μ) (fun x m => kc μ m) := by
  refine gwL_of ?_
  unfold f_X11_beats
  have l0 : (0 : Int32).toInt = 0 := rfl
  have l1 : (1 : Int32).toInt = 1 := rfl
  have l10 : (10 : Int32).toInt = 10 := rfl
  have l100 : (100 : Int32).toInt = 100 := rfl
  have k0 := kc.refl μ
  refine gw_if ((h.of k0).1.t (r := 1) rfl) ?_
  refine gw_bI (s_X11_isNobody (h.of k0) ) (fun x1 m1 ⟨z1, f1⟩ => ?_)
  replace z1 := z1.symm
  subst z1
  refine gw_j (fun s2 => kc μ s2) (fun s2 k4 => ?_) (fun j3 hj3 => ?_)
  ·
    exact gw_some (gq_L k4)
  ·
    refine gw_ne (fun h5_5 => ?_) (fun h5_5 => ?_)
    ·
      exact hj3 _ k0
    ·
      refine gw_if ((h.of k0).1.t (r := 1) rfl) ?_
      refine gw_bI (s_X11_isNobody (h.of k0) ) (fun x6 m6 ⟨z6, f6⟩ => ?_)
      replace z6 := z6.symm
      subst z6
      refine gw_ne (fun h13_7 => ?_) (fun h13_7 => ?_)
      ·
        exact hj3 _ k0
      ·
        refine gw_bI (s_X11_isOutside ) (fun x8 m8 ⟨z8, f8⟩ => ?_)
        replace z8 := z8.symm
        subst z8
        refine gw_ne (fun h22_9 => ?_) (fun h22_9 => ?_)
        ·
          exact hj3 _ k0
        ·
          refine gw_ne (fun h27_10 => ?_) (fun h27_10 => ?_)
          ·
            refine gw_if ((h.of k0).1.t (r := 1) rfl) ?_
            refine gw_bI (s_X11_holdsNow (h.of k0) (by omega)) (fun x11 m11 z11 => ?_)
            replace z11 := z11.symm
            subst z11
            refine gw_if ((h.of k0).1.t (r := 1) rfl) ?_
            refine gw_bI (s_X11_holdsNow (h.of k0) (by omega)) (fun x12 m12 z12 => ?_)
            replace z12 := z12.symm
            subst z12
            refine gw_loop (fun s13 => kc μ s13.2.2 ∧ (0 ≤ s13.2.1.toInt ∧ s13.2.1.toInt ≤ 10)) (fun s13 => (10 - s13.2.1.toInt)) (fun s13 ⟨k14, u15⟩ => ?_) 5000 ((0 : Int32), (0 : Int32), μ) ⟨k0, (by show 0 ≤ (0 : Int32).toInt ∧ (0 : Int32).toInt ≤ 10; omega)⟩ (by show (10 - (0 : Int32).toInt) < ((5000 : Nat) : Int); omega) (by show 0 ≤ (10 - (0 : Int32).toInt); omega)
            refine gw_le (fun h58_16 => ?_) (fun h58_16 => ?_)
            ·
              refine gw_bL (s_X11_fraction ) (fun x17 m17 z17 => ?_)
              replace z17 := z17.symm
              subst z17
              exact gw_some (gs_inr (gq_L k14))
            ·
              refine gw_bI (s_X11_thinned ) (fun x18 m18 z18 => ?_)
              replace z18 := z18.symm
              subst z18
              refine gw_bI (s_X11_thinsBelow ) (fun x19 m19 z19 => ?_)
              replace z19 := z19.symm
              subst z19
              have n20 : (s13.2.1 + (1 : Int32)).toInt = s13.2.1.toInt + (1 : Int32).toInt := gx_add (by omega) (by omega)
              exact gw_some (gs_inl ⟨k14, (by show 0 ≤ (s13.2.1 + (1 : Int32)).toInt ∧ (s13.2.1 + (1 : Int32)).toInt ≤ 10; omega)⟩ (by show (10 - (s13.2.1 + (1 : Int32)).toInt) < (10 - s13.2.1.toInt); omega) (by show 0 ≤ (10 - (s13.2.1 + (1 : Int32)).toInt); omega))
          ·
            exact hj3 _ k0
set_option maxHeartbeats 1000000 in
theorem s_X11_swap {μ : gm_M} (h : CI μ)   : gwI (f_X11_swap 1 μ) (fun x m => kc μ m) := by
  refine gwI_of ?_
  unfold f_X11_swap
  have lm5 : (-5 : Int32).toInt = -5 := rfl
  have l0 : (0 : Int32).toInt = 0 := rfl
  have l1 : (1 : Int32).toInt = 1 := rfl
  have l10 : (10 : Int32).toInt = 10 := rfl
  have k0 := kc.refl μ
  refine gw_loop (fun s1 => kc μ s1.2.2.2 ∧ (0 ≤ s1.2.2.1.toInt ∧ s1.2.2.1.toInt ≤ 5)) (fun s1 => (5 - s1.2.2.1.toInt)) (fun s1 ⟨k2, u3⟩ => ?_) 5000 ((0 : Int32), (-5 : Int32), (0 : Int32), μ) ⟨k0, (by show 0 ≤ (0 : Int32).toInt ∧ (0 : Int32).toInt ≤ 5; omega)⟩ (by show (5 - (0 : Int32).toInt) < ((5000 : Nat) : Int); omega) (by show 0 ≤ (5 - (0 : Int32).toInt); omega)
  refine gw_gRa 15 ((h.of k2).1.c (r := 1) rfl) ((h.of k2).1.r (by decide)) ?_
  refine gw_gI ((h.of k2).1.c (r := 15) rfl) (fun v4 ev4 => ?_)
  have bv4 := (h.of k2).n1
  have dv4 : v4.toInt = (s1.2.2.2.2.1 15 1).toInt := by rw [ev4]
  have yv4 : v4.toInt = (μ.2.1 15 1).toInt := by rw [dv4, k2.row (by decide)]
  refine gw_le (fun h15_5 => ?_) (fun h15_5 => ?_)
  ·
    exact gw_some (gs_inr (gq_I k2))
  ·
    have n7 : (s1.2.2.1 + (1 : Int32)).toInt = s1.2.2.1.toInt + (1 : Int32).toInt := gx_add (by omega) (by omega)
    refine gw_loop (fun s6 => kc μ s6.2.2.2 ∧ (0 ≤ s6.2.2.1.toInt ∧ s6.2.2.1.toInt ≤ 5)) (fun s6 => (5 - s6.2.2.1.toInt)) (fun s6 ⟨k8, u9⟩ => ?_) 5000 (s1.1, s1.2.1, (s1.2.2.1 + (1 : Int32)), s1.2.2.2) ⟨k2, (by show 0 ≤ (s1.2.2.1 + (1 : Int32)).toInt ∧ (s1.2.2.1 + (1 : Int32)).toInt ≤ 5; omega)⟩ (by show (5 - (s1.2.2.1 + (1 : Int32)).toInt) < ((5000 : Nat) : Int); omega) (by show 0 ≤ (5 - (s1.2.2.1 + (1 : Int32)).toInt); omega)
    refine gw_gRa 15 ((h.of k8).1.c (r := 1) rfl) ((h.of k8).1.r (by decide)) ?_
    refine gw_gI ((h.of k8).1.c (r := 15) rfl) (fun v10 ev10 => ?_)
    have bv10 := (h.of k8).n1
    have dv10 : v10.toInt = (s6.2.2.2.2.1 15 1).toInt := by rw [ev10]
    have yv10 : v10.toInt = (μ.2.1 15 1).toInt := by rw [dv10, k8.row (by decide)]
    refine gw_le (fun h32_11 => ?_) (fun h32_11 => ?_)
    ·
      have n12 : (s1.2.2.1 + (1 : Int32)).toInt = s1.2.2.1.toInt + (1 : Int32).toInt := gx_add (by omega) (by omega)
      exact gw_some (gs_inr (gs_inl ⟨k8, (by show 0 ≤ (s1.2.2.1 + (1 : Int32)).toInt ∧ (s1.2.2.1 + (1 : Int32)).toInt ≤ 5; omega)⟩ (by show (5 - (s1.2.2.1 + (1 : Int32)).toInt) < (5 - s1.2.2.1.toInt); omega) (by show 0 ≤ (5 - (s1.2.2.1 + (1 : Int32)).toInt); omega)))
    ·
      refine gw_if ((h.of k8).1.t (r := 1) rfl) ?_
      refine gw_bI (s_X11_holdsWithGumOf (h.of k8) (by omega) (by omega)) (fun x13 m13 g13 => ?_)
      have kk13 := k8.trans g13
      refine gw_if ((h.of kk13).1.t (r := 1) rfl) ?_
      refine gw_bI (s_X11_holdsWithGumOf (h.of kk13) (by omega) (by omega)) (fun x14 m14 g14 => ?_)
      have kk14 := kk13.trans g14
      refine gw_if ((h.of kk14).1.t (r := 1) rfl) ?_
      refine gw_bI (s_X11_holdsNow (h.of kk14) (by omega)) (fun x15 m15 z15 => ?_)
      replace z15 := z15.symm
      subst z15
      refine gw_if ((h.of kk14).1.t (r := 1) rfl) ?_
      refine gw_bI (s_X11_holdsNow (h.of kk14) (by omega)) (fun x16 m16 z16 => ?_)
      replace z16 := z16.symm
      subst z16
      refine gw_j (fun s17 => True) (fun s17 _ => ?_) (fun j18 hj18 => ?_)
      ·
        have n19 : (s6.2.2.1 + (1 : Int32)).toInt = s6.2.2.1.toInt + (1 : Int32).toInt := gx_add (by omega) (by omega)
        exact gw_some (gs_inl ⟨kk14, (by show 0 ≤ (s6.2.2.1 + (1 : Int32)).toInt ∧ (s6.2.2.1 + (1 : Int32)).toInt ≤ 5; omega)⟩ (by show (5 - (s6.2.2.1 + (1 : Int32)).toInt) < (5 - s6.2.2.1.toInt); omega) (by show 0 ≤ (5 - (s6.2.2.1 + (1 : Int32)).toInt); omega))
      ·
        refine gw_le (fun h68_20 => ?_) (fun h68_20 => ?_)
        ·
          exact hj18 _ trivial
        ·
          exact hj18 _ trivial
set_option maxHeartbeats 1000000 in
theorem s_X11_order {μ : gm_M} (h : CI μ) {a1 : Int32}  : gwI (f_X11_order 1 a1 μ) (fun x m => kc μ m) := by
  refine gwI_of ?_
  unfold f_X11_order
  have lm5 : (-5 : Int32).toInt = -5 := rfl
  have lm1 : (-1 : Int32).toInt = -1 := rfl
  have l0 : (0 : Int32).toInt = 0 := rfl
  have l1 : (1 : Int32).toInt = 1 := rfl
  have l4 : (4 : Int32).toInt = 4 := rfl
  have k0 := kc.refl μ
  refine gw_bI (s_X11_isOutside ) (fun x1 m1 ⟨z1, f1⟩ => ?_)
  replace z1 := z1.symm
  subst z1
  refine gw_eq (fun h6_2 => ?_) (fun h6_2 => ?_)
  ·
    refine gw_gRa 15 ((h.of k0).1.c (r := 1) rfl) ((h.of k0).1.r (by decide)) ?_
    refine gw_gI ((h.of k0).1.c (r := 15) rfl) (fun v3 ev3 => ?_)
    have bv3 := (h.of k0).n1
    have dv3 : v3.toInt = (μ.2.1 15 1).toInt := by rw [ev3]
    refine gw_lt (fun h19_4 => ?_) (fun h19_4 => ?_)
    ·
      refine gw_loop (fun s5 => kc μ s5.2 ∧ (0 ≤ s5.1.toInt ∧ s5.1.toInt ≤ 5)) (fun s5 => (5 - s5.1.toInt)) (fun s5 ⟨k6, u7⟩ => ?_) 5000 ((0 : Int32), μ) ⟨k0, (by show 0 ≤ (0 : Int32).toInt ∧ (0 : Int32).toInt ≤ 5; omega)⟩ (by show (5 - (0 : Int32).toInt) < ((5000 : Nat) : Int); omega) (by show 0 ≤ (5 - (0 : Int32).toInt); omega)
      refine gw_gRa 15 ((h.of k6).1.c (r := 1) rfl) ((h.of k6).1.r (by decide)) ?_
      refine gw_gI ((h.of k6).1.c (r := 15) rfl) (fun v8 ev8 => ?_)
      have bv8 := (h.of k6).n1
      have dv8 : v8.toInt = (s5.2.2.1 15 1).toInt := by rw [ev8]
      have yv8 : v8.toInt = (μ.2.1 15 1).toInt := by rw [dv8, k6.row (by decide)]
      refine gw_le (fun h35_9 => ?_) (fun h35_9 => ?_)
      ·
        refine gw_pI ((h.of k6).1.c (r := 1) rfl) (fun m10 em10 => ?_)
        have km10 := k6.w1 em10
        refine gw_if ((h.of km10).1.t (r := 1) rfl) ?_
        refine gw_bV (s_X11_arrange (h.of km10) (by omega)) (fun m11 g11 => ?_)
        have kk11 := km10.trans g11
        refine gw_le (fun h62_12 => ?_) (fun h62_12 => ?_)
        ·
          refine gw_gRa 7 ((h.of kk11).1.c (r := 1) rfl) ((h.of kk11).1.r (by decide)) ?_
          refine gw_aI (i := a1) ((h.of kk11).1.t (r := 7) rfl) ((h.of kk11).1.l (r := 7) rfl) (by omega) (by omega) (fun v13 ev13 => ?_)
          exact gw_some (gs_inr (gq_I kk11))
        ·
          refine gw_gI ((h.of kk11).1.c (r := 1) rfl) (fun v14 ev14 => ?_)
          exact gw_some (gs_inr (gq_I kk11))
      ·
        refine gw_if ((h.of k6).1.t (r := 1) rfl) ?_
        refine gw_bV (s_X11_fillBehind (h.of k6) (by omega)) (fun m15 g15 => ?_)
        have kk15 := k6.trans g15
        have n16 : (s5.1 + (1 : Int32)).toInt = s5.1.toInt + (1 : Int32).toInt := gx_add (by omega) (by omega)
        exact gw_some (gs_inl ⟨kk15, (by show 0 ≤ (s5.1 + (1 : Int32)).toInt ∧ (s5.1 + (1 : Int32)).toInt ≤ 5; omega)⟩ (by show (5 - (s5.1 + (1 : Int32)).toInt) < (5 - s5.1.toInt); omega) (by show 0 ≤ (5 - (s5.1 + (1 : Int32)).toInt); omega))
    ·
      exact gw_some (gq_I k0)
  ·
    exact gw_some (gq_I k0)
set_option maxHeartbeats 1000000 in
theorem s_X11_clean {μ : gm_M} (h : CI μ) {a1 : Int32} {a2 : Int32}  : gwI (f_X11_clean 1 a1 a2 μ) (fun x m => kc μ m) := by
  refine gwI_of ?_
  unfold f_X11_clean
  have lm2 : (-2 : Int32).toInt = -2 := rfl
  have lm1 : (-1 : Int32).toInt = -1 := rfl
  have l0 : (0 : Int32).toInt = 0 := rfl
  have l1 : (1 : Int32).toInt = 1 := rfl
  have l99 : (99 : Int32).toInt = 99 := rfl
  have k0 := kc.refl μ
  refine gw_if ((h.of k0).1.t (r := 1) rfl) ?_
  refine gw_bI (s_X11_isNobody (h.of k0) ) (fun x1 m1 ⟨z1, f1⟩ => ?_)
  replace z1 := z1.symm
  subst z1
  refine gw_eq (fun h5_2 => ?_) (fun h5_2 => ?_)
  ·
    refine gw_bI (s_X11_isOutside ) (fun x3 m3 ⟨z3, f3⟩ => ?_)
    replace z3 := z3.symm
    subst z3
    refine gw_eq (fun h17_4 => ?_) (fun h17_4 => ?_)
    ·
      refine gw_gRa 15 ((h.of k0).1.c (r := 1) rfl) ((h.of k0).1.r (by decide)) ?_
      refine gw_gRa 16 ((h.of k0).1.c (r := 15) rfl) ((h.of k0).1.r (by decide)) ?_
      refine gw_aR (i := a1) ((h.of k0).1.t (r := 16) rfl) ((h.of k0).1.l (r := 16) rfl) (by omega) (by omega) (fun v5 ev5 => ?_)
      have cv5 : isch v5 := by rw [ev5]; exact isch.of (h.of k0).1 (by omega) (by omega)
      refine gw_gI (ict.c (h.of k0).1 (Or.inl cv5)) (fun v6 ev6 => ?_)
      refine gw_dv (by omega) ?_
      exact gw_some (gq_I k0)
    ·
      exact gw_some (gq_I k0)
  ·
    exact gw_some (gq_I k0)
set_option maxHeartbeats 1000000 in
theorem s_X11_who {μ : gm_M} (h : CI μ) {a1 : Int32} {a2 : Int32}  : gwI (f_X11_who 1 a1 a2 μ) (fun x m => kc μ m) := by
  refine gwI_of ?_
  unfold f_X11_who
  have lm2 : (-2 : Int32).toInt = -2 := rfl
  have l0 : (0 : Int32).toInt = 0 := rfl
  have l1 : (1 : Int32).toInt = 1 := rfl
  have l40 : (40 : Int32).toInt = 40 := rfl
  have l999 : (999 : Int32).toInt = 999 := rfl
  have k0 := kc.refl μ
  refine gw_bI (s_X11_isOutside ) (fun x1 m1 ⟨z1, f1⟩ => ?_)
  replace z1 := z1.symm
  subst z1
  refine gw_ne (fun h8_2 => ?_) (fun h8_2 => ?_)
  ·
    exact gw_some (gq_I k0)
  ·
    refine gw_bI (s_X11_isOutside ) (fun x3 m3 ⟨z3, f3⟩ => ?_)
    replace z3 := z3.symm
    subst z3
    refine gw_eq (fun h18_4 => ?_) (fun h18_4 => ?_)
    ·
      refine gw_loop (fun s5 => kc μ s5.2.2 ∧ (0 ≤ s5.2.1.toInt ∧ s5.2.1.toInt ≤ 5)) (fun s5 => (5 - s5.2.1.toInt)) (fun s5 ⟨k6, u7⟩ => ?_) 5000 ((0 : Int32), (0 : Int32), μ) ⟨k0, (by show 0 ≤ (0 : Int32).toInt ∧ (0 : Int32).toInt ≤ 5; omega)⟩ (by show (5 - (0 : Int32).toInt) < ((5000 : Nat) : Int); omega) (by show 0 ≤ (5 - (0 : Int32).toInt); omega)
      refine gw_gRa 15 ((h.of k6).1.c (r := 1) rfl) ((h.of k6).1.r (by decide)) ?_
      refine gw_gI ((h.of k6).1.c (r := 15) rfl) (fun v8 ev8 => ?_)
      have bv8 := (h.of k6).n1
      have dv8 : v8.toInt = (s5.2.2.2.1 15 1).toInt := by rw [ev8]
      have yv8 : v8.toInt = (μ.2.1 15 1).toInt := by rw [dv8, k6.row (by decide)]
      refine gw_le (fun h38_9 => ?_) (fun h38_9 => ?_)
      ·
        exact gw_some (gs_inr (gq_I k6))
      ·
        refine gw_if ((h.of k6).1.t (r := 1) rfl) ?_
        refine gw_bI (s_X11_holdsBehind (h.of k6) (by omega) (by omega)) (fun x10 m10 g10 => ?_)
        have kk10 := k6.trans g10
        refine gw_j (fun s11 => True) (fun s11 _ => ?_) (fun j12 hj12 => ?_)
        ·
          have n13 : (s5.2.1 + (1 : Int32)).toInt = s5.2.1.toInt + (1 : Int32).toInt := gx_add (by omega) (by omega)
          exact gw_some (gs_inl ⟨kk10, (by show 0 ≤ (s5.2.1 + (1 : Int32)).toInt ∧ (s5.2.1 + (1 : Int32)).toInt ≤ 5; omega)⟩ (by show (5 - (s5.2.1 + (1 : Int32)).toInt) < (5 - s5.2.1.toInt); omega) (by show 0 ≤ (5 - (s5.2.1 + (1 : Int32)).toInt); omega))
        ·
          refine gw_ne (fun h49_14 => ?_) (fun h49_14 => ?_)
          ·
            exact hj12 _ trivial
          ·
            exact hj12 _ trivial
    ·
      exact gw_some (gq_I k0)
set_option maxHeartbeats 1000000 in
theorem s_X11_firm {μ : gm_M} (h : CI μ) {a1 : Int32} {a2 : Int32}  : gwI (f_X11_firm 1 a1 a2 μ) (fun x m => kc μ m) := by
  refine gwI_of ?_
  unfold f_X11_firm
  have lm5 : (-5 : Int32).toInt = -5 := rfl
  have lm1 : (-1 : Int32).toInt = -1 := rfl
  have l0 : (0 : Int32).toInt = 0 := rfl
  have l1 : (1 : Int32).toInt = 1 := rfl
  have l9 : (9 : Int32).toInt = 9 := rfl
  have k0 := kc.refl μ
  refine gw_if ((h.of k0).1.t (r := 1) rfl) ?_
  refine gw_bI (s_X11_isNobody (h.of k0) ) (fun x1 m1 ⟨z1, f1⟩ => ?_)
  replace z1 := z1.symm
  subst z1
  refine gw_ne (fun h5_2 => ?_) (fun h5_2 => ?_)
  ·
    exact gw_some (gq_I k0)
  ·
    refine gw_bI (s_X11_isOutside ) (fun x3 m3 ⟨z3, f3⟩ => ?_)
    replace z3 := z3.symm
    subst z3
    refine gw_eq (fun h14_4 => ?_) (fun h14_4 => ?_)
    ·
      refine gw_loop (fun s5 => kc μ s5.2.2.2 ∧ (-1 ≤ s5.2.2.1.toInt ∧ s5.2.2.1.toInt ≤ 9)) (fun s5 => (s5.2.2.1.toInt + 1)) (fun s5 ⟨k6, u7⟩ => ?_) 5000 ((0 : Int32), (-5 : Int32), (9 : Int32), μ) ⟨k0, (by show -1 ≤ (9 : Int32).toInt ∧ (9 : Int32).toInt ≤ 9; omega)⟩ (by show ((9 : Int32).toInt + 1) < ((5000 : Nat) : Int); omega) (by show 0 ≤ ((9 : Int32).toInt + 1); omega)
      refine gw_lt (fun h31_8 => ?_) (fun h31_8 => ?_)
      ·
        refine gw_ne (fun h70_9 => ?_) (fun h70_9 => ?_)
        ·
          exact gw_some (gs_inr (gq_I k6))
        ·
          exact gw_some (gs_inr (gq_I k6))
      ·
        refine gw_gRa 15 ((h.of k6).1.c (r := 1) rfl) ((h.of k6).1.r (by decide)) ?_
        refine gw_gRa 16 ((h.of k6).1.c (r := 15) rfl) ((h.of k6).1.r (by decide)) ?_
        refine gw_aR (i := a1) ((h.of k6).1.t (r := 16) rfl) ((h.of k6).1.l (r := 16) rfl) (by omega) (by omega) (fun v10 ev10 => ?_)
        have cv10 : isch v10 := by rw [ev10]; exact isch.of (h.of k6).1 (by omega) (by omega)
        refine gw_gI (ict.c (h.of k6).1 (Or.inl cv10)) (fun v11 ev11 => ?_)
        refine gw_if ((h.of k6).1.t (r := 1) rfl) ?_
        refine gw_bI (s_X11_isAllSeen (h.of k6) ) (fun x12 m12 ⟨g12, f12⟩ => ?_)
        have kk12 := k6.trans g12
        refine gw_j (fun s13 => True) (fun s13 _ => ?_) (fun j14 hj14 => ?_)
        ·
          have n15 : (s5.2.2.1 + (-1 : Int32)).toInt = s5.2.2.1.toInt + (-1 : Int32).toInt := gx_add (by omega) (by omega)
          obtain ⟨w16, hw16⟩ : ∃ w : Int32, w = (s5.2.2.1 + (-1 : Int32)) := ⟨_, rfl⟩
          rw [← hw16]
          rw [← hw16] at n15
          exact gw_some (gs_inl ⟨kk12, (by show -1 ≤ w16.toInt ∧ w16.toInt ≤ 9; omega)⟩ (by show (w16.toInt + 1) < (s5.2.2.1.toInt + 1); omega) (by show 0 ≤ (w16.toInt + 1); omega))
        ·
          refine gw_eq (fun h53_17 => ?_) (fun h53_17 => ?_)
          ·
            exact hj14 _ trivial
          ·
            exact hj14 _ trivial
    ·
      exact gw_some (gq_I k0)
set_option maxHeartbeats 1000000 in
theorem s_X11_had {μ : gm_M} (h : CI μ) {a1 : Int32}  : gwI (f_X11_had 1 a1 μ) (fun x m => kc μ m) := by
  refine gwI_of ?_
  unfold f_X11_had
  have lm1 : (-1 : Int32).toInt = -1 := rfl
  have l0 : (0 : Int32).toInt = 0 := rfl
  have l1 : (1 : Int32).toInt = 1 := rfl
  have l6 : (6 : Int32).toInt = 6 := rfl
  have k0 := kc.refl μ
  refine gw_if ((h.of k0).1.t (r := 1) rfl) ?_
  refine gw_bI (s_X11_isNobody (h.of k0) ) (fun x1 m1 ⟨z1, f1⟩ => ?_)
  replace z1 := z1.symm
  subst z1
  refine gw_eq (fun h5_2 => ?_) (fun h5_2 => ?_)
  ·
    refine gw_loop (fun s3 => kc μ s3.2.2 ∧ (0 ≤ s3.2.1.toInt ∧ s3.2.1.toInt ≤ 7)) (fun s3 => (7 - s3.2.1.toInt)) (fun s3 ⟨k4, u5⟩ => ?_) 5000 ((0 : Int32), (0 : Int32), μ) ⟨k0, (by show 0 ≤ (0 : Int32).toInt ∧ (0 : Int32).toInt ≤ 7; omega)⟩ (by show (7 - (0 : Int32).toInt) < ((5000 : Nat) : Int); omega) (by show 0 ≤ (7 - (0 : Int32).toInt); omega)
    refine gw_lt (fun h17_6 => ?_) (fun h17_6 => ?_)
    ·
      exact gw_some (gs_inr (gq_I k4))
    ·
      refine gw_gRa 15 ((h.of k4).1.c (r := 1) rfl) ((h.of k4).1.r (by decide)) ?_
      refine gw_gRa 16 ((h.of k4).1.c (r := 15) rfl) ((h.of k4).1.r (by decide)) ?_
      refine gw_aR (i := a1) ((h.of k4).1.t (r := 16) rfl) ((h.of k4).1.l (r := 16) rfl) (by omega) (by omega) (fun v7 ev7 => ?_)
      have cv7 : isch v7 := by rw [ev7]; exact isch.of (h.of k4).1 (by omega) (by omega)
      refine gw_gI (ict.c (h.of k4).1 (Or.inl cv7)) (fun v8 ev8 => ?_)
      refine gw_if ((h.of k4).1.t (r := 1) rfl) ?_
      refine gw_bI (s_X11_isAllSeen (h.of k4) ) (fun x9 m9 ⟨g9, f9⟩ => ?_)
      have kk9 := k4.trans g9
      refine gw_j (fun s10 => True) (fun s10 _ => ?_) (fun j11 hj11 => ?_)
      ·
        have n12 : (s3.2.1 + (1 : Int32)).toInt = s3.2.1.toInt + (1 : Int32).toInt := gx_add (by omega) (by omega)
        exact gw_some (gs_inl ⟨kk9, (by show 0 ≤ (s3.2.1 + (1 : Int32)).toInt ∧ (s3.2.1 + (1 : Int32)).toInt ≤ 7; omega)⟩ (by show (7 - (s3.2.1 + (1 : Int32)).toInt) < (7 - s3.2.1.toInt); omega) (by show 0 ≤ (7 - (s3.2.1 + (1 : Int32)).toInt); omega))
      ·
        refine gw_eq (fun h38_13 => ?_) (fun h38_13 => ?_)
        ·
          exact hj11 _ trivial
        ·
          exact hj11 _ trivial
  ·
    exact gw_some (gq_I k0)
set_option maxHeartbeats 1000000 in
theorem s_X11_mean {μ : gm_M} (h : CI μ) {a1 : Int32} {a2 : Int32}  : gwL (f_X11_mean 1 a1 a2 μ) (fun x m => kc μ m) := by
  refine gwL_of ?_
  unfold f_X11_mean
  have l0 : (0 : Int32).toInt = 0 := rfl
  have l1 : (1 : Int32).toInt = 1 := rfl
  have l60 : (60 : Int32).toInt = 60 := rfl
  have k0 := kc.refl μ
  refine gw_bI (s_X11_isOutside ) (fun x1 m1 ⟨z1, f1⟩ => ?_)
  replace z1 := z1.symm
  subst z1
  refine gw_j (fun s2 => kc μ s2) (fun s2 k4 => ?_) (fun j3 hj3 => ?_)
  ·
    exact gw_some (gq_L k4)
  ·
    refine gw_ne (fun h7_5 => ?_) (fun h7_5 => ?_)
    ·
      exact hj3 _ k0
    ·
      refine gw_bI (s_X11_isOutside ) (fun x6 m6 ⟨z6, f6⟩ => ?_)
      replace z6 := z6.symm
      subst z6
      refine gw_ne (fun h16_7 => ?_) (fun h16_7 => ?_)
      ·
        exact hj3 _ k0
      ·
        refine gw_gRa 15 ((h.of k0).1.c (r := 1) rfl) ((h.of k0).1.r (by decide)) ?_
        refine gw_gI ((h.of k0).1.c (r := 15) rfl) (fun v8 ev8 => ?_)
        have bv8 := (h.of k0).n1
        have dv8 : v8.toInt = (μ.2.1 15 1).toInt := by rw [ev8]
        refine gw_ne (fun h26_9 => ?_) (fun h26_9 => ?_)
        ·
          refine gw_if ((h.of k0).1.t (r := 1) rfl) ?_
          refine gw_bI (s_X11_sumBehind (h.of k0) (by omega)) (fun x10 m10 g10 => ?_)
          have kk10 := k0.trans g10
          refine gw_gRa 15 ((h.of kk10).1.c (r := 1) rfl) ((h.of kk10).1.r (by decide)) ?_
          refine gw_gI ((h.of kk10).1.c (r := 15) rfl) (fun v11 ev11 => ?_)
          have bv11 := (h.of kk10).n1
          have dv11 : v11.toInt = (m10.2.1 15 1).toInt := by rw [ev11]
          have yv11 : v11.toInt = (μ.2.1 15 1).toInt := by rw [dv11, kk10.row (by decide)]
          refine gw_bL (s_X11_fraction ) (fun x12 m12 z12 => ?_)
          replace z12 := z12.symm
          subst z12
          exact gw_some (gq_L kk10)
        ·
          exact hj3 _ k0
set_option maxHeartbeats 1000000 in
theorem s_X11_done {μ : gm_M} (h : CI μ) {a1 : Int32}  : gwI (f_X11_done 1 a1 μ) (fun x m => kc μ m) := by
  refine gwI_of ?_
  unfold f_X11_done
  have lm1 : (-1 : Int32).toInt = -1 := rfl
  have l0 : (0 : Int32).toInt = 0 := rfl
  have l1 : (1 : Int32).toInt = 1 := rfl
  have k0 := kc.refl μ
  refine gw_bI (s_X11_isOutside ) (fun x1 m1 ⟨z1, f1⟩ => ?_)
  replace z1 := z1.symm
  subst z1
  refine gw_eq (fun h6_2 => ?_) (fun h6_2 => ?_)
  ·
    refine gw_loop (fun s3 => kc μ s3.2.2 ∧ (0 ≤ s3.2.1.toInt ∧ s3.2.1.toInt ≤ 5)) (fun s3 => (5 - s3.2.1.toInt)) (fun s3 ⟨k4, u5⟩ => ?_) 5000 ((0 : Int32), (0 : Int32), μ) ⟨k0, (by show 0 ≤ (0 : Int32).toInt ∧ (0 : Int32).toInt ≤ 5; omega)⟩ (by show (5 - (0 : Int32).toInt) < ((5000 : Nat) : Int); omega) (by show 0 ≤ (5 - (0 : Int32).toInt); omega)
    refine gw_gRa 15 ((h.of k4).1.c (r := 1) rfl) ((h.of k4).1.r (by decide)) ?_
    refine gw_gI ((h.of k4).1.c (r := 15) rfl) (fun v6 ev6 => ?_)
    have bv6 := (h.of k4).n1
    have dv6 : v6.toInt = (s3.2.2.2.1 15 1).toInt := by rw [ev6]
    have yv6 : v6.toInt = (μ.2.1 15 1).toInt := by rw [dv6, k4.row (by decide)]
    refine gw_le (fun h23_7 => ?_) (fun h23_7 => ?_)
    ·
      exact gw_some (gs_inr (gq_I k4))
    ·
      refine gw_gRa 63 ((h.of k4).1.c (r := 1) rfl) ((h.of k4).1.r (by decide)) ?_
      refine gw_gRa 15 ((h.of k4).1.c (r := 1) rfl) ((h.of k4).1.r (by decide)) ?_
      refine gw_gRa 16 ((h.of k4).1.c (r := 15) rfl) ((h.of k4).1.r (by decide)) ?_
      refine gw_aR (i := s3.2.1) ((h.of k4).1.t (r := 16) rfl) ((h.of k4).1.l (r := 16) rfl) (by omega) (by omega) (fun v8 ev8 => ?_)
      have cv8 : isch v8 := by rw [ev8]; exact isch.of (h.of k4).1 (by omega) (by omega)
      refine gw_if (ict.t (h.of k4).1 (Or.inr rfl)) ?_
      refine gw_bV (s_X2_copy_63 (h.of k4) cv8) (fun m9 g9 => ?_)
      have kk9 := k4.trans g9
      refine gw_if ((h.of kk9).1.t (r := 1) rfl) ?_
      refine gw_bV (s_X11_tryPlan (h.of kk9) ) (fun m10 g10 => ?_)
      have kk10 := kk9.trans g10
      refine gw_j (fun s11 => True) (fun s11 _ => ?_) (fun j12 hj12 => ?_)
      ·
        have n13 : (s3.2.1 + (1 : Int32)).toInt = s3.2.1.toInt + (1 : Int32).toInt := gx_add (by omega) (by omega)
        exact gw_some (gs_inl ⟨kk10, (by show 0 ≤ (s3.2.1 + (1 : Int32)).toInt ∧ (s3.2.1 + (1 : Int32)).toInt ≤ 5; omega)⟩ (by show (5 - (s3.2.1 + (1 : Int32)).toInt) < (5 - s3.2.1.toInt); omega) (by show 0 ≤ (5 - (s3.2.1 + (1 : Int32)).toInt); omega))
      ·
        refine gw_ne (fun h48_14 => ?_) (fun h48_14 => ?_)
        ·
          refine gw_gRa 63 ((h.of kk10).1.c (r := 1) rfl) ((h.of kk10).1.r (by decide)) ?_
          refine gw_gI (ict.c (h.of kk10).1 (Or.inr rfl)) (fun v15 ev15 => ?_)
          refine gw_gRa 15 ((h.of kk10).1.c (r := 1) rfl) ((h.of kk10).1.r (by decide)) ?_
          refine gw_gRa 16 ((h.of kk10).1.c (r := 15) rfl) ((h.of kk10).1.r (by decide)) ?_
          refine gw_aR (i := s3.2.1) ((h.of kk10).1.t (r := 16) rfl) ((h.of kk10).1.l (r := 16) rfl) (by omega) (by omega) (fun v16 ev16 => ?_)
          have cv16 : isch v16 := by rw [ev16]; exact isch.of (h.of kk10).1 (by omega) (by omega)
          refine gw_gI (ict.c (h.of kk10).1 (Or.inl cv16)) (fun v17 ev17 => ?_)
          exact hj12 _ trivial
        ·
          refine gw_gRa 63 ((h.of kk10).1.c (r := 1) rfl) ((h.of kk10).1.r (by decide)) ?_
          refine gw_gI (ict.c (h.of kk10).1 (Or.inr rfl)) (fun v18 ev18 => ?_)
          exact hj12 _ trivial
  ·
    exact gw_some (gq_I k0)
set_option maxHeartbeats 1000000 in
theorem s_X11_looked {μ : gm_M} (h : CI μ)   : gwI (f_X11_looked 1 μ) (fun x m => kc μ m) := by
  refine gwI_of ?_
  unfold f_X11_looked
  have lm5 : (-5 : Int32).toInt = -5 := rfl
  have l0 : (0 : Int32).toInt = 0 := rfl
  have l1 : (1 : Int32).toInt = 1 := rfl
  have k0 := kc.refl μ
  refine gw_loop (fun s1 => kc μ s1.2 ∧ (0 ≤ s1.1.toInt ∧ s1.1.toInt ≤ 8)) (fun s1 => (8 - s1.1.toInt)) (fun s1 ⟨k2, u3⟩ => ?_) 5000 ((0 : Int32), μ) ⟨k0, (by show 0 ≤ (0 : Int32).toInt ∧ (0 : Int32).toInt ≤ 8; omega)⟩ (by show (8 - (0 : Int32).toInt) < ((5000 : Nat) : Int); omega) (by show 0 ≤ (8 - (0 : Int32).toInt); omega)
  refine gw_gRa 15 ((h.of k2).1.c (r := 1) rfl) ((h.of k2).1.r (by decide)) ?_
  refine gw_gRa 27 ((h.of k2).1.c (r := 15) rfl) ((h.of k2).1.r (by decide)) ?_
  refine gw_gI ((h.of k2).1.c (r := 27) rfl) (fun v4 ev4 => ?_)
  have bv4 := (h.of k2).n27
  have dv4 : v4.toInt = (s1.2.2.1 27 2).toInt := by rw [ev4]
  have yv4 : v4.toInt = (μ.2.1 27 2).toInt := by rw [dv4, k2.row (by decide)]
  refine gw_le (fun h13_5 => ?_) (fun h13_5 => ?_)
  ·
    exact gw_some (gs_inr (gq_I k2))
  ·
    refine gw_gRa 15 ((h.of k2).1.c (r := 1) rfl) ((h.of k2).1.r (by decide)) ?_
    refine gw_gRa 27 ((h.of k2).1.c (r := 15) rfl) ((h.of k2).1.r (by decide)) ?_
    refine gw_if ((h.of k2).1.t (r := 27) rfl) ?_
    refine gw_bI (s_X7_cell_27 (h.of k2) ) (fun x6 m6 z6 => ?_)
    replace z6 := z6.symm
    subst z6
    refine gw_if ((h.of k2).1.t (r := 1) rfl) ?_
    refine gw_bI (s_X11_isNobody (h.of k2) ) (fun x7 m7 ⟨z7, f7⟩ => ?_)
    replace z7 := z7.symm
    subst z7
    refine gw_j (fun s8 => kc μ s8) (fun s8 k10 => ?_) (fun j9 hj9 => ?_)
    ·
      have n11 : (s1.1 + (1 : Int32)).toInt = s1.1.toInt + (1 : Int32).toInt := gx_add (by omega) (by omega)
      exact gw_some (gs_inl ⟨k10, (by show 0 ≤ (s1.1 + (1 : Int32)).toInt ∧ (s1.1 + (1 : Int32)).toInt ≤ 8; omega)⟩ (by show (8 - (s1.1 + (1 : Int32)).toInt) < (8 - s1.1.toInt); omega) (by show 0 ≤ (8 - (s1.1 + (1 : Int32)).toInt); omega))
    ·
      refine gw_ne (fun h34_12 => ?_) (fun h34_12 => ?_)
      ·
        exact hj9 _ k2
      ·
        refine gw_gRa 15 ((h.of k2).1.c (r := 1) rfl) ((h.of k2).1.r (by decide)) ?_
        refine gw_gRa 16 ((h.of k2).1.c (r := 15) rfl) ((h.of k2).1.r (by decide)) ?_
        refine gw_aR (i := x6) ((h.of k2).1.t (r := 16) rfl) ((h.of k2).1.l (r := 16) rfl) (by omega) (by omega) (fun v13 ev13 => ?_)
        have cv13 : isch v13 := by rw [ev13]; exact isch.of (h.of k2).1 (by omega) (by omega)
        refine gw_gI (ict.c (h.of k2).1 (Or.inl cv13)) (fun v14 ev14 => ?_)
        refine gw_gRa 15 ((h.of k2).1.c (r := 1) rfl) ((h.of k2).1.r (by decide)) ?_
        refine gw_gRa 27 ((h.of k2).1.c (r := 15) rfl) ((h.of k2).1.r (by decide)) ?_
        refine gw_if ((h.of k2).1.t (r := 27) rfl) ?_
        refine gw_bI (s_X7_cell_27 (h.of k2) ) (fun x15 m15 z15 => ?_)
        replace z15 := z15.symm
        subst z15
        refine gw_eq (fun h61_16 => ?_) (fun h61_16 => ?_)
        ·
          exact hj9 _ k2
        ·
          exact gw_some (gs_inr (gq_I k2))
set_option maxHeartbeats 1000000 in
theorem s_X11_as {μ : gm_M} (h : CI μ) {a1 : Int32} {a2 : Int32}  : gwI (f_X11_as 1 a1 a2 μ) (fun x m => kc μ m) := by
  refine gwI_of ?_
  unfold f_X11_as
  have lm6 : (-6 : Int32).toInt = -6 := rfl
  have lm1 : (-1 : Int32).toInt = -1 := rfl
  have l0 : (0 : Int32).toInt = 0 := rfl
  have l6 : (6 : Int32).toInt = 6 := rfl
  have k0 := kc.refl μ
  refine gw_if ((h.of k0).1.t (r := 1) rfl) ?_
  refine gw_bI (s_X11_isNobody (h.of k0) ) (fun x1 m1 ⟨z1, f1⟩ => ?_)
  replace z1 := z1.symm
  subst z1
  refine gw_ne (fun h5_2 => ?_) (fun h5_2 => ?_)
  ·
    exact gw_some (gq_I k0)
  ·
    refine gw_bI (s_X11_isOutside ) (fun x3 m3 ⟨z3, f3⟩ => ?_)
    replace z3 := z3.symm
    subst z3
    refine gw_eq (fun h15_4 => ?_) (fun h15_4 => ?_)
    ·
      refine gw_gRa 15 ((h.of k0).1.c (r := 1) rfl) ((h.of k0).1.r (by decide)) ?_
      refine gw_gRa 16 ((h.of k0).1.c (r := 15) rfl) ((h.of k0).1.r (by decide)) ?_
      refine gw_aR (i := a1) ((h.of k0).1.t (r := 16) rfl) ((h.of k0).1.l (r := 16) rfl) (by omega) (by omega) (fun v5 ev5 => ?_)
      have cv5 : isch v5 := by rw [ev5]; exact isch.of (h.of k0).1 (by omega) (by omega)
      refine gw_gR (ict.c (h.of k0).1 (Or.inl cv5)) (fun v6 ev6 => ?_)
      have cv6 : kid v6 := by rw [ev6]; exact (h.of k0).kd (Or.inl cv5)
      refine gw_bI (s_X11_isUnder (h.of k0) cv6) (fun x7 m7 ⟨z7, f7⟩ => ?_)
      replace z7 := z7.symm
      subst z7
      refine gw_eq (fun h38_8 => ?_) (fun h38_8 => ?_)
      ·
        exact gw_some (gq_I k0)
      ·
        refine gw_gI (ict.c (h.of k0).1 (Or.inl cv5)) (fun v9 ev9 => ?_)
        exact gw_some (gq_I k0)
    ·
      exact gw_some (gq_I k0)
set_option maxHeartbeats 1000000 in
theorem s_X11_count {μ : gm_M} (h : CI μ) {a1 : Int32}  : gwI (f_X11_count 1 a1 μ) (fun x m => kc μ m) := by
  refine gwI_of ?_
  unfold f_X11_count
  have lm1 : (-1 : Int32).toInt = -1 := rfl
  have l0 : (0 : Int32).toInt = 0 := rfl
  have l1 : (1 : Int32).toInt = 1 := rfl
  have l2 : (2 : Int32).toInt = 2 := rfl
  have l3 : (3 : Int32).toInt = 3 := rfl
  have l4 : (4 : Int32).toInt = 4 := rfl
  have l5 : (5 : Int32).toInt = 5 := rfl
  have l6 : (6 : Int32).toInt = 6 := rfl
  have k0 := kc.refl μ
  refine gw_eq (fun h1_1 => ?_) (fun h1_1 => ?_)
  ·
    refine gw_gRa 15 ((h.of k0).1.c (r := 1) rfl) ((h.of k0).1.r (by decide)) ?_
    refine gw_gI ((h.of k0).1.c (r := 15) rfl) (fun v2 ev2 => ?_)
    have bv2 := (h.of k0).n1
    have dv2 : v2.toInt = (μ.2.1 15 1).toInt := by rw [ev2]
    exact gw_some (gq_I k0)
  ·
    refine gw_eq (fun h1_3 => ?_) (fun h1_3 => ?_)
    ·
      refine gw_gRa 15 ((h.of k0).1.c (r := 1) rfl) ((h.of k0).1.r (by decide)) ?_
      refine gw_gI ((h.of k0).1.c (r := 15) rfl) (fun v4 ev4 => ?_)
      have bv4 := (h.of k0).n5
      have dv4 : v4.toInt = (μ.2.1 15 5).toInt := by rw [ev4]
      exact gw_some (gq_I k0)
    ·
      refine gw_eq (fun h1_5 => ?_) (fun h1_5 => ?_)
      ·
        refine gw_gRa 15 ((h.of k0).1.c (r := 1) rfl) ((h.of k0).1.r (by decide)) ?_
        refine gw_gRa 23 ((h.of k0).1.c (r := 15) rfl) ((h.of k0).1.r (by decide)) ?_
        refine gw_gI ((h.of k0).1.c (r := 23) rfl) (fun v6 ev6 => ?_)
        have bv6 := (h.of k0).n23
        have dv6 : v6.toInt = (μ.2.1 23 2).toInt := by rw [ev6]
        exact gw_some (gq_I k0)
      ·
        refine gw_eq (fun h1_7 => ?_) (fun h1_7 => ?_)
        ·
          refine gw_gRa 15 ((h.of k0).1.c (r := 1) rfl) ((h.of k0).1.r (by decide)) ?_
          refine gw_gRa 25 ((h.of k0).1.c (r := 15) rfl) ((h.of k0).1.r (by decide)) ?_
          refine gw_gI ((h.of k0).1.c (r := 25) rfl) (fun v8 ev8 => ?_)
          have bv8 := (h.of k0).n25
          have dv8 : v8.toInt = (μ.2.1 25 2).toInt := by rw [ev8]
          exact gw_some (gq_I k0)
        ·
          refine gw_eq (fun h1_9 => ?_) (fun h1_9 => ?_)
          ·
            refine gw_gRa 15 ((h.of k0).1.c (r := 1) rfl) ((h.of k0).1.r (by decide)) ?_
            refine gw_gRa 27 ((h.of k0).1.c (r := 15) rfl) ((h.of k0).1.r (by decide)) ?_
            refine gw_gI ((h.of k0).1.c (r := 27) rfl) (fun v10 ev10 => ?_)
            have bv10 := (h.of k0).n27
            have dv10 : v10.toInt = (μ.2.1 27 2).toInt := by rw [ev10]
            exact gw_some (gq_I k0)
          ·
            refine gw_eq (fun h1_11 => ?_) (fun h1_11 => ?_)
            ·
              refine gw_gRa 15 ((h.of k0).1.c (r := 1) rfl) ((h.of k0).1.r (by decide)) ?_
              refine gw_gI ((h.of k0).1.c (r := 15) rfl) (fun v12 ev12 => ?_)
              have bv12 := (h.of k0).n4
              have dv12 : v12.toInt = (μ.2.1 15 4).toInt := by rw [ev12]
              exact gw_some (gq_I k0)
            ·
              refine gw_eq (fun h1_13 => ?_) (fun h1_13 => ?_)
              ·
                refine gw_gRa 3 ((h.of k0).1.c (r := 1) rfl) ((h.of k0).1.r (by decide)) ?_
                refine gw_gI ((h.of k0).1.c (r := 3) rfl) (fun v14 ev14 => ?_)
                have bv14 := (h.of k0).n3
                have dv14 : v14.toInt = (μ.2.1 3 2).toInt := by rw [ev14]
                exact gw_some (gq_I k0)
              ·
                exact gw_some (gq_I k0)
set_option maxHeartbeats 1000000 in
theorem s_X11_trace {μ : gm_M} (h : CI μ) {a1 : Int32}  : gwI (f_X11_trace 1 a1 μ) (fun x m => kc μ m) := by
  refine gwI_of ?_
  unfold f_X11_trace
  have lm1 : (-1 : Int32).toInt = -1 := rfl
  have l0 : (0 : Int32).toInt = 0 := rfl
  have k0 := kc.refl μ
  refine gw_gRa 3 ((h.of k0).1.c (r := 1) rfl) ((h.of k0).1.r (by decide)) ?_
  refine gw_if ((h.of k0).1.t (r := 3) rfl) ?_
  refine gw_bI (s_X7_isKept_3 (h.of k0) ) (fun x1 m1 ⟨z1, f1⟩ => ?_)
  replace z1 := z1.symm
  subst z1
  refine gw_eq (fun h8_2 => ?_) (fun h8_2 => ?_)
  ·
    exact gw_some (gq_I k0)
  ·
    refine gw_gRa 3 ((h.of k0).1.c (r := 1) rfl) ((h.of k0).1.r (by decide)) ?_
    refine gw_if ((h.of k0).1.t (r := 3) rfl) ?_
    refine gw_bI (s_X7_cell_3 (h.of k0) ) (fun x3 m3 z3 => ?_)
    replace z3 := z3.symm
    subst z3
    exact gw_some (gq_I k0)
