set_option maxHeartbeats 2000000 in
theorem c_child {μ : gm_M} (h : ALL μ) {a1 : Int32} {a2 : Int32} : gwI (f_X11_child 1 a1 a2 μ) (fun x m => (m = μ ∧ x = -1 ∧ (a1.toInt < 0 ∨ 6 < a1.toInt)) ∨ (m = μ ∧ x = -2 ∧ (0 ≤ a1.toInt ∧ a1.toInt ≤ 6) ∧ (a2.toInt < 0 ∨ 9 < a2.toInt)) ∨ (m = μ ∧ x = -4 ∧ (0 ≤ a1.toInt ∧ a1.toInt ≤ 6) ∧ (0 ≤ a2.toInt ∧ a2.toInt ≤ 9) ∧ 5 ≤ (μ.2.1 15 1).toInt) ∨ ((0 ≤ a1.toInt ∧ a1.toInt ≤ 6) ∧ (0 ≤ a2.toInt ∧ a2.toInt ≤ 9) ∧ (μ.2.1 15 1).toInt < 5 ∧ x = μ.2.1 15 1 ∧ CB μ m (μ.2.1 15 1).toInt.toNat a1 a2)) := by
  refine gwI_of ?_
  unfold f_X11_child
  have hc := h.2.2.1
  have lm4 : (-4 : Int32).toInt = -4 := rfl
  have lm2 : (-2 : Int32).toInt = -2 := rfl
  have lm1 : (-1 : Int32).toInt = -1 := rfl
  have l0 : (0 : Int32).toInt = 0 := rfl
  have l1 : (1 : Int32).toInt = 1 := rfl
  have l5 : (5 : Int32).toInt = 5 := rfl
  have l6 : (6 : Int32).toInt = 6 := rfl
  have l9 : (9 : Int32).toInt = 9 := rfl
  have N1 := hc.n1
  refine gw_bI (s_X11_isOutside ) (fun x1 m1 ⟨z1, f1⟩ => ?_)
  replace z1 := z1.symm
  subst z1
  refine gw_eq (fun h7_2 => ?_) (fun h7_2 => ?_)
  ·
    refine gw_bI (s_X11_isOutside ) (fun x3 m3 ⟨z3, f3⟩ => ?_)
    replace z3 := z3.symm
    subst z3
    refine gw_eq (fun h19_4 => ?_) (fun h19_4 => ?_)
    ·
      refine gw_gRa 15 (hc.1.c (r := 1) rfl) (hc.1.r (by decide)) ?_
      refine gw_gI (hc.1.c (r := 15) rfl) (fun v5 ev5 => ?_)
      have bv5 := hc.n1
      have dv5 : v5.toInt = (μ.2.1 15 1).toInt := by rw [ev5]
      refine gw_lt (fun h33_6 => ?_) (fun h33_6 => ?_)
      ·
        refine gw_gRa 15 (hc.1.c (r := 1) rfl) (hc.1.r (by decide)) ?_
        refine gw_gRa 16 (hc.1.c (r := 15) rfl) (hc.1.r (by decide)) ?_
        refine gw_gRa 15 (hc.1.c (r := 1) rfl) (hc.1.r (by decide)) ?_
        refine gw_gI (hc.1.c (r := 15) rfl) (fun v7 ev7 => ?_)
        have bv7 := hc.n1
        have dv7 : v7.toInt = (μ.2.1 15 1).toInt := by rw [ev7]
        have SZ := ev7
        refine gw_aR (i := v7) (hc.1.t (r := 16) rfl) (hc.1.l (r := 16) rfl) (by omega) (by omega) (fun v8 ev8 => ?_)
        have cv8 : isch v8 := by rw [ev8]; exact isch.of hc.1 (by omega) (by omega)
        have hv : v8 = 29 + 2 * (μ.2.1 15 1).toInt.toNat := by rw [ev8, SZ]; exact isch.at hc.1 (by omega)
        refine gw_gRa 2 (hc.1.c (r := 1) rfl) (hc.1.r (by decide)) ?_
        refine gw_aR (i := a1) (hc.1.t (r := 2) rfl) (hc.1.l (r := 2) rfl) (by omega) (by omega) (fun v9 ev9 => ?_)
        have hkv9 : v9 = 8 + a1.toInt.toNat := by rw [ev9]; exact kin.at hc.1 (by omega)
        have cv9 : kid v9 := by unfold kid; omega
        have hkk := hkv9
        refine gw_gRa 15 (hc.1.c (r := 1) rfl) (hc.1.r (by decide)) ?_
        refine gw_gR (hc.1.c (r := 15) rfl) (fun v10 ev10 => ?_)
        have cv10 : AfW μ v10 := by rw [ev10]; exact hc.af
        refine gw_gI (cv10.tc) (fun v11 ev11 => ?_)
        refine gw_if (ict.t hc.1 (Or.inl cv8)) ?_
        refine gw_bV (s_begin hc.1 cv8) (fun m12 z12 => ?_)
        obtain ⟨B1, B2, B3, B4, B5, B6, B7, B8, B9, B10, B11⟩ := z12
        refine gw_gRa 15 ((And.intro (gS.kd hc.1 cv8 B1 B2) True.intro : _ ∧ True).1.c (r := 1) rfl) ((And.intro (gS.kd hc.1 cv8 B1 B2) True.intro : _ ∧ True).1.r (by decide)) ?_
        refine gw_gI ((And.intro (gS.kd hc.1 cv8 B1 B2) True.intro : _ ∧ True).1.c (r := 15) rfl) (fun v13 ev13 => ?_)
        have s2 : v13 = μ.2.1 15 1 := by rw [ev13, B3 15 (by omega) (by omega)]
        refine gw_pI ((And.intro (gS.kd hc.1 cv8 B1 B2) True.intro : _ ∧ True).1.c (r := 15) rfl) (fun m14 em14 => ?_)
        have sm14 := gS.w (gS.kd hc.1 cv8 B1 B2) em14
        refine gw_gRa 15 ((And.intro sm14 True.intro : _ ∧ True).1.c (r := 1) rfl) ((And.intro sm14 True.intro : _ ∧ True).1.r (by decide)) ?_
        refine gw_gI ((And.intro sm14 True.intro : _ ∧ True).1.c (r := 15) rfl) (fun v15 ev15 => ?_)
        have VX : v15 - 1 = μ.2.1 15 1 := by rw [ev15, rde2 em14, s2]; exact gx_p1 _
        have CBX : CB μ m14 (μ.2.1 15 1).toInt.toNat a1 a2 := CB.mk hv hkk (by omega) B1 B2 B3 B4 B5 B11 (by rw [em14, s2])
        exact gw_some (gq_I (by first | exact Or.inl ⟨rfl, rfl, by omega⟩ | exact Or.inr (Or.inl ⟨rfl, rfl, by omega, by omega⟩) | exact Or.inr (Or.inr (Or.inl ⟨rfl, rfl, by omega, by omega, by omega⟩)) | exact Or.inr (Or.inr (Or.inr ⟨by omega, by omega, by omega, VX, CBX⟩))))
      ·
        exact gw_some (gq_I (by first | exact Or.inl ⟨rfl, rfl, by omega⟩ | exact Or.inr (Or.inl ⟨rfl, rfl, by omega, by omega⟩) | exact Or.inr (Or.inr (Or.inl ⟨rfl, rfl, by omega, by omega, by omega⟩)) | exact Or.inr (Or.inr (Or.inr ⟨by omega, by omega, by omega, VX, CBX⟩))))
    ·
      exact gw_some (gq_I (by first | exact Or.inl ⟨rfl, rfl, by omega⟩ | exact Or.inr (Or.inl ⟨rfl, rfl, by omega, by omega⟩) | exact Or.inr (Or.inr (Or.inl ⟨rfl, rfl, by omega, by omega, by omega⟩)) | exact Or.inr (Or.inr (Or.inr ⟨by omega, by omega, by omega, VX, CBX⟩))))
  ·
    exact gw_some (gq_I (by first | exact Or.inl ⟨rfl, rfl, by omega⟩ | exact Or.inr (Or.inl ⟨rfl, rfl, by omega, by omega⟩) | exact Or.inr (Or.inr (Or.inl ⟨rfl, rfl, by omega, by omega, by omega⟩)) | exact Or.inr (Or.inr (Or.inr ⟨by omega, by omega, by omega, VX, CBX⟩))))
