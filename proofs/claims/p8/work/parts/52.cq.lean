set_option maxHeartbeats 1000000 in
theorem s_X7_isKept_3 {μ : gm_M} (h : CI μ) {a1 : Int32}  : gwI (f_X7_isKept 3 a1 μ) (fun x m => m = μ ∧ ((x.toInt = 1 ∧ 0 ≤ a1.toInt ∧ a1.toInt < (μ.2.1 3 2).toInt ∧ a1.toInt < 20) ∨ x.toInt = 0)) := by
  refine gwI_of ?_
  unfold f_X7_isKept
  have l0 : (0 : Int32).toInt = 0 := rfl
  have l1 : (1 : Int32).toInt = 1 := rfl
  refine gw_lt (fun h1_1 => ?_) (fun h1_1 => ?_)
  ·
    refine gw_z Iff.rfl (by omega) (gq_I ⟨rfl, by omega⟩)
  ·
    refine gw_gI (h.1.c (r := 3) rfl) (fun v2 ev2 => ?_)
    have bv2 := h.n3
    have dv2 : v2.toInt = (μ.2.1 3 2).toInt := by rw [ev2]
    refine gw_le (fun h9_3 => ?_) (fun h9_3 => ?_)
    ·
      refine gw_z Iff.rfl (by omega) (gq_I ⟨rfl, by omega⟩)
    ·
      refine gw_gI (h.1.c (r := 3) rfl) (fun v4 ev4 => ?_)
      have bv4 := h.l3
      have dv4 : v4.toInt = (μ.2.1 3 0).toInt := by rw [ev4]
      refine gw_le (fun h17_5 => ?_) (fun h17_5 => ?_)
      ·
        refine gw_z Iff.rfl (by omega) (gq_I ⟨rfl, by omega⟩)
      ·
        refine gw_z Iff.rfl (by omega) (gq_I ⟨rfl, by omega⟩)
set_option maxHeartbeats 1000000 in
theorem s_X7_isKept_23 {μ : gm_M} (h : CI μ) {a1 : Int32}  : gwI (f_X7_isKept 23 a1 μ) (fun x m => m = μ ∧ ((x.toInt = 1 ∧ 0 ≤ a1.toInt ∧ a1.toInt < (μ.2.1 23 2).toInt ∧ a1.toInt < 5) ∨ x.toInt = 0)) := by
  refine gwI_of ?_
  unfold f_X7_isKept
  have l0 : (0 : Int32).toInt = 0 := rfl
  have l1 : (1 : Int32).toInt = 1 := rfl
  refine gw_lt (fun h1_1 => ?_) (fun h1_1 => ?_)
  ·
    refine gw_z Iff.rfl (by omega) (gq_I ⟨rfl, by omega⟩)
  ·
    refine gw_gI (h.1.c (r := 23) rfl) (fun v2 ev2 => ?_)
    have bv2 := h.n23
    have dv2 : v2.toInt = (μ.2.1 23 2).toInt := by rw [ev2]
    refine gw_le (fun h9_3 => ?_) (fun h9_3 => ?_)
    ·
      refine gw_z Iff.rfl (by omega) (gq_I ⟨rfl, by omega⟩)
    ·
      refine gw_gI (h.1.c (r := 23) rfl) (fun v4 ev4 => ?_)
      have bv4 := h.l23
      have dv4 : v4.toInt = (μ.2.1 23 0).toInt := by rw [ev4]
      refine gw_le (fun h17_5 => ?_) (fun h17_5 => ?_)
      ·
        refine gw_z Iff.rfl (by omega) (gq_I ⟨rfl, by omega⟩)
      ·
        refine gw_z Iff.rfl (by omega) (gq_I ⟨rfl, by omega⟩)
set_option maxHeartbeats 1000000 in
theorem s_X7_isKept_25 {μ : gm_M} (h : CI μ) {a1 : Int32}  : gwI (f_X7_isKept 25 a1 μ) (fun x m => m = μ ∧ ((x.toInt = 1 ∧ 0 ≤ a1.toInt ∧ a1.toInt < (μ.2.1 25 2).toInt ∧ a1.toInt < 8) ∨ x.toInt = 0)) := by
  refine gwI_of ?_
  unfold f_X7_isKept
  have l0 : (0 : Int32).toInt = 0 := rfl
  have l1 : (1 : Int32).toInt = 1 := rfl
  refine gw_lt (fun h1_1 => ?_) (fun h1_1 => ?_)
  ·
    refine gw_z Iff.rfl (by omega) (gq_I ⟨rfl, by omega⟩)
  ·
    refine gw_gI (h.1.c (r := 25) rfl) (fun v2 ev2 => ?_)
    have bv2 := h.n25
    have dv2 : v2.toInt = (μ.2.1 25 2).toInt := by rw [ev2]
    refine gw_le (fun h9_3 => ?_) (fun h9_3 => ?_)
    ·
      refine gw_z Iff.rfl (by omega) (gq_I ⟨rfl, by omega⟩)
    ·
      refine gw_gI (h.1.c (r := 25) rfl) (fun v4 ev4 => ?_)
      have bv4 := h.l25
      have dv4 : v4.toInt = (μ.2.1 25 0).toInt := by rw [ev4]
      refine gw_le (fun h17_5 => ?_) (fun h17_5 => ?_)
      ·
        refine gw_z Iff.rfl (by omega) (gq_I ⟨rfl, by omega⟩)
      ·
        refine gw_z Iff.rfl (by omega) (gq_I ⟨rfl, by omega⟩)
set_option maxHeartbeats 1000000 in
theorem s_X7_isKept_27 {μ : gm_M} (h : CI μ) {a1 : Int32}  : gwI (f_X7_isKept 27 a1 μ) (fun x m => m = μ ∧ ((x.toInt = 1 ∧ 0 ≤ a1.toInt ∧ a1.toInt < (μ.2.1 27 2).toInt ∧ a1.toInt < 8) ∨ x.toInt = 0)) := by
  refine gwI_of ?_
  unfold f_X7_isKept
  have l0 : (0 : Int32).toInt = 0 := rfl
  have l1 : (1 : Int32).toInt = 1 := rfl
  refine gw_lt (fun h1_1 => ?_) (fun h1_1 => ?_)
  ·
    refine gw_z Iff.rfl (by omega) (gq_I ⟨rfl, by omega⟩)
  ·
    refine gw_gI (h.1.c (r := 27) rfl) (fun v2 ev2 => ?_)
    have bv2 := h.n27
    have dv2 : v2.toInt = (μ.2.1 27 2).toInt := by rw [ev2]
    refine gw_le (fun h9_3 => ?_) (fun h9_3 => ?_)
    ·
      refine gw_z Iff.rfl (by omega) (gq_I ⟨rfl, by omega⟩)
    ·
      refine gw_gI (h.1.c (r := 27) rfl) (fun v4 ev4 => ?_)
      have bv4 := h.l27
      have dv4 : v4.toInt = (μ.2.1 27 0).toInt := by rw [ev4]
      refine gw_le (fun h17_5 => ?_) (fun h17_5 => ?_)
      ·
        refine gw_z Iff.rfl (by omega) (gq_I ⟨rfl, by omega⟩)
      ·
        refine gw_z Iff.rfl (by omega) (gq_I ⟨rfl, by omega⟩)
set_option maxHeartbeats 1000000 in
theorem s_X7_cell_3 {μ : gm_M} (h : CI μ) {a1 : Int32} {a2 : Int32}  : gwI (f_X7_cell 3 a1 a2 μ) (fun x m => m = μ) := by
  refine gwI_of ?_
  unfold f_X7_cell
  have l0 : (0 : Int32).toInt = 0 := rfl
  have l3 : (3 : Int32).toInt = 3 := rfl
  refine gw_if (h.1.t (r := 3) rfl) ?_
  refine gw_bI (s_X7_isKept_3 h ) (fun x1 m1 ⟨z1, f1⟩ => ?_)
  replace z1 := z1.symm
  subst z1
  refine gw_eq (fun h5_2 => ?_) (fun h5_2 => ?_)
  ·
    exact gw_some (gq_I rfl)
  ·
    refine gw_lt (fun h9_3 => ?_) (fun h9_3 => ?_)
    ·
      exact gw_some (gq_I rfl)
    ·
      refine gw_lt (fun h14_4 => ?_) (fun h14_4 => ?_)
      ·
        refine gw_gRa 4 (h.1.c (r := 3) rfl) (h.1.r (by decide)) ?_
        have n5 : (a1 * (3 : Int32)).toInt = 3 * a1.toInt := gx_mulr 3 rfl (by omega) (by omega)
        have n6 : ((a1 * (3 : Int32)) + a2).toInt = (a1 * (3 : Int32)).toInt + a2.toInt := gx_add (by omega) (by omega)
        refine gw_aI (i := ((a1 * (3 : Int32)) + a2)) (h.1.t (r := 4) rfl) (h.1.l (r := 4) rfl) (by omega) (by omega) (fun v7 ev7 => ?_)
        exact gw_some (gq_I rfl)
      ·
        exact gw_some (gq_I rfl)
set_option maxHeartbeats 1000000 in
theorem s_X7_cell_23 {μ : gm_M} (h : CI μ) {a1 : Int32} {a2 : Int32}  : gwI (f_X7_cell 23 a1 a2 μ) (fun x m => m = μ ∧ (a2.toInt = 2 → x.toInt ≤ 60)) := by
  refine gwI_of ?_
  unfold f_X7_cell
  have l0 : (0 : Int32).toInt = 0 := rfl
  have l3 : (3 : Int32).toInt = 3 := rfl
  refine gw_if (h.1.t (r := 23) rfl) ?_
  refine gw_bI (s_X7_isKept_23 h ) (fun x1 m1 ⟨z1, f1⟩ => ?_)
  replace z1 := z1.symm
  subst z1
  refine gw_eq (fun h5_2 => ?_) (fun h5_2 => ?_)
  ·
    exact gw_some (gq_I ⟨rfl, by omega⟩)
  ·
    refine gw_lt (fun h9_3 => ?_) (fun h9_3 => ?_)
    ·
      exact gw_some (gq_I ⟨rfl, by omega⟩)
    ·
      refine gw_lt (fun h14_4 => ?_) (fun h14_4 => ?_)
      ·
        refine gw_gRa 24 (h.1.c (r := 23) rfl) (h.1.r (by decide)) ?_
        have n5 : (a1 * (3 : Int32)).toInt = 3 * a1.toInt := gx_mulr 3 rfl (by omega) (by omega)
        have n6 : ((a1 * (3 : Int32)) + a2).toInt = (a1 * (3 : Int32)).toInt + a2.toInt := gx_add (by omega) (by omega)
        refine gw_aI (i := ((a1 * (3 : Int32)) + a2)) (h.1.t (r := 24) rfl) (h.1.l (r := 24) rfl) (by omega) (by omega) (fun v7 ev7 => ?_)
        have yv7 : a2.toInt = 2 → v7.toInt ≤ 60 := fun h2 => by rw [ev7, show ((a1 * (3 : Int32)) + a2).toInt.toNat = 3 * a1.toInt.toNat + 2 from by omega]; exact h.sm _ (by omega)
        exact gw_some (gq_I ⟨rfl, by omega⟩)
      ·
        exact gw_some (gq_I ⟨rfl, by omega⟩)
set_option maxHeartbeats 1000000 in
theorem s_X7_cell_25 {μ : gm_M} (h : CI μ) {a1 : Int32} {a2 : Int32}  : gwI (f_X7_cell 25 a1 a2 μ) (fun x m => m = μ) := by
  refine gwI_of ?_
  unfold f_X7_cell
  have l0 : (0 : Int32).toInt = 0 := rfl
  have l3 : (3 : Int32).toInt = 3 := rfl
  refine gw_if (h.1.t (r := 25) rfl) ?_
  refine gw_bI (s_X7_isKept_25 h ) (fun x1 m1 ⟨z1, f1⟩ => ?_)
  replace z1 := z1.symm
  subst z1
  refine gw_eq (fun h5_2 => ?_) (fun h5_2 => ?_)
  ·
    exact gw_some (gq_I rfl)
  ·
    refine gw_lt (fun h9_3 => ?_) (fun h9_3 => ?_)
    ·
      exact gw_some (gq_I rfl)
    ·
      refine gw_lt (fun h14_4 => ?_) (fun h14_4 => ?_)
      ·
        refine gw_gRa 26 (h.1.c (r := 25) rfl) (h.1.r (by decide)) ?_
        have n5 : (a1 * (3 : Int32)).toInt = 3 * a1.toInt := gx_mulr 3 rfl (by omega) (by omega)
        have n6 : ((a1 * (3 : Int32)) + a2).toInt = (a1 * (3 : Int32)).toInt + a2.toInt := gx_add (by omega) (by omega)
        refine gw_aI (i := ((a1 * (3 : Int32)) + a2)) (h.1.t (r := 26) rfl) (h.1.l (r := 26) rfl) (by omega) (by omega) (fun v7 ev7 => ?_)
        exact gw_some (gq_I rfl)
      ·
        exact gw_some (gq_I rfl)
set_option maxHeartbeats 1000000 in
theorem s_X7_cell_27 {μ : gm_M} (h : CI μ) {a1 : Int32} {a2 : Int32}  : gwI (f_X7_cell 27 a1 a2 μ) (fun x m => m = μ) := by
  refine gwI_of ?_
  unfold f_X7_cell
  have l0 : (0 : Int32).toInt = 0 := rfl
  have l3 : (3 : Int32).toInt = 3 := rfl
  refine gw_if (h.1.t (r := 27) rfl) ?_
  refine gw_bI (s_X7_isKept_27 h ) (fun x1 m1 ⟨z1, f1⟩ => ?_)
  replace z1 := z1.symm
  subst z1
  refine gw_eq (fun h5_2 => ?_) (fun h5_2 => ?_)
  ·
    exact gw_some (gq_I rfl)
  ·
    refine gw_lt (fun h9_3 => ?_) (fun h9_3 => ?_)
    ·
      exact gw_some (gq_I rfl)
    ·
      refine gw_lt (fun h14_4 => ?_) (fun h14_4 => ?_)
      ·
        refine gw_gRa 28 (h.1.c (r := 27) rfl) (h.1.r (by decide)) ?_
        have n5 : (a1 * (3 : Int32)).toInt = 3 * a1.toInt := gx_mulr 3 rfl (by omega) (by omega)
        have n6 : ((a1 * (3 : Int32)) + a2).toInt = (a1 * (3 : Int32)).toInt + a2.toInt := gx_add (by omega) (by omega)
        refine gw_aI (i := ((a1 * (3 : Int32)) + a2)) (h.1.t (r := 28) rfl) (h.1.l (r := 28) rfl) (by omega) (by omega) (fun v7 ev7 => ?_)
        exact gw_some (gq_I rfl)
      ·
        exact gw_some (gq_I rfl)
set_option maxHeartbeats 1000000 in
theorem s_X2_copy_63 {μ : gm_M} (h : CI μ) {a1 : Nat} (q0 : isch a1) : gwV (f_X2_copy 63 a1 μ) (fun m => kc μ m) := by
  refine gwV_of ?_
  unfold f_X2_copy
  have l0 : (0 : Int32).toInt = 0 := rfl
  have k0 := kc.refl μ
  refine gw_gI (ict.c (h.of k0).1 (Or.inl q0)) (fun v1 ev1 => ?_)
  refine gw_pI (ict.c (h.of k0).1 (Or.inr rfl)) (fun m2 em2 => ?_)
  have km2 := k0.wr em2 (by decide)
  refine gw_gR (ict.c (h.of km2).1 (Or.inl q0)) (fun v3 ev3 => ?_)
  have cv3 : kid v3 := by rw [ev3]; exact (h.of km2).kd (Or.inl q0)
  refine gw_pR (ict.c (h.of km2).1 (Or.inr rfl)) (fun m4 em4 => ?_)
  have km4 := km2.wk em4 cv3
  refine gw_gI (ict.c (h.of km4).1 (Or.inl q0)) (fun v5 ev5 => ?_)
  refine gw_pI (ict.c (h.of km4).1 (Or.inr rfl)) (fun m6 em6 => ?_)
  have km6 := km4.wr em6 (by decide)
  refine gw_gI (ict.c (h.of km6).1 (Or.inl q0)) (fun v7 ev7 => ?_)
  refine gw_pI (ict.c (h.of km6).1 (Or.inr rfl)) (fun m8 em8 => ?_)
  have km8 := km6.wr em8 (by decide)
  refine gw_gI (ict.c (h.of km8).1 (Or.inl q0)) (fun v9 ev9 => ?_)
  refine gw_pI (ict.c (h.of km8).1 (Or.inr rfl)) (fun m10 em10 => ?_)
  have km10 := km8.wr em10 (by decide)
  refine gw_gI (ict.c (h.of km10).1 (Or.inl q0)) (fun v11 ev11 => ?_)
  refine gw_pI (ict.c (h.of km10).1 (Or.inr rfl)) (fun m12 em12 => ?_)
  have km12 := km10.wr em12 (by decide)
  refine gw_gI (ict.c (h.of km12).1 (Or.inl q0)) (fun v13 ev13 => ?_)
  refine gw_pI (ict.c (h.of km12).1 (Or.inr rfl)) (fun m14 em14 => ?_)
  have km14 := km12.wr em14 (by decide)
  refine gw_gI (ict.c (h.of km14).1 (Or.inl q0)) (fun v15 ev15 => ?_)
  refine gw_pI (ict.c (h.of km14).1 (Or.inr rfl)) (fun m16 em16 => ?_)
  have km16 := km14.wr em16 (by decide)
  refine gw_gRa (a1 + 1) (ict.c (h.of km16).1 (Or.inl q0)) (ict.row (h.of km16).1 (Or.inl q0)) ?_
  refine gw_gRa 64 (ict.c (h.of km16).1 (Or.inr rfl)) ((h.of km16).1.r (by decide)) ?_
  refine gw_gRa 64 (ict.c (h.of km16).1 (Or.inr rfl)) ((h.of km16).1.r (by decide)) ?_
  refine gw_al ((h.of km16).1.t (r := 64) rfl) ((h.of km16).1.l (r := 64) rfl) ?_
  have lo18 : (Int32.ofNat 4).toInt = 4 := rfl
  refine gx_cp (by have := q0; unfold isch at this; omega) (ict.rt (h.of km16).1 (Or.inl q0)) ((h.of km16).1.t (r := 64) rfl) (ict.rl (h.of km16).1 (Or.inl q0)) ((h.of km16).1.l (r := 64) rfl) (by omega) (by omega) (by omega) (by omega) (by omega) (fun m19 e1m19 e2m19 e3m19 e4m19 => ?_)
  have km19 := km16.cp e1m19 e2m19 e3m19 (by decide)
  exact gw_some (gq_V km19)
set_option maxHeartbeats 1000000 in
theorem s_X11_thinned {μ : gm_M} {a0 : Int32} {a1 : Int32}  : gwI (f_X11_thinned a0 a1 μ) (fun x m => m = μ) := by
  refine gwI_of ?_
  unfold f_X11_thinned
  have l0 : (0 : Int32).toInt = 0 := rfl
  have l5 : (5 : Int32).toInt = 5 := rfl
  exact gw_some (gq_I rfl)
set_option maxHeartbeats 1000000 in
theorem s_X11_thinsBelow {μ : gm_M} {a0 : Int32} {a1 : Int32}  : gwI (f_X11_thinsBelow a0 a1 μ) (fun x m => m = μ) := by
  refine gwI_of ?_
  unfold f_X11_thinsBelow
  have l0 : (0 : Int32).toInt = 0 := rfl
  have l1 : (1 : Int32).toInt = 1 := rfl
  have l10 : (10 : Int32).toInt = 10 := rfl
  refine gw_loop (fun s1 => s1.2.2 = μ ∧ (0 ≤ s1.2.1.toInt ∧ s1.2.1.toInt ≤ 10)) (fun s1 => (10 - s1.2.1.toInt)) (fun s1 ⟨k2, u3⟩ => ?_) 5000 ((0 : Int32), (0 : Int32), μ) ⟨rfl, (by show 0 ≤ (0 : Int32).toInt ∧ (0 : Int32).toInt ≤ 10; omega)⟩ (by show (10 - (0 : Int32).toInt) < ((5000 : Nat) : Int); omega) (by show 0 ≤ (10 - (0 : Int32).toInt); omega)
  refine gw_le (fun h7_4 => ?_) (fun h7_4 => ?_)
  ·
    exact gw_some (gs_inr (gq_I k2))
  ·
    refine gw_bI (s_X11_thinned ) (fun x5 m5 z5 => ?_)
    replace z5 := z5.symm
    subst z5
    refine gw_j (fun s6 => True) (fun s6 _ => ?_) (fun j7 hj7 => ?_)
    ·
      have n8 : (s1.2.1 + (1 : Int32)).toInt = s1.2.1.toInt + (1 : Int32).toInt := gx_add (by omega) (by omega)
      exact gw_some (gs_inl ⟨k2, (by show 0 ≤ (s1.2.1 + (1 : Int32)).toInt ∧ (s1.2.1 + (1 : Int32)).toInt ≤ 10; omega)⟩ (by show (10 - (s1.2.1 + (1 : Int32)).toInt) < (10 - s1.2.1.toInt); omega) (by show 0 ≤ (10 - (s1.2.1 + (1 : Int32)).toInt); omega))
    ·
      refine gw_le (fun h16_9 => ?_) (fun h16_9 => ?_)
      ·
        exact hj7 _ trivial
      ·
        exact hj7 _ trivial
set_option maxHeartbeats 1000000 in
theorem s_X11_thinsBearing {μ : gm_M} {a0 : Int32} {a1 : Int32}  : gwI (f_X11_thinsBearing a0 a1 μ) (fun x m => m = μ) := by
  refine gwI_of ?_
  unfold f_X11_thinsBearing
  have l10 : (10 : Int32).toInt = 10 := rfl
  refine gw_bI (s_X11_thinsBelow ) (fun x1 m1 z1 => ?_)
  replace z1 := z1.symm
  subst z1
  exact gw_some (gq_I rfl)
set_option maxHeartbeats 1000000 in
theorem s_X11_greatestCommon {μ : gm_M} {a0 : Int32} {a1 : Int32}  : gwI (f_X11_greatestCommon a0 a1 μ) (fun x m => m = μ) := by
  refine gwI_of ?_
  unfold f_X11_greatestCommon
  have l0 : (0 : Int32).toInt = 0 := rfl
  have l1 : (1 : Int32).toInt = 1 := rfl
  have l100 : (100 : Int32).toInt = 100 := rfl
  refine gw_loop (fun s1 => (0 ≤ s1.2.2.toInt ∧ s1.2.2.toInt ≤ 100)) (fun s1 => (100 - s1.2.2.toInt)) (fun s1 u2 => ?_) 5000 (a0, a1, (0 : Int32)) (by show 0 ≤ (0 : Int32).toInt ∧ (0 : Int32).toInt ≤ 100; omega) (by show (100 - (0 : Int32).toInt) < ((5000 : Nat) : Int); omega) (by show 0 ≤ (100 - (0 : Int32).toInt); omega)
  refine gw_le (fun h5_3 => ?_) (fun h5_3 => ?_)
  ·
    exact gw_some (gs_inr (gq_I rfl))
  ·
    refine gw_eq (fun h9_4 => ?_) (fun h9_4 => ?_)
    ·
      exact gw_some (gs_inr (gq_I rfl))
    ·
      refine gw_dv (by omega) ?_
      have n5 : (s1.2.2 + (1 : Int32)).toInt = s1.2.2.toInt + (1 : Int32).toInt := gx_add (by omega) (by omega)
      exact gw_some (gs_inl (by show 0 ≤ (s1.2.2 + (1 : Int32)).toInt ∧ (s1.2.2 + (1 : Int32)).toInt ≤ 100; omega) (by show (100 - (s1.2.2 + (1 : Int32)).toInt) < (100 - s1.2.2.toInt); omega) (by show 0 ≤ (100 - (s1.2.2 + (1 : Int32)).toInt); omega))
set_option maxHeartbeats 1000000 in
theorem s_X11_fraction {μ : gm_M} {a0 : Int32} {a1 : Int32} {a2 : Int32}  : gwL (f_X11_fraction a0 a1 a2 μ) (fun x m => m = μ) := by
  refine gwL_of ?_
  unfold f_X11_fraction
  have l0 : (0 : Int32).toInt = 0 := rfl
  refine gw_bI (s_X11_greatestCommon ) (fun x1 m1 z1 => ?_)
  replace z1 := z1.symm
  subst z1
  refine gw_ne (fun h7_2 => ?_) (fun h7_2 => ?_)
  ·
    refine gw_j (fun s3 => True) (fun s3 _ => ?_) (fun j4 hj4 => ?_)
    ·
      exact gw_some (gq_L rfl)
    ·
      refine gw_ne (fun h15_5 => ?_) (fun h15_5 => ?_)
      ·
        refine gw_dv (by omega) ?_
        exact hj4 _ trivial
      ·
        refine gw_dv (by omega) ?_
        exact hj4 _ trivial
  ·
    exact gw_some (gq_L rfl)
set_option maxHeartbeats 1000000 in
theorem s_X11_isUnder {μ : gm_M} (h : CI μ) {a0 : Nat} {a1 : Int32} (q0 : kid a0) : gwI (f_X11_isUnder a0 a1 μ) (fun x m => m = μ ∧ (x.toInt = 0 ∨ x.toInt = 1)) := by
  refine gwI_of ?_
  unfold f_X11_isUnder
  have l0 : (0 : Int32).toInt = 0 := rfl
  have l1 : (1 : Int32).toInt = 1 := rfl
  have l2 : (2 : Int32).toInt = 2 := rfl
  have l3 : (3 : Int32).toInt = 3 := rfl
  have l4 : (4 : Int32).toInt = 4 := rfl
  have l5 : (5 : Int32).toInt = 5 := rfl
  have l6 : (6 : Int32).toInt = 6 := rfl
  refine gw_eq (fun h1_1 => ?_) (fun h1_1 => ?_)
  ·
    refine gw_z Iff.rfl (by omega) (gq_I ⟨rfl, by omega⟩)
  ·
    refine gw_eq (fun h1_2 => ?_) (fun h1_2 => ?_)
    ·
      refine gw_io (by rcases kid.t h.1 q0 with q | q | q | q | q | q | q <;> rw [q] <;> decide) (fun v3 iv3 => ?_)
      have jv3 : v3.toInt = 0 ∨ v3.toInt = 1 := iv3.elim (fun q => Or.inr q.1) (fun q => Or.inl q.1)
      refine gw_z Iff.rfl (by omega) (gq_I ⟨rfl, by omega⟩)
    ·
      refine gw_eq (fun h1_4 => ?_) (fun h1_4 => ?_)
      ·
        refine gw_io (by rcases kid.t h.1 q0 with q | q | q | q | q | q | q <;> rw [q] <;> decide) (fun v5 iv5 => ?_)
        have jv5 : v5.toInt = 0 ∨ v5.toInt = 1 := iv5.elim (fun q => Or.inr q.1) (fun q => Or.inl q.1)
        refine gw_z Iff.rfl (by omega) (gq_I ⟨rfl, by omega⟩)
      ·
        refine gw_eq (fun h1_6 => ?_) (fun h1_6 => ?_)
        ·
          refine gw_io (by rcases kid.t h.1 q0 with q | q | q | q | q | q | q <;> rw [q] <;> decide) (fun v7 iv7 => ?_)
          have jv7 : v7.toInt = 0 ∨ v7.toInt = 1 := iv7.elim (fun q => Or.inr q.1) (fun q => Or.inl q.1)
          refine gw_z Iff.rfl (by omega) (gq_I ⟨rfl, by omega⟩)
        ·
          refine gw_eq (fun h1_8 => ?_) (fun h1_8 => ?_)
          ·
            refine gw_io (by rcases kid.t h.1 q0 with q | q | q | q | q | q | q <;> rw [q] <;> decide) (fun v9 iv9 => ?_)
            have jv9 : v9.toInt = 0 ∨ v9.toInt = 1 := iv9.elim (fun q => Or.inr q.1) (fun q => Or.inl q.1)
            refine gw_z Iff.rfl (by omega) (gq_I ⟨rfl, by omega⟩)
          ·
            refine gw_eq (fun h1_10 => ?_) (fun h1_10 => ?_)
            ·
              refine gw_io (by rcases kid.t h.1 q0 with q | q | q | q | q | q | q <;> rw [q] <;> decide) (fun v11 iv11 => ?_)
              have jv11 : v11.toInt = 0 ∨ v11.toInt = 1 := iv11.elim (fun q => Or.inr q.1) (fun q => Or.inl q.1)
              refine gw_z Iff.rfl (by omega) (gq_I ⟨rfl, by omega⟩)
            ·
              refine gw_eq (fun h1_12 => ?_) (fun h1_12 => ?_)
              ·
                refine gw_io (by rcases kid.t h.1 q0 with q | q | q | q | q | q | q <;> rw [q] <;> decide) (fun v13 iv13 => ?_)
                have jv13 : v13.toInt = 0 ∨ v13.toInt = 1 := iv13.elim (fun q => Or.inr q.1) (fun q => Or.inl q.1)
                refine gw_z Iff.rfl (by omega) (gq_I ⟨rfl, by omega⟩)
              ·
                refine gw_z Iff.rfl (by omega) (gq_I ⟨rfl, by omega⟩)
set_option maxHeartbeats 1000000 in
theorem s_X11_holdsNow {μ : gm_M} (h : CI μ) {a1 : Int32} (q0 : 0 ≤ a1.toInt ∧ a1.toInt < 5) : gwI (f_X11_holdsNow 1 a1 μ) (fun x m => m = μ) := by
  refine gwI_of ?_
  unfold f_X11_holdsNow
  refine gw_gRa 15 (h.1.c (r := 1) rfl) (h.1.r (by decide)) ?_
  refine gw_gRa 16 (h.1.c (r := 15) rfl) (h.1.r (by decide)) ?_
  refine gw_aR (i := a1) (h.1.t (r := 16) rfl) (h.1.l (r := 16) rfl) (by omega) (by omega) (fun v1 ev1 => ?_)
  have cv1 : isch v1 := by rw [ev1]; exact isch.of h.1 (by omega) (by omega)
  refine gw_gRa 15 (h.1.c (r := 1) rfl) (h.1.r (by decide)) ?_
  refine gw_gR (h.1.c (r := 15) rfl) (fun v2 ev2 => ?_)
  have cv2 : AfW μ v2 := by rw [ev2]; exact h.af
  refine gw_gRa 15 (h.1.c (r := 1) rfl) (h.1.r (by decide)) ?_
  refine gw_gI (h.1.c (r := 15) rfl) (fun v3 ev3 => ?_)
  refine gw_if (ict.t h.1 (Or.inl cv1)) ?_
  refine gw_bI (s_X2_holds h (Or.inl cv1) cv2) (fun x4 m4 z4 => ?_)
  replace z4 := z4.symm
  subst z4
  exact gw_some (gq_I rfl)
set_option maxHeartbeats 1000000 in
theorem s_X11_bubbleBits {μ : gm_M} (h : CI μ)   : gwI (f_X11_bubbleBits 1 μ) (fun x m => m = μ) := by
  refine gwI_of ?_
  unfold f_X11_bubbleBits
  have l0 : (0 : Int32).toInt = 0 := rfl
  have l1 : (1 : Int32).toInt = 1 := rfl
  refine gw_loop (fun s1 => (0 ≤ s1.2.toInt ∧ s1.2.toInt ≤ 5)) (fun s1 => (5 - s1.2.toInt)) (fun s1 u2 => ?_) 5000 ((0 : Int32), (0 : Int32)) (by show 0 ≤ (0 : Int32).toInt ∧ (0 : Int32).toInt ≤ 5; omega) (by show (5 - (0 : Int32).toInt) < ((5000 : Nat) : Int); omega) (by show 0 ≤ (5 - (0 : Int32).toInt); omega)
  refine gw_gRa 15 (h.1.c (r := 1) rfl) (h.1.r (by decide)) ?_
  refine gw_gI (h.1.c (r := 15) rfl) (fun v3 ev3 => ?_)
  have bv3 := h.n1
  have dv3 : v3.toInt = (μ.2.1 15 1).toInt := by rw [ev3]
  refine gw_le (fun h12_4 => ?_) (fun h12_4 => ?_)
  ·
    exact gw_some (gs_inr (gq_I rfl))
  ·
    refine gw_gRa 15 (h.1.c (r := 1) rfl) (h.1.r (by decide)) ?_
    refine gw_gRa 16 (h.1.c (r := 15) rfl) (h.1.r (by decide)) ?_
    refine gw_aR (i := s1.2) (h.1.t (r := 16) rfl) (h.1.l (r := 16) rfl) (by omega) (by omega) (fun v5 ev5 => ?_)
    have cv5 : isch v5 := by rw [ev5]; exact isch.of h.1 (by omega) (by omega)
    refine gw_gI (ict.c h.1 (Or.inl cv5)) (fun v6 ev6 => ?_)
    refine gw_j (fun s7 => True) (fun s7 _ => ?_) (fun j8 hj8 => ?_)
    ·
      have n9 : (s1.2 + (1 : Int32)).toInt = s1.2.toInt + (1 : Int32).toInt := gx_add (by omega) (by omega)
      exact gw_some (gs_inl (by show 0 ≤ (s1.2 + (1 : Int32)).toInt ∧ (s1.2 + (1 : Int32)).toInt ≤ 5; omega) (by show (5 - (s1.2 + (1 : Int32)).toInt) < (5 - s1.2.toInt); omega) (by show 0 ≤ (5 - (s1.2 + (1 : Int32)).toInt); omega))
    ·
      refine gw_le (fun h27_10 => ?_) (fun h27_10 => ?_)
      ·
        exact hj8 _ trivial
      ·
        exact hj8 _ trivial
set_option maxHeartbeats 1000000 in
theorem s_X11_trialBehind {μ : gm_M} (h : CI μ) {a1 : Int32} (q0 : a1.toInt ≤ 100) : gwI (f_X11_trialBehind 1 a1 μ) (fun x m => kc μ m) := by
  refine gwI_of ?_
  unfold f_X11_trialBehind
  have l0 : (0 : Int32).toInt = 0 := rfl
  have l1 : (1 : Int32).toInt = 1 := rfl
  have k0 := kc.refl μ
  refine gw_loop (fun s1 => kc μ s1.2 ∧ (0 ≤ s1.1.toInt ∧ s1.1.toInt ≤ 100)) (fun s1 => (100 - s1.1.toInt)) (fun s1 ⟨k2, u3⟩ => ?_) 5000 ((0 : Int32), μ) ⟨k0, (by show 0 ≤ (0 : Int32).toInt ∧ (0 : Int32).toInt ≤ 100; omega)⟩ (by show (100 - (0 : Int32).toInt) < ((5000 : Nat) : Int); omega) (by show 0 ≤ (100 - (0 : Int32).toInt); omega)
  refine gw_le (fun h4_4 => ?_) (fun h4_4 => ?_)
  ·
    refine gw_gRa 63 ((h.of k2).1.c (r := 1) rfl) ((h.of k2).1.r (by decide)) ?_
    refine gw_gRa 15 ((h.of k2).1.c (r := 1) rfl) ((h.of k2).1.r (by decide)) ?_
    refine gw_gR ((h.of k2).1.c (r := 15) rfl) (fun v5 ev5 => ?_)
    have cv5 : AfW s1.2 v5 := by rw [ev5]; exact (h.of k2).af
    refine gw_gRa 15 ((h.of k2).1.c (r := 1) rfl) ((h.of k2).1.r (by decide)) ?_
    refine gw_gI ((h.of k2).1.c (r := 15) rfl) (fun v6 ev6 => ?_)
    refine gw_if (ict.t (h.of k2).1 (Or.inr rfl)) ?_
    refine gw_bI (s_X2_holds (h.of k2) (Or.inr rfl) cv5) (fun x7 m7 z7 => ?_)
    replace z7 := z7.symm
    subst z7
    exact gw_some (gs_inr (gq_I k2))
  ·
    refine gw_gRa 63 ((h.of k2).1.c (r := 1) rfl) ((h.of k2).1.r (by decide)) ?_
    refine gw_gRa 15 ((h.of k2).1.c (r := 1) rfl) ((h.of k2).1.r (by decide)) ?_
    refine gw_gI ((h.of k2).1.c (r := 15) rfl) (fun v8 ev8 => ?_)
    refine gw_if (ict.t (h.of k2).1 (Or.inr rfl)) ?_
    refine gw_bV (s_X2_passMinute (h.of k2) (Or.inr rfl)) (fun m9 g9 => ?_)
    have kk9 := k2.ch g9
    have n10 : (s1.1 + (1 : Int32)).toInt = s1.1.toInt + (1 : Int32).toInt := gx_add (by omega) (by omega)
    exact gw_some (gs_inl ⟨kk9, (by show 0 ≤ (s1.1 + (1 : Int32)).toInt ∧ (s1.1 + (1 : Int32)).toInt ≤ 100; omega)⟩ (by show (100 - (s1.1 + (1 : Int32)).toInt) < (100 - s1.1.toInt); omega) (by show 0 ≤ (100 - (s1.1 + (1 : Int32)).toInt); omega))
set_option maxHeartbeats 1000000 in
theorem s_X11_holdsBehind {μ : gm_M} (h : CI μ) {a1 : Int32} {a2 : Int32} (q0 : 0 ≤ a1.toInt ∧ a1.toInt < 5) (q1 : a2.toInt ≤ 100) : gwI (f_X11_holdsBehind 1 a1 a2 μ) (fun x m => kc μ m) := by
  refine gwI_of ?_
  unfold f_X11_holdsBehind
  have k0 := kc.refl μ
  refine gw_gRa 63 ((h.of k0).1.c (r := 1) rfl) ((h.of k0).1.r (by decide)) ?_
  refine gw_gRa 15 ((h.of k0).1.c (r := 1) rfl) ((h.of k0).1.r (by decide)) ?_
  refine gw_gRa 16 ((h.of k0).1.c (r := 15) rfl) ((h.of k0).1.r (by decide)) ?_
  refine gw_aR (i := a1) ((h.of k0).1.t (r := 16) rfl) ((h.of k0).1.l (r := 16) rfl) (by omega) (by omega) (fun v1 ev1 => ?_)
  have cv1 : isch v1 := by rw [ev1]; exact isch.of (h.of k0).1 (by omega) (by omega)
  refine gw_if (ict.t (h.of k0).1 (Or.inr rfl)) ?_
  refine gw_bV (s_X2_copy_63 (h.of k0) cv1) (fun m2 g2 => ?_)
  have kk2 := k0.trans g2
  refine gw_if ((h.of kk2).1.t (r := 1) rfl) ?_
  refine gw_bI (s_X11_trialBehind (h.of kk2) (by omega)) (fun x3 m3 g3 => ?_)
  have kk3 := kk2.trans g3
  exact gw_some (gq_I kk3)
set_option maxHeartbeats 1000000 in
theorem s_X11_sumBehind {μ : gm_M} (h : CI μ) {a1 : Int32} (q0 : a1.toInt ≤ 100) : gwI (f_X11_sumBehind 1 a1 μ) (fun x m => kc μ m) := by
  refine gwI_of ?_
  unfold f_X11_sumBehind
  have l0 : (0 : Int32).toInt = 0 := rfl
  have l1 : (1 : Int32).toInt = 1 := rfl
  have k0 := kc.refl μ
  refine gw_loop (fun s1 => kc μ s1.2.2 ∧ (0 ≤ s1.2.1.toInt ∧ s1.2.1.toInt ≤ 5)) (fun s1 => (5 - s1.2.1.toInt)) (fun s1 ⟨k2, u3⟩ => ?_) 5000 ((0 : Int32), (0 : Int32), μ) ⟨k0, (by show 0 ≤ (0 : Int32).toInt ∧ (0 : Int32).toInt ≤ 5; omega)⟩ (by show (5 - (0 : Int32).toInt) < ((5000 : Nat) : Int); omega) (by show 0 ≤ (5 - (0 : Int32).toInt); omega)
  refine gw_gRa 15 ((h.of k2).1.c (r := 1) rfl) ((h.of k2).1.r (by decide)) ?_
  refine gw_gI ((h.of k2).1.c (r := 15) rfl) (fun v4 ev4 => ?_)
  have bv4 := (h.of k2).n1
  have dv4 : v4.toInt = (s1.2.2.2.1 15 1).toInt := by rw [ev4]
  have yv4 : v4.toInt = (μ.2.1 15 1).toInt := by rw [dv4, k2.row (by decide)]
  refine gw_le (fun h12_5 => ?_) (fun h12_5 => ?_)
  ·
    exact gw_some (gs_inr (gq_I k2))
  ·
    refine gw_if ((h.of k2).1.t (r := 1) rfl) ?_
    refine gw_bI (s_X11_holdsBehind (h.of k2) (by omega) (by omega)) (fun x6 m6 g6 => ?_)
    have kk6 := k2.trans g6
    have n7 : (s1.2.1 + (1 : Int32)).toInt = s1.2.1.toInt + (1 : Int32).toInt := gx_add (by omega) (by omega)
    exact gw_some (gs_inl ⟨kk6, (by show 0 ≤ (s1.2.1 + (1 : Int32)).toInt ∧ (s1.2.1 + (1 : Int32)).toInt ≤ 5; omega)⟩ (by show (5 - (s1.2.1 + (1 : Int32)).toInt) < (5 - s1.2.1.toInt); omega) (by show 0 ≤ (5 - (s1.2.1 + (1 : Int32)).toInt); omega))
set_option maxHeartbeats 1000000 in
theorem s_X11_trialWhen {μ : gm_M} (h : CI μ) {a1 : Int32}  : gwI (f_X11_trialWhen 1 a1 μ) (fun x m => kc μ m) := by
  refine gwI_of ?_
  unfold f_X11_trialWhen
  have lm1 : (-1 : Int32).toInt = -1 := rfl
  have l0 : (0 : Int32).toInt = 0 := rfl
  have l1 : (1 : Int32).toInt = 1 := rfl
  have l60 : (60 : Int32).toInt = 60 := rfl
  have k0 := kc.refl μ
  refine gw_loop (fun s1 => kc μ s1.2.2.2 ∧ (0 ≤ s1.2.2.1.toInt ∧ s1.2.2.1.toInt ≤ 61)) (fun s1 => (61 - s1.2.2.1.toInt)) (fun s1 ⟨k2, u3⟩ => ?_) 5000 ((-1 : Int32), (0 : Int32), (0 : Int32), μ) ⟨k0, (by show 0 ≤ (0 : Int32).toInt ∧ (0 : Int32).toInt ≤ 61; omega)⟩ (by show (61 - (0 : Int32).toInt) < ((5000 : Nat) : Int); omega) (by show 0 ≤ (61 - (0 : Int32).toInt); omega)
  refine gw_lt (fun h11_4 => ?_) (fun h11_4 => ?_)
  ·
    refine gw_ne (fun h76_5 => ?_) (fun h76_5 => ?_)
    ·
      exact gw_some (gs_inr (gq_I k2))
    ·
      exact gw_some (gs_inr (gq_I k2))
  ·
    refine gw_gRa 63 ((h.of k2).1.c (r := 1) rfl) ((h.of k2).1.r (by decide)) ?_
    refine gw_gRa 15 ((h.of k2).1.c (r := 1) rfl) ((h.of k2).1.r (by decide)) ?_
    refine gw_gR ((h.of k2).1.c (r := 15) rfl) (fun v6 ev6 => ?_)
    have cv6 : AfW s1.2.2.2 v6 := by rw [ev6]; exact (h.of k2).af
    refine gw_gRa 15 ((h.of k2).1.c (r := 1) rfl) ((h.of k2).1.r (by decide)) ?_
    refine gw_gI ((h.of k2).1.c (r := 15) rfl) (fun v7 ev7 => ?_)
    refine gw_if (ict.t (h.of k2).1 (Or.inr rfl)) ?_
    refine gw_bI (s_X2_holds (h.of k2) (Or.inr rfl) cv6) (fun x8 m8 z8 => ?_)
    replace z8 := z8.symm
    subst z8
    refine gw_j (fun s9 => True) (fun s9 _ => ?_) (fun j10 hj10 => ?_)
    ·
      refine gw_gRa 63 ((h.of k2).1.c (r := 1) rfl) ((h.of k2).1.r (by decide)) ?_
      refine gw_gRa 15 ((h.of k2).1.c (r := 1) rfl) ((h.of k2).1.r (by decide)) ?_
      refine gw_gI ((h.of k2).1.c (r := 15) rfl) (fun v11 ev11 => ?_)
      refine gw_if (ict.t (h.of k2).1 (Or.inr rfl)) ?_
      refine gw_bV (s_X2_passMinute (h.of k2) (Or.inr rfl)) (fun m12 g12 => ?_)
      have kk12 := k2.ch g12
      have n13 : (s1.2.2.1 + (1 : Int32)).toInt = s1.2.2.1.toInt + (1 : Int32).toInt := gx_add (by omega) (by omega)
      exact gw_some (gs_inl ⟨kk12, (by show 0 ≤ (s1.2.2.1 + (1 : Int32)).toInt ∧ (s1.2.2.1 + (1 : Int32)).toInt ≤ 61; omega)⟩ (by show (61 - (s1.2.2.1 + (1 : Int32)).toInt) < (61 - s1.2.2.1.toInt); omega) (by show 0 ≤ (61 - (s1.2.2.1 + (1 : Int32)).toInt); omega))
    ·
      refine gw_le (fun h43_14 => ?_) (fun h43_14 => ?_)
      ·
        exact hj10 _ trivial
      ·
        exact hj10 _ trivial
set_option maxHeartbeats 1000000 in
theorem s_X11_holdsWithGumOf {μ : gm_M} (h : CI μ) {a1 : Int32} {a2 : Int32} (q0 : 0 ≤ a1.toInt ∧ a1.toInt < 5) (q1 : 0 ≤ a2.toInt ∧ a2.toInt < 5) : gwI (f_X11_holdsWithGumOf 1 a1 a2 μ) (fun x m => kc μ m) := by
  refine gwI_of ?_
  unfold f_X11_holdsWithGumOf
  have l0 : (0 : Int32).toInt = 0 := rfl
  have k0 := kc.refl μ
  refine gw_gRa 63 ((h.of k0).1.c (r := 1) rfl) ((h.of k0).1.r (by decide)) ?_
  refine gw_gRa 15 ((h.of k0).1.c (r := 1) rfl) ((h.of k0).1.r (by decide)) ?_
  refine gw_gRa 16 ((h.of k0).1.c (r := 15) rfl) ((h.of k0).1.r (by decide)) ?_
  refine gw_aR (i := a1) ((h.of k0).1.t (r := 16) rfl) ((h.of k0).1.l (r := 16) rfl) (by omega) (by omega) (fun v1 ev1 => ?_)
  have cv1 : isch v1 := by rw [ev1]; exact isch.of (h.of k0).1 (by omega) (by omega)
  refine gw_if (ict.t (h.of k0).1 (Or.inr rfl)) ?_
  refine gw_bV (s_X2_copy_63 (h.of k0) cv1) (fun m2 g2 => ?_)
  have kk2 := k0.trans g2
  refine gw_gRa 63 ((h.of kk2).1.c (r := 1) rfl) ((h.of kk2).1.r (by decide)) ?_
  refine gw_gRa 15 ((h.of kk2).1.c (r := 1) rfl) ((h.of kk2).1.r (by decide)) ?_
  refine gw_gRa 16 ((h.of kk2).1.c (r := 15) rfl) ((h.of kk2).1.r (by decide)) ?_
  refine gw_aR (i := a2) ((h.of kk2).1.t (r := 16) rfl) ((h.of kk2).1.l (r := 16) rfl) (by omega) (by omega) (fun v3 ev3 => ?_)
  have cv3 : isch v3 := by rw [ev3]; exact isch.of (h.of kk2).1 (by omega) (by omega)
  refine gw_gI (ict.c (h.of kk2).1 (Or.inl cv3)) (fun v4 ev4 => ?_)
  refine gw_pI (ict.c (h.of kk2).1 (Or.inr rfl)) (fun m5 em5 => ?_)
  have km5 := kk2.wr em5 (by decide)
  refine gw_gRa 63 ((h.of km5).1.c (r := 1) rfl) ((h.of km5).1.r (by decide)) ?_
  refine gw_gRa 15 ((h.of km5).1.c (r := 1) rfl) ((h.of km5).1.r (by decide)) ?_
  refine gw_gRa 16 ((h.of km5).1.c (r := 15) rfl) ((h.of km5).1.r (by decide)) ?_
  refine gw_aR (i := a2) ((h.of km5).1.t (r := 16) rfl) ((h.of km5).1.l (r := 16) rfl) (by omega) (by omega) (fun v6 ev6 => ?_)
  have cv6 : isch v6 := by rw [ev6]; exact isch.of (h.of km5).1 (by omega) (by omega)
  refine gw_gI (ict.c (h.of km5).1 (Or.inl cv6)) (fun v7 ev7 => ?_)
  refine gw_pI (ict.c (h.of km5).1 (Or.inr rfl)) (fun m8 em8 => ?_)
  have km8 := km5.wr em8 (by decide)
  refine gw_if ((h.of km8).1.t (r := 1) rfl) ?_
  refine gw_bI (s_X11_trialBehind (h.of km8) (by omega)) (fun x9 m9 g9 => ?_)
  have kk9 := km8.trans g9
  exact gw_some (gq_I kk9)
set_option maxHeartbeats 1000000 in
theorem s_X11_fillBehind {μ : gm_M} (h : CI μ) {a1 : Int32} (q0 : 0 ≤ a1.toInt ∧ a1.toInt < 5) : gwV (f_X11_fillBehind 1 a1 μ) (fun m => kc μ m) := by
  refine gwV_of ?_
  unfold f_X11_fillBehind
  have l0 : (0 : Int32).toInt = 0 := rfl
  have l1 : (1 : Int32).toInt = 1 := rfl
  have l5 : (5 : Int32).toInt = 5 := rfl
  have k0 := kc.refl μ
  refine gw_gRa 63 ((h.of k0).1.c (r := 1) rfl) ((h.of k0).1.r (by decide)) ?_
  refine gw_gRa 15 ((h.of k0).1.c (r := 1) rfl) ((h.of k0).1.r (by decide)) ?_
  refine gw_gRa 16 ((h.of k0).1.c (r := 15) rfl) ((h.of k0).1.r (by decide)) ?_
  refine gw_aR (i := a1) ((h.of k0).1.t (r := 16) rfl) ((h.of k0).1.l (r := 16) rfl) (by omega) (by omega) (fun v1 ev1 => ?_)
  have cv1 : isch v1 := by rw [ev1]; exact isch.of (h.of k0).1 (by omega) (by omega)
  refine gw_if (ict.t (h.of k0).1 (Or.inr rfl)) ?_
  refine gw_bV (s_X2_copy_63 (h.of k0) cv1) (fun m2 g2 => ?_)
  have kk2 := k0.trans g2
  refine gw_loop (fun s3 => kc μ s3.2 ∧ (0 ≤ s3.1.toInt ∧ s3.1.toInt ≤ 5)) (fun s3 => (5 - s3.1.toInt)) (fun s3 ⟨k4, u5⟩ => ?_) 5000 ((0 : Int32), m2) ⟨kk2, (by show 0 ≤ (0 : Int32).toInt ∧ (0 : Int32).toInt ≤ 5; omega)⟩ (by show (5 - (0 : Int32).toInt) < ((5000 : Nat) : Int); omega) (by show 0 ≤ (5 - (0 : Int32).toInt); omega)
  refine gw_gRa 15 ((h.of k4).1.c (r := 1) rfl) ((h.of k4).1.r (by decide)) ?_
  refine gw_gI ((h.of k4).1.c (r := 15) rfl) (fun v6 ev6 => ?_)
  have bv6 := (h.of k4).n1
  have dv6 : v6.toInt = (s3.2.2.1 15 1).toInt := by rw [ev6]
  have yv6 : v6.toInt = (μ.2.1 15 1).toInt := by rw [dv6, k4.row (by decide)]
  refine gw_le (fun h26_7 => ?_) (fun h26_7 => ?_)
  ·
    exact gw_some (gs_inr (gq_V k4))
  ·
    refine gw_gRa 5 ((h.of k4).1.c (r := 1) rfl) ((h.of k4).1.r (by decide)) ?_
    refine gw_gRa 63 ((h.of k4).1.c (r := 1) rfl) ((h.of k4).1.r (by decide)) ?_
    refine gw_gRa 15 ((h.of k4).1.c (r := 1) rfl) ((h.of k4).1.r (by decide)) ?_
    refine gw_gR ((h.of k4).1.c (r := 15) rfl) (fun v8 ev8 => ?_)
    have cv8 : AfW s3.2 v8 := by rw [ev8]; exact (h.of k4).af
    refine gw_gRa 15 ((h.of k4).1.c (r := 1) rfl) ((h.of k4).1.r (by decide)) ?_
    refine gw_gI ((h.of k4).1.c (r := 15) rfl) (fun v9 ev9 => ?_)
    refine gw_if (ict.t (h.of k4).1 (Or.inr rfl)) ?_
    refine gw_bI (s_X2_holds (h.of k4) (Or.inr rfl) cv8) (fun x10 m10 z10 => ?_)
    replace z10 := z10.symm
    subst z10
    have n11 : (a1 * (5 : Int32)).toInt = 5 * a1.toInt := gx_mulr 5 rfl (by omega) (by omega)
    have n12 : ((a1 * (5 : Int32)) + s3.1).toInt = (a1 * (5 : Int32)).toInt + s3.1.toInt := gx_add (by omega) (by omega)
    refine gw_sI (i := ((a1 * (5 : Int32)) + s3.1)) ((h.of k4).1.t (r := 5) rfl) ((h.of k4).1.l (r := 5) rfl) (by omega) (by omega) (fun m13 em13 => ?_)
    have km13 := k4.wr em13 (by decide)
    refine gw_gRa 63 ((h.of km13).1.c (r := 1) rfl) ((h.of km13).1.r (by decide)) ?_
    refine gw_gRa 15 ((h.of km13).1.c (r := 1) rfl) ((h.of km13).1.r (by decide)) ?_
    refine gw_gI ((h.of km13).1.c (r := 15) rfl) (fun v14 ev14 => ?_)
    refine gw_if (ict.t (h.of km13).1 (Or.inr rfl)) ?_
    refine gw_bV (s_X2_passMinute (h.of km13) (Or.inr rfl)) (fun m15 g15 => ?_)
    have kk15 := km13.ch g15
    have n16 : (s3.1 + (1 : Int32)).toInt = s3.1.toInt + (1 : Int32).toInt := gx_add (by omega) (by omega)
    exact gw_some (gs_inl ⟨kk15, (by show 0 ≤ (s3.1 + (1 : Int32)).toInt ∧ (s3.1 + (1 : Int32)).toInt ≤ 5; omega)⟩ (by show (5 - (s3.1 + (1 : Int32)).toInt) < (5 - s3.1.toInt); omega) (by show 0 ≤ (5 - (s3.1 + (1 : Int32)).toInt); omega))
