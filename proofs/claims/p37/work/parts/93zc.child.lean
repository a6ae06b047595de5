section
/-! a child: agreed behind it -/
def BC (μ m : gm_M) (n : Nat) : Prop := m.2.1 (29 + 2 * n) 3 = 1 ∧ m.2.1 (29 + 2 * n) 4 = μ.2.1 (μ.2.2 15 6) 1 ∧ m.2.1 (29 + 2 * n) 5 = 0 ∧ m.2.1 (29 + 2 * n) 6 = 0 ∧ m.2.1 (29 + 2 * n) 7 = 0
def BM (sw : Int32) (μ m : gm_M) (n : Nat) : Prop := (m.2.1 66 (1 + n) = 1 ∧ m.2.1 66 (6 + n) = sw ∧ m.2.1 66 (11 + n) = 0 ∧ m.2.1 66 (16 + n) = 0 ∧ m.2.1 66 (21 + n) = 0) ∧ ∀ i : Nat, 1 ≤ i ∧ i < 26 → i ≠ 1 + n → i ≠ 6 + n → i ≠ 11 + n → i ≠ 16 + n → i ≠ 21 + n → m.2.1 66 i = μ.2.1 66 i
set_option maxHeartbeats 4000000 in
theorem n_childc {μ : gm_M} (h : ALL μ) {a1 : Int32} {a2 : Int32} : gwI (f_X11_child 1 a1 a2 μ) (fun x m => (m = μ ∧ x = -1 ∧ (a1.toInt < 0 ∨ 6 < a1.toInt)) ∨ (m = μ ∧ x = -2 ∧ (0 ≤ a1.toInt ∧ a1.toInt ≤ 6) ∧ (a2.toInt < 0 ∨ 9 < a2.toInt)) ∨ (m = μ ∧ x = -4 ∧ (0 ≤ a1.toInt ∧ a1.toInt ≤ 6) ∧ (0 ≤ a2.toInt ∧ a2.toInt ≤ 9) ∧ 5 ≤ (μ.2.1 15 1).toInt) ∨ ((0 ≤ a1.toInt ∧ a1.toInt ≤ 6) ∧ (0 ≤ a2.toInt ∧ a2.toInt ≤ 9) ∧ (μ.2.1 15 1).toInt < 5 ∧ x = μ.2.1 15 1 ∧ CB μ m (μ.2.1 15 1).toInt.toNat a1 a2 ∧ BC μ m (μ.2.1 15 1).toInt.toNat)) := by
  refine gwI_of ?_
  unfold f_X11_child
  have hc := h.2.2.1
  have lm4 : (-4 : Int32).toInt = -4 := rfl
  have lm2 : (-2 : Int32).toInt = -2 := rfl
  have lm1 : (-1 : Int32).toInt = -1 := rfl
  have l0 : (0 : Int32).toInt = 0 := rfl
  have l1 : (1 : Int32).toInt = 1 := rfl
  have l5 : (5 : Int32).toInt = 5 := rfl
  have l6 : (6 : Int32).toInt = 6 := rfl
  have l9 : (9 : Int32).toInt = 9 := rfl
  have N1 := hc.n1
  refine gw_bI (s_X11_isOutside ) (fun x1 m1 ⟨z1, f1⟩ => ?_)
  replace z1 := z1.symm
  subst z1
  refine gw_eq (fun h7_2 => ?_) (fun h7_2 => ?_)
  ·
    refine gw_bI (s_X11_isOutside ) (fun x3 m3 ⟨z3, f3⟩ => ?_)
    replace z3 := z3.symm
    subst z3
    refine gw_eq (fun h19_4 => ?_) (fun h19_4 => ?_)
    ·
      have hb1 : 0 ≤ a1.toInt ∧ a1.toInt ≤ 6 := by omega
      have hb2 : 0 ≤ a2.toInt ∧ a2.toInt ≤ 9 := by omega
      clear h7_2 h19_4 f1 f3
      refine gw_gRa 15 (hc.1.c (r := 1) rfl) (hc.1.r (by decide)) ?_
      refine gw_gI (hc.1.c (r := 15) rfl) (fun v5 ev5 => ?_)
      have bv5 := hc.n1
      have dv5 : v5.toInt = (μ.2.1 15 1).toInt := by rw [ev5]
      refine gw_lt (fun h33_6 => ?_) (fun h33_6 => ?_)
      ·
        refine gw_gRa 15 (hc.1.c (r := 1) rfl) (hc.1.r (by decide)) ?_
        refine gw_gRa 16 (hc.1.c (r := 15) rfl) (hc.1.r (by decide)) ?_
        refine gw_gRa 15 (hc.1.c (r := 1) rfl) (hc.1.r (by decide)) ?_
        refine gw_gI (hc.1.c (r := 15) rfl) (fun v7 ev7 => ?_)
        have bv7 := hc.n1
        have dv7 : v7.toInt = (μ.2.1 15 1).toInt := by rw [ev7]
        have SZ := ev7
        refine gw_aR (i := v7) (hc.1.t (r := 16) rfl) (hc.1.l (r := 16) rfl) (by omega) (by omega) (fun v8 ev8 => ?_)
        have cv8 : isch v8 := by rw [ev8]; exact isch.of hc.1 (by omega) (by omega)
        have hv : v8 = 29 + 2 * (μ.2.1 15 1).toInt.toNat := by rw [ev8, SZ]; exact isch.at hc.1 (by omega)
        refine gw_gRa 2 (hc.1.c (r := 1) rfl) (hc.1.r (by decide)) ?_
        refine gw_aR (i := a1) (hc.1.t (r := 2) rfl) (hc.1.l (r := 2) rfl) (by omega) (by omega) (fun v9 ev9 => ?_)
        have hkv9 : v9 = 8 + a1.toInt.toNat := by rw [ev9]; exact kin.at hc.1 (by omega)
        have cv9 : kid v9 := by unfold kid; omega
        have hkk := hkv9
        refine gw_gRa 15 (hc.1.c (r := 1) rfl) (hc.1.r (by decide)) ?_
        refine gw_gR (hc.1.c (r := 15) rfl) (fun v10 ev10 => ?_)
        have cv10 : AfW μ v10 := by rw [ev10]; exact hc.af
        refine gw_gI (cv10.tc) (fun v11 ev11 => ?_)
        refine gw_if (ict.t hc.1 (Or.inl cv8)) ?_
        refine gw_bV (s_begin hc.1 cv8) (fun m12 z12 => ?_)
        obtain ⟨B1, B2, B3, B4, B5, B6, B7, B8, B9, B10, B11⟩ := z12
        refine gw_gRa 15 ((And.intro (gS.kd hc.1 cv8 B1 B2) True.intro : _ ∧ True).1.c (r := 1) rfl) ((And.intro (gS.kd hc.1 cv8 B1 B2) True.intro : _ ∧ True).1.r (by decide)) ?_
        refine gw_gI ((And.intro (gS.kd hc.1 cv8 B1 B2) True.intro : _ ∧ True).1.c (r := 15) rfl) (fun v13 ev13 => ?_)
        have s2 : v13 = μ.2.1 15 1 := by rw [ev13, B3 15 (by omega) (by omega)]
        refine gw_pI ((And.intro (gS.kd hc.1 cv8 B1 B2) True.intro : _ ∧ True).1.c (r := 15) rfl) (fun m14 em14 => ?_)
        have sm14 := gS.w (gS.kd hc.1 cv8 B1 B2) em14
        refine gw_gRa 15 ((And.intro sm14 True.intro : _ ∧ True).1.c (r := 1) rfl) ((And.intro sm14 True.intro : _ ∧ True).1.r (by decide)) ?_
        refine gw_gI ((And.intro sm14 True.intro : _ ∧ True).1.c (r := 15) rfl) (fun v15 ev15 => ?_)
        have VX : v15 - 1 = μ.2.1 15 1 := by rw [ev15, rde2 em14, s2]; exact gx_p1 _
        have CBX : CB μ m14 (μ.2.1 15 1).toInt.toNat a1 a2 := CB.mk hv hkk (by omega) B1 B2 B3 B4 B5 B11 (by rw [em14, s2])
        have BCX : BC μ m14 (μ.2.1 15 1).toInt.toNat := by
          unfold BC
          rw [← hv, rdo em14 (by omega)]
          exact ⟨B6, by rw [B7, ev11, ev10], B8, B9, B10⟩
        exact gw_some (gq_I (by first | exact Or.inl ⟨rfl, rfl, by omega⟩ | exact Or.inr (Or.inl ⟨rfl, rfl, by omega, by omega⟩) | exact Or.inr (Or.inr (Or.inl ⟨rfl, rfl, by omega, by omega, by omega⟩)) | exact Or.inr (Or.inr (Or.inr ⟨by omega, by omega, by omega, VX, CBX, BCX⟩))))
      ·
        exact gw_some (gq_I (by first | exact Or.inl ⟨rfl, rfl, by omega⟩ | exact Or.inr (Or.inl ⟨rfl, rfl, by omega, by omega⟩) | exact Or.inr (Or.inr (Or.inl ⟨rfl, rfl, by omega, by omega, by omega⟩)) | exact Or.inr (Or.inr (Or.inr ⟨by omega, by omega, by omega, VX, CBX, BCX⟩))))
    ·
      exact gw_some (gq_I (by first | exact Or.inl ⟨rfl, rfl, by omega⟩ | exact Or.inr (Or.inl ⟨rfl, rfl, by omega, by omega⟩) | exact Or.inr (Or.inr (Or.inl ⟨rfl, rfl, by omega, by omega, by omega⟩)) | exact Or.inr (Or.inr (Or.inr ⟨by omega, by omega, by omega, VX, CBX, BCX⟩))))
  ·
    exact gw_some (gq_I (by first | exact Or.inl ⟨rfl, rfl, by omega⟩ | exact Or.inr (Or.inl ⟨rfl, rfl, by omega, by omega⟩) | exact Or.inr (Or.inr (Or.inl ⟨rfl, rfl, by omega, by omega, by omega⟩)) | exact Or.inr (Or.inr (Or.inr ⟨by omega, by omega, by omega, VX, CBX, BCX⟩))))
theorem n_childm {w sw : Int32} {P : List (List Int32 × Int32)} {μ : gm_M} (hW : MW w sw P μ) {a b : Int32} : gwI (f_X12_child 65 a b μ) (fun y m => (m = μ ∧ y = -1 ∧ (a.toInt < 0 ∨ 6 < a.toInt)) ∨ (m = μ ∧ y = -2 ∧ (0 ≤ a.toInt ∧ a.toInt ≤ 6) ∧ (b.toInt < 0 ∨ 9 < b.toInt)) ∨ (m = μ ∧ y = -4 ∧ (0 ≤ a.toInt ∧ a.toInt ≤ 6) ∧ (0 ≤ b.toInt ∧ b.toInt ≤ 9) ∧ 5 ≤ (μ.2.1 66 26).toInt) ∨ ((0 ≤ a.toInt ∧ a.toInt ≤ 6) ∧ (0 ≤ b.toInt ∧ b.toInt ≤ 9) ∧ (μ.2.1 66 26).toInt < 5 ∧ y = μ.2.1 66 26 ∧ MB μ m (μ.2.1 66 26).toInt.toNat a b ∧ BM sw μ m (μ.2.1 66 26).toInt.toNat)) := by
  refine gwI_mono (k_child (S := fun x => x = sw) hW.1 (fun M hM e => w_sweet ⟨hM, hW.2.of e⟩)) (fun y m hy => ?_)
  rcases hy with hy | hy | hy | ⟨p1, p2, p3, p4, p5, p6⟩
  · exact Or.inl hy
  · exact Or.inr (Or.inl hy)
  · exact Or.inr (Or.inr (Or.inl hy))
  · exact Or.inr (Or.inr (Or.inr ⟨p1, p2, p3, p4, p5, p6⟩))
theorem kR_k {σ τ : Nat → Int32} {k : Nat} (e1 : τ (33 + k) = σ (33 + k)) (e2 : τ (38 + k) = σ (38 + k)) (e3 : ∀ j : Nat, 3 ≤ j → j < 8 → τ (5 * j - 14 + k) = σ (5 * j - 14 + k)) (e4 : ∀ j : Nat, j < 4 → τ (43 + 4 * k + j) = σ (43 + 4 * k + j)) : kR τ k = kR σ k := by
  funext j
  unfold kR
  by_cases h0 : j = 0
  · rw [if_pos h0, if_pos h0]
  · rw [if_neg h0, if_neg h0]
    by_cases h1 : j = 1
    · rw [if_pos h1, if_pos h1, e1]
    · rw [if_neg h1, if_neg h1]
      by_cases h2 : j = 2
      · rw [if_pos h2, if_pos h2, e2]
      · rw [if_neg h2, if_neg h2]
        by_cases h8 : j < 8
        · rw [if_pos h8, if_pos h8, e3 _ (by omega) h8]
        · rw [if_neg h8, if_neg h8]
          by_cases h12 : j < 12
          · rw [if_pos h12, if_pos h12, e4 _ (by omega)]
          · rw [if_neg h12, if_neg h12]
/-- a child that comes -/
def kb (n : Nat) (a b sw : Int32) (j : Nat) : Int32 := if j = 0 then Int32.ofNat n else if j = 1 then a else if j = 2 then b else if j = 3 then 1 else if j = 4 then sw else 0
theorem RK.kbn {n : Nat} {a b sw : Int32} (ha : 0 ≤ a.toInt ∧ a.toInt ≤ 6) (hb : 0 ≤ b.toInt ∧ b.toInt ≤ 9) (hs : 0 ≤ sw.toInt ∧ sw.toInt ≤ 99) : RK (kb n a b sw) := by
  have l1 : (1 : Int32).toInt = 1 := rfl
  refine ⟨⟨ha, hb, by show 0 ≤ (1 : Int32).toInt ∧ (1 : Int32).toInt ≤ 6; omega⟩, ⟨by show 0 ≤ sw.toInt ∧ sw.toInt ≤ 999; omega, by show 0 ≤ (0 : Int32).toInt ∧ (0 : Int32).toInt ≤ 99; decide, by show 0 ≤ (0 : Int32).toInt ∧ (0 : Int32).toInt ≤ 100000; decide, by show 0 ≤ (0 : Int32).toInt ∧ (0 : Int32).toInt ≤ 9999; decide⟩, fun j hj => ?_⟩
  unfold kb
  rw [if_neg (by omega), if_neg (by omega), if_neg (by omega), if_neg (by omega), if_neg (by omega)]
  exact ⟨by decide, by decide⟩
theorem kC_b {μ m : gm_M} {n : Nat} {a b sw : Int32} (ha : 0 ≤ a.toInt) (c : CB μ m n a b) (d : BC μ m n) (e0 : μ.2.1 (29 + 2 * n) 0 = Int32.ofNat n) (es : μ.2.1 (μ.2.2 15 6) 1 = sw) : kC m (29 + 2 * n) = kb n a b sw := by
  obtain ⟨-, c2, -, -, -, c0, cv, cr⟩ := c
  obtain ⟨d3, d4, d5, d6, d7⟩ := d
  funext j
  unfold kC kb
  by_cases h1 : j = 1
  · rw [if_pos h1, if_neg (by omega), if_pos h1, c2, gu_eq, show 8 + a.toInt.toNat - 8 = a.toInt.toNat by omega, gx_of ha]
  · rw [if_neg h1]
    by_cases h8 : j < 8
    · rw [if_pos h8]
      obtain rfl | rfl | rfl | rfl | rfl | rfl | rfl : j = 0 ∨ j = 2 ∨ j = 3 ∨ j = 4 ∨ j = 5 ∨ j = 6 ∨ j = 7 := by omega
      · rw [if_pos rfl, c0, e0]
      · rw [cv]; rfl
      · rw [d3]; rfl
      · rw [d4, es]; rfl
      · rw [d5]; rfl
      · rw [d6]; rfl
      · rw [d7]; rfl
    · rw [if_neg h8, if_neg (show ¬ j = 0 by omega), if_neg h1, if_neg (show ¬ j = 2 by omega), if_neg (show ¬ j = 3 by omega), if_neg (show ¬ j = 4 by omega)]
      by_cases h12 : j < 12
      · rw [if_pos h12, cr _ (by omega)]
      · rw [if_neg h12]
theorem kR_b {μ m : gm_M} {n : Nat} {a b sw : Int32} (c : MB μ m n a b) (d : BM sw μ m n) : kR (m.2.1 66) n = kb n a b sw := by
  obtain ⟨-, -, -, -, c1, c2, c3, -⟩ := c
  obtain ⟨⟨d3, d4, d5, d6, d7⟩, -⟩ := d
  funext j
  unfold kR kb
  by_cases h0 : j = 0
  · rw [if_pos h0, if_pos h0]
  · rw [if_neg h0, if_neg h0]
    by_cases h1 : j = 1
    · rw [if_pos h1, if_pos h1, c1]
    · rw [if_neg h1, if_neg h1]
      by_cases h2 : j = 2
      · rw [if_pos h2, if_pos h2, c2]
      · rw [if_neg h2, if_neg h2]
        by_cases h8 : j < 8
        · rw [if_pos h8]
          obtain h | h | h | h | h : j = 3 ∨ j = 4 ∨ j = 5 ∨ j = 6 ∨ j = 7 := by omega
          · rw [if_pos h, show 5 * j - 14 + n = 1 + n by omega, d3]
          · rw [if_neg (by omega), if_pos h, show 5 * j - 14 + n = 6 + n by omega, d4]
          · rw [if_neg (by omega), if_neg (by omega), show 5 * j - 14 + n = 11 + n by omega, d5]
          · rw [if_neg (by omega), if_neg (by omega), show 5 * j - 14 + n = 16 + n by omega, d6]
          · rw [if_neg (by omega), if_neg (by omega), show 5 * j - 14 + n = 21 + n by omega, d7]
        · rw [if_neg h8, if_neg (show ¬ j = 3 by omega), if_neg (show ¬ j = 4 by omega)]
          by_cases h12 : j < 12
          · rw [if_pos h12, c3 _ (by omega)]
          · rw [if_neg h12]
theorem N_child {μ : gm_M} (h : REL μ) {a b : Int32} : PR (f_X11_child 1 a b μ) (f_X12_child 65 a b) := by
  refine PR.mk2 (L_child h.1) ?_
  have hN := h.1.n26
  have b26 := h.mi.n26
  obtain ⟨w, sw, P, ⟨hcw, hmw, -, esw⟩, -, hsw⟩ := h.ex
  refine gwI_mono (n_childc h.1) (fun x m hx => ?_)
  rcases hx with ⟨rfl, hx, q⟩ | ⟨rfl, hx, q1, q2⟩ | ⟨rfl, hx, q1, q2, q3⟩ | ⟨q1, q2, q3, hx, hc, hbc⟩
  · refine gwI_mono (n_childm hmw) (fun y m2 hy => ?_)
    rcases hy with ⟨rfl, hy, p⟩ | ⟨rfl, hy, p1, p2⟩ | ⟨rfl, hy, p1, p2, p3⟩ | ⟨p1, p2, p3, hy, hm⟩
    · exact fun _ => h
    all_goals (exfalso; omega)
  · refine gwI_mono (n_childm hmw) (fun y m2 hy => ?_)
    rcases hy with ⟨rfl, hy, p⟩ | ⟨rfl, hy, p1, p2⟩ | ⟨rfl, hy, p1, p2, p3⟩ | ⟨p1, p2, p3, hy, hm⟩
    · exfalso; omega
    · exact fun _ => h
    all_goals (exfalso; omega)
  · refine gwI_mono (n_childm hmw) (fun y m2 hy => ?_)
    rcases hy with ⟨rfl, hy, p⟩ | ⟨rfl, hy, p1, p2⟩ | ⟨rfl, hy, p1, p2, p3⟩ | ⟨p1, p2, p3, hy, hm⟩
    · exfalso; omega
    · exfalso; omega
    · exact fun _ => h
    · exfalso; omega
  · obtain ⟨n, hn⟩ : ∃ n : Nat, (μ.2.1 15 1).toInt.toNat = n := ⟨_, rfl⟩
    have hn2 : (μ.2.1 66 26).toInt.toNat = n := by omega
    rw [hn] at hc hbc
    have n5 : n < 5 := by omega
    have kc0 := kC_b q1.1 hc hbc (h.1.no n n5) esw
    obtain ⟨c1, c2, c3, c4, -⟩ := hc
    have isn : isch (29 + 2 * n) := isch_c n5
    have r66 : m.2.1 66 = μ.2.1 66 := c3 66 (by omega) (by omega) (by omega)
    have hM : MW w sw P m := ⟨⟨h.ci.1.kd isn c1 c2, by rw [r66]; exact h.mi.2⟩, by rw [r66]; exact hmw.2⟩
    refine gwI_mono (n_childm hM) (fun y m2 hy hB => ?_)
    rw [r66, hn2] at hy
    rcases hy with ⟨rfl, hy, p⟩ | ⟨rfl, hy, p1, p2⟩ | ⟨rfl, hy, p1, p2, p3⟩ | ⟨p1, p2, p3, hy, hm, hbm⟩
    · exfalso; omega
    · exfalso; omega
    · exfalso; omega
    · have kr0 := kR_b hm hbm
      obtain ⟨d1, d2, d3, d4, -, -, -, d8⟩ := hm
      obtain ⟨-, d9⟩ := hbm
      have ro : ∀ r : Nat, r ≠ 15 → r ≠ 29 + 2 * n → r ≠ 29 + 2 * n + 1 → r ≠ 66 → m2.2.1 r = μ.2.1 r := fun r r1 r2 r3 r4 => (d3 r r4).trans (c3 r r1 r2 r3)
      have ce : ∀ i : Nat, (i = 0 ∨ (27 ≤ i ∧ i < 33) ∨ 63 ≤ i) → m2.2.1 66 i = μ.2.1 66 i := fun i hi => by rw [d8 i (by omega) (by omega) (by omega) (by omega) (by omega), r66]
      have rf : ∀ r j : Nat, ¬ (r = 29 + 2 * n ∧ j = 1) → m2.2.2 r j = μ.2.2 r j := fun r j q => by
        rw [d2, c2]
        by_cases e : r = 29 + 2 * n
        · rw [e, gu_ne (fun z => q ⟨e, z⟩)]
        · rw [gu_row e]
      obtain ⟨v1, v2, v3, v4, -⟩ := h.vs
      refine h.of hB (fun r hr => ro r (by unfold Qr at hr; omega) (by unfold Qr at hr; omega) (by unfold Qr at hr; omega) (by unfold Qr at hr; omega)) (by rw [ro 1 (by omega) (by omega) (by omega) (by omega)]) (fun r hr => funext fun j => rf r j (by omega)) ⟨fun k hk => ?_, by rw [ce 0 (by omega)]; exact v2, v3.fr ⟨by rw [d3 15 (by omega), c4 4 (by omega)], by rw [d3 15 (by omega), c4 5 (by omega)]⟩ (ro 17 (by omega) (by omega) (by omega) (by omega)) (fun i hi => ce i (by omega)), v4.fr (ro 24 (by omega) (by omega) (by omega) (by omega)) (ro 28 (by omega) (by omega) (by omega) (by omega)) (fun i hi => ?_) (by rw [d4, r66, gx_add (by have l1 : (1 : Int32).toInt = 1 := rfl; omega) (by have l1 : (1 : Int32).toInt = 1 := rfl; omega)]; have l1 : (1 : Int32).toInt = 1 := rfl; omega), h.va (fun r hr => ro r (by unfold Qr at hr; omega) (by unfold Qr at hr; omega) (by unfold Qr at hr; omega) (by unfold Qr at hr; omega)) (rf 15 6 (by omega)) (fun i hi => ce i (by omega))⟩
      · by_cases q : k = n
        · subst q
          rw [kC_o (μ := m) (m := m2) (t := 29 + 2 * k) (by rw [d2]) (d3 _ (by omega)) (fun j _ => by rw [d3 _ (by omega)]), kc0, kr0]
          exact ⟨rfl, RK.kbn q1 q2 hsw⟩
        · have kk : kR (m2.2.1 66) k = kR (μ.2.1 66) k := kR_k (by rw [d8 _ (by omega) (by omega) (by omega) (by omega) (by omega), r66]) (by rw [d8 _ (by omega) (by omega) (by omega) (by omega) (by omega), r66]) (fun j j1 j2 => by rw [d9 _ (by omega) (by omega) (by omega) (by omega) (by omega) (by omega), r66]) (fun j j1 => by rw [d8 _ (by omega) (by omega) (by omega) (by omega) (by omega), r66])
          rw [kC_o (μ := μ) (m := m2) (t := 29 + 2 * k) (rf _ 1 (by omega)) (ro _ (by omega) (by omega) (by omega) (by omega)) (fun j _ => by rw [ro _ (by omega) (by omega) (by omega) (by omega)]), kk]
          exact v1 k hk
      · exact ce i (by omega)
end
section
/-! askings: agreed behind them -/
theorem M_of {μ : gm_M} (h : REL μ) {a b : Int32} : QR (f_X11_of 1 a b μ) (f_X12_of 65 a b) := QR.kq h (s_X11_of h.ci) (fun _ k => s_X12_of k)
theorem M_told {μ : gm_M} (h : REL μ) {a : Int32} : QR (f_X11_told 1 a μ) (f_X12_told 65 a) := QR.kq h (s_X11_told h.ci) (fun _ k => s_X12_told k)
theorem M_on {μ : gm_M} (h : REL μ) {a b : Int32} : QR (f_X11_on 1 a b μ) (f_X12_on 65 a b) := QR.kq h (s_X11_on h.ci) (fun _ k => s_X12_on k)
theorem M_when {μ : gm_M} (h : REL μ) {a b : Int32} : QR (f_X11_when 1 a b μ) (f_X12_when 65 a b) := QR.kq h (s_X11_when h.ci) (fun _ k => s_X12_when k)
theorem M_soon {μ : gm_M} (h : REL μ) {a b : Int32} : QR (f_X11_soon 1 a b μ) (f_X12_soon 65 a b) := QR.kq h (s_X11_soon h.ci) (fun _ k => s_X12_soon k)
theorem M_pieces {μ : gm_M} (h : REL μ) {a b : Int32} : QR (f_X11_pieces 1 a b μ) (f_X12_pieces 65 a b) := QR.kq h (s_X11_pieces h.ci) (fun _ k => s_X12_pieces k)
theorem M_breaths {μ : gm_M} (h : REL μ) {a b : Int32} : QR (f_X11_breaths 1 a b μ) (f_X12_breaths 65 a b) := QR.kq h (s_X11_breaths h.ci) (fun _ k => s_X12_breaths k)
theorem M_slack {μ : gm_M} (h : REL μ) {a : Int32} : QR (f_X11_slack 1 a μ) (f_X12_slack 65 a) := QR.kq h (s_X11_slack h.ci) (fun _ k => s_X12_slack k)
theorem M_likely {μ : gm_M} (h : REL μ) {a b c : Int32} : QRL (f_X11_likely 1 a b c μ) (f_X12_likely 65 a b c) := QRL.kq h (s_X11_likely h.ci) (fun _ k => s_X12_likely k)
theorem M_dare {μ : gm_M} (h : REL μ) {a : Int32} : QR (f_X11_dare 1 a μ) (f_X12_dare 65 a) := QR.kq h (s_X11_dare h.ci) (fun _ k => s_X12_dare k)
theorem M_first {μ : gm_M} (h : REL μ) : QR (f_X11_first 1 μ) (f_X12_first 65) := QR.kq h (s_X11_first h.ci) (fun _ k => s_X12_first k)
theorem M_beats {μ : gm_M} (h : REL μ) {a b c : Int32} : QRL (f_X11_beats 1 a b c μ) (f_X12_beats 65 a b c) := QRL.kq h (s_X11_beats h.ci) (fun _ k => s_X12_beats k)
theorem M_swap {μ : gm_M} (h : REL μ) : QR (f_X11_swap 1 μ) (f_X12_swap 65) := QR.kq h (s_X11_swap h.ci) (fun _ k => s_X12_swap k)
theorem M_order {μ : gm_M} (h : REL μ) {a : Int32} : QR (f_X11_order 1 a μ) (f_X12_order 65 a) := QR.kq h (s_X11_order h.ci) (fun _ k => s_X12_order k)
theorem M_clean {μ : gm_M} (h : REL μ) {a b : Int32} : QR (f_X11_clean 1 a b μ) (f_X12_clean 65 a b) := QR.kq h (s_X11_clean h.ci) (fun _ k => s_X12_clean k)
theorem M_who {μ : gm_M} (h : REL μ) {a b : Int32} : QR (f_X11_who 1 a b μ) (f_X12_who 65 a b) := QR.kq h (s_X11_who h.ci) (fun _ k => s_X12_who k)
theorem M_firm {μ : gm_M} (h : REL μ) {a b : Int32} : QR (f_X11_firm 1 a b μ) (f_X12_firm 65 a b) := QR.kq h (s_X11_firm h.ci) (fun _ k => s_X12_firm k)
theorem M_had {μ : gm_M} (h : REL μ) {a : Int32} : QR (f_X11_had 1 a μ) (f_X12_had 65 a) := QR.kq h (s_X11_had h.ci) (fun _ k => s_X12_had k)
theorem M_mean {μ : gm_M} (h : REL μ) {a b : Int32} : QRL (f_X11_mean 1 a b μ) (f_X12_mean 65 a b) := QRL.kq h (s_X11_mean h.ci) (fun _ k => s_X12_mean k)
theorem M_done {μ : gm_M} (h : REL μ) {a : Int32} : QR (f_X11_done 1 a μ) (f_X12_done 65 a) := QR.kq h (s_X11_done h.ci) (fun _ k => s_X12_done k)
theorem M_looked {μ : gm_M} (h : REL μ) : QR (f_X11_looked 1 μ) (f_X12_looked 65) := QR.kq h (s_X11_looked h.ci) (fun _ k => s_X12_looked k)
theorem M_count {μ : gm_M} (h : REL μ) {a : Int32} : QR (f_X11_count 1 a μ) (f_X12_count 65 a) := QR.kq h (s_X11_count h.ci) (fun _ k => s_X12_count k)
end
section
/-! askings that both sides answer, and the start, over REL -/
theorem kC_ext {μ : gm_M} {σ : Nat → Int32} {t k : Nat} (h : ∀ j : Nat, j < 12 → kC μ t j = kR σ k j) : kC μ t = kR σ k := by
  funext j
  by_cases q : j < 12
  · exact h j q
  · unfold kC kR
    rw [if_neg (by omega), if_neg (by omega), if_neg q, if_neg (by omega), if_neg (by omega), if_neg (by omega), if_neg (by omega), if_neg q]
def gi_rkb (k : Nat → Int32) : Bool := gi_in (k 1) 0 6 && gi_in (k 2) 0 9 && gi_in (k 3) 0 6 && gi_in (k 4) 0 999 && gi_in (k 5) 0 99 && gi_in (k 6) 0 100000 && gi_in (k 7) 0 9999 && gi_all 4 (fun j => gi_in (k (8 + j)) 0 9)
theorem gi_rk {k : Nat → Int32} (h : gi_rkb k = true) : RK k := by
  unfold gi_rkb at h
  simp only [Bool.and_eq_true] at h
  obtain ⟨⟨⟨⟨⟨⟨⟨h1, h2⟩, h3⟩, h4⟩, h5⟩, h6⟩, h7⟩, h8⟩ := h
  exact ⟨⟨gi_ins h1, gi_ins h2, gi_ins h3⟩, ⟨gi_ins h4, gi_ins h5, gi_ins h6, gi_ins h7⟩, fun j hj => gi_ins (gi_alls h8 j hj)⟩
theorem REL_0 : REL gi5 := by
  have kd : gi_all 7 (fun i => decide (gi5.2.1 (8 + i) 0 = Int32.ofNat i)) = true := by decide +kernel
  have vk : gi_all 5 (fun k => gi_all 12 (fun j => decide (kC gi5 (29 + 2 * k) j = kR (gi5.2.1 66) k j)) && gi_rkb (kR (gi5.2.1 66) k)) = true := by decide +kernel
  have z31 : (gi5.2.1 66 31).toInt = 0 := by decide +kernel
  have z28 : (gi5.2.1 66 28).toInt = 0 := by decide +kernel
  have z30 : (gi5.2.1 66 30).toInt = 0 := by decide +kernel
  have z13 : gi5.2.1 1 3 = 0 := by decide +kernel
  have c0 : gi5.2.1 (gi5.2.2 15 6) 0 = 0 := by decide +kernel
  have c1 : gi5.2.1 (gi5.2.2 15 6) 1 = 20 := by decide +kernel
  have c2 : gi5.2.1 (gi5.2.2 15 6) 2 = 0 := by decide +kernel
  have c6 : gi5.2.1 (gi5.2.2 15 6) 6 = 0 := by decide +kernel
  have s32 : gi5.2.1 66 32 = -1 := by decide +kernel
  refine ⟨ALL_0, fun i hi => of_decide_eq_true (gi_alls kd i hi), ⟨fun k hk => ?_, ⟨by decide +kernel, by decide +kernel⟩, ⟨by decide +kernel, by decide +kernel, fun i hi => ?_⟩, ⟨fun i _ hi => ?_, fun i _ hi => ?_⟩, ⟨0, 20, [], ⟨⟨fun q hq => absurd hq List.not_mem_nil, Nat.zero_le _, Nat.zero_le _⟩, Or.inl ⟨s32, rfl, rfl, rfl⟩⟩, ⟨⟨c0, c1⟩, ⟨c6, fun i hi => absurd hi (Nat.not_lt_zero i)⟩, c2, fun i q hq => ?_⟩, ⟨⟨by decide, by decide⟩, by decide, by decide⟩⟩, by decide +kernel⟩, fun q => ?_⟩
  · have q := gi_alls vk k hk
    rw [Bool.and_eq_true] at q
    exact ⟨kC_ext (fun j hj => of_decide_eq_true (gi_alls q.1 j hj)), gi_rk q.2⟩
  · rw [z31] at hi; omega
  · rw [z28] at hi; omega
  · rw [z30] at hi; omega
  · cases hq
  · rw [z13] at q; exact absurd q (by decide)
end
section
/-! askings that look at children as they stand: alike -/
section
variable {μ : gm_M}
set_option maxHeartbeats 4000000 in
theorem N_count (h : REL μ) {a : Int32} : PR (f_X11_count 1 a μ) (f_X12_count 65 a) := by
  have hg := h.ci.1
  have nm := h.1.2.2.2.1.1
  have t := h.vs.2.2.1
  have l0 : (0 : Int32).toInt = 0 := rfl
  have l5 : (5 : Int32).toInt = 5 := rfl
  have lt := h.1.2.2.2.2.2.2.1
  have ref : ∀ (k : Nat) (v : Int32), k ≤ 5 → a = Int32.ofNat k → μ.2.1 66 (26 + k) = v → gwI (f_X12_count 65 a μ) (fun y m2 => qm μ m2 ∧ y = v) := fun k v hk ea ev => by
    have ok := ofn (k := k) (by omega)
    refine gwI_of ?_
    unfold f_X12_count
    refine gw_if (fun e => by rw [e] at ea; have := congrArg Int32.toInt ea; rw [ok] at this; have l6 : (6 : Int32).toInt = 6 := rfl; omega) ?_
    rw [ea]
    refine gw_inn (fun _ => ?_) (fun q => absurd ⟨by omega, by omega⟩ q)
    rw [if_neg (by decide)]
    refine gw_gRa 66 (hg.c (r := 65) rfl) (hg.r (by decide)) ?_
    have n1 : ((26 : Int32) + Int32.ofNat k).toInt = (26 : Int32).toInt + (Int32.ofNat k).toInt := gx_add (by have l26 : (26 : Int32).toInt = 26 := rfl; omega) (by have l26 : (26 : Int32).toInt = 26 := rfl; omega)
    have l26 : (26 : Int32).toInt = 26 := rfl
    refine gw_aIw (26 + k) (hg.t (r := 66) rfl) (hg.l (r := 66) rfl) (by omega) (by omega) ?_
    exact gw_some (gq_I ⟨qm.refl μ, ev⟩)
  refine gwI_of ?_
  unfold f_X11_count
  refine gw_ite (fun e => ?_) (fun e0 => ?_)
  · refine gw_gRa 15 (hg.c (r := 1) rfl) (hg.r (by decide)) ?_
    refine gw_gIw (hg.c (r := 15) rfl) ?_
    exact leaf h (ref 0 _ (by decide) e nm.2.1.symm)
  refine gw_ite (fun e => ?_) (fun e1 => ?_)
  · refine gw_gRa 15 (hg.c (r := 1) rfl) (hg.r (by decide)) ?_
    refine gw_gIw (hg.c (r := 15) rfl) ?_
    exact leaf h (ref 1 _ (by decide) e t.2.1.symm)
  refine gw_ite (fun e => ?_) (fun e2 => ?_)
  · refine gw_gRa 15 (hg.c (r := 1) rfl) (hg.r (by decide)) ?_
    refine gw_gRa 23 (hg.c (r := 15) rfl) (hg.r (by decide)) ?_
    refine gw_gIw (hg.c (r := 23) rfl) ?_
    exact leaf h (ref 2 _ (by decide) e nm.2.2.1.symm)
  refine gw_ite (fun e => ?_) (fun e3 => ?_)
  · refine gw_gRa 15 (hg.c (r := 1) rfl) (hg.r (by decide)) ?_
    refine gw_gRa 25 (hg.c (r := 15) rfl) (hg.r (by decide)) ?_
    refine gw_gIw (hg.c (r := 25) rfl) ?_
    exact leaf h (ref 3 _ (by decide) e nm.2.2.2.1.symm)
  refine gw_ite (fun e => ?_) (fun e4 => ?_)
  · refine gw_gRa 15 (hg.c (r := 1) rfl) (hg.r (by decide)) ?_
    refine gw_gRa 27 (hg.c (r := 15) rfl) (hg.r (by decide)) ?_
    refine gw_gIw (hg.c (r := 27) rfl) ?_
    exact leaf h (ref 4 _ (by decide) e nm.2.2.2.2.symm)
  refine gw_ite (fun e => ?_) (fun e5 => ?_)
  · refine gw_gRa 15 (hg.c (r := 1) rfl) (hg.r (by decide)) ?_
    refine gw_gIw (hg.c (r := 15) rfl) ?_
    exact leaf h (ref 5 _ (by decide) e t.1.symm)
  refine gw_ite (fun e => ?_) (fun e6 => ?_)
  · refine gw_gRa 3 (hg.c (r := 1) rfl) (hg.r (by decide)) ?_
    refine gw_gIw (hg.c (r := 3) rfl) ?_
    refine leaf h (gwI_of ?_)
    unfold f_X12_count
    rw [e, if_neg (by decide)]
    refine gw_gIw (hg.c (r := 65) rfl) ?_
    exact gw_some (gq_I ⟨qm.refl μ, lt.symm⟩)
  · refine leaf h (gwI_of ?_)
    unfold f_X12_count
    refine gw_if e6 ?_
    refine gw_inn (fun q => ?_) (fun _ => ?_)
    · exfalso
      obtain ⟨k, hk, ek⟩ : ∃ k : Nat, k ≤ 5 ∧ a = Int32.ofNat k := ⟨a.toInt.toNat, by omega, (gx_of (by omega)).symm⟩
      obtain rfl | rfl | rfl | rfl | rfl | rfl : k = 0 ∨ k = 1 ∨ k = 2 ∨ k = 3 ∨ k = 4 ∨ k = 5 := by omega
      · exact e0 ek
      · exact e1 ek
      · exact e2 ek
      · exact e3 ek
      · exact e4 ek
      · exact e5 ek
    · rw [if_pos rfl]
      exact gw_some (gq_I ⟨qm.refl μ, rfl⟩)
set_option maxHeartbeats 4000000 in
theorem N_clean (h : REL μ) {a n : Int32} : PR (f_X11_clean 1 a n μ) (f_X12_clean 65 a n) := by
  have hg := h.ci.1
  have e26 := h.sz.symm
  have l1 : (1 : Int32).toInt = 1 := rfl
  have l99 : (99 : Int32).toInt = 99 := rfl
  refine gwI_of ?_
  unfold f_X11_clean
  refine gw_if (hg.t (r := 1) rfl) ?_
  refine gw_nob h (fun hC => ?_) (fun nC => ?_)
  · rw [if_pos rfl]
    refine gw_out (fun hn => ?_) (fun nn => ?_)
    · rw [if_pos rfl]
      obtain ⟨c, hc, ea, oc⟩ := hC.at
      subst ea
      have tc := ict.c hg (ict_c hc)
      obtain ⟨ke, kr⟩ := h.kk hc
      have e7 : μ.2.1 (29 + 2 * c) 7 = μ.2.1 66 (21 + c) := (show kC μ (29 + 2 * c) 7 = kR (μ.2.1 66) c 7 by rw [ke])
      refine gw_kid hg hc ?_
      refine gw_gIw tc ?_
      refine gw_dv (by omega) ?_
      refine leaf h (gwI_of ?_)
      unfold f_X12_clean
      refine gw_if h.1.t65 ?_
      refine gw_isc h.mi e26 (fun _ => ?_) (fun q => absurd hC q)
      rw [if_pos (by decide)]
      refine gw_inn (fun _ => ?_) (fun q => absurd hn q)
      rw [if_neg (by decide)]
      refine gw_rd h.mi hc 21 rfl (by decide) ?_
      refine gw_dv (by omega) ?_
      exact gw_some (gq_I ⟨qm.refl μ, by rw [e7]⟩)
    · rw [if_neg (by decide)]
      refine leaf h (gwI_of ?_)
      unfold f_X12_clean
      refine gw_if h.1.t65 ?_
      refine gw_isc h.mi e26 (fun _ => ?_) (fun q => absurd hC q)
      rw [if_pos (by decide)]
      refine gw_inn (fun q => absurd q nn) (fun _ => ?_)
      rw [if_pos rfl]
      exact gw_some (gq_I ⟨qm.refl μ, rfl⟩)
  · rw [if_neg (by decide)]
    refine leaf h (gwI_of ?_)
    unfold f_X12_clean
    refine gw_if h.1.t65 ?_
    refine gw_isc h.mi e26 (fun q => absurd q nC) (fun _ => ?_)
    rw [if_neg (by decide)]
    exact gw_some (gq_I ⟨qm.refl μ, rfl⟩)
theorem w_slackOf {w sw : Int32} {Q : List (List Int32 × Int32)} {c : Nat} (h : MW w sw Q μ) (hc : c < 5) : gwI (f_X12_slackOf 65 (Int32.ofNat c) μ) (fun x m => km A0 μ m ∧ x = cHold w Q (kR (μ.2.1 66) c) (μ.2.1 66 0) - kR (μ.2.1 66) c 6) := by
  refine gwI_of ?_
  unfold f_X12_slackOf
  refine gw_if (h.1.1.t (r := 65) rfl) ?_
  refine gw_bI (w_holds h hc) (fun x m ⟨k, ex⟩ => ?_)
  subst ex
  refine gw_rd (h.1.of2 k.w02) hc 16 rfl (by decide) ?_
  exact gw_some (gq_I ⟨k, by rw [k.row]; rfl⟩)
set_option maxHeartbeats 4000000 in
theorem N_slack (h : REL μ) {a : Int32} : PR (f_X11_slack 1 a μ) (f_X12_slack 65 a) := by
  have hg := h.ci.1
  have e26 := h.sz.symm
  obtain ⟨w, sw, Q, ⟨hcw, hmw, -, -⟩, -⟩ := h.ex
  refine gwI_of ?_
  unfold f_X11_slack
  refine gw_if (hg.t (r := 1) rfl) ?_
  refine gw_nob h (fun hC => ?_) (fun nC => ?_)
  · rw [if_pos rfl]
    obtain ⟨c, hc, ea, oc⟩ := hC.at
    subst ea
    have tc := ict.c hg (ict_c hc)
    obtain ⟨ke, kr⟩ := h.kk hc
    refine gw_if (hg.t (r := 1) rfl) ?_
    refine gw_bI (v_holdsNow hcw hc) (fun x m ⟨ex, em⟩ => ?_)
    subst em
    subst ex
    refine gw_kid hg hc ?_
    refine gw_gIw tc ?_
    refine leaf h (gwI_of ?_)
    unfold f_X12_slack
    refine gw_if h.1.t65 ?_
    refine gw_isc h.mi e26 (fun _ => ?_) (fun q => absurd hC q)
    rw [if_neg (by decide)]
    refine gw_if h.1.t65 ?_
    refine gw_bI (w_slackOf hmw hc) (fun x m2 ⟨k, ex⟩ => ?_)
    refine gw_some (gq_I ⟨qm.of0 k, ?_⟩)
    rw [ex, ← ke, h.mn]; rfl
  · rw [if_neg (by decide)]
    refine leaf h (gwI_of ?_)
    unfold f_X12_slack
    refine gw_if h.1.t65 ?_
    refine gw_isc h.mi e26 (fun q => absurd q nC) (fun _ => ?_)
    rw [if_pos rfl]
    exact gw_some (gq_I ⟨qm.refl μ, rfl⟩)
set_option maxHeartbeats 4000000 in
theorem N_breaths (h : REL μ) {a n : Int32} : PR (f_X11_breaths 1 a n μ) (f_X12_breaths 65 a n) := by
  have hg := h.ci.1
  have e26 := h.sz.symm
  have l1 : (1 : Int32).toInt = 1 := rfl
  have l99 : (99 : Int32).toInt = 99 := rfl
  obtain ⟨w, sw, Q, ⟨hcw, hmw, -, -⟩, -⟩ := h.ex
  refine gwI_of ?_
  unfold f_X11_breaths
  refine gw_if (hg.t (r := 1) rfl) ?_
  refine gw_nob h (fun hC => ?_) (fun nC => ?_)
  · rw [if_pos rfl]
    refine gw_out (fun hn => ?_) (fun nn => ?_)
    · rw [if_pos rfl]
      obtain ⟨c, hc, ea, oc⟩ := hC.at
      subst ea
      have tc := ict.c hg (ict_c hc)
      obtain ⟨ke, kr⟩ := h.kk hc
      refine gw_if (hg.t (r := 1) rfl) ?_
      refine gw_bI (v_holdsNow hcw hc) (fun x m ⟨ex, em⟩ => ?_)
      subst em
      subst ex
      refine gw_kid hg hc ?_
      refine gw_gIw tc ?_
      refine gw_dv (by omega) ?_
      rw [mx0]
      refine leaf h (gwI_of ?_)
      unfold f_X12_breaths
      refine gw_if h.1.t65 ?_
      refine gw_isc h.mi e26 (fun _ => ?_) (fun q => absurd hC q)
      rw [if_pos (by decide)]
      refine gw_inn (fun _ => ?_) (fun q => absurd hn q)
      rw [if_neg (by decide)]
      refine gw_if h.1.t65 ?_
      refine gw_bI (w_slackOf hmw hc) (fun x m2 ⟨k, ex⟩ => ?_)
      refine gw_bI (m_ab _) (fun y m3 ⟨ey, em⟩ => ?_)
      subst em
      refine gw_dv (by omega) ?_
      refine gw_some (gq_I ⟨qm.of0 k, ?_⟩)
      rw [ey, ex, ← ke, h.mn]; rfl
    · rw [if_neg (by decide)]
      refine leaf h (gwI_of ?_)
      unfold f_X12_breaths
      refine gw_if h.1.t65 ?_
      refine gw_isc h.mi e26 (fun _ => ?_) (fun q => absurd hC q)
      rw [if_pos (by decide)]
      refine gw_inn (fun q => absurd q nn) (fun _ => ?_)
      rw [if_pos rfl]
      exact gw_some (gq_I ⟨qm.refl μ, rfl⟩)
  · rw [if_neg (by decide)]
    refine leaf h (gwI_of ?_)
    unfold f_X12_breaths
    refine gw_if h.1.t65 ?_
    refine gw_isc h.mi e26 (fun q => absurd q nC) (fun _ => ?_)
    rw [if_neg (by decide)]
    exact gw_some (gq_I ⟨qm.refl μ, rfl⟩)
set_option maxHeartbeats 8000000 in
theorem N_of (h : REL μ) {a b : Int32} : PR (f_X11_of 1 a b μ) (f_X12_of 65 a b) := by
  have hg := h.ci.1
  have e26 := h.sz.symm
  have l0 : (0 : Int32).toInt = 0 := rfl
  have l10 : (10 : Int32).toInt = 10 := rfl
  obtain ⟨w, sw, Q, ⟨hcw, hmw, -, -⟩, -⟩ := h.ex
  have v2 := h.vs.2.1
  have mn := h.mn
  refine gwI_of ?_
  unfold f_X11_of
  refine gw_if (hg.t (r := 1) rfl) ?_
  refine gw_nob h (fun hC => ?_) (fun nC => ?_)
  · rw [if_pos rfl]
    obtain ⟨c, hc, ea, oc⟩ := hC.at
    subst ea
    have tc := ict.c hg (ict_c hc)
    obtain ⟨ke, kr⟩ := h.kk hc
    have kj : ∀ j : Nat, kR (μ.2.1 66) c j = kC μ (29 + 2 * c) j := fun j => by rw [ke]
    refine gw_kid hg hc ?_
    refine gw_ite (fun e => ?_) (fun e0 => ?_)
    · subst e
      refine gw_gR tc (fun q eq => ?_)
      have hq : kid q := by rw [eq]; exact h.ci.2.2.2.1 _ (Or.inl (ict_c hc))
      refine gw_gIw (by rcases kid.t hg hq with z | z | z | z | z | z | z <;> rw [z] <;> decide) ?_
      rw [h.2.1.at hq]
      refine leaf h (gwI_of ?_)
      unfold f_X12_of
      refine gw_if h.1.t65 ?_
      refine gw_isc h.mi e26 (fun _ => ?_) (fun q => absurd hC q)
      rw [if_neg (by decide)]
      refine gw_inn (fun _ => ?_) (fun q => absurd ⟨by decide, by decide⟩ q)
      rw [if_pos (by decide)]
      rw [if_pos rfl]
      refine gw_rd h.mi hc 33 rfl (by decide) ?_
      refine gw_some (gq_I ⟨qm.refl μ, ?_⟩)
      show kR (μ.2.1 66) c 1 = _
      rw [kj 1, eq]; rfl
    refine gw_ite (fun e => ?_) (fun e1 => ?_)
    · subst e
      refine gw_gIw tc ?_
      refine leaf h (gwI_of ?_)
      unfold f_X12_of
      refine gw_if h.1.t65 ?_
      refine gw_isc h.mi e26 (fun _ => ?_) (fun q => absurd hC q)
      rw [if_neg (by decide)]
      refine gw_inn (fun _ => ?_) (fun q => absurd ⟨by decide, by decide⟩ q)
      rw [if_pos (by decide)]
      rw [if_neg (by decide)]
      rw [if_pos rfl]
      refine gw_rd h.mi hc 38 rfl (by decide) ?_
      exact gw_some (gq_I ⟨qm.refl μ, kj 2⟩)
    refine gw_ite (fun e => ?_) (fun e2 => ?_)
    · subst e
      refine gw_gIw tc ?_
      refine leaf h (gwI_of ?_)
      unfold f_X12_of
      refine gw_if h.1.t65 ?_
      refine gw_isc h.mi e26 (fun _ => ?_) (fun q => absurd hC q)
      rw [if_neg (by decide)]
      refine gw_inn (fun _ => ?_) (fun q => absurd ⟨by decide, by decide⟩ q)
      rw [if_pos (by decide)]
      rw [if_neg (by decide), if_neg (by decide), if_neg (by decide), if_neg (by decide), if_neg (by decide), if_neg (by decide)]
      rw [show (1 : Int32) + (5 : Int32) * ((2 : Int32) - (2 : Int32)) = 1 by decide]
      refine gw_rd h.mi hc 1 rfl (by decide) ?_
      exact gw_some (gq_I ⟨qm.refl μ, kj 3⟩)
    refine gw_ite (fun e => ?_) (fun e3 => ?_)
    · subst e
      refine gw_gIw tc ?_
      refine leaf h (gwI_of ?_)
      unfold f_X12_of
      refine gw_if h.1.t65 ?_
      refine gw_isc h.mi e26 (fun _ => ?_) (fun q => absurd hC q)
      rw [if_neg (by decide)]
      refine gw_inn (fun _ => ?_) (fun q => absurd ⟨by decide, by decide⟩ q)
      rw [if_pos (by decide)]
      rw [if_neg (by decide), if_neg (by decide), if_neg (by decide), if_neg (by decide), if_neg (by decide), if_neg (by decide)]
      rw [show (1 : Int32) + (5 : Int32) * ((3 : Int32) - (2 : Int32)) = 6 by decide]
      refine gw_rd h.mi hc 6 rfl (by decide) ?_
      exact gw_some (gq_I ⟨qm.refl μ, kj 4⟩)
    refine gw_ite (fun e => ?_) (fun e4 => ?_)
    · subst e
      refine gw_gIw tc ?_
      refine leaf h (gwI_of ?_)
      unfold f_X12_of
      refine gw_if h.1.t65 ?_
      refine gw_isc h.mi e26 (fun _ => ?_) (fun q => absurd hC q)
      rw [if_neg (by decide)]
      refine gw_inn (fun _ => ?_) (fun q => absurd ⟨by decide, by decide⟩ q)
      rw [if_pos (by decide)]
      rw [if_neg (by decide), if_neg (by decide), if_neg (by decide), if_neg (by decide), if_neg (by decide), if_neg (by decide)]
      rw [show (1 : Int32) + (5 : Int32) * ((4 : Int32) - (2 : Int32)) = 11 by decide]
      refine gw_rd h.mi hc 11 rfl (by decide) ?_
      exact gw_some (gq_I ⟨qm.refl μ, kj 5⟩)
    refine gw_ite (fun e => ?_) (fun e5 => ?_)
    · subst e
      refine gw_gIw tc ?_
      refine leaf h (gwI_of ?_)
      unfold f_X12_of
      refine gw_if h.1.t65 ?_
      refine gw_isc h.mi e26 (fun _ => ?_) (fun q => absurd hC q)
      rw [if_neg (by decide)]
      refine gw_inn (fun _ => ?_) (fun q => absurd ⟨by decide, by decide⟩ q)
      rw [if_pos (by decide)]
      rw [if_neg (by decide), if_neg (by decide), if_neg (by decide), if_neg (by decide), if_neg (by decide), if_neg (by decide)]
      rw [show (1 : Int32) + (5 : Int32) * ((5 : Int32) - (2 : Int32)) = 16 by decide]
      refine gw_rd h.mi hc 16 rfl (by decide) ?_
      exact gw_some (gq_I ⟨qm.refl μ, kj 6⟩)
    refine gw_ite (fun e => ?_) (fun e6 => ?_)
    · subst e
      refine gw_gIw tc ?_
      refine leaf h (gwI_of ?_)
      unfold f_X12_of
      refine gw_if h.1.t65 ?_
      refine gw_isc h.mi e26 (fun _ => ?_) (fun q => absurd hC q)
      rw [if_neg (by decide)]
      refine gw_inn (fun _ => ?_) (fun q => absurd ⟨by decide, by decide⟩ q)
      rw [if_pos (by decide)]
      rw [if_neg (by decide), if_neg (by decide), if_neg (by decide), if_neg (by decide), if_neg (by decide), if_neg (by decide)]
      rw [show (1 : Int32) + (5 : Int32) * ((6 : Int32) - (2 : Int32)) = 21 by decide]
      refine gw_rd h.mi hc 21 rfl (by decide) ?_
      exact gw_some (gq_I ⟨qm.refl μ, kj 7⟩)
    refine gw_ite (fun e => ?_) (fun e7 => ?_)
    · subst e
      refine gw_gRa 15 (hg.c (r := 1) rfl) (hg.r (by decide)) ?_
      refine gw_gR (hg.c (r := 15) rfl) (fun q eq => ?_)
      subst eq
      refine gw_gRa 15 (hg.c (r := 1) rfl) (hg.r (by decide)) ?_
      refine gw_gIw (hg.c (r := 15) rfl) ?_
      refine gw_if hcw.aw.t ?_
      obtain ⟨c1, c2, ⟨p1, p2, p3⟩, sw2, c4⟩ := id hcw
      refine gw_bI (v_stretch hg c2 hcw.aw (ict_c hc) (hcw.kid (ict_c hc)) p1 p2 p3 c4 (μ.2.1 15 0)) (fun x m ⟨ex, em⟩ => ?_)
      subst em
      subst ex
      refine leaf h (gwI_of ?_)
      unfold f_X12_of
      refine gw_if h.1.t65 ?_
      refine gw_isc h.mi e26 (fun _ => ?_) (fun q => absurd hC q)
      rw [if_neg (by decide)]
      refine gw_inn (fun _ => ?_) (fun q => absurd ⟨by decide, by decide⟩ q)
      rw [if_pos (by decide)]
      rw [if_neg (by decide), if_neg (by decide)]
      rw [if_pos rfl]
      refine gw_if h.1.t65 ?_
      refine gw_bI (w_stretch hmw hc) (fun y m2 ⟨k, ey⟩ => ?_)
      refine gw_some (gq_I ⟨qm.of0 k, ?_⟩)
      rw [ey, ← ke, mn]
    refine gw_ite (fun e => ?_) (fun e8 => ?_)
    · subst e
      refine gw_gR tc (fun q eq => ?_)
      subst eq
      refine gw_gRa 15 (hg.c (r := 1) rfl) (hg.r (by decide)) ?_
      refine gw_gIw (hg.c (r := 15) rfl) ?_
      refine gw_bI (v_chew hcw (ict_c hc) (by rw [mn]; exact v2.1)) (fun x m ⟨ex, em⟩ => ?_)
      subst em
      subst ex
      refine leaf h (gwI_of ?_)
      unfold f_X12_of
      refine gw_if h.1.t65 ?_
      refine gw_isc h.mi e26 (fun _ => ?_) (fun q => absurd hC q)
      rw [if_neg (by decide)]
      refine gw_inn (fun _ => ?_) (fun q => absurd ⟨by decide, by decide⟩ q)
      rw [if_pos (by decide)]
      rw [if_neg (by decide), if_neg (by decide), if_neg (by decide)]
      rw [if_pos rfl]
      refine gw_if h.1.t65 ?_
      refine gw_bI (w_chew hmw hc v2.1) (fun y m2 ⟨k, ey⟩ => ?_)
      subst k
      refine gw_some (gq_I ⟨qm.refl _, ?_⟩)
      rw [ey, ← ke, mn]
    refine gw_ite (fun e => ?_) (fun e9 => ?_)
    · subst e
      refine gw_gR tc (fun q eq => ?_)
      subst eq
      refine gw_bI (v_tire hcw (ict_c hc)) (fun x m ⟨ex, em⟩ => ?_)
      subst em
      subst ex
      refine leaf h (gwI_of ?_)
      unfold f_X12_of
      refine gw_if h.1.t65 ?_
      refine gw_isc h.mi e26 (fun _ => ?_) (fun q => absurd hC q)
      rw [if_neg (by decide)]
      refine gw_inn (fun _ => ?_) (fun q => absurd ⟨by decide, by decide⟩ q)
      rw [if_pos (by decide)]
      rw [if_neg (by decide), if_neg (by decide), if_neg (by decide), if_neg (by decide)]
      rw [if_pos rfl]
      refine gw_if h.1.t65 ?_
      refine gw_bI (w_tire hmw hc) (fun y m2 ⟨k, ey⟩ => ?_)
      subst k
      refine gw_some (gq_I ⟨qm.refl _, ?_⟩)
      rw [ey, ← ke]
    refine gw_ite (fun e => ?_) (fun e10 => ?_)
    · subst e
      refine gw_if (hg.t (r := 1) rfl) ?_
      refine gw_bI (v_holdsNow hcw hc) (fun x m ⟨ex, em⟩ => ?_)
      subst em
      subst ex
      refine leaf h (gwI_of ?_)
      unfold f_X12_of
      refine gw_if h.1.t65 ?_
      refine gw_isc h.mi e26 (fun _ => ?_) (fun q => absurd hC q)
      rw [if_neg (by decide)]
      refine gw_inn (fun _ => ?_) (fun q => absurd ⟨by decide, by decide⟩ q)
      rw [if_pos (by decide)]
      rw [if_neg (by decide), if_neg (by decide), if_neg (by decide), if_neg (by decide), if_neg (by decide)]
      rw [if_pos rfl]
      refine gw_if h.1.t65 ?_
      refine gw_bI (w_holds hmw hc) (fun y m2 ⟨k, ey⟩ => ?_)
      refine gw_some (gq_I ⟨qm.of0 k, ?_⟩)
      rw [ey, ← ke, mn]
    refine leaf h (gwI_of ?_)
    unfold f_X12_of
    refine gw_if h.1.t65 ?_
    refine gw_isc h.mi e26 (fun _ => ?_) (fun q => absurd hC q)
    rw [if_neg (by decide)]
    refine gw_inn (fun q => ?_) (fun _ => ?_)
    · exfalso
      obtain ⟨k, hk, ek⟩ : ∃ k : Nat, k ≤ 10 ∧ b = Int32.ofNat k := ⟨b.toInt.toNat, by omega, (gx_of (by omega)).symm⟩
      obtain rfl | rfl | rfl | rfl | rfl | rfl | rfl | rfl | rfl | rfl | rfl : k = 0 ∨ k = 1 ∨ k = 2 ∨ k = 3 ∨ k = 4 ∨ k = 5 ∨ k = 6 ∨ k = 7 ∨ k = 8 ∨ k = 9 ∨ k = 10 := by omega
      · exact e0 ek
      · exact e1 ek
      · exact e2 ek
      · exact e3 ek
      · exact e4 ek
      · exact e5 ek
      · exact e6 ek
      · exact e7 ek
      · exact e8 ek
      · exact e9 ek
      · exact e10 ek
    · rw [if_neg (by decide)]
      exact gw_some (gq_I ⟨qm.refl μ, rfl⟩)
  · rw [if_neg (by decide)]
    refine leaf h (gwI_of ?_)
    unfold f_X12_of
    refine gw_if h.1.t65 ?_
    refine gw_isc h.mi e26 (fun q => absurd q nC) (fun _ => ?_)
    rw [if_pos rfl]
    exact gw_some (gq_I ⟨qm.refl μ, rfl⟩)
end
end
