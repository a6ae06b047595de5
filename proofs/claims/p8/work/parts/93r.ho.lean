/-! one child, minute by minute -/
def ab (x : Int32) : Int32 := if x < 0 then 0 else x
theorem mx0 (x : Int32) : (if (0 : Int32) < x then x else 0) = ab x := by
  unfold ab
  have l0 : (0 : Int32).toInt = 0 := rfl
  by_cases h : x < 0
  · rw [if_pos h, if_neg]
    rw [Int32.lt_iff_toInt_lt] at h ⊢
    omega
  · rw [if_neg h]
    by_cases g : 0 < x
    · rw [if_pos g]
    · rw [if_neg g]
      rw [Int32.lt_iff_toInt_lt] at h g
      exact Int32.toInt_inj.mp (by omega)
theorem ab_i (x : Int32) : (ab x).toInt = if x.toInt < 0 then 0 else x.toInt := by
  unfold ab
  by_cases h : x < 0
  · rw [if_pos h, if_pos (by rw [Int32.lt_iff_toInt_lt] at h; exact h)]; rfl
  · rw [if_neg h, if_neg (by rw [Int32.lt_iff_toInt_lt] at h; exact h)]
def kud (k : Nat → Int32) (j : Nat) (x : Int32) (i : Nat) : Int32 := if i = j then x else k i
def cBear (w : Int32) (P : List (List Int32 × Int32)) (k : Nat → Int32) (mi : Int32) : Int32 := ab (k 3 * cSt k mi P - k 4 - k 5 / 2 - w)
def cHold (w : Int32) (P : List (List Int32 × Int32)) (k : Nat → Int32) (mi : Int32) : Int32 := if k 1 = 5 then ab (cBear w P k mi - 10) else cBear w P k mi
def cChew (k : Nat → Int32) (mi : Int32) : Int32 :=
  if k 1 = 1 then 2 * (3 + k 2 / 2) else if k 1 = 2 then (3 + k 2 / 2) / 2 else if k 1 = 3 then ab (3 + k 2 / 2 - 2)
  else if k 1 = 4 then 2 * (3 + k 2 / 2) + k 3 else if k 1 = 5 then (3 + k 2 / 2) / 2 + 1 else if k 1 = 6 then ab (3 + k 2 / 2 - 2) + k (8 + (mi % 4).toInt.toNat) else 3 + k 2 / 2
def cTire (k : Nat → Int32) : Int32 := if k 1 = 1 then k 3 + 1 else if k 1 = 3 then 2 * k 3 else if k 1 = 4 then k 3 + 1 else if k 1 = 5 then k 3 / 2 else if k 1 = 6 then 2 * k 3 else k 3
def wi (x : Int32) : Int32 := if x < 0 then 0 else if 99 < x then 99 else x
def cGo (k : Nat → Int32) (mi : Int32) : Nat → Int32 :=
  if k 6 ≤ 0 then (if k 3 ≤ 0 then kud k 5 (ab (k 5 - 5)) else kud (kud k 4 (ab (k 4 - cChew k mi))) 5 (wi (k 5 + cTire k)))
  else kud k 6 (ab (k 6 - k 2 - 1))
def cGoN : Nat → (Nat → Int32) → Int32 → Nat → Int32
  | 0, k, _ => k
  | n + 1, k, mi => cGo (cGoN n k mi) (mi + Int32.ofNat n)
def RK (k : Nat → Int32) : Prop := ((0 ≤ (k 1).toInt ∧ (k 1).toInt ≤ 6) ∧ (0 ≤ (k 2).toInt ∧ (k 2).toInt ≤ 9) ∧ (0 ≤ (k 3).toInt ∧ (k 3).toInt ≤ 6)) ∧ ((0 ≤ (k 4).toInt ∧ (k 4).toInt ≤ 999) ∧ (0 ≤ (k 5).toInt ∧ (k 5).toInt ≤ 99) ∧ (0 ≤ (k 6).toInt ∧ (k 6).toInt ≤ 100000) ∧ (0 ≤ (k 7).toInt ∧ (k 7).toInt ≤ 9999)) ∧ ∀ j : Nat, j < 4 → 0 ≤ (k (8 + j)).toInt ∧ (k (8 + j)).toInt ≤ 9
theorem i_lit : (0 : Int32).toInt = 0 ∧ (1 : Int32).toInt = 1 ∧ (2 : Int32).toInt = 2 ∧ (3 : Int32).toInt = 3 ∧ (4 : Int32).toInt = 4 ∧ (5 : Int32).toInt = 5 ∧ (6 : Int32).toInt = 6 ∧ (10 : Int32).toInt = 10 ∧ (99 : Int32).toInt = 99 := by decide
theorem idiv2 {x : Int32} (h : 0 ≤ x.toInt) : (x / 2).toInt = x.toInt / 2 := by
  rw [gx_div (by decide), show (2 : Int32).toInt = 2 from rfl, Int.tdiv_eq_ediv_of_nonneg h]
theorem cTire_b {k : Nat → Int32} (h : RK k) : 0 ≤ (cTire k).toInt ∧ (cTire k).toInt ≤ 12 := by
  obtain ⟨l0, l1, l2, l3, l4, l5, l6, l10, l99⟩ := i_lit
  have h3 := h.1.2.2
  have a1 : (k 3 + 1).toInt = (k 3).toInt + (1 : Int32).toInt := gx_add (by omega) (by omega)
  have a2 : ((2 : Int32) * k 3).toInt = 2 * (k 3).toInt := gx_mul 2 rfl (by omega) (by omega)
  have a3 := idiv2 (x := k 3) h3.1
  unfold cTire
  repeat' split
  all_goals omega
theorem mod4_i {x : Int32} (h : 0 ≤ x.toInt) : (x % 4).toInt = x.toInt % 4 := by
  rw [Int32.toInt_mod, show (4 : Int32).toInt = 4 from rfl, Int.tmod_eq_emod_of_nonneg h]
theorem cChew_b {k : Nat → Int32} (h : RK k) (mi : Int32) (hm : 0 ≤ mi.toInt) : 0 ≤ (cChew k mi).toInt ∧ (cChew k mi).toInt ≤ 40 := by
  obtain ⟨l0, l1, l2, l3, l4, l5, l6, l10, l99⟩ := i_lit
  have h2 := h.1.2.1
  have h3 := h.1.2.2
  have a0 := idiv2 (x := k 2) h2.1
  have a1 : (3 + k 2 / 2).toInt = (3 : Int32).toInt + (k 2 / 2).toInt := gx_add (by omega) (by omega)
  have a2 : ((2 : Int32) * (3 + k 2 / 2)).toInt = 2 * (3 + k 2 / 2).toInt := gx_mul 2 rfl (by omega) (by omega)
  have a3 := idiv2 (x := 3 + k 2 / 2) (by omega)
  have a4 : (3 + k 2 / 2 - 2).toInt = (3 + k 2 / 2).toInt - (2 : Int32).toInt := gx_sub (by omega) (by omega)
  have a5 := ab_i (3 + k 2 / 2 - 2)
  rw [if_neg (by omega)] at a5
  have a6 : (2 * (3 + k 2 / 2) + k 3).toInt = ((2 : Int32) * (3 + k 2 / 2)).toInt + (k 3).toInt := gx_add (by omega) (by omega)
  have a7 : ((3 + k 2 / 2) / 2 + 1).toInt = ((3 + k 2 / 2) / 2).toInt + (1 : Int32).toInt := gx_add (by omega) (by omega)
  have m4 := mod4_i hm
  have h8 := h.2.2 (mi % 4).toInt.toNat (by omega)
  have a8 : (ab (3 + k 2 / 2 - 2) + k (8 + (mi % 4).toInt.toNat)).toInt = (ab (3 + k 2 / 2 - 2)).toInt + (k (8 + (mi % 4).toInt.toNat)).toInt := gx_add (by omega) (by omega)
  unfold cChew
  repeat' split
  all_goals omega
theorem wi_b (x : Int32) : 0 ≤ (wi x).toInt ∧ (wi x).toInt ≤ 99 := by
  obtain ⟨l0, l1, l2, l3, l4, l5, l6, l10, l99⟩ := i_lit
  unfold wi
  by_cases h : x < 0
  · rw [if_pos h]; omega
  · rw [if_neg h]
    by_cases g : 99 < x
    · rw [if_pos g]; omega
    · rw [if_neg g]
      rw [Int32.lt_iff_toInt_lt] at h g
      omega
theorem upd_e {k : Nat → Int32} {j : Nat} {x : Int32} : kud k j x j = x := if_pos rfl
theorem upd_n {k : Nat → Int32} {j i : Nat} {x : Int32} (h : i ≠ j) : kud k j x i = k i := if_neg h
theorem RK.u {k : Nat → Int32} (h : RK k) {j : Nat} {x : Int32} (hj : (j = 2 ∧ 0 ≤ x.toInt ∧ x.toInt ≤ 9) ∨ (j = 3 ∧ 0 ≤ x.toInt ∧ x.toInt ≤ 6) ∨ (j = 4 ∧ 0 ≤ x.toInt ∧ x.toInt ≤ 999) ∨ (j = 5 ∧ 0 ≤ x.toInt ∧ x.toInt ≤ 99) ∨ (j = 6 ∧ 0 ≤ x.toInt ∧ x.toInt ≤ 100000) ∨ (j = 7 ∧ 0 ≤ x.toInt ∧ x.toInt ≤ 9999)) : RK (kud k j x) := by
  obtain ⟨⟨h1, h2, h3⟩, ⟨h4, h5, h6, h7⟩, h8⟩ := h
  unfold RK kud
  rcases hj with ⟨rfl, a, b⟩ | ⟨rfl, a, b⟩ | ⟨rfl, a, b⟩ | ⟨rfl, a, b⟩ | ⟨rfl, a, b⟩ | ⟨rfl, a, b⟩
  all_goals (refine ⟨⟨?_, ?_, ?_⟩, ⟨?_, ?_, ?_, ?_⟩, fun i hi => ?_⟩)
  all_goals first | exact h1 | exact h2 | exact h3 | exact h4 | exact h5 | exact h6 | exact h7 | exact ⟨a, b⟩ | (rw [if_neg (by omega)]; exact h8 i hi)
theorem RK.go {k : Nat → Int32} (h : RK k) {mi : Int32} (hm : 0 ≤ mi.toInt) : RK (cGo k mi) := by
  obtain ⟨l0, l1, l2, l3, l4, l5, l6, l10, l99⟩ := i_lit
  obtain ⟨⟨h1, h2, h3⟩, ⟨h4, h5, h6, h7⟩, h8⟩ := id h
  have c := cChew_b h mi hm
  unfold cGo
  split
  · split
    · have s : (k 5 - 5).toInt = (k 5).toInt - (5 : Int32).toInt := gx_sub (by omega) (by omega)
      have a := ab_i (k 5 - 5)
      exact h.u (Or.inr (Or.inr (Or.inr (Or.inl ⟨rfl, by split at a <;> omega, by split at a <;> omega⟩))))
    · have s : (k 4 - cChew k mi).toInt = (k 4).toInt - (cChew k mi).toInt := gx_sub (by omega) (by omega)
      have a := ab_i (k 4 - cChew k mi)
      have w := wi_b (k 5 + cTire k)
      exact (h.u (j := 4) (Or.inr (Or.inr (Or.inl ⟨rfl, by split at a <;> omega, by split at a <;> omega⟩)))).u (Or.inr (Or.inr (Or.inr (Or.inl ⟨rfl, w.1, w.2⟩))))
  · have s : (k 6 - k 2).toInt = (k 6).toInt - (k 2).toInt := gx_sub (by omega) (by omega)
    have s2 : (k 6 - k 2 - 1).toInt = (k 6 - k 2).toInt - (1 : Int32).toInt := gx_sub (by omega) (by omega)
    have a := ab_i (k 6 - k 2 - 1)
    exact h.u (Or.inr (Or.inr (Or.inr (Or.inr (Or.inl ⟨rfl, by split at a <;> omega, by split at a <;> omega⟩)))))
/-- so many minutes: not near the end of the ints -/
theorem mi_add {mi : Int32} {n : Nat} (h : 0 ≤ mi.toInt ∧ mi.toInt ≤ 100000) (hn : n ≤ 1000) : (mi + Int32.ofNat n).toInt = mi.toInt + n := by
  have o := ofn (k := n) (by omega)
  rw [gx_add (by omega) (by omega)]; omega
theorem RK.goN {k : Nat → Int32} (h : RK k) {mi : Int32} (hm : 0 ≤ mi.toInt ∧ mi.toInt ≤ 100000) : ∀ n : Nat, n ≤ 1000 → RK (cGoN n k mi)
  | 0, _ => h
  | n + 1, hn => (h.goN hm n (by omega)).go (by rw [mi_add hm (by omega)]; omega)
/-! the class -/
theorem kC_w {μ : gm_M} {t j : Nat} {x : Int32} (h : j < 8) (h1 : j ≠ 1) : kC (wI μ t j x) t = kud (kC μ t) j x := by
  funext i
  unfold kud kC
  by_cases e1 : i = 1
  · rw [if_pos e1, if_neg (by omega), if_pos e1]; rfl
  · rw [if_neg e1]
    by_cases e2 : i < 8
    · rw [if_pos e2]
      by_cases e : i = j
      · rw [if_pos e, e, wI_e]
      · rw [if_neg e, wI_n _ _ _ _ e, if_neg e1, if_pos e2]
    · rw [if_neg e2, if_neg (show ¬ i = j by omega), if_neg e1, if_neg e2]
      by_cases e3 : i < 12
      · rw [if_pos e3, if_pos e3, wI_o _ _ _ _ (by omega)]
      · rw [if_neg e3, if_neg e3]
theorem kC_o {μ m : gm_M} {t : Nat} (e1 : m.2.2 t 1 = μ.2.2 t 1) (e2 : m.2.1 t = μ.2.1 t) (e3 : ∀ j : Nat, j < 4 → m.2.1 (t + 1) j = μ.2.1 (t + 1) j) : kC m t = kC μ t := by
  funext i
  unfold kC
  rw [e1, e2]
  by_cases h1 : i < 8
  · rw [if_pos h1, if_pos h1]
  · rw [if_neg h1, if_neg h1]
    by_cases h2 : i < 12
    · rw [if_pos h2, if_pos h2, e3 _ (by omega)]
    · rw [if_neg h2, if_neg h2]
theorem kC_cp {μ m : gm_M} {a b : Nat} (h : ccp a b μ m) : kC m a = kC μ b := by
  obtain ⟨-, h2, -, h4, h5⟩ := h
  funext i
  unfold kC
  rw [h2, gu_eq]
  by_cases e1 : i = 1
  · rw [if_pos e1, if_pos e1]
  · rw [if_neg e1, if_neg e1]
    by_cases h1 : i < 8
    · rw [if_pos h1, if_pos h1, h4 i h1 e1]
    · rw [if_neg h1, if_neg h1]
      by_cases h2 : i < 12
      · rw [if_pos h2, if_pos h2, h5 _ (by omega)]
      · rw [if_neg h2, if_neg h2]
/-- what the class's askings go by -/
def CW (w : Int32) (P : List (List Int32 × Int32)) (μ : gm_M) : Prop := CI μ ∧ KD μ ∧ (okP P ∧ P.length ≤ 10 ∧ (fl P).length ≤ 100) ∧ ∃ sw : Int32, AFC μ (μ.2.2 15 6) w sw (fl P)
theorem CW.kc {w : Int32} {P : List (List Int32 × Int32)} {μ m : gm_M} (h : CW w P μ) (g : kc μ m) : CW w P m := by
  obtain ⟨h1, h2, h3, sw, h4⟩ := h
  have ha : AfW μ (μ.2.2 15 6) := h1.2.1.2.2.2.1
  have p0 := ha.1
  refine ⟨h1.of g, fun i hi => by rw [g.row (by omega)]; exact h2 i hi, h3, sw, ?_⟩
  rw [g.ref (show (15 : Nat) ≠ 63 by decide)]
  unfold AFC
  rw [g.row (r := μ.2.2 15 6) (by omega), g.row (r := μ.2.2 15 6 + 1) (by omega), g.row (r := μ.2.2 15 6 + 2) (by omega), g.row (r := μ.2.2 15 6 + 3) (by omega)]
  exact h4
theorem CW.aw {w : Int32} {P : List (List Int32 × Int32)} {μ : gm_M} (h : CW w P μ) : AfW μ (μ.2.2 15 6) := h.1.2.1.2.2.2.1
theorem CW.kid {w : Int32} {P : List (List Int32 × Int32)} {μ : gm_M} (h : CW w P μ) {t : Nat} (ht : ict t) : kid (μ.2.2 t 1) := h.1.2.2.2.1 t (Or.inl ht)
theorem kid_tags {μ : gm_M} (h : gS μ) {q : Nat} (p : kid q) : (q = 8 ∧ gm_tag μ q = 10) ∨ (q = 9 ∧ gm_tag μ q = 11) ∨ (q = 10 ∧ gm_tag μ q = 14) ∨ (q = 11 ∧ gm_tag μ q = 8) ∨ (q = 12 ∧ gm_tag μ q = 9) ∨ (q = 13 ∧ gm_tag μ q = 6) ∨ (q = 14 ∧ gm_tag μ q = 15) := by
  obtain ⟨p1, p2⟩ := p
  obtain rfl | rfl | rfl | rfl | rfl | rfl | rfl : q = 8 ∨ q = 9 ∨ q = 10 ∨ q = 11 ∨ q = 12 ∨ q = 13 ∨ q = 14 := by omega
  · exact Or.inl ⟨rfl, h.t rfl⟩
  · exact Or.inr (Or.inl ⟨rfl, h.t rfl⟩)
  · exact Or.inr (Or.inr (Or.inl ⟨rfl, h.t rfl⟩))
  · exact Or.inr (Or.inr (Or.inr (Or.inl ⟨rfl, h.t rfl⟩)))
  · exact Or.inr (Or.inr (Or.inr (Or.inr (Or.inl ⟨rfl, h.t rfl⟩))))
  · exact Or.inr (Or.inr (Or.inr (Or.inr (Or.inr (Or.inl ⟨rfl, h.t rfl⟩)))))
  · exact Or.inr (Or.inr (Or.inr (Or.inr (Or.inr (Or.inr ⟨rfl, h.t rfl⟩)))))
theorem and3 {x : Int32} (h : 0 ≤ x.toInt) : (x &&& 3).toInt = x.toInt % 4 := by
  have e : (x &&& 3).toBitVec.toNat = x.toBitVec.toNat % 4 := by
    rw [Int32.toBitVec_and, BitVec.toNat_and]
    exact Nat.and_two_pow_sub_one_eq_mod _ 2
  have b := gx_and3 x
  have h1 : x.toInt = (x.toBitVec.toNat : Int) := by
    have : x.toInt = x.toBitVec.toInt := rfl
    rw [this, BitVec.toInt_eq_toNat_cond] at h ⊢
    split at h
    · rename_i g; rw [if_pos g]
    · exfalso; have := x.toBitVec.isLt; omega
  have h2 : (x &&& 3).toInt = ((x &&& 3).toBitVec.toNat : Int) := by
    have : (x &&& 3).toInt = (x &&& 3).toBitVec.toInt := rfl
    rw [this, BitVec.toInt_eq_toNat_cond, if_pos (by omega)]
  rw [h2, e, h1]; omega
theorem v_dares {μ : gm_M} (hg : gS μ) {q : Nat} (hq : kid q) (x : Int32) : gwI (fv_dares q x μ) (fun y m => y = (if Int32.ofNat (q - 8) = 5 then ab (x - 10) else x) ∧ m = μ) := by
  refine gwI_of ?_
  unfold fv_dares
  rcases kid_tags hg hq with ⟨rfl, e⟩ | ⟨rfl, e⟩ | ⟨rfl, e⟩ | ⟨rfl, e⟩ | ⟨rfl, e⟩ | ⟨rfl, e⟩ | ⟨rfl, e⟩
  all_goals rw [e]
  · rw [if_pos rfl, if_neg (by decide)]; exact gw_some (gq_I ⟨rfl, rfl⟩)
  · rw [if_neg (by decide), if_pos rfl, if_neg (by decide)]; exact gw_some (gq_I ⟨rfl, rfl⟩)
  · rw [if_neg (by decide), if_neg (by decide), if_pos rfl, if_neg (by decide)]; exact gw_some (gq_I ⟨rfl, rfl⟩)
  · rw [if_neg (by decide), if_neg (by decide), if_neg (by decide), if_pos rfl, if_neg (by decide)]; exact gw_some (gq_I ⟨rfl, rfl⟩)
  · rw [if_neg (by decide), if_neg (by decide), if_neg (by decide), if_neg (by decide), if_pos rfl, if_neg (by decide)]; exact gw_some (gq_I ⟨rfl, rfl⟩)
  · rw [if_neg (by decide), if_neg (by decide), if_neg (by decide), if_neg (by decide), if_neg (by decide), if_pos rfl, if_pos (by decide)]
    exact gw_some (gq_I ⟨mx0 _, rfl⟩)
  · rw [if_neg (by decide), if_neg (by decide), if_neg (by decide), if_neg (by decide), if_neg (by decide), if_neg (by decide), if_pos rfl, if_neg (by decide)]; exact gw_some (gq_I ⟨rfl, rfl⟩)
section
variable {μ : gm_M} {w : Int32} {P : List (List Int32 × Int32)} {t : Nat}
theorem v_holds (h : CW w P μ) (ht : ict t) (mi : Int32) : gwI (f_X2_holds t (μ.2.2 15 6) mi μ) (fun x m => x = cHold w P (kC μ t) mi ∧ m = μ) := by
  have ha := h.aw
  have hk := h.kid ht
  obtain ⟨h1, h2, ⟨p1, p2, p3⟩, sw, h4⟩ := h
  refine gwI_of ?_
  unfold f_X2_holds
  refine gw_if ha.t ?_
  refine gw_bI (v_stretch h1.1 h2 ha ht hk p1 p2 p3 h4 mi) (fun x m ⟨ex, em⟩ => ?_)
  subst em
  subst ex
  refine gw_gIw (ict.c h1.1 ht) ?_
  refine gw_gIw (ict.c h1.1 ht) ?_
  refine gw_gIw (ict.c h1.1 ht) ?_
  refine gw_dv (by decide) ?_
  refine gw_gIw ha.tc ?_
  rw [h4.1.1]
  refine gw_gR (ict.c h1.1 ht) (fun q eq => ?_)
  rw [mx0]
  rw [← eq] at hk
  refine gw_bI (v_dares h1.1 hk _) (fun y m' ⟨ey, em⟩ => ?_)
  subst em
  subst ey
  refine gw_some (gq_I ⟨?_, rfl⟩)
  unfold cHold cBear
  rw [show kC m' t 1 = Int32.ofNat (q - 8) by rw [eq]; rfl]
  rfl
theorem v_chew (h : CW w P μ) (ht : ict t) {mi : Int32} (hm : 0 ≤ mi.toInt) : gwI (fv_sugarChewed (μ.2.2 t 1) t mi μ) (fun x m => x = cChew (kC μ t) mi ∧ m = μ) := by
  have hk := h.kid ht
  have hg := h.1.1
  have e1 : kC μ t 1 = Int32.ofNat (μ.2.2 t 1 - 8) := rfl
  generalize μ.2.2 t 1 = q at *
  have pl : ∀ (Q : (Option Value × gm_M) → Prop) (q : Nat) (f : Int32 → gm_M → Option (Option Value × gm_M)), gw (f (3 + kC μ t 2 / 2) μ) Q → gw (gm_bI (f_X5_sugarChewed q t mi μ) f) Q := fun Q q f hf => by
    refine gw_bI (R := fun x m => x = 3 + kC μ t 2 / 2 ∧ m = μ) (gwI_of ?_) (fun x m ⟨ex, em⟩ => by subst em; subst ex; exact hf)
    unfold f_X5_sugarChewed
    refine gw_gIw (ict.c hg ht) ?_
    refine gw_dv (by decide) ?_
    exact gw_some (gq_I ⟨rfl, rfl⟩)
  refine gwI_of ?_
  unfold fv_sugarChewed
  rcases kid_tags hg hk with ⟨rfl, e⟩ | ⟨rfl, e⟩ | ⟨rfl, e⟩ | ⟨rfl, e⟩ | ⟨rfl, e⟩ | ⟨rfl, e⟩ | ⟨rfl, e⟩
  all_goals (rw [e]; unfold cChew; rw [e1])
  · rw [if_pos rfl, if_neg (by decide), if_neg (by decide), if_neg (by decide), if_neg (by decide), if_neg (by decide), if_neg (by decide)]
    unfold f_X5_sugarChewed
    refine gw_gIw (ict.c hg ht) ?_
    refine gw_dv (by decide) ?_
    exact gw_some (gq_I ⟨rfl, rfl⟩)
  · rw [if_neg (by decide), if_pos rfl, if_pos (by decide)]
    unfold f_X6_sugarChewed
    refine gw_if (by rw [e]; rfl) ?_
    exact pl _ _ _ (gw_some (gq_I ⟨rfl, rfl⟩))
  · rw [if_neg (by decide), if_neg (by decide), if_pos rfl, if_neg (by decide), if_pos (by decide)]
    unfold f_X9_sugarChewed
    refine gw_if (by rw [e]; rfl) ?_
    refine pl _ _ _ ?_
    refine gw_dv (by decide) ?_
    exact gw_some (gq_I ⟨rfl, rfl⟩)
  · rw [if_neg (by decide), if_neg (by decide), if_neg (by decide), if_pos rfl, if_neg (by decide), if_neg (by decide), if_pos (by decide)]
    unfold f_X3_sugarChewed
    refine gw_if (by rw [e]; rfl) ?_
    exact pl _ _ _ (gw_some (gq_I ⟨mx0 _, rfl⟩))
  · rw [if_neg (by decide), if_neg (by decide), if_neg (by decide), if_neg (by decide), if_pos rfl, if_neg (by decide), if_neg (by decide), if_neg (by decide), if_pos (by decide)]
    unfold f_X4_sugarChewed
    refine gw_if (by rw [e]; rfl) ?_
    refine gw_bI (R := fun x m => x = 2 * (3 + kC μ t 2 / 2) ∧ m = μ) (gwI_of ?_) (fun x m ⟨ex, em⟩ => ?_)
    · unfold f_X6_sugarChewed
      refine gw_if (by rw [e]; rfl) ?_
      exact pl _ _ _ (gw_some (gq_I ⟨rfl, rfl⟩))
    · subst em
      subst ex
      refine gw_gIw (ict.c hg ht) ?_
      exact gw_some (gq_I ⟨rfl, rfl⟩)
  · rw [if_neg (by decide), if_neg (by decide), if_neg (by decide), if_neg (by decide), if_neg (by decide), if_pos rfl, if_neg (by decide), if_neg (by decide), if_neg (by decide), if_neg (by decide), if_pos (by decide)]
    unfold f_X1_sugarChewed
    refine gw_if (by rw [e]; rfl) ?_
    refine gw_bI (R := fun x m => x = (3 + kC μ t 2 / 2) / 2 ∧ m = μ) (gwI_of ?_) (fun x m ⟨ex, em⟩ => ?_)
    · unfold f_X9_sugarChewed
      refine gw_if (by rw [e]; rfl) ?_
      refine pl _ _ _ ?_
      refine gw_dv (by decide) ?_
      exact gw_some (gq_I ⟨rfl, rfl⟩)
    · subst em
      subst ex
      exact gw_some (gq_I ⟨rfl, rfl⟩)
  · rw [if_neg (by decide), if_neg (by decide), if_neg (by decide), if_neg (by decide), if_neg (by decide), if_neg (by decide), if_pos rfl, if_neg (by decide), if_neg (by decide), if_neg (by decide), if_neg (by decide), if_neg (by decide), if_pos (by decide)]
    unfold f_X10_sugarChewed
    refine gw_if (by rw [e]; rfl) ?_
    refine gw_bI (R := fun x m => x = ab (3 + kC μ t 2 / 2 - 2) ∧ m = μ) (gwI_of ?_) (fun x m ⟨ex, em⟩ => ?_)
    · unfold f_X3_sugarChewed
      refine gw_if (by rw [e]; rfl) ?_
      exact pl _ _ _ (gw_some (gq_I ⟨mx0 _, rfl⟩))
    · subst em
      subst ex
      have a3 := and3 hm
      have m4 := mod4_i hm
      refine gw_gRa (t + 1) (ict.c hg ht) (ict.row hg ht) ?_
      refine gw_aIw (mi % 4).toInt.toNat (ict.rt hg ht) (ict.rl hg ht) (by omega) (by omega) ?_
      refine gw_some (gq_I ⟨?_, rfl⟩)
      have : kC m t (8 + (mi % 4).toInt.toNat) = m.2.1 (t + 1) (mi % 4).toInt.toNat := by
        unfold kC
        rw [if_neg (by omega), if_neg (by omega), if_pos (by omega), show 8 + (mi % 4).toInt.toNat - 8 = (mi % 4).toInt.toNat by omega]
      rw [this]
theorem v_tire (h : CW w P μ) (ht : ict t) : gwI (fv_jawTired (μ.2.2 t 1) t μ) (fun x m => x = cTire (kC μ t) ∧ m = μ) := by
  have hk := h.kid ht
  have hg := h.1.1
  have e1 : kC μ t 1 = Int32.ofNat (μ.2.2 t 1 - 8) := rfl
  generalize μ.2.2 t 1 = q at *
  refine gwI_of ?_
  unfold fv_jawTired
  rcases kid_tags hg hk with ⟨rfl, e⟩ | ⟨rfl, e⟩ | ⟨rfl, e⟩ | ⟨rfl, e⟩ | ⟨rfl, e⟩ | ⟨rfl, e⟩ | ⟨rfl, e⟩
  all_goals (rw [e]; unfold cTire; rw [e1])
  · rw [if_pos rfl, if_neg (by decide), if_neg (by decide), if_neg (by decide), if_neg (by decide), if_neg (by decide)]
    unfold f_X5_jawTired
    exact gw_gIw (ict.c hg ht) (gw_some (gq_I ⟨rfl, rfl⟩))
  · rw [if_neg (by decide), if_pos rfl, if_pos (by decide)]
    unfold f_X6_jawTired
    exact gw_gIw (ict.c hg ht) (gw_some (gq_I ⟨rfl, rfl⟩))
  · rw [if_neg (by decide), if_neg (by decide), if_pos rfl, if_neg (by decide), if_neg (by decide), if_neg (by decide), if_neg (by decide), if_neg (by decide)]
    unfold f_X5_jawTired
    exact gw_gIw (ict.c hg ht) (gw_some (gq_I ⟨rfl, rfl⟩))
  · rw [if_neg (by decide), if_neg (by decide), if_neg (by decide), if_pos rfl, if_neg (by decide), if_pos (by decide)]
    unfold f_X3_jawTired
    exact gw_gIw (ict.c hg ht) (gw_some (gq_I ⟨rfl, rfl⟩))
  · rw [if_neg (by decide), if_neg (by decide), if_neg (by decide), if_neg (by decide), if_pos rfl, if_neg (by decide), if_neg (by decide), if_pos (by decide)]
    unfold f_X6_jawTired
    exact gw_gIw (ict.c hg ht) (gw_some (gq_I ⟨rfl, rfl⟩))
  · rw [if_neg (by decide), if_neg (by decide), if_neg (by decide), if_neg (by decide), if_neg (by decide), if_pos rfl, if_neg (by decide), if_neg (by decide), if_neg (by decide), if_pos (by decide)]
    unfold f_X1_jawTired
    refine gw_gIw (ict.c hg ht) ?_
    refine gw_dv (by decide) ?_
    exact gw_some (gq_I ⟨rfl, rfl⟩)
  · rw [if_neg (by decide), if_neg (by decide), if_neg (by decide), if_neg (by decide), if_neg (by decide), if_neg (by decide), if_pos rfl, if_neg (by decide), if_neg (by decide), if_neg (by decide), if_neg (by decide), if_pos (by decide)]
    unfold f_X3_jawTired
    exact gw_gIw (ict.c hg ht) (gw_some (gq_I ⟨rfl, rfl⟩))
theorem wi_min {x : Int32} (h : 0 ≤ x.toInt) : (if x < (99 : Int32) then x else 99) = wi x := by
  obtain ⟨l0, l1, l2, l3, l4, l5, l6, l10, l99⟩ := i_lit
  unfold wi
  rw [if_neg (show ¬ x < 0 by rw [Int32.lt_iff_toInt_lt]; omega)]
  by_cases g : 99 < x
  · rw [if_pos g, if_neg]
    rw [Int32.lt_iff_toInt_lt] at g ⊢
    omega
  · rw [if_neg g]
    split
    · rfl
    · rename_i g2
      rw [Int32.lt_iff_toInt_lt] at g g2
      exact Int32.toInt_inj.mp (by omega)
/-- a child's own numbers change, no other thing -/
theorem CW.ch (h : CW w P μ) (ht : ict t) {j : Nat} (hj : 3 ≤ j) (x : Int32) : CW w P (wI μ t j x) := by
  have p0 := h.aw.1
  have hto : 29 ≤ t ∧ t ≤ 63 ∧ t % 2 = 1 ∧ t ≠ 43 ∧ t ≠ 45 ∧ t < 65 ∧ ¬ (38 < t ∧ t < 63) := by unfold ict isch at ht; omega
  have g : chg t μ (wI μ t j x) := (chg.refl t μ).w rfl hj
  obtain ⟨h1, h2, h3, sw, h4⟩ := h
  refine ⟨h1.ch ht g, fun i hi => by rw [wI_o _ _ _ _ (by omega)]; exact h2 i hi, h3, sw, ?_⟩
  show AFC (wI μ t j x) (μ.2.2 15 6) w sw (fl P)
  unfold AFC
  rw [wI_o _ _ _ _ (show μ.2.2 15 6 ≠ t by omega), wI_o _ _ _ _ (show μ.2.2 15 6 + 1 ≠ t by omega), wI_o _ _ _ _ (show μ.2.2 15 6 + 2 ≠ t by omega), wI_o _ _ _ _ (show μ.2.2 15 6 + 3 ≠ t by omega)]
  exact h4
theorem v_pass (h : CW w P μ) (ht : ict t) {mi : Int32} (hm : 0 ≤ mi.toInt) (hr : RK (kC μ t)) : gwV (f_X2_passMinute t mi μ) (fun m => chg t μ m ∧ kC m t = cGo (kC μ t) mi ∧ CW w P m) := by
  obtain ⟨l0, l1, l2, l3, l4, l5, l6, l10, l99⟩ := i_lit
  have hg := h.1.1
  have tc := ict.c hg ht
  refine gwV_of ?_
  unfold f_X2_passMinute
  have g6 : kC μ t 6 = μ.2.1 t 6 := rfl
  have g3 : kC μ t 3 = μ.2.1 t 3 := rfl
  have r0 := chg.refl t μ
  refine gw_gIw tc ?_
  refine gw_ite (fun c6 => ?_) (fun c6 => ?_)
  · refine gw_gIw tc ?_
    refine gw_ite (fun c3 => ?_) (fun c3 => ?_)
    · refine gw_gIw tc ?_
      refine gw_pIw tc ?_
      rw [mx0]
      refine gw_some (gq_V ⟨r0.w rfl (by decide), ?_, h.ch ht (by decide) _⟩)
      rw [kC_w (by decide) (by decide), cGo, g6, if_pos c6, g3, if_pos c3]; rfl
    · refine gw_gIw tc ?_
      refine gw_gR tc (fun q eq => ?_)
      subst eq
      refine gw_bI (v_chew h ht hm) (fun x m ⟨ex, em⟩ => ?_)
      subst em
      subst ex
      refine gw_pIw tc ?_
      rw [mx0]
      have h1 := h.ch ht (j := 4) (by decide) (ab (m.2.1 t 4 - cChew (kC m t) mi))
      have k1 : kC (wI m t 4 (ab (m.2.1 t 4 - cChew (kC m t) mi))) t = kud (kC m t) 4 (ab (m.2.1 t 4 - cChew (kC m t) mi)) := kC_w (by decide) (by decide)
      have r1 : chg t m (wI m t 4 (ab (m.2.1 t 4 - cChew (kC m t) mi))) := r0.w rfl (by decide)
      generalize hM : wI m t 4 (ab (m.2.1 t 4 - cChew (kC m t) mi)) = M at *
      have tc1 := ict.c h1.1.1 ht
      refine gw_gIw tc1 ?_
      refine gw_gR tc1 (fun q eq => ?_)
      subst eq
      refine gw_bI (v_tire h1 ht) (fun x m' ⟨ex, em⟩ => ?_)
      subst em
      subst ex
      have ct := cTire_b hr
      have e5 : m'.2.1 t 5 = kC m t 5 := by
        have : kC m' t 5 = m'.2.1 t 5 := rfl
        rw [← this, k1, upd_n (by decide)]
      have et : cTire (kC m' t) = cTire (kC m t) := by
        rw [k1]; unfold cTire; rw [upd_n (by decide), upd_n (by decide)]
      have h5 := hr.2.1.2.1
      refine gw_pIw tc1 ?_
      rw [e5, et, wi_min (by rw [gx_add (by omega) (by omega)]; omega)]
      refine gw_some (gq_V ⟨r1.w rfl (by decide), ?_, h1.ch ht (by decide) _⟩)
      rw [kC_w (by decide) (by decide), k1, cGo, g6, if_pos c6, g3, if_neg c3]; rfl
  · refine gw_gIw tc ?_
    refine gw_gIw tc ?_
    refine gw_pIw tc ?_
    rw [mx0]
    refine gw_some (gq_V ⟨r0.w rfl (by decide), ?_, h.ch ht (by decide) _⟩)
    rw [kC_w (by decide) (by decide), cGo, g6, if_neg c6]; rfl
end
