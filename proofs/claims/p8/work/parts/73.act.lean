/-! acts: what they answer, which bodies ran -/
def chS (k : Nat) (c x : Int32) : Int32 × List Int32 := if k = 1 ∨ k = 4 then (x * 3 + c, [11, 1]) else if k = 5 then ((x + c) ^^^ c, [51, 1]) else (x + c, [1])
def blS (k : Nat) (c v x : Int32) : Int32 × List Int32 := if k = 2 ∨ k = 5 then (-((chS k c x).1 - v), 21 :: 2 :: (chS k c x).2) else if k = 6 then ((chS k c x).1 - v + v, 61 :: 2 :: (chS k c x).2) else ((chS k c x).1 - v, 2 :: (chS k c x).2)
def teS (k : Nat) (c v x : Int32) : Int32 × List Int32 := if k = 3 ∨ k = 6 then (((blS k c v x).1 * 2) ^^^ 7, 31 :: 3 :: (blS k c v x).2) else if k = 4 then ((blS k c v (x - 1)).1 * 2 + (chS k c 2).1, 41 :: 3 :: (blS k c v (x - 1)).2 ++ (chS k c 2).2) else ((blS k c v x).1 * 2, 3 :: (blS k c v x).2)
theorem chS_len (k : Nat) (c x : Int32) : (chS k c x).2.length ≤ 2 := by
  unfold chS
  split
  · exact Nat.le_refl 2
  · split
    · exact Nat.le_refl 2
    · exact Nat.le_succ 1
theorem blS_len (k : Nat) (c v x : Int32) : (blS k c v x).2.length ≤ 4 := by
  have := chS_len k c x
  unfold blS
  split
  · simp only [List.length_cons]; omega
  · split
    · simp only [List.length_cons]; omega
    · simp only [List.length_cons]; omega
theorem teS_len (k : Nat) (c v x : Int32) : (teS k c v x).2.length ≤ 8 := by
  have := blS_len k c v x
  have := blS_len k c v (x - 1)
  have := chS_len k c 2
  unfold teS
  split
  · simp only [List.length_cons]; omega
  · split
    · simp only [List.length_cons, List.length_append]; omega
    · simp only [List.length_cons]; omega
def tk (μ : gm_M) (l : List Int32) (m : gm_M) : Prop := (m.1 = μ.1 ∧ m.2.2 = μ.2.2 ∧ (∀ r : Nat, r ≠ 3 → r ≠ 4 → m.2.1 r = μ.2.1 r) ∧ ∀ j : Nat, j ≠ 2 → m.2.1 3 j = μ.2.1 3 j) ∧ (m.2.1 3 2).toInt = l.length ∧ ∀ (i : Nat) (x : Int32), l[i]? = some x → m.2.1 4 (3 * i) = x
theorem tk.s {μ m : gm_M} {l : List Int32} (h : tk μ l m) (hS : gS μ) : gS m := hS.same h.1.1 h.1.2.1
theorem tk.add {μ m : gm_M} {l : List Int32} (h : tk μ l m) (hS : gS μ) (hL : (μ.2.1 3 0).toInt = 20) (hl : l.length ≤ 15) (b : Int32) {c d : Int32} : gwI (f_X7_add 3 b c d m) (fun _ m1 => tk μ (l ++ [b]) m1) := by
  have hs := h.s hS
  obtain ⟨⟨h1, h2, h3, h4⟩, h5, h6⟩ := h
  refine gwI_mono (s_add (r := 3) (n := 60) 20 (hs.t rfl) (hs.t rfl) (hs.l rfl) (hs.r (by decide)) (by rw [h4 0 (by decide)]; exact hL) (by omega) (by omega) (by decide)) (fun x m1 ⟨_, z⟩ => ?_)
  have e : m1 = ad m 3 b c d := by
    rcases z with ⟨-, q⟩ | ⟨q, -⟩
    · exact q
    · exfalso; omega
  subst e
  have hn : (m.2.1 3 2).toInt.toNat = l.length := by omega
  have l1 : (1 : Int32).toInt = 1 := rfl
  have n1 : (m.2.1 3 2 + 1).toInt = (m.2.1 3 2).toInt + (1 : Int32).toInt := gx_add (by omega) (by omega)
  refine ⟨⟨h1, h2, fun r r1 r2 => by rw [ad_o r1 r2]; exact h3 r r1 r2, fun j hj => ?_⟩, ?_, fun i x hx => ?_⟩
  · unfold ad
    rw [wI_n _ _ _ _ hj, wI_o _ _ _ _ (by decide), wI_o _ _ _ _ (by decide), wI_o _ _ _ _ (by decide)]
    exact h4 j hj
  · rw [ad_c, List.length_append]
    show (m.2.1 3 2 + 1).toInt = ((l.length + 1 : Nat) : Int)
    omega
  · unfold ad
    rw [wI_o _ _ _ _ (by decide), hn]
    by_cases e : i < l.length
    · rw [List.getElem?_append_left e] at hx
      rw [wI_n _ _ _ _ (by omega), wI_n _ _ _ _ (by omega), wI_n _ _ _ _ (by omega)]
      exact h6 i x hx
    · have hi : i = l.length := by
        have hlt := (List.getElem?_eq_some_iff.mp hx).1
        rw [List.length_append] at hlt
        have : [b].length = 1 := rfl
        omega
      subst hi
      rw [List.getElem?_append_right (Nat.le_refl _), Nat.sub_self] at hx
      have hb : b = x := Option.some.inj hx
      rw [wI_n _ _ _ _ (by omega), wI_n _ _ _ _ (by omega), wI_e]
      exact hb
section
variable {μ m : gm_M} {l : List Int32} {a : Nat}
theorem tk.f {j : Nat} (h : tk μ l m) (ha : isch a) : m.2.1 a j = μ.2.1 a j := by rw [h.1.2.2.1 a (by unfold isch at ha; omega) (by unfold isch at ha; omega)]
theorem t_X5_chews (h : tk μ l m) (hS : gS μ) (hL : (μ.2.1 3 0).toInt = 20) (hl : l.length ≤ 14) (ha : isch a) {r : Nat} {x : Int32} : gwI (f_X5_chews r 3 a x m) (fun y m1 => y = x + μ.2.1 a 0 ∧ tk μ (l ++ [1]) m1) := by
  refine gwI_of ?_
  unfold f_X5_chews
  refine gw_if ((h.s hS).t (r := 3) rfl) ?_
  refine gw_bI (h.add hS hL (by omega) 1) (fun _ m1 h1 => ?_)
  refine gw_gIw (ict.c (h1.s hS) (Or.inl ha)) ?_
  rw [h1.f ha]
  exact gw_some (gq_I ⟨rfl, h1⟩)
theorem t_X6_chews (h : tk μ l m) (hS : gS μ) (hL : (μ.2.1 3 0).toInt = 20) (hl : l.length ≤ 13) (ha : isch a) {r : Nat} (hr : r = 9 ∨ r = 12) {x : Int32} : gwI (f_X6_chews r 3 a x m) (fun y m1 => y = x * 3 + μ.2.1 a 0 ∧ tk μ (l ++ [11, 1]) m1) := by
  refine gwI_of ?_
  unfold f_X6_chews
  refine gw_if ((h.s hS).t (r := 3) rfl) ?_
  refine gw_bI (h.add hS hL (by omega) 11) (fun _ m1 h1 => ?_)
  refine gw_if (by rcases hr with rfl | rfl <;> rw [(h1.s hS).t rfl] <;> rfl) ?_
  refine gw_bI (t_X5_chews h1 hS hL (by rw [List.length_append]; show l.length + 1 ≤ 14; omega) ha) (fun y m2 ⟨e2, h2⟩ => ?_)
  rw [List.append_assoc] at h2
  exact gw_some (gq_I ⟨e2, h2⟩)
theorem t_X1_chews (h : tk μ l m) (hS : gS μ) (hL : (μ.2.1 3 0).toInt = 20) (hl : l.length ≤ 13) (ha : isch a) {x : Int32} : gwI (f_X1_chews 13 3 a x m) (fun y m1 => y = (x + μ.2.1 a 0) ^^^ μ.2.1 a 0 ∧ tk μ (l ++ [51, 1]) m1) := by
  refine gwI_of ?_
  unfold f_X1_chews
  refine gw_if ((h.s hS).t (r := 3) rfl) ?_
  refine gw_bI (h.add hS hL (by omega) 51) (fun _ m1 h1 => ?_)
  refine gw_if (by rw [(h1.s hS).t (r := 13) rfl]; rfl) ?_
  refine gw_bI (t_X5_chews h1 hS hL (by rw [List.length_append]; show l.length + 1 ≤ 14; omega) ha) (fun y m2 ⟨e2, h2⟩ => ?_)
  rw [List.append_assoc] at h2
  refine gw_gIw (ict.c (h2.s hS) (Or.inl ha)) ?_
  rw [h2.f ha]
  exact gw_some (gq_I ⟨by rw [e2], h2⟩)
theorem t_chews (h : tk μ l m) (hS : gS μ) (hL : (μ.2.1 3 0).toInt = 20) (hl : l.length ≤ 13) (ha : isch a) {k : Nat} (hk : k < 7) {x : Int32} : gwI (fv_chews (8 + k) 3 a x m) (fun y m1 => y = (chS k (μ.2.1 a 0) x).1 ∧ tk μ (l ++ (chS k (μ.2.1 a 0) x).2) m1) := by
  have hs := h.s hS
  obtain rfl | rfl | rfl | rfl | rfl | rfl | rfl : k = 0 ∨ k = 1 ∨ k = 2 ∨ k = 3 ∨ k = 4 ∨ k = 5 ∨ k = 6 := by omega
  · unfold fv_chews; rw [hs.t (r := 8 + 0) rfl, if_pos rfl]
    exact t_X5_chews h hS hL (by omega) ha
  · unfold fv_chews; rw [hs.t (r := 8 + 1) rfl, if_neg (by decide), if_pos rfl]
    exact t_X6_chews h hS hL hl ha (Or.inl rfl)
  · unfold fv_chews; rw [hs.t (r := 8 + 2) rfl, if_neg (by decide), if_neg (by decide), if_pos rfl]
    exact t_X5_chews h hS hL (by omega) ha
  · unfold fv_chews; rw [hs.t (r := 8 + 3) rfl, if_neg (by decide), if_neg (by decide), if_neg (by decide), if_pos rfl]
    exact t_X5_chews h hS hL (by omega) ha
  · unfold fv_chews; rw [hs.t (r := 8 + 4) rfl, if_neg (by decide), if_neg (by decide), if_neg (by decide), if_neg (by decide), if_pos rfl]
    exact t_X6_chews h hS hL hl ha (Or.inr rfl)
  · unfold fv_chews; rw [hs.t (r := 8 + 5) rfl, if_neg (by decide), if_neg (by decide), if_neg (by decide), if_neg (by decide), if_neg (by decide), if_pos rfl]
    exact t_X1_chews h hS hL hl ha
  · unfold fv_chews; rw [hs.t (r := 8 + 6) rfl, if_neg (by decide), if_neg (by decide), if_neg (by decide), if_neg (by decide), if_neg (by decide), if_neg (by decide), if_pos rfl]
    exact t_X5_chews h hS hL (by omega) ha
theorem t_X5_blows (h : tk μ l m) (hS : gS μ) (hL : (μ.2.1 3 0).toInt = 20) (hl : l.length ≤ 12) (ha : isch a) {k : Nat} (hk : k < 7) {x : Int32} : gwI (f_X5_blows (8 + k) 3 a x m) (fun y m1 => y = (chS k (μ.2.1 a 0) x).1 - μ.2.1 a 2 ∧ tk μ (l ++ 2 :: (chS k (μ.2.1 a 0) x).2) m1) := by
  refine gwI_of ?_
  unfold f_X5_blows
  refine gw_if ((h.s hS).t (r := 3) rfl) ?_
  refine gw_bI (h.add hS hL (by omega) 2) (fun _ m1 h1 => ?_)
  refine gw_bI (t_chews h1 hS hL (by rw [List.length_append]; show l.length + 1 ≤ 13; omega) ha hk) (fun y m2 ⟨e2, h2⟩ => ?_)
  rw [List.append_assoc] at h2
  refine gw_gIw (ict.c (h2.s hS) (Or.inl ha)) ?_
  rw [h2.f ha]
  exact gw_some (gq_I ⟨by rw [e2], h2⟩)
theorem t_X9_blows (h : tk μ l m) (hS : gS μ) (hL : (μ.2.1 3 0).toInt = 20) (hl : l.length ≤ 11) (ha : isch a) {k : Nat} (hk : k = 2 ∨ k = 5) {x : Int32} : gwI (f_X9_blows (8 + k) 3 a x m) (fun y m1 => y = -((chS k (μ.2.1 a 0) x).1 - μ.2.1 a 2) ∧ tk μ (l ++ 21 :: 2 :: (chS k (μ.2.1 a 0) x).2) m1) := by
  refine gwI_of ?_
  unfold f_X9_blows
  refine gw_if ((h.s hS).t (r := 3) rfl) ?_
  refine gw_bI (h.add hS hL (by omega) 21) (fun _ m1 h1 => ?_)
  refine gw_if (by rcases hk with rfl | rfl <;> rw [(h1.s hS).t rfl] <;> rfl) ?_
  refine gw_bI (t_X5_blows h1 hS hL (by rw [List.length_append]; show l.length + 1 ≤ 12; omega) ha (by omega)) (fun y m2 ⟨e2, h2⟩ => ?_)
  rw [List.append_assoc] at h2
  exact gw_some (gq_I ⟨by rw [e2], h2⟩)
theorem t_X10_blows (h : tk μ l m) (hS : gS μ) (hL : (μ.2.1 3 0).toInt = 20) (hl : l.length ≤ 11) (ha : isch a) {x : Int32} : gwI (f_X10_blows (8 + 6) 3 a x m) (fun y m1 => y = (chS 6 (μ.2.1 a 0) x).1 - μ.2.1 a 2 + μ.2.1 a 2 ∧ tk μ (l ++ 61 :: 2 :: (chS 6 (μ.2.1 a 0) x).2) m1) := by
  refine gwI_of ?_
  unfold f_X10_blows
  refine gw_if ((h.s hS).t (r := 3) rfl) ?_
  refine gw_bI (h.add hS hL (by omega) 61) (fun _ m1 h1 => ?_)
  refine gw_if (by rw [(h1.s hS).t (r := 8 + 6) rfl]; rfl) ?_
  refine gw_bI (t_X5_blows h1 hS hL (by rw [List.length_append]; show l.length + 1 ≤ 12; omega) ha (k := 6) (by omega)) (fun y m2 ⟨e2, h2⟩ => ?_)
  rw [List.append_assoc] at h2
  refine gw_gIw (ict.c (h2.s hS) (Or.inl ha)) ?_
  rw [h2.f ha]
  exact gw_some (gq_I ⟨by rw [e2], h2⟩)
theorem t_blows (h : tk μ l m) (hS : gS μ) (hL : (μ.2.1 3 0).toInt = 20) (hl : l.length ≤ 11) (ha : isch a) {k : Nat} (hk : k < 7) {x : Int32} : gwI (fv_blows (8 + k) 3 a x m) (fun y m1 => y = (blS k (μ.2.1 a 0) (μ.2.1 a 2) x).1 ∧ tk μ (l ++ (blS k (μ.2.1 a 0) (μ.2.1 a 2) x).2) m1) := by
  have hs := h.s hS
  obtain rfl | rfl | rfl | rfl | rfl | rfl | rfl : k = 0 ∨ k = 1 ∨ k = 2 ∨ k = 3 ∨ k = 4 ∨ k = 5 ∨ k = 6 := by omega
  · unfold fv_blows; rw [hs.t (r := 8 + 0) rfl, if_pos rfl]
    exact t_X5_blows h hS hL (by omega) ha hk
  · unfold fv_blows; rw [hs.t (r := 8 + 1) rfl, if_neg (by decide), if_pos rfl]
    exact t_X5_blows h hS hL (by omega) ha hk
  · unfold fv_blows; rw [hs.t (r := 8 + 2) rfl, if_neg (by decide), if_neg (by decide), if_pos rfl]
    exact t_X9_blows h hS hL hl ha (Or.inl rfl)
  · unfold fv_blows; rw [hs.t (r := 8 + 3) rfl, if_neg (by decide), if_neg (by decide), if_neg (by decide), if_pos rfl]
    exact t_X5_blows h hS hL (by omega) ha hk
  · unfold fv_blows; rw [hs.t (r := 8 + 4) rfl, if_neg (by decide), if_neg (by decide), if_neg (by decide), if_neg (by decide), if_pos rfl]
    exact t_X5_blows h hS hL (by omega) ha hk
  · unfold fv_blows; rw [hs.t (r := 8 + 5) rfl, if_neg (by decide), if_neg (by decide), if_neg (by decide), if_neg (by decide), if_neg (by decide), if_pos rfl]
    exact t_X9_blows h hS hL hl ha (Or.inr rfl)
  · unfold fv_blows; rw [hs.t (r := 8 + 6) rfl, if_neg (by decide), if_neg (by decide), if_neg (by decide), if_neg (by decide), if_neg (by decide), if_neg (by decide), if_pos rfl]
    exact t_X10_blows h hS hL hl ha
theorem t_X5_tells (h : tk μ l m) (hS : gS μ) (hL : (μ.2.1 3 0).toInt = 20) (hl : l.length ≤ 10) (ha : isch a) {k : Nat} (hk : k < 7) {x : Int32} : gwI (f_X5_tells (8 + k) 3 a x m) (fun y m1 => y = (blS k (μ.2.1 a 0) (μ.2.1 a 2) x).1 * 2 ∧ tk μ (l ++ 3 :: (blS k (μ.2.1 a 0) (μ.2.1 a 2) x).2) m1) := by
  refine gwI_of ?_
  unfold f_X5_tells
  refine gw_if ((h.s hS).t (r := 3) rfl) ?_
  refine gw_bI (h.add hS hL (by omega) 3) (fun _ m1 h1 => ?_)
  refine gw_bI (t_blows h1 hS hL (by rw [List.length_append]; show l.length + 1 ≤ 11; omega) ha hk) (fun y m2 ⟨e2, h2⟩ => ?_)
  rw [List.append_assoc] at h2
  exact gw_some (gq_I ⟨by rw [e2], h2⟩)
theorem t_X3_tells (h : tk μ l m) (hS : gS μ) (hL : (μ.2.1 3 0).toInt = 20) (hl : l.length ≤ 9) (ha : isch a) {k : Nat} (hk : k = 3 ∨ k = 6) {x : Int32} : gwI (f_X3_tells (8 + k) 3 a x m) (fun y m1 => y = ((blS k (μ.2.1 a 0) (μ.2.1 a 2) x).1 * 2) ^^^ 7 ∧ tk μ (l ++ 31 :: 3 :: (blS k (μ.2.1 a 0) (μ.2.1 a 2) x).2) m1) := by
  refine gwI_of ?_
  unfold f_X3_tells
  refine gw_if ((h.s hS).t (r := 3) rfl) ?_
  refine gw_bI (h.add hS hL (by omega) 31) (fun _ m1 h1 => ?_)
  refine gw_if (by rcases hk with rfl | rfl <;> rw [(h1.s hS).t rfl] <;> rfl) ?_
  refine gw_bI (t_X5_tells h1 hS hL (by rw [List.length_append]; show l.length + 1 ≤ 10; omega) ha (by omega)) (fun y m2 ⟨e2, h2⟩ => ?_)
  rw [List.append_assoc] at h2
  exact gw_some (gq_I ⟨by rw [e2], h2⟩)
theorem t_X4_tells (h : tk μ l m) (hS : gS μ) (hL : (μ.2.1 3 0).toInt = 20) (hl : l.length ≤ 6) (ha : isch a) {x : Int32} : gwI (f_X4_tells (8 + 4) 3 a x m) (fun y m1 => y = (blS 4 (μ.2.1 a 0) (μ.2.1 a 2) (x - 1)).1 * 2 + (chS 4 (μ.2.1 a 0) 2).1 ∧ tk μ (l ++ (41 :: 3 :: (blS 4 (μ.2.1 a 0) (μ.2.1 a 2) (x - 1)).2 ++ (chS 4 (μ.2.1 a 0) 2).2)) m1) := by
  refine gwI_of ?_
  unfold f_X4_tells
  have b := blS_len 4 (μ.2.1 a 0) (μ.2.1 a 2) (x - 1)
  refine gw_if ((h.s hS).t (r := 3) rfl) ?_
  refine gw_bI (h.add hS hL (by omega) 41) (fun _ m1 h1 => ?_)
  refine gw_if (by rw [(h1.s hS).t (r := 8 + 4) rfl]; rfl) ?_
  refine gw_bI (t_X5_tells h1 hS hL (by rw [List.length_append]; show l.length + 1 ≤ 10; omega) ha (k := 4) (by omega)) (fun y m2 ⟨e2, h2⟩ => ?_)
  rw [List.append_assoc] at h2
  refine gw_if ((h2.s hS).t (r := 8 + 4) rfl) ?_
  refine gw_bI (t_X6_chews h2 hS hL (by simp only [List.length_append, List.length_cons, List.length_nil]; omega) ha (Or.inr rfl)) (fun y3 m3 ⟨e3, h3⟩ => ?_)
  rw [List.append_assoc] at h3
  exact gw_some (gq_I ⟨by rw [e2, e3]; rfl, h3⟩)
theorem t_tells (h : tk μ l m) (hS : gS μ) (hL : (μ.2.1 3 0).toInt = 20) (hl : l.length ≤ 6) (ha : isch a) {k : Nat} (hk : k < 7) {x : Int32} : gwI (fv_tells (8 + k) 3 a x m) (fun y m1 => y = (teS k (μ.2.1 a 0) (μ.2.1 a 2) x).1 ∧ tk μ (l ++ (teS k (μ.2.1 a 0) (μ.2.1 a 2) x).2) m1) := by
  have hs := h.s hS
  obtain rfl | rfl | rfl | rfl | rfl | rfl | rfl : k = 0 ∨ k = 1 ∨ k = 2 ∨ k = 3 ∨ k = 4 ∨ k = 5 ∨ k = 6 := by omega
  · unfold fv_tells; rw [hs.t (r := 8 + 0) rfl, if_pos rfl]
    exact t_X5_tells h hS hL (by omega) ha hk
  · unfold fv_tells; rw [hs.t (r := 8 + 1) rfl, if_neg (by decide), if_pos rfl]
    exact t_X5_tells h hS hL (by omega) ha hk
  · unfold fv_tells; rw [hs.t (r := 8 + 2) rfl, if_neg (by decide), if_neg (by decide), if_pos rfl]
    exact t_X5_tells h hS hL (by omega) ha hk
  · unfold fv_tells; rw [hs.t (r := 8 + 3) rfl, if_neg (by decide), if_neg (by decide), if_neg (by decide), if_pos rfl]
    exact t_X3_tells h hS hL (by omega) ha (Or.inl rfl)
  · unfold fv_tells; rw [hs.t (r := 8 + 4) rfl, if_neg (by decide), if_neg (by decide), if_neg (by decide), if_neg (by decide), if_pos rfl]
    exact t_X4_tells h hS hL hl ha
  · unfold fv_tells; rw [hs.t (r := 8 + 5) rfl, if_neg (by decide), if_neg (by decide), if_neg (by decide), if_neg (by decide), if_neg (by decide), if_pos rfl]
    exact t_X5_tells h hS hL (by omega) ha hk
  · unfold fv_tells; rw [hs.t (r := 8 + 6) rfl, if_neg (by decide), if_neg (by decide), if_neg (by decide), if_neg (by decide), if_neg (by decide), if_neg (by decide), if_pos rfl]
    exact t_X3_tells h hS hL (by omega) ha (Or.inr rfl)
end
