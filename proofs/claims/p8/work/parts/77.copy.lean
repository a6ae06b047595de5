def wR (μ : gm_M) (r j : Nat) (x : Nat) : gm_M := (μ.1, μ.2.1, gm_u μ.2.2 r j x)
theorem gw_pRw {β : Type} {μ : gm_M} {ks : List Nat} {r j y : Nat} {Q : β → Prop} {f : gm_M → Option β} (h : ks.contains (gm_tag μ r) = true) (k : gw (f (wR μ r j y)) Q) : gw (gm_pR μ ks r j y f) Q := gw_pR h (fun m e => by rw [e]; exact k)
theorem icl.t {μ : gm_M} (h : gS μ) {a : Nat} (p : icl a) : gm_tag μ a = 7 := by
  rcases p with p | rfl | rfl | rfl | rfl | rfl
  · exact p.t h
  all_goals exact h.t rfl
theorem icl.c {μ : gm_M} (h : gS μ) {a : Nat} (p : icl a) : [7].contains (gm_tag μ a) = true := by rw [p.t h]; rfl
theorem icl.row {μ : gm_M} (h : gS μ) {a : Nat} (p : icl a) : μ.2.2 a 8 = a + 1 := by
  rcases p with p | rfl | rfl | rfl | rfl | rfl
  · exact p.row h
  all_goals exact h.r (by decide)
theorem icl.rt {μ : gm_M} (h : gS μ) {a : Nat} (p : icl a) : gm_tag μ (a + 1) = 1 := by
  rcases p with p | rfl | rfl | rfl | rfl | rfl
  · exact p.rt h
  all_goals exact h.t rfl
theorem icl.rl {μ : gm_M} (h : gS μ) {a : Nat} (p : icl a) : gm_len μ (a + 1) = 4 := by
  rcases p with p | rfl | rfl | rfl | rfl | rfl
  · exact p.rl h
  all_goals exact h.l rfl
theorem icl.odd {a : Nat} (p : icl a) : a % 2 = 1 ∧ 29 ≤ a ∧ a ≤ 63 := by unfold icl ict isch at p; omega
theorem gS.kd2 {μ m : gm_M} (h : gS μ) {a kd : Nat} (ha : icl a) (e1 : m.1 = μ.1) (e2 : m.2.2 = gm_u μ.2.2 a 1 kd) : gS m := by
  refine ⟨fun r q e => by rw [e1]; exact h.1 r q e, fun q hq => ?_⟩
  rw [e2]
  have : ∀ q ∈ gRl, ¬ ((q.1 = 29 ∨ q.1 = 31 ∨ q.1 = 33 ∨ q.1 = 35 ∨ q.1 = 37 ∨ q.1 = 53 ∨ q.1 = 55 ∨ q.1 = 57 ∨ q.1 = 59 ∨ q.1 = 61 ∨ q.1 = 63) ∧ q.2.1 = 1) := by decide
  have hn := this q hq
  by_cases e : q.1 = a
  · rw [e, gu_ne (fun e3 => hn ⟨by rw [e]; unfold icl ict isch at ha; omega, e3⟩), ← e]; exact h.2 q hq
  · rw [gu_row e]; exact h.2 q hq
/-- a child is copied -/
def ccp (a b : Nat) (μ m : gm_M) : Prop := m.1 = μ.1 ∧ m.2.2 = gm_u μ.2.2 a 1 (μ.2.2 b 1) ∧ (∀ r : Nat, r ≠ a → r ≠ a + 1 → m.2.1 r = μ.2.1 r) ∧ (∀ j : Nat, j < 8 → j ≠ 1 → m.2.1 a j = μ.2.1 b j) ∧ ∀ j : Nat, j < 4 → m.2.1 (a + 1) j = μ.2.1 (b + 1) j
theorem s_ccopy {μ : gm_M} (h : gS μ) {a b : Nat} (ha : icl a) (hb : icl b) (hab : a ≠ b) : gwV (f_X2_copy a b μ) (fun m => ccp a b μ m) := by
  have oa := ha.odd
  have ob := hb.odd
  refine gwV_of ?_
  unfold f_X2_copy
  have ta := ha.c h
  have tb := hb.c h
  have nb : b ≠ a := fun e => hab e.symm
  refine gw_gIw tb ?_
  refine gw_pIw ta ?_
  refine gw_gRa _ tb rfl ?_
  refine gw_pRw ta ?_
  refine gw_gIw tb ?_
  refine gw_pIw ta ?_
  refine gw_gIw tb ?_
  refine gw_pIw ta ?_
  refine gw_gIw tb ?_
  refine gw_pIw ta ?_
  refine gw_gIw tb ?_
  refine gw_pIw ta ?_
  refine gw_gIw tb ?_
  refine gw_pIw ta ?_
  refine gw_gIw tb ?_
  refine gw_pIw ta ?_
  generalize hM : wI (wI (wI (wI (wI (wI (wR (wI μ a 0 _) a 1 _) a 2 _) a 3 _) a 4 _) a 5 _) a 6 _) a 7 _ = M
  have M1 : M.1 = μ.1 := by rw [← hM]; rfl
  have M2 : M.2.2 = gm_u μ.2.2 a 1 (μ.2.2 b 1) := by rw [← hM]; rfl
  have Rd : ∀ (q r j : Nat) (x : Nat) (ν : gm_M), (wR ν r j x).2.1 q = ν.2.1 q := fun _ _ _ _ _ => rfl
  have Mo : ∀ r : Nat, r ≠ a → M.2.1 r = μ.2.1 r := fun r hr => by
    rw [← hM, wI_o _ _ _ _ hr, wI_o _ _ _ _ hr, wI_o _ _ _ _ hr, wI_o _ _ _ _ hr, wI_o _ _ _ _ hr, wI_o _ _ _ _ hr, Rd, wI_o _ _ _ _ hr]
  have Ma : ∀ j : Nat, j < 8 → j ≠ 1 → M.2.1 a j = μ.2.1 b j := fun j hj h1 => by
    rw [← hM]
    obtain rfl | rfl | rfl | rfl | rfl | rfl | rfl : j = 0 ∨ j = 2 ∨ j = 3 ∨ j = 4 ∨ j = 5 ∨ j = 6 ∨ j = 7 := by omega
    all_goals simp only [wI_g, Rd, nb, and_true, true_and, if_false, if_true, false_and, and_false, show ((0 : Nat) = 7) = False from by simp, show ((0 : Nat) = 6) = False from by simp, show ((0 : Nat) = 5) = False from by simp, show ((0 : Nat) = 4) = False from by simp, show ((0 : Nat) = 3) = False from by simp, show ((0 : Nat) = 2) = False from by simp, show ((2 : Nat) = 7) = False from by simp, show ((2 : Nat) = 6) = False from by simp, show ((2 : Nat) = 5) = False from by simp, show ((2 : Nat) = 4) = False from by simp, show ((2 : Nat) = 3) = False from by simp, show ((3 : Nat) = 7) = False from by simp, show ((3 : Nat) = 6) = False from by simp, show ((3 : Nat) = 5) = False from by simp, show ((3 : Nat) = 4) = False from by simp, show ((4 : Nat) = 7) = False from by simp, show ((4 : Nat) = 6) = False from by simp, show ((4 : Nat) = 5) = False from by simp, show ((5 : Nat) = 7) = False from by simp, show ((5 : Nat) = 6) = False from by simp, show ((6 : Nat) = 7) = False from by simp]
  clear hM
  have hs : gS M := h.kd2 ha M1 M2
  refine gw_gRa (b + 1) (hb.c hs) (hb.row hs) ?_
  refine gw_gRa (a + 1) (ha.c hs) (ha.row hs) ?_
  refine gw_gRa (a + 1) (ha.c hs) (ha.row hs) ?_
  refine gw_al (ha.rt hs) (ha.rl hs) ?_
  have l0 : (0 : Int32).toInt = 0 := rfl
  have lo : (Int32.ofNat 4).toInt = 4 := rfl
  refine gx_cp (by omega) (hb.rt hs) (ha.rt hs) (hb.rl hs) (ha.rl hs) (by omega) (by omega) (by omega) (by omega) (by omega) (fun m e1 e2 e3 e4 => ?_)
  refine gw_some (gq_V ⟨e1.trans M1, e2.trans M2, fun r r1 r2 => by rw [e3 r r2]; exact Mo r r1, fun j hj h1 => by rw [e3 a (by omega)]; exact Ma j hj h1, fun j hj => ?_⟩)
  rw [e4 j]
  unfold va_cpy
  rw [if_pos ⟨by omega, by omega⟩, Mo (b + 1) (by omega)]
  exact congrArg _ (by omega)
/-- rows are copied -/
def rcp (r q : Nat) (n : Nat) (μ m : gm_M) : Prop := m.1 = μ.1 ∧ m.2.2 = μ.2.2 ∧ (∀ k : Nat, k ≠ r → k ≠ r + 1 → m.2.1 k = μ.2.1 k) ∧ (∀ j : Nat, j ≠ 2 → m.2.1 r j = μ.2.1 r j) ∧ m.2.1 r 2 = μ.2.1 q 2 ∧ ∀ j : Nat, j < n → m.2.1 (r + 1) j = μ.2.1 (q + 1) j
theorem s_rcopy {μ : gm_M} {r q n : Nat} (hrq : r ≠ q) (h1 : r ≠ q + 1) (h2 : q ≠ r + 1) (tr : gm_tag μ r = 12) (tq : gm_tag μ q = 12) (er : μ.2.2 r 1 = r + 1) (eq : μ.2.2 q 1 = q + 1) (t1 : gm_tag μ (r + 1) = 1) (t2 : gm_tag μ (q + 1) = 1) (l1 : gm_len μ (r + 1) = n) (l2 : gm_len μ (q + 1) = n) (hn : n < 1000) : gwV (f_X7_copy r q μ) (fun m => rcp r q n μ m) := by
  refine gwV_of ?_
  unfold f_X7_copy
  have c12 : ∀ x : Nat, x = 12 → [12].contains x = true := fun x e => by rw [e]; rfl
  have lo : (Int32.ofNat n).toInt = n := Int32.toInt_ofNat_of_lt (by omega)
  have l0 : (0 : Int32).toInt = 0 := rfl
  refine gw_gRa (q + 1) (c12 _ tq) eq ?_
  refine gw_gRa (r + 1) (c12 _ tr) er ?_
  refine gw_gRa (r + 1) (c12 _ tr) er ?_
  refine gw_al t1 l1 ?_
  refine gw_gRa (q + 1) (c12 _ tq) eq ?_
  refine gw_al t2 l2 ?_
  have hmin : (if Int32.ofNat n < Int32.ofNat n then Int32.ofNat n else Int32.ofNat n) = Int32.ofNat n := by split <;> rfl
  rw [hmin]
  refine gx_cp (by omega) t2 t1 l2 l1 (by omega) (by omega) (by omega) (by omega) (by omega) (fun m e1 e2 e3 e4 => ?_)
  have t : ∀ x : Nat, gm_tag m x = gm_tag μ x := fun x => by unfold gm_tag; rw [e1]
  refine gw_gIw (c12 _ ((t q).trans tq)) ?_
  refine gw_pIw (c12 _ ((t r).trans tr)) ?_
  refine gw_some (gq_V ⟨e1, e2, fun k k1 k2 => by rw [wI_o _ _ _ _ k1]; exact e3 k k2, fun j hj => by rw [wI_n _ _ _ _ hj, e3 r (by omega)], by rw [wI_e, e3 q h2], fun j hj => ?_⟩)
  rw [wI_o _ _ _ _ (by omega), e4 j]
  unfold va_cpy
  rw [if_pos ⟨by omega, by omega⟩]
  exact congrArg _ (by omega)
