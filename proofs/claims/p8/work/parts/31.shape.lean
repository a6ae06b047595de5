/-! the memory behind both constructors: tags, lengths, fixed references -/
def gT : List (Nat × Nat) := [(0,0),(16,10),(3,7),(12,3),(1,60),(1,25),(1,5),(1,5),(10,1),(11,1),(14,1),(8,1),(9,1),(6,1),(15,1),(13,10),(4,5),(1,100),(5,10),(1,10),(1,10),(1,100),(1,0),(12,3),(1,15),(12,3),(1,24),(12,3),(1,24),(7,9),(1,4),(7,9),(1,4),(7,9),(1,4),(7,9),(1,4),(7,9),(1,4),(13,10),(4,5),(1,100),(5,10),(1,10),(1,10),(1,100),(1,0),(12,3),(1,15),(12,3),(1,24),(12,3),(1,24),(7,9),(1,4),(7,9),(1,4),(7,9),(1,4),(7,9),(1,4),(7,9),(1,4),(7,9),(1,4),(17,23),(1,925),(1,925),(1,26),(1,6),(2,64),(1,25),(1,5),(1,5),(1,20)]
def gRl : List (Nat × Nat × Nat) := [(1,0,2),(1,1,15),(1,2,39),(1,4,3),(1,5,63),(1,6,5),(1,7,6),(1,8,7),(2,0,8),(2,1,9),(2,2,10),(2,3,11),(2,4,12),(2,5,13),(2,6,14),(3,1,4),(15,2,16),(15,3,17),(15,7,23),(15,8,25),(15,9,27),(16,0,29),(16,1,31),(16,2,33),(16,3,35),(16,4,37),(18,3,19),(18,4,20),(18,5,21),(23,1,24),(25,1,26),(27,1,28),(29,8,30),(31,8,32),(33,8,34),(35,8,36),(37,8,38),(39,2,40),(39,3,41),(39,7,47),(39,8,49),(39,9,51),(40,0,53),(40,1,55),(40,2,57),(40,3,59),(40,4,61),(42,3,43),(42,4,44),(42,5,45),(47,1,48),(49,1,50),(51,1,52),(53,8,54),(55,8,56),(57,8,58),(59,8,60),(61,8,62),(63,8,64),(65,1,66),(65,2,67),(65,3,68),(65,10,69),(65,11,70),(65,14,71),(65,15,72),(65,16,73),(65,18,74)]
theorem gT_ok : gi5.1 = gT := by decide +kernel
theorem gRl_ok : ∀ q ∈ gRl, gi5.2.2 q.1 q.2.1 = q.2.2 := by decide +kernel
def gS (μ : gm_M) : Prop := (∀ (r : Nat) (q : Nat × Nat), gT[r]? = some q → μ.1[r]? = some q) ∧ ∀ q ∈ gRl, μ.2.2 q.1 q.2.1 = q.2.2
theorem gS_0 : gS gi5 := ⟨fun r q h => by rw [gT_ok]; exact h, gRl_ok⟩
theorem gS.t {μ : gm_M} (h : gS μ) {r t n : Nat} (e : gT[r]? = some (t, n)) : gm_tag μ r = t := by
  unfold gm_tag; rw [h.1 r _ e]
theorem gS.l {μ : gm_M} (h : gS μ) {r t n : Nat} (e : gT[r]? = some (t, n)) : gm_len μ r = n := by
  unfold gm_len; rw [h.1 r _ e]
theorem gS.c {μ : gm_M} (h : gS μ) {r t n : Nat} (e : gT[r]? = some (t, n)) : [t].contains (gm_tag μ r) = true := by
  rw [h.t e]; simp
theorem gS.r {μ : gm_M} (h : gS μ) {r j a : Nat} (e : (r, j, a) ∈ gRl) : μ.2.2 r j = a := h.2 _ e
theorem gS.same {μ m : gm_M} (h : gS μ) (e1 : m.1 = μ.1) (e2 : m.2.2 = μ.2.2) : gS m := by
  unfold gS; rw [e1, e2]; exact h
/-! the reference's row -/
def wst (s : Int32) (t t' : Nat) : Prop := t ≤ 64 ∧ ((0 ≤ s.toInt ∧ t < 64 ∧ s.toInt % 8 < 6 ∧ t' = t + 1) ∨ (s.toInt = -1 ∧ 1 ≤ t ∧ t' = t) ∨ (-10 < s.toInt ∧ s.toInt < -1 ∧ 2 ≤ t ∧ t' + 1 = t) ∨ (s.toInt ≤ -10 ∧ t' = 0))
def wfp (σ : Nat → Int32) (a : Nat) : Prop := 0 ≤ (σ (220 + a)).toInt ∧ (σ (220 + a)).toInt ≤ 139 ∧ ∃ tp : Nat → Nat, tp 0 = 0 ∧ ∀ i : Nat, (i : Int) < (σ (220 + a)).toInt → wst (σ (225 + 140 * a + i)) (tp i) (tp (i + 1))
def mI (σ : Nat → Int32) : Prop := (0 ≤ (σ 26).toInt ∧ (σ 26).toInt ≤ 5) ∧ (0 ≤ (σ 27).toInt ∧ (σ 27).toInt ≤ 5) ∧ (0 ≤ (σ 28).toInt ∧ (σ 28).toInt ≤ 5) ∧ (0 ≤ (σ 29).toInt ∧ (σ 29).toInt ≤ 8) ∧ (0 ≤ (σ 30).toInt ∧ (σ 30).toInt ≤ 8) ∧ (0 ≤ (σ 31).toInt ∧ (σ 31).toInt ≤ 100) ∧ (-1 ≤ (σ 32).toInt ∧ (σ 32).toInt ≤ 4) ∧ (∀ k : Nat, k < 5 → 0 ≤ (σ (63 + k)).toInt ∧ (σ (63 + k)).toInt ≤ 4) ∧ (∀ k : Nat, k < 8 → (0 ≤ (σ (78 + k)).toInt ∧ (σ (78 + k)).toInt ≤ 3) ∧ ((σ (78 + k)).toInt ≠ 0 → 0 ≤ (σ (86 + k)).toInt ∧ (σ (86 + k)).toInt ≤ 4)) ∧ (∀ k : Nat, k < 8 → 0 ≤ (σ (94 + k)).toInt ∧ (σ (94 + k)).toInt ≤ 4) ∧ ∀ a : Nat, a < 5 → wfp σ a
/-- the places of which mI speaks -/
def mp (k : Nat) : Prop := (26 ≤ k ∧ k < 33) ∨ (63 ≤ k ∧ k < 68) ∨ (78 ≤ k ∧ k < 102) ∨ (220 ≤ k ∧ k < 925)
theorem mI.same {σ τ : Nat → Int32} (h : mI σ) (e : ∀ k : Nat, mp k → τ k = σ k) : mI τ := by
  obtain ⟨h26, h27, h28, h29, h30, h31, h32, hs, hp, hb, hw⟩ := h
  unfold mp at e
  refine ⟨?_, ?_, ?_, ?_, ?_, ?_, ?_, ?_, ?_, ?_, ?_⟩
  · rw [e 26 (by omega)]; exact h26
  · rw [e 27 (by omega)]; exact h27
  · rw [e 28 (by omega)]; exact h28
  · rw [e 29 (by omega)]; exact h29
  · rw [e 30 (by omega)]; exact h30
  · rw [e 31 (by omega)]; exact h31
  · rw [e 32 (by omega)]; exact h32
  · intro k hk; rw [e (63 + k) (by omega)]; exact hs k hk
  · intro k hk; rw [e (78 + k) (by omega), e (86 + k) (by omega)]; exact hp k hk
  · intro k hk; rw [e (94 + k) (by omega)]; exact hb k hk
  · intro a ha
    obtain ⟨w1, w2, tp, w3, w4⟩ := hw a ha
    unfold wfp
    rw [e (220 + a) (by omega)]
    refine ⟨w1, w2, tp, w3, fun i hi => ?_⟩
    rw [e (225 + 140 * a + i) (by omega)]
    exact w4 i hi
def MI (μ : gm_M) : Prop := gS μ ∧ mI (μ.2.1 66)
/-! what an asking of the reference may change: A: places of its row -/
def km (A : Nat → Prop) (μ m : gm_M) : Prop := m.1 = μ.1 ∧ m.2.2 = μ.2.2 ∧ (∀ r : Nat, r ≠ 65 → r ≠ 66 → r ≠ 69 → r ≠ 70 → r ≠ 71 → r ≠ 72 → r ≠ 73 → m.2.1 r = μ.2.1 r) ∧ (∀ k : Nat, ¬ A k → m.2.1 66 k = μ.2.1 66 k) ∧ m.2.1 65 0 = μ.2.1 65 0 ∧ m.2.1 65 4 = μ.2.1 65 4 ∧ m.2.1 65 19 = μ.2.1 65 19
def A0 (_ : Nat) : Prop := False
def A1 (k : Nat) : Prop := k < 26
def A2 (k : Nat) : Prop := k < 26 ∨ (38 ≤ k ∧ k < 43)
def A3 (k : Nat) : Prop := 1 ≤ k ∧ k < 26
theorem km.refl (A : Nat → Prop) (μ : gm_M) : km A μ μ := ⟨rfl, rfl, fun _ _ _ _ _ _ _ _ => rfl, fun _ _ => rfl, rfl, rfl, rfl⟩
theorem km.trans {A : Nat → Prop} {a b c : gm_M} (h : km A a b) (g : km A b c) : km A a c := by
  obtain ⟨h1, h2, h3, h4, h5, h6, h7⟩ := h
  obtain ⟨g1, g2, g3, g4, g5, g6, g7⟩ := g
  exact ⟨g1.trans h1, g2.trans h2, fun r r1 r2 r3 r4 r5 r6 r7 => (g3 r r1 r2 r3 r4 r5 r6 r7).trans (h3 r r1 r2 r3 r4 r5 r6 r7), fun k hk => (g4 k hk).trans (h4 k hk), g5.trans h5, g6.trans h6, g7.trans h7⟩
theorem km.weak {A B : Nat → Prop} {a b : gm_M} (h : km A a b) (w : ∀ k, A k → B k) : km B a b := by
  obtain ⟨h1, h2, h3, h4, h5, h6, h7⟩ := h
  exact ⟨h1, h2, h3, fun k hk => h4 k (fun q => hk (w k q)), h5, h6, h7⟩
theorem km.w01 {a b : gm_M} (h : km A0 a b) : km A1 a b := h.weak (fun _ q => q.elim)
theorem km.w02 {a b : gm_M} (h : km A0 a b) : km A2 a b := h.weak (fun _ q => q.elim)
theorem km.w12 {a b : gm_M} (h : km A1 a b) : km A2 a b := h.weak (fun _ q => Or.inl q)
theorem km.w03 {a b : gm_M} (h : km A0 a b) : km A3 a b := h.weak (fun _ q => q.elim)
theorem km.w31 {a b : gm_M} (h : km A3 a b) : km A1 a b := h.weak (fun _ q => q.2)
theorem km.w33 {a b : gm_M} (h : km A3 a b) : km A3 a b := h
theorem km.w00 {a b : gm_M} (h : km A0 a b) : km A0 a b := h
theorem km.w11 {a b : gm_M} (h : km A1 a b) : km A1 a b := h
theorem km.w22 {a b : gm_M} (h : km A2 a b) : km A2 a b := h
theorem MI.of {μ m : gm_M} (h : MI μ) (g : km A2 μ m) : MI m := by
  obtain ⟨g1, g2, g3, g4, g5, g6, g7⟩ := g
  exact ⟨h.1.same g1 g2, h.2.same (fun k hk => g4 k (fun q => by unfold A2 at q; unfold mp at hk; omega))⟩
theorem MI.of0 {μ m : gm_M} (h : MI μ) (g : km A0 μ m) : MI m := h.of g.w02
theorem MI.of1 {μ m : gm_M} (h : MI μ) (g : km A1 μ m) : MI m := h.of g.w12
theorem MI.of3 {μ m : gm_M} (h : MI μ) (g : km A3 μ m) : MI m := h.of g.w31.w12
theorem MI.of2 {μ m : gm_M} (h : MI μ) (g : km A2 μ m) : MI m := h.of g
theorem gu_row {α : Type} {f : Nat → Nat → α} {r j : Nat} {x : α} {a : Nat} (h : a ≠ r) : gm_u f r j x a = f a := by
  funext k; unfold gm_u; rw [if_neg h]
theorem gu_ne {α : Type} {f : Nat → Nat → α} {r j : Nat} {x : α} {k : Nat} (h : k ≠ j) : gm_u f r j x r k = f r k := by
  unfold gm_u; rw [if_pos rfl, if_neg h]
theorem gu_eq {α : Type} {f : Nat → Nat → α} {r j : Nat} {x : α} : gm_u f r j x r j = x := by
  unfold gm_u; rw [if_pos rfl, if_pos rfl]
/-- writes -/
theorem km.ws {A : Nat → Prop} {a b m : gm_M} {j : Nat} {x : Int32} (h : km A a b) (e : m = (b.1, gm_u b.2.1 66 j x, b.2.2)) (hj : A j) : km A a m := by
  subst e
  refine h.trans ⟨rfl, rfl, fun r _ r2 _ _ _ _ _ => (show gm_u b.2.1 66 j x r = b.2.1 r from gu_row r2), fun k hk => ?_, ?_, ?_, ?_⟩
  · show gm_u b.2.1 66 j x 66 k = b.2.1 66 k
    exact gu_ne (fun q => hk (by rw [q]; exact hj))
  · show gm_u b.2.1 66 j x 65 0 = b.2.1 65 0
    rw [gu_row (by decide)]
  · show gm_u b.2.1 66 j x 65 4 = b.2.1 65 4
    rw [gu_row (by decide)]
  · show gm_u b.2.1 66 j x 65 19 = b.2.1 65 19
    rw [gu_row (by decide)]
theorem km.wr {A : Nat → Prop} {a b m : gm_M} {r j : Nat} {x : Int32} (h : km A a b) (e : m = (b.1, gm_u b.2.1 r j x, b.2.2)) (hr : r = 69 ∨ r = 70 ∨ r = 71 ∨ r = 72 ∨ r = 73) : km A a m := by
  subst e
  refine h.trans ⟨rfl, rfl, fun q _ _ _ _ _ _ _ => (show gm_u b.2.1 r j x q = b.2.1 q from gu_row (by omega)), fun k hk => ?_, ?_, ?_, ?_⟩
  · show gm_u b.2.1 r j x 66 k = b.2.1 66 k
    rw [gu_row (by omega)]
  · show gm_u b.2.1 r j x 65 0 = b.2.1 65 0
    rw [gu_row (by omega)]
  · show gm_u b.2.1 r j x 65 4 = b.2.1 65 4
    rw [gu_row (by omega)]
  · show gm_u b.2.1 r j x 65 19 = b.2.1 65 19
    rw [gu_row (by omega)]
theorem km.wf {A : Nat → Prop} {a b m : gm_M} {j : Nat} {x : Int32} (h : km A a b) (e : m = (b.1, gm_u b.2.1 65 j x, b.2.2)) (hj : j ≠ 0 ∧ j ≠ 4 ∧ j ≠ 19) : km A a m := by
  subst e
  refine h.trans ⟨rfl, rfl, fun q h1 _ _ _ _ _ _ => (show gm_u b.2.1 65 j x q = b.2.1 q from gu_row h1), fun k hk => ?_, (show gm_u b.2.1 65 j x 65 0 = b.2.1 65 0 from gu_ne (Ne.symm hj.1)), (show gm_u b.2.1 65 j x 65 4 = b.2.1 65 4 from gu_ne (Ne.symm hj.2.1)), (show gm_u b.2.1 65 j x 65 19 = b.2.1 65 19 from gu_ne (Ne.symm hj.2.2))⟩
  show gm_u b.2.1 65 j x 66 k = b.2.1 66 k
  rw [gu_row (by decide)]
/-- the frame: kept, and gone back to -/
def kp (μ m : gm_M) : Prop := m.1 = μ.1 ∧ m.2.2 = μ.2.2 ∧ (∀ r : Nat, r ≠ 68 → m.2.1 r = μ.2.1 r) ∧ ∀ k : Nat, k < 26 → m.2.1 68 k = μ.2.1 66 k
def rs (m : gm_M) : Prop := ∀ k : Nat, k < 26 → m.2.1 66 k = m.2.1 68 k
/-- what an asking as a whole changes -/
def qm (μ m : gm_M) : Prop := m.1 = μ.1 ∧ m.2.2 = μ.2.2 ∧ (∀ r : Nat, r ≠ 65 → r ≠ 68 → r ≠ 69 → r ≠ 70 → r ≠ 71 → r ≠ 72 → r ≠ 73 → m.2.1 r = μ.2.1 r) ∧ m.2.1 65 0 = μ.2.1 65 0 ∧ m.2.1 65 4 = μ.2.1 65 4 ∧ m.2.1 65 19 = μ.2.1 65 19
theorem qm.refl (μ : gm_M) : qm μ μ := ⟨rfl, rfl, fun _ _ _ _ _ _ _ _ => rfl, rfl, rfl, rfl⟩
theorem qm.of0 {μ m : gm_M} (h : km A0 μ m) : qm μ m := by
  obtain ⟨h1, h2, h3, h4, h5, h6, h7⟩ := h
  refine ⟨h1, h2, fun r r1 r2 r3 r4 r5 r6 r7 => ?_, h5, h6, h7⟩
  by_cases e : r = 66
  · subst e; funext k; exact h4 k (fun q => q.elim)
  · exact h3 r r1 e r3 r4 r5 r6 r7
theorem qm.trans {a b c : gm_M} (h : qm a b) (g : qm b c) : qm a c := by
  obtain ⟨h1, h2, h3, h5, h6, h7⟩ := h
  obtain ⟨g1, g2, g3, g5, g6, g7⟩ := g
  exact ⟨g1.trans h1, g2.trans h2, fun r r1 r2 r3 r4 r5 r6 r7 => (g3 r r1 r2 r3 r4 r5 r6 r7).trans (h3 r r1 r2 r3 r4 r5 r6 r7), g5.trans h5, g6.trans h6, g7.trans h7⟩
theorem kp.mi {μ m : gm_M} (h : MI μ) (g : kp μ m) : MI m := by
  obtain ⟨g1, g2, g3, g4⟩ := g
  exact ⟨h.1.same g1 g2, by rw [g3 66 (by decide)]; exact h.2⟩
theorem kp.rs {μ m : gm_M} (g : kp μ m) : rs m := fun k hk => by rw [g.2.2.1 66 (by decide), g.2.2.2 k hk]
theorem qm.kp {μ a m : gm_M} (g : kp μ a) (h : km A1 a m) (hr : rs m) : qm μ m := by
  obtain ⟨g1, g2, g3, g4⟩ := g
  obtain ⟨h1, h2, h3, h4, h5, h6, h7⟩ := h
  have e65 : a.2.1 65 = μ.2.1 65 := g3 65 (by decide)
  refine ⟨h1.trans g1, h2.trans g2, fun r r1 r2 r3 r4 r5 r6 r7 => ?_, h5.trans (by rw [e65]), h6.trans (by rw [e65]), h7.trans (by rw [e65])⟩
  by_cases e : r = 66
  · subst e
    funext k
    by_cases hk : k < 26
    · rw [hr k hk, h3 68 (by decide) (by decide) (by decide) (by decide) (by decide) (by decide) (by decide), g4 k hk]
    · rw [h4 k hk, g3 66 (by decide)]
  · rw [h3 r r1 e r3 r4 r5 r6 r7, g3 r r2]
theorem MI.q {μ m : gm_M} (h : MI μ) (g : qm μ m) : MI m := by
  obtain ⟨g1, g2, g3, -⟩ := g
  exact ⟨h.1.same g1 g2, by rw [g3 66 (by decide) (by decide) (by decide) (by decide) (by decide) (by decide) (by decide)]; exact h.2⟩
theorem MI.eq {μ m : gm_M} (h : MI μ) (e : m = μ) : MI m := by rw [e]; exact h
theorem rs.k0 {a b : gm_M} (h : rs a) (g : km A0 a b) : rs b := fun k hk => by
  rw [g.2.2.2.1 k (fun q => q), g.2.2.1 68 (by decide) (by decide) (by decide) (by decide) (by decide) (by decide) (by decide)]
  exact h k hk
/-- so many times one more -/
def itn : Nat → Int32 → Int32
  | 0, x => x
  | n + 1, x => itn n x + 1
theorem gs_inl {S β : Type} {I : S → Prop} {ms : S → Int} {s0 s : S} {Q : β → Prop} (h1 : I s) (h2 : ms s < ms s0) (h3 : 0 ≤ ms s) : gs_st I ms s0 Q (.inl s) := ⟨h1, h2, h3⟩
theorem gs_inr {S β : Type} {I : S → Prop} {ms : S → Int} {s0 : S} {Q : β → Prop} {b : β} (h : Q b) : gs_st I ms s0 Q (.inr b) := h
theorem MI.n26 {μ : gm_M} (h : MI μ) : 0 ≤ (μ.2.1 66 26).toInt ∧ (μ.2.1 66 26).toInt ≤ 5 := h.2.1
theorem MI.n27 {μ : gm_M} (h : MI μ) : 0 ≤ (μ.2.1 66 27).toInt ∧ (μ.2.1 66 27).toInt ≤ 5 := h.2.2.1
theorem MI.n28 {μ : gm_M} (h : MI μ) : 0 ≤ (μ.2.1 66 28).toInt ∧ (μ.2.1 66 28).toInt ≤ 5 := h.2.2.2.1
theorem MI.n29 {μ : gm_M} (h : MI μ) : 0 ≤ (μ.2.1 66 29).toInt ∧ (μ.2.1 66 29).toInt ≤ 8 := h.2.2.2.2.1
theorem MI.n30 {μ : gm_M} (h : MI μ) : 0 ≤ (μ.2.1 66 30).toInt ∧ (μ.2.1 66 30).toInt ≤ 8 := h.2.2.2.2.2.1
theorem MI.n31 {μ : gm_M} (h : MI μ) : 0 ≤ (μ.2.1 66 31).toInt ∧ (μ.2.1 66 31).toInt ≤ 100 := h.2.2.2.2.2.2.1
theorem MI.n32 {μ : gm_M} (h : MI μ) : -1 ≤ (μ.2.1 66 32).toInt ∧ (μ.2.1 66 32).toInt ≤ 4 := h.2.2.2.2.2.2.2.1
theorem MI.seen {μ : gm_M} (h : MI μ) (k : Nat) (h1 : 63 ≤ k) (h2 : k < 68) : 0 ≤ (μ.2.1 66 k).toInt ∧ (μ.2.1 66 k).toInt ≤ 4 := by
  have := h.2.2.2.2.2.2.2.2.1 (k - 63) (by omega)
  rwa [show 63 + (k - 63) = k by omega] at this
theorem MI.what {μ : gm_M} (h : MI μ) (k : Nat) (h1 : 78 ≤ k) (h2 : k < 86) : 0 ≤ (μ.2.1 66 k).toInt ∧ (μ.2.1 66 k).toInt ≤ 3 := by
  have := (h.2.2.2.2.2.2.2.2.2.1 (k - 78) (by omega)).1
  rwa [show 78 + (k - 78) = k by omega] at this
theorem MI.whom {μ : gm_M} (h : MI μ) (k : Nat) (h1 : 78 ≤ k) (h2 : k < 86) (h0 : (μ.2.1 66 k).toInt ≠ 0) : 0 ≤ (μ.2.1 66 (k + 8)).toInt ∧ (μ.2.1 66 (k + 8)).toInt ≤ 4 := by
  have := (h.2.2.2.2.2.2.2.2.2.1 (k - 78) (by omega)).2
  rw [show 78 + (k - 78) = k by omega, show 86 + (k - 78) = k + 8 by omega] at this
  exact this h0
theorem MI.booked {μ : gm_M} (h : MI μ) (k : Nat) (h1 : 94 ≤ k) (h2 : k < 102) : 0 ≤ (μ.2.1 66 k).toInt ∧ (μ.2.1 66 k).toInt ≤ 4 := by
  have := h.2.2.2.2.2.2.2.2.2.2.1 (k - 94) (by omega)
  rwa [show 94 + (k - 94) = k by omega] at this
theorem MI.prog {μ : gm_M} (h : MI μ) (a : Nat) (ha : a < 5) : wfp (μ.2.1 66) a := h.2.2.2.2.2.2.2.2.2.2.2 a ha
theorem wst_sp {s : Int32} {t t' : Nat} (w : wst s t t') : t ≤ 64 ∧ (0 ≤ s.toInt → t < 64 ∧ s.toInt % 8 < 6 ∧ t' = t + 1) ∧ (s.toInt = (-1 : Int32).toInt → 1 ≤ t ∧ t' = t) ∧ (-10 < s.toInt → s.toInt < -1 → 2 ≤ t ∧ t' + 1 = t) ∧ (s.toInt ≤ (-10 : Int32).toInt → t' = 0) := by
  obtain ⟨w0, w⟩ := w
  have l1 : (-1 : Int32).toInt = -1 := rfl
  have l2 : (-10 : Int32).toInt = -10 := rfl
  refine ⟨w0, fun h => ?_, fun h => ?_, fun h h' => ?_, fun h => ?_⟩
  · rcases w with w | w | w | w <;> omega
  · rcases w with w | w | w | w <;> omega
  · rcases w with w | w | w | w <;> omega
  · rcases w with w | w | w | w <;> omega
theorem wst_A {s : Int32} {t t' : Nat} (w : wst s t t') (h : (0 : Int32).toInt ≤ s.toInt) : t ≤ 64 ∧ t < 64 ∧ s.toInt % 8 < 6 ∧ t' = t + 1 := ⟨(wst_sp w).1, (wst_sp w).2.1 h⟩
theorem wst_B {s : Int32} {t t' : Nat} (w : wst s t t') (h : s.toInt = (-1 : Int32).toInt) : t ≤ 64 ∧ 1 ≤ t ∧ t' = t := ⟨(wst_sp w).1, (wst_sp w).2.2.1 h⟩
theorem wst_C {s : Int32} {t t' : Nat} (w : wst s t t') (h : -10 < s.toInt) (h' : s.toInt < -1) : t ≤ 64 ∧ 2 ≤ t ∧ t' + 1 = t := ⟨(wst_sp w).1, (wst_sp w).2.2.2.1 h h'⟩
theorem wst_D {s : Int32} {t t' : Nat} (w : wst s t t') (h : s.toInt ≤ (-10 : Int32).toInt) : t' = 0 := (wst_sp w).2.2.2.2 h
