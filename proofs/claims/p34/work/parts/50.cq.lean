section
/-! the class's memory -/
def isch (a : Nat) : Prop := a = 29 ∨ a = 31 ∨ a = 33 ∨ a = 35 ∨ a = 37
def ict (a : Nat) : Prop := isch a ∨ a = 63
def icl (a : Nat) : Prop := ict a ∨ a = 53 ∨ a = 55 ∨ a = 57 ∨ a = 59 ∨ a = 61
def kid (a : Nat) : Prop := 8 ≤ a ∧ a ≤ 14
def AfW (μ : gm_M) (a : Nat) : Prop := (a = 18 ∨ a = 42 ∨ 75 ≤ a) ∧ (μ.1[a]? = some (5, 10) ∧ μ.1[a + 1]? = some (1, 10) ∧ μ.1[a + 2]? = some (1, 10) ∧ μ.1[a + 3]? = some (1, 100)) ∧ (μ.2.2 a 3 = a + 1 ∧ μ.2.2 a 4 = a + 2 ∧ μ.2.2 a 5 = a + 3) ∧ (0 ≤ (μ.2.1 a 2).toInt ∧ (μ.2.1 a 2).toInt ≤ 10) ∧ ∀ k : Nat, k < 10 → 0 ≤ (μ.2.1 (a + 2) k).toInt ∧ (μ.2.1 (a + 2) k).toInt ≤ 100
def scI (μ : gm_M) (s : Nat) : Prop := (0 ≤ (μ.2.1 s 1).toInt ∧ (μ.2.1 s 1).toInt ≤ 5) ∧ (0 ≤ (μ.2.1 s 4).toInt ∧ (μ.2.1 s 4).toInt ≤ 100) ∧ (0 ≤ (μ.2.1 s 5).toInt ∧ (μ.2.1 s 5).toInt ≤ 5) ∧ AfW μ (μ.2.2 s 6) ∧ (0 ≤ (μ.2.1 (s + 8) 2).toInt ∧ (μ.2.1 (s + 8) 2).toInt ≤ 5) ∧ (0 ≤ (μ.2.1 (s + 10) 2).toInt ∧ (μ.2.1 (s + 10) 2).toInt ≤ 8) ∧ (0 ≤ (μ.2.1 (s + 12) 2).toInt ∧ (μ.2.1 (s + 12) 2).toInt ≤ 8) ∧ (μ.2.1 (s + 8) 0).toInt = 5 ∧ (μ.2.1 (s + 10) 0).toInt = 8 ∧ (μ.2.1 (s + 12) 0).toInt = 8 ∧ ∀ k : Nat, k < 5 → (μ.2.1 (s + 9) (3 * k + 2)).toInt ≤ 60
def cI (μ : gm_M) : Prop := scI μ 15 ∧ scI μ 39 ∧ (∀ a : Nat, icl a → kid (μ.2.2 a 1)) ∧ ((0 ≤ (μ.2.1 3 2).toInt ∧ (μ.2.1 3 2).toInt ≤ 1000) ∧ (μ.2.1 3 0).toInt = 20)
def CI (μ : gm_M) : Prop := gS μ ∧ cI μ
theorem isch.t {μ : gm_M} (h : gS μ) {a : Nat} (p : isch a) : gm_tag μ a = 7 := by
  rcases p with rfl | rfl | rfl | rfl | rfl <;> exact h.t rfl
theorem ict.t {μ : gm_M} (h : gS μ) {a : Nat} (p : ict a) : gm_tag μ a = 7 := by
  rcases p with p | rfl
  · exact p.t h
  · exact h.t rfl
theorem ict.c {μ : gm_M} (h : gS μ) {a : Nat} (p : ict a) : [7].contains (gm_tag μ a) = true := by rw [p.t h]; rfl
theorem ict.row {μ : gm_M} (h : gS μ) {a : Nat} (p : ict a) : μ.2.2 a 8 = a + 1 := by
  rcases p with (rfl | rfl | rfl | rfl | rfl) | rfl <;> exact h.r (by decide)
theorem ict.rt {μ : gm_M} (h : gS μ) {a : Nat} (p : ict a) : gm_tag μ (a + 1) = 1 := by
  rcases p with (rfl | rfl | rfl | rfl | rfl) | rfl <;> exact h.t rfl
theorem ict.rl {μ : gm_M} (h : gS μ) {a : Nat} (p : ict a) : gm_len μ (a + 1) = 4 := by
  rcases p with (rfl | rfl | rfl | rfl | rfl) | rfl <;> exact h.l rfl
theorem kid.c {μ : gm_M} (h : gS μ) {a : Nat} (p : kid a) : [6, 8, 9, 10, 11, 14, 15].contains (gm_tag μ a) = true := by
  obtain ⟨p1, p2⟩ := p
  obtain rfl | rfl | rfl | rfl | rfl | rfl | rfl : a = 8 ∨ a = 9 ∨ a = 10 ∨ a = 11 ∨ a = 12 ∨ a = 13 ∨ a = 14 := by omega
  all_goals (rw [h.t rfl]; rfl)
theorem kid.t {μ : gm_M} (h : gS μ) {a : Nat} (p : kid a) : gm_tag μ a = 10 ∨ gm_tag μ a = 11 ∨ gm_tag μ a = 14 ∨ gm_tag μ a = 8 ∨ gm_tag μ a = 9 ∨ gm_tag μ a = 6 ∨ gm_tag μ a = 15 := by
  obtain ⟨p1, p2⟩ := p
  obtain rfl | rfl | rfl | rfl | rfl | rfl | rfl : a = 8 ∨ a = 9 ∨ a = 10 ∨ a = 11 ∨ a = 12 ∨ a = 13 ∨ a = 14 := by omega
  · exact Or.inl (h.t rfl)
  · exact Or.inr (Or.inl (h.t rfl))
  · exact Or.inr (Or.inr (Or.inl (h.t rfl)))
  · exact Or.inr (Or.inr (Or.inr (Or.inl (h.t rfl))))
  · exact Or.inr (Or.inr (Or.inr (Or.inr (Or.inl (h.t rfl)))))
  · exact Or.inr (Or.inr (Or.inr (Or.inr (Or.inr (Or.inl (h.t rfl))))))
  · exact Or.inr (Or.inr (Or.inr (Or.inr (Or.inr (Or.inr (h.t rfl))))))
theorem isch.of {μ : gm_M} (h : gS μ) {i : Int32} (h0 : 0 ≤ i.toInt) (h1 : i.toInt < 5) : isch (μ.2.2 16 i.toInt.toNat) := by
  have e : i.toInt.toNat = 0 ∨ i.toInt.toNat = 1 ∨ i.toInt.toNat = 2 ∨ i.toInt.toNat = 3 ∨ i.toInt.toNat = 4 := by omega
  rcases e with e | e | e | e | e <;> rw [e]
  · exact Or.inl (h.r (by decide))
  · exact Or.inr (Or.inl (h.r (by decide)))
  · exact Or.inr (Or.inr (Or.inl (h.r (by decide))))
  · exact Or.inr (Or.inr (Or.inr (Or.inl (h.r (by decide)))))
  · exact Or.inr (Or.inr (Or.inr (Or.inr (h.r (by decide)))))
theorem isch.at {μ : gm_M} (h : gS μ) {k : Nat} (h1 : k < 5) : μ.2.2 16 k = 29 + 2 * k := by
  have e : k = 0 ∨ k = 1 ∨ k = 2 ∨ k = 3 ∨ k = 4 := by omega
  rcases e with rfl | rfl | rfl | rfl | rfl <;> exact h.r (by decide)
theorem AfW.tc {μ : gm_M} {a : Nat} (p : AfW μ a) : [5].contains (gm_tag μ a) = true := by
  unfold gm_tag; rw [p.2.1.1]; rfl
theorem AfW.t {μ : gm_M} {a : Nat} (p : AfW μ a) : gm_tag μ a = 5 := by
  unfold gm_tag; rw [p.2.1.1]
theorem AfW.t1 {μ : gm_M} {a : Nat} (p : AfW μ a) : gm_tag μ (a + 1) = 1 := by
  unfold gm_tag; rw [p.2.1.2.1]
theorem AfW.t2 {μ : gm_M} {a : Nat} (p : AfW μ a) : gm_tag μ (a + 2) = 1 := by
  unfold gm_tag; rw [p.2.1.2.2.1]
theorem AfW.t3 {μ : gm_M} {a : Nat} (p : AfW μ a) : gm_tag μ (a + 3) = 1 := by
  unfold gm_tag; rw [p.2.1.2.2.2]
theorem AfW.l1 {μ : gm_M} {a : Nat} (p : AfW μ a) : gm_len μ (a + 1) = 10 := by
  unfold gm_len; rw [p.2.1.2.1]
theorem AfW.l2 {μ : gm_M} {a : Nat} (p : AfW μ a) : gm_len μ (a + 2) = 10 := by
  unfold gm_len; rw [p.2.1.2.2.1]
theorem AfW.l3 {μ : gm_M} {a : Nat} (p : AfW μ a) : gm_len μ (a + 3) = 100 := by
  unfold gm_len; rw [p.2.1.2.2.2]
theorem AfW.r1 {μ : gm_M} {a : Nat} (p : AfW μ a) : μ.2.2 a 3 = a + 1 := p.2.2.1.1
theorem AfW.r2 {μ : gm_M} {a : Nat} (p : AfW μ a) : μ.2.2 a 4 = a + 2 := p.2.2.1.2.1
theorem AfW.r3 {μ : gm_M} {a : Nat} (p : AfW μ a) : μ.2.2 a 5 = a + 3 := p.2.2.1.2.2
theorem AfW.n {μ : gm_M} {a : Nat} (p : AfW μ a) : 0 ≤ (μ.2.1 a 2).toInt ∧ (μ.2.1 a 2).toInt ≤ 10 := p.2.2.2.1
theorem AfW.en {μ : gm_M} {a : Nat} (p : AfW μ a) (k : Nat) (h : k < 10) : 0 ≤ (μ.2.1 (a + 2) k).toInt ∧ (μ.2.1 (a + 2) k).toInt ≤ 100 := p.2.2.2.2 k h
/-- what holds an afternoon's cells as they were keeps it one -/
theorem AfW.same {μ m : gm_M} {a : Nat} (p : AfW μ a) (e1 : ∀ (r : Nat) (q : Nat × Nat), μ.1[r]? = some q → m.1[r]? = some q) (e2 : m.2.2 a = μ.2.2 a) (e3 : m.2.1 a = μ.2.1 a) (e4 : m.2.1 (a + 2) = μ.2.1 (a + 2)) : AfW m a := by
  obtain ⟨p0, ⟨p1, p2, p3, p4⟩, p5, p6, p7⟩ := p
  refine ⟨p0, ⟨e1 _ _ p1, e1 _ _ p2, e1 _ _ p3, e1 _ _ p4⟩, ?_, ?_, ?_⟩
  · rw [e2]; exact p5
  · rw [e3]; exact p6
  · rw [e4]; exact p7
theorem AfW.eq {μ m : gm_M} {a : Nat} (p : AfW μ a) (e : m = μ) : AfW m a := by rw [e]; exact p
theorem CI.eq {μ m : gm_M} (p : CI μ) (e : m = μ) : CI m := by rw [e]; exact p
/-- what an asking of the class may change -/
def kc (μ m : gm_M) : Prop := m.1 = μ.1 ∧ (∀ r : Nat, r ≠ 1 → r ≠ 5 → r ≠ 6 → r ≠ 7 → r ≠ 63 → r ≠ 64 → m.2.1 r = μ.2.1 r) ∧ (∀ j : Nat, j ≠ 9 → m.2.1 1 j = μ.2.1 1 j) ∧ (∀ r j : Nat, ¬ (r = 63 ∧ j = 1) → m.2.2 r j = μ.2.2 r j) ∧ (kid (μ.2.2 63 1) → kid (m.2.2 63 1))
theorem kc.refl (μ : gm_M) : kc μ μ := ⟨rfl, fun _ _ _ _ _ _ _ => rfl, fun _ _ => rfl, fun _ _ _ => rfl, fun h => h⟩
theorem kc.trans {a b c : gm_M} (h : kc a b) (g : kc b c) : kc a c := by
  obtain ⟨h1, h2, h3, h4, h5⟩ := h
  obtain ⟨g1, g2, g3, g4, g5⟩ := g
  exact ⟨g1.trans h1, fun r r1 r2 r3 r4 r5 r6 => (g2 r r1 r2 r3 r4 r5 r6).trans (h2 r r1 r2 r3 r4 r5 r6), fun j hj => (g3 j hj).trans (h3 j hj), fun r j hr => (g4 r j hr).trans (h4 r j hr), fun q => g5 (h5 q)⟩
theorem kc.gS {μ m : gm_M} (g : kc μ m) (h : gS μ) : gS m := by
  refine ⟨fun r q e => by rw [g.1]; exact h.1 r q e, fun q hq => ?_⟩
  rw [g.2.2.2.1 q.1 q.2.1 (fun e => ?_)]
  · exact h.2 q hq
  · obtain ⟨a, b, c⟩ := q
    obtain ⟨rfl, rfl⟩ := e
    revert hq
    have : ∀ q ∈ gRl, ¬ (q.1 = 63 ∧ q.2.1 = 1) := by decide
    exact fun hq => this _ hq ⟨rfl, rfl⟩
theorem kc.row {μ m : gm_M} (g : kc μ m) {r : Nat} (h : r ≠ 1 ∧ r ≠ 5 ∧ r ≠ 6 ∧ r ≠ 7 ∧ r ≠ 63 ∧ r ≠ 64) : m.2.1 r = μ.2.1 r := g.2.1 r h.1 h.2.1 h.2.2.1 h.2.2.2.1 h.2.2.2.2.1 h.2.2.2.2.2
theorem kc.ref {μ m : gm_M} (g : kc μ m) {r : Nat} (h : r ≠ 63) : m.2.2 r = μ.2.2 r := funext fun j => g.2.2.2.1 r j (fun e => h e.1)
theorem AfW.kc {μ m : gm_M} {a : Nat} (p : AfW μ a) (g : kc μ m) : AfW m a := by
  have p0 := p.1
  exact p.same (fun r q e => by rw [g.1]; exact e) (g.ref (by omega)) (g.row (by omega)) (g.row (by omega))
theorem scI.same {μ m : gm_M} {s : Nat} (p : scI μ s) (e1 : ∀ (r : Nat) (q : Nat × Nat), μ.1[r]? = some q → m.1[r]? = some q) (e2 : ∀ j, j = 1 ∨ j = 4 ∨ j = 5 → m.2.1 s j = μ.2.1 s j) (e3 : m.2.2 s 6 = μ.2.2 s 6) (e4 : ∀ r, r = s + 8 ∨ r = s + 9 ∨ r = s + 10 ∨ r = s + 12 → m.2.1 r = μ.2.1 r) (ea : AfW μ (μ.2.2 s 6) → AfW m (μ.2.2 s 6)) : scI m s := by
  obtain ⟨p1, p2, p3, p4, p5, p6, p7, p8⟩ := p
  unfold scI
  rw [e2 1 (by omega), e2 4 (by omega), e2 5 (by omega), e3, e4 (s + 8) (by omega), e4 (s + 9) (by omega), e4 (s + 10) (by omega), e4 (s + 12) (by omega)]
  exact ⟨p1, p2, p3, ea p4, p5, p6, p7, p8⟩
theorem CI.of {μ m : gm_M} (h : CI μ) (g : kc μ m) : CI m := by
  obtain ⟨h0, h1, h2, h3, h4⟩ := h
  refine ⟨g.gS h0, h1.same (fun r q e => by rw [g.1]; exact e) (fun j _ => by rw [g.row (by decide)]) (by rw [g.ref (by decide)]) (fun r hr => g.row (by omega)) (fun p => p.kc g), h2.same (fun r q e => by rw [g.1]; exact e) (fun j _ => by rw [g.row (by decide)]) (by rw [g.ref (by decide)]) (fun r hr => g.row (by omega)) (fun p => p.kc g), fun a ha => ?_, ?_⟩
  · by_cases e : a = 63
    · subst e; exact g.2.2.2.2 (h3 _ ha)
    · rw [g.ref e]; exact h3 _ ha
  · rw [g.row (by decide)]; exact h4
/-- writes of ints -/
theorem kc.wr {a b m : gm_M} {r j : Nat} {x : Int32} (h : kc a b) (e : m = (b.1, gm_u b.2.1 r j x, b.2.2)) (hr : r = 5 ∨ r = 6 ∨ r = 7 ∨ r = 63 ∨ r = 64) : kc a m := by
  subst e
  refine h.trans ⟨rfl, fun q h1 h2 h3 h4 h5 h6 => ?_, fun k _ => ?_, fun _ _ _ => rfl, fun q => q⟩
  · show gm_u b.2.1 r j x q = b.2.1 q
    exact gu_row (by omega)
  · show gm_u b.2.1 r j x 1 k = b.2.1 1 k
    rw [gu_row (by omega)]
theorem kc.w1 {a b m : gm_M} {x : Int32} (h : kc a b) (e : m = (b.1, gm_u b.2.1 1 9 x, b.2.2)) : kc a m := by
  subst e
  refine h.trans ⟨rfl, fun q h1 h2 h3 h4 h5 h6 => ?_, fun k hk => ?_, fun _ _ _ => rfl, fun q => q⟩
  · show gm_u b.2.1 1 9 x q = b.2.1 q
    exact gu_row h1
  · show gm_u b.2.1 1 9 x 1 k = b.2.1 1 k
    exact gu_ne hk
theorem kc.wk {a b m : gm_M} {x : Nat} (h : kc a b) (e : m = (b.1, b.2.1, gm_u b.2.2 63 1 x)) (hx : kid x) : kc a m := by
  subst e
  refine h.trans ⟨rfl, fun q h1 h2 h3 h4 h5 h6 => rfl, fun k hk => rfl, fun r j hj => ?_, fun _ => ?_⟩
  · show gm_u b.2.2 63 1 x r j = b.2.2 r j
    by_cases e : r = 63
    · subst e
      exact gu_ne (fun q => hj ⟨rfl, q⟩)
    · rw [gu_row e]
  · show kid (gm_u b.2.2 63 1 x 63 1)
    rw [gu_eq]; exact hx
/-- a child changes by itself -/
def chg (a : Nat) (μ m : gm_M) : Prop := m.1 = μ.1 ∧ m.2.2 = μ.2.2 ∧ (∀ r : Nat, r ≠ a → m.2.1 r = μ.2.1 r) ∧ ∀ j : Nat, j < 3 → m.2.1 a j = μ.2.1 a j
theorem chg.refl (a : Nat) (μ : gm_M) : chg a μ μ := ⟨rfl, rfl, fun _ _ => rfl, fun _ _ => rfl⟩
theorem chg.w {a j : Nat} {μ b m : gm_M} {x : Int32} (h : chg a μ b) (e : m = (b.1, gm_u b.2.1 a j x, b.2.2)) (hj : 3 ≤ j) : chg a μ m := by
  subst e
  obtain ⟨h1, h2, h3, h4⟩ := h
  refine ⟨h1, h2, fun r hr => ?_, fun k hk => ?_⟩
  · show gm_u b.2.1 a j x r = μ.2.1 r
    rw [gu_row hr]; exact h3 r hr
  · show gm_u b.2.1 a j x a k = μ.2.1 a k
    rw [gu_ne (by omega)]; exact h4 k hk
theorem kc.ch {a b m : gm_M} (h : kc a b) (g : chg 63 b m) : kc a m := by
  obtain ⟨h1, h2, h3, h4⟩ := g
  exact h.trans ⟨h1, fun r _ _ _ _ h5 _ => h3 r h5, fun j _ => by rw [h3 1 (by decide)], fun r j _ => by rw [h2], fun q => by rw [h2]; exact q⟩
theorem CI.ch {μ m : gm_M} {a : Nat} (h : CI μ) (ha : ict a) (g : chg a μ m) : CI m := by
  obtain ⟨g1, g2, g3, g4⟩ := g
  obtain ⟨h0, h1, h2, h3, h4⟩ := h
  have hn : a ≠ 24 ∧ a ≠ 48 ∧ a ≠ 15 ∧ a ≠ 39 ∧ a ≠ 23 ∧ a ≠ 25 ∧ a ≠ 27 ∧ a ≠ 47 ∧ a ≠ 49 ∧ a ≠ 51 ∧ a ≠ 3 ∧ 29 ≤ a ∧ a ≤ 63 ∧ a ≠ 42 ∧ a ≠ 44 := by
    unfold ict isch at ha; omega
  have hA : ∀ q, AfW μ q → AfW m q := fun q p => by
    have p0 := p.1
    exact p.same (fun r q e => by rw [g1]; exact e) (by rw [g2]) (g3 _ (by omega)) (g3 _ (by omega))
  refine ⟨h0.same g1 g2, h1.same (fun r q e => by rw [g1]; exact e) (fun j _ => by rw [g3 15 (by omega)]) (by rw [g2]) (fun r hr => g3 r (by omega)) (hA _), h2.same (fun r q e => by rw [g1]; exact e) (fun j _ => by rw [g3 39 (by omega)]) (by rw [g2]) (fun r hr => g3 r (by omega)) (hA _), fun a ha => by rw [g2]; exact h3 a ha, by rw [g3 3 (by omega)]; exact h4⟩
theorem gx_cp {β : Type} {μ : gm_M} {src dst : Nat} {sp dp i : Int32} {n1 n2 : Nat} {f : gm_M → Option β} {Q : β → Prop} (h1 : src ≠ dst) (h2 : gm_tag μ src = 1) (h3 : gm_tag μ dst = 1) (l1 : gm_len μ src = n1) (l2 : gm_len μ dst = n2) (a0 : 0 ≤ sp.toInt) (b0 : 0 ≤ dp.toInt) (c0 : 0 ≤ i.toInt) (a1 : sp.toInt + i.toInt ≤ n1) (b1 : dp.toInt + i.toInt ≤ n2) (k : ∀ m : gm_M, m.1 = μ.1 → m.2.2 = μ.2.2 → (∀ r : Nat, r ≠ dst → m.2.1 r = μ.2.1 r) → (∀ j : Nat, m.2.1 dst j = va_cpy (μ.2.1 src) (μ.2.1 dst) sp.toInt.toNat dp.toInt.toNat i.toInt.toNat j) → gw (f m) Q) : gw (gm_cp μ src sp dst dp i f) Q := by
  have hn : ∀ x : Int32, 0 ≤ x.toInt → ¬ x < 0 := fun x hx e => by
    rw [Int32.lt_iff_toInt_lt] at e
    have : (0 : Int32).toInt = 0 := rfl
    omega
  unfold gm_cp
  rw [if_pos ⟨h1, h2, h3, hn _ a0, hn _ b0, hn _ c0, by rw [l1]; show sp.toInt.toNat + i.toInt.toNat ≤ n1; omega, by rw [l2]; show dp.toInt.toNat + i.toInt.toNat ≤ n2; omega⟩]
  refine k _ rfl rfl (fun r hr => ?_) (fun j => ?_)
  · funext j
    show (if r = dst then _ else μ.2.1 r j) = _
    rw [if_neg hr]
  · show (if dst = dst then _ else _) = _
    rw [if_pos rfl]
    rfl
theorem kc.cp {a b m : gm_M} {dst : Nat} (h : kc a b) (e1 : m.1 = b.1) (e2 : m.2.2 = b.2.2) (e3 : ∀ r : Nat, r ≠ dst → m.2.1 r = b.2.1 r) (hd : dst = 5 ∨ dst = 6 ∨ dst = 7 ∨ dst = 64) : kc a m :=
  h.trans ⟨e1, fun r _ _ _ _ _ _ => e3 r (by omega), fun j _ => by rw [e3 1 (by omega)], fun _ _ _ => by rw [e2], fun q => by rw [e2]; exact q⟩
theorem ks_mono {ks kt : List Nat} {t : Nat} (h : ks.contains t = true) (w : ∀ x ∈ ks, x ∈ kt) : kt.contains t = true := List.contains_iff_mem.mpr (w _ (List.contains_iff_mem.mp h))
theorem CI.n1 {μ : gm_M} (h : CI μ) : 0 ≤ (μ.2.1 15 1).toInt ∧ (μ.2.1 15 1).toInt ≤ 5 := h.2.1.1
theorem CI.n4 {μ : gm_M} (h : CI μ) : 0 ≤ (μ.2.1 15 4).toInt ∧ (μ.2.1 15 4).toInt ≤ 100 := h.2.1.2.1
theorem CI.n5 {μ : gm_M} (h : CI μ) : 0 ≤ (μ.2.1 15 5).toInt ∧ (μ.2.1 15 5).toInt ≤ 5 := h.2.1.2.2.1
theorem CI.af {μ : gm_M} (h : CI μ) : AfW μ (μ.2.2 15 6) := h.2.1.2.2.2.1
theorem CI.n23 {μ : gm_M} (h : CI μ) : 0 ≤ (μ.2.1 23 2).toInt ∧ (μ.2.1 23 2).toInt ≤ 5 := h.2.1.2.2.2.2.1
theorem CI.n25 {μ : gm_M} (h : CI μ) : 0 ≤ (μ.2.1 25 2).toInt ∧ (μ.2.1 25 2).toInt ≤ 8 := h.2.1.2.2.2.2.2.1
theorem CI.n27 {μ : gm_M} (h : CI μ) : 0 ≤ (μ.2.1 27 2).toInt ∧ (μ.2.1 27 2).toInt ≤ 8 := h.2.1.2.2.2.2.2.2.1
theorem CI.l23 {μ : gm_M} (h : CI μ) : (μ.2.1 23 0).toInt = 5 := h.2.1.2.2.2.2.2.2.2.1
theorem CI.l25 {μ : gm_M} (h : CI μ) : (μ.2.1 25 0).toInt = 8 := h.2.1.2.2.2.2.2.2.2.2.1
theorem CI.l27 {μ : gm_M} (h : CI μ) : (μ.2.1 27 0).toInt = 8 := h.2.1.2.2.2.2.2.2.2.2.2.1
theorem CI.sm {μ : gm_M} (h : CI μ) (k : Nat) (hk : k < 5) : (μ.2.1 24 (3 * k + 2)).toInt ≤ 60 := h.2.1.2.2.2.2.2.2.2.2.2.2 k hk
theorem CI.n3 {μ : gm_M} (h : CI μ) : 0 ≤ (μ.2.1 3 2).toInt ∧ (μ.2.1 3 2).toInt ≤ 1000 := h.2.2.2.2.1
theorem CI.l3 {μ : gm_M} (h : CI μ) : (μ.2.1 3 0).toInt = 20 := h.2.2.2.2.2
theorem CI.kd {μ : gm_M} (h : CI μ) {a : Nat} (p : ict a) : kid (μ.2.2 a 1) := h.2.2.2.1 a (Or.inl p)
theorem gx_and3 (x : Int32) : 0 ≤ (x &&& 3).toInt ∧ (x &&& 3).toInt ≤ 3 := by
  have e : (x &&& 3).toInt = ((x &&& 3).toBitVec.toNat : Int) := by
    rw [← Int32.toInt_toBitVec, BitVec.toInt_eq_toNat_of_lt]
    have : (x &&& 3).toBitVec.toNat ≤ 3 := by
      rw [Int32.toBitVec_and, BitVec.toNat_and]
      exact Nat.and_le_right
    omega
  have : (x &&& 3).toBitVec.toNat ≤ 3 := by
    rw [Int32.toBitVec_and, BitVec.toNat_and]
    exact Nat.and_le_right
  omega
theorem gw_io {β : Type} {μ : gm_M} {ys ns : List Nat} {r : Nat} {f : Int32 → Option β} {Q : β → Prop} (h : ys.contains (gm_tag μ r) = true ∨ ns.contains (gm_tag μ r) = true) (k : ∀ x : Int32, (x.toInt = 1 ∧ ys.contains (gm_tag μ r) = true) ∨ (x.toInt = 0 ∧ ¬ ys.contains (gm_tag μ r) = true) → gw (f x) Q) : gw (gm_io μ ys ns r f) Q := by
  unfold gm_io
  by_cases e : ys.contains (gm_tag μ r) = true
  · rw [if_pos e]; exact k 1 (Or.inl ⟨rfl, e⟩)
  · rw [if_neg e, if_pos (h.resolve_left e)]; exact k 0 (Or.inr ⟨rfl, e⟩)
end
section
set_option maxHeartbeats 1000000 in
theorem s_X11_isOutside {μ : gm_M} {a0 : Int32} {a1 : Int32} {a2 : Int32}  : gwI (f_X11_isOutside a0 a1 a2 μ) (fun x m => m = μ ∧ ((x.toInt = 1 ∧ (a0.toInt < a1.toInt ∨ a2.toInt < a0.toInt)) ∨ (x.toInt = 0 ∧ a1.toInt ≤ a0.toInt ∧ a0.toInt ≤ a2.toInt))) := by
  refine gwI_of ?_
  unfold f_X11_isOutside
  have l0 : (0 : Int32).toInt = 0 := rfl
  have l1 : (1 : Int32).toInt = 1 := rfl
  refine gw_ji ?_
  refine gw_lt (fun h2_1 => ?_) (fun h2_1 => ?_)
  ·
    refine gw_z Iff.rfl (by omega) (gq_I ⟨rfl, by omega⟩)
  ·
    refine gw_le (fun h7_2 => ?_) (fun h7_2 => ?_)
    ·
      refine gw_z Iff.rfl (by omega) (gq_I ⟨rfl, by omega⟩)
    ·
      refine gw_z Iff.rfl (by omega) (gq_I ⟨rfl, by omega⟩)
set_option maxHeartbeats 1000000 in
theorem s_X11_isNobody {μ : gm_M} (h : CI μ) {a1 : Int32}  : gwI (f_X11_isNobody 1 a1 μ) (fun x m => m = μ ∧ ((x.toInt = 0 ∧ 0 ≤ a1.toInt ∧ a1.toInt < (μ.2.1 15 1).toInt ∧ a1.toInt < 5) ∨ (x.toInt = 1 ∧ (a1.toInt < 0 ∨ (μ.2.1 15 1).toInt ≤ a1.toInt)))) := by
  refine gwI_of ?_
  unfold f_X11_isNobody
  have l0 : (0 : Int32).toInt = 0 := rfl
  have l1 : (1 : Int32).toInt = 1 := rfl
  refine gw_gRa 15 (h.1.c (r := 1) rfl) (h.1.r (by decide)) ?_
  refine gw_gI (h.1.c (r := 15) rfl) (fun v1 ev1 => ?_)
  have bv1 := h.n1
  have dv1 : v1.toInt = (μ.2.1 15 1).toInt := by rw [ev1]
  have n2 : (v1 - (1 : Int32)).toInt = v1.toInt - (1 : Int32).toInt := gx_sub (by omega) (by omega)
  refine gw_bI (s_X11_isOutside ) (fun x3 m3 ⟨z3, f3⟩ => ?_)
  replace z3 := z3.symm
  subst z3
  refine gw_z Iff.rfl (by omega) (gq_I ⟨rfl, by (have := h.n1; omega)⟩)
set_option maxHeartbeats 1000000 in
theorem s_X0_passes {μ : gm_M} (h : CI μ) {a0 : Int32} {a1 : Nat} {a2 : Int32} (q0 : ict a1) : gwI (f_X0_passes a0 a1 a2 μ) (fun x m => m = μ ∧ (x.toInt = 0 ∨ x.toInt = 1)) := by
  refine gwI_of ?_
  unfold f_X0_passes
  have l0 : (0 : Int32).toInt = 0 := rfl
  have l1 : (1 : Int32).toInt = 1 := rfl
  have l2 : (2 : Int32).toInt = 2 := rfl
  have l3 : (3 : Int32).toInt = 3 := rfl
  have l4 : (4 : Int32).toInt = 4 := rfl
  have l10 : (10 : Int32).toInt = 10 := rfl
  have l100 : (100 : Int32).toInt = 100 := rfl
  have l1000 : (1000 : Int32).toInt = 1000 := rfl
  refine gw_dv (by omega) ?_
  refine gw_j (fun s1 => True) (fun s1 _ => ?_) (fun j2 hj2 => ?_)
  ·
    refine gw_dv (by omega) ?_
    refine gw_dv (by omega) ?_
    refine gw_dv (by omega) ?_
    refine gw_eq (fun h104_3 => ?_) (fun h104_3 => ?_)
    ·
      refine gw_le (fun h135_4 => ?_) (fun h135_4 => ?_)
      ·
        refine gw_z Iff.rfl (by omega) (gq_I ⟨rfl, by omega⟩)
      ·
        refine gw_z Iff.rfl (by omega) (gq_I ⟨rfl, by omega⟩)
    ·
      refine gw_eq (fun h104_5 => ?_) (fun h104_5 => ?_)
      ·
        refine gw_ne (fun h147_6 => ?_) (fun h147_6 => ?_)
        ·
          refine gw_z Iff.rfl (by omega) (gq_I ⟨rfl, by omega⟩)
        ·
          refine gw_z Iff.rfl (by omega) (gq_I ⟨rfl, by omega⟩)
      ·
        refine gw_le (fun h159_7 => ?_) (fun h159_7 => ?_)
        ·
          refine gw_z Iff.rfl (by omega) (gq_I ⟨rfl, by omega⟩)
        ·
          refine gw_z Iff.rfl (by omega) (gq_I ⟨rfl, by omega⟩)
  ·
    refine gw_eq (fun h5_8 => ?_) (fun h5_8 => ?_)
    ·
      refine gw_gI (ict.c h.1 q0) (fun v9 ev9 => ?_)
      exact hj2 _ trivial
    ·
      refine gw_eq (fun h5_10 => ?_) (fun h5_10 => ?_)
      ·
        refine gw_gR (ict.c h.1 q0) (fun v11 ev11 => ?_)
        have cv11 : kid v11 := by rw [ev11]; exact h.kd q0
        refine gw_gI (kid.c h.1 cv11) (fun v12 ev12 => ?_)
        exact hj2 _ trivial
      ·
        refine gw_eq (fun h5_13 => ?_) (fun h5_13 => ?_)
        ·
          refine gw_gI (ict.c h.1 q0) (fun v14 ev14 => ?_)
          exact hj2 _ trivial
        ·
          refine gw_eq (fun h5_15 => ?_) (fun h5_15 => ?_)
          ·
            refine gw_gI (ict.c h.1 q0) (fun v16 ev16 => ?_)
            exact hj2 _ trivial
          ·
            refine gw_eq (fun h5_17 => ?_) (fun h5_17 => ?_)
            ·
              refine gw_gI (ict.c h.1 q0) (fun v18 ev18 => ?_)
              refine gw_dv (by omega) ?_
              exact hj2 _ trivial
            ·
              refine gw_dv (by omega) ?_
              exact hj2 _ trivial
set_option maxHeartbeats 1000000 in
theorem s_X0_isSo {μ : gm_M} (h : CI μ) {a0 : Nat} {a1 : Int32} {a2 : Int32} {a3 : Nat} {a4 : Int32} (q0 : AfW μ a0) (q1 : 0 ≤ a1.toInt ∧ a1.toInt ≤ 100) (q2 : 0 ≤ a2.toInt ∧ a2.toInt ≤ 100) (q3 : ict a3) : gwI (f_X0_isSo a0 a1 a2 a3 a4 μ) (fun x m => m = μ ∧ (x.toInt = 0 ∨ x.toInt = 1)) := by
  refine gwI_of ?_
  unfold f_X0_isSo
  have lm3 : (-3 : Int32).toInt = -3 := rfl
  have lm2 : (-2 : Int32).toInt = -2 := rfl
  have lm1 : (-1 : Int32).toInt = -1 := rfl
  have l0 : (0 : Int32).toInt = 0 := rfl
  have l1 : (1 : Int32).toInt = 1 := rfl
  refine gw_loop (fun s1 => s1.2.2 = μ ∧ (0 ≤ s1.2.1.toInt ∧ s1.2.1.toInt ≤ 100)) (fun s1 => (100 - s1.2.1.toInt)) (fun s1 ⟨k2, u3⟩ => ?_) 5000 ((0 : Int32), a1, μ) ⟨rfl, (by show 0 ≤ a1.toInt ∧ a1.toInt ≤ 100; omega)⟩ (by show (100 - a1.toInt) < ((5000 : Nat) : Int); omega) (by show 0 ≤ (100 - a1.toInt); omega)
  refine gw_le (fun h9_4 => ?_) (fun h9_4 => ?_)
  ·
    refine gw_ne (fun h125_5 => ?_) (fun h125_5 => ?_)
    ·
      refine gw_z Iff.rfl (by omega) (gs_inr (gq_I ⟨k2, by omega⟩))
    ·
      refine gw_z Iff.rfl (by omega) (gs_inr (gq_I ⟨k2, by omega⟩))
  ·
    refine gw_gRa (a0 + 3) ((AfW.eq q0 k2).tc) (AfW.eq q0 k2).r3 ?_
    refine gw_aI (i := s1.2.1) ((AfW.eq q0 k2).t3) ((AfW.eq q0 k2).l3) (by omega) (by omega) (fun v7 ev7 => ?_)
    refine gw_j (fun s8 => s8.2 = μ) (fun s8 k10 => ?_) (fun j9 hj9 => ?_)
    ·
      have n11 : (s1.2.1 + (1 : Int32)).toInt = s1.2.1.toInt + (1 : Int32).toInt := gx_add (by omega) (by omega)
      exact gw_some (gs_inl ⟨k10, (by show 0 ≤ (s1.2.1 + (1 : Int32)).toInt ∧ (s1.2.1 + (1 : Int32)).toInt ≤ 100; omega)⟩ (by show (100 - (s1.2.1 + (1 : Int32)).toInt) < (100 - s1.2.1.toInt); omega) (by show 0 ≤ (100 - (s1.2.1 + (1 : Int32)).toInt); omega))
    ·
      refine gw_ne (fun h24_12 => ?_) (fun h24_12 => ?_)
      ·
        refine gw_ne (fun h40_13 => ?_) (fun h40_13 => ?_)
        ·
          refine gw_ne (fun h74_14 => ?_) (fun h74_14 => ?_)
          ·
            refine gw_bI (s_X0_passes (h.eq k2) q3) (fun x15 m15 ⟨z15, f15⟩ => ?_)
            replace z15 := z15.symm
            subst z15
            refine gw_j (fun s16 => True) (fun s16 _ => ?_) (fun j17 hj17 => ?_)
            ·
              exact hj9 _ k2
            ·
              refine gw_eq (fun h103_18 => ?_) (fun h103_18 => ?_)
              ·
                exact hj17 _ trivial
              ·
                exact hj17 _ trivial
          ·
            exact hj9 _ k2
        ·
          refine gw_j (fun s19 => True) (fun s19 _ => ?_) (fun j20 hj20 => ?_)
          ·
            exact hj9 _ k2
          ·
            refine gw_ne (fun h48_21 => ?_) (fun h48_21 => ?_)
            ·
              exact hj20 _ trivial
            ·
              exact hj20 _ trivial
      ·
        exact hj9 _ k2
set_option maxHeartbeats 1000000 in
theorem s_X0_stretchOf {μ : gm_M} (h : CI μ) {a0 : Nat} {a1 : Nat} {a2 : Int32} (q0 : AfW μ a0) (q1 : ict a1) : gwI (f_X0_stretchOf a0 a1 a2 μ) (fun x m => m = μ) := by
  refine gwI_of ?_
  unfold f_X0_stretchOf
  have l0 : (0 : Int32).toInt = 0 := rfl
  have l1 : (1 : Int32).toInt = 1 := rfl
  have l30 : (30 : Int32).toInt = 30 := rfl
  refine gw_loop (fun s1 => s1.2.2.2 = μ ∧ ((0 ≤ s1.2.2.1.toInt ∧ s1.2.2.1.toInt ≤ 10) ∧ (0 ≤ s1.2.1.toInt ∧ s1.2.1.toInt ≤ 100))) (fun s1 => (10 - s1.2.2.1.toInt)) (fun s1 ⟨k2, u3⟩ => ?_) 5000 ((30 : Int32), (0 : Int32), (0 : Int32), μ) ⟨rfl, (by show (0 ≤ (0 : Int32).toInt ∧ (0 : Int32).toInt ≤ 10) ∧ (0 ≤ (0 : Int32).toInt ∧ (0 : Int32).toInt ≤ 100); omega)⟩ (by show (10 - (0 : Int32).toInt) < ((5000 : Nat) : Int); omega) (by show 0 ≤ (10 - (0 : Int32).toInt); omega)
  refine gw_gI ((AfW.eq q0 k2).tc) (fun v4 ev4 => ?_)
  have bv4 := (AfW.eq q0 k2).n
  have dv4 : v4.toInt = (s1.2.2.2.2.1 a0 2).toInt := by rw [ev4]
  refine gw_le (fun h15_5 => ?_) (fun h15_5 => ?_)
  ·
    exact gw_some (gs_inr (gq_I k2))
  ·
    refine gw_gRa (a0 + 2) ((AfW.eq q0 k2).tc) (AfW.eq q0 k2).r2 ?_
    refine gw_aI (i := s1.2.2.1) ((AfW.eq q0 k2).t2) ((AfW.eq q0 k2).l2) (by omega) (by omega) (fun v7 ev7 => ?_)
    have bv7 := (AfW.eq q0 k2).en s1.2.2.1.toInt.toNat (by omega)
    rw [← ev7] at bv7
    refine gw_if ((AfW.eq q0 k2).t) ?_
    refine gw_bI (s_X0_isSo (h.eq k2) (AfW.eq q0 k2) (by omega) (by omega) q1) (fun x8 m8 ⟨z8, f8⟩ => ?_)
    replace z8 := z8.symm
    subst z8
    refine gw_j (fun s9 => True) (fun s9 _ => ?_) (fun j10 hj10 => ?_)
    ·
      refine gw_gRa (a0 + 2) ((AfW.eq q0 k2).tc) (AfW.eq q0 k2).r2 ?_
      refine gw_aI (i := s1.2.2.1) ((AfW.eq q0 k2).t2) ((AfW.eq q0 k2).l2) (by omega) (by omega) (fun v12 ev12 => ?_)
      have bv12 := (AfW.eq q0 k2).en s1.2.2.1.toInt.toNat (by omega)
      rw [← ev12] at bv12
      have n13 : (s1.2.2.1 + (1 : Int32)).toInt = s1.2.2.1.toInt + (1 : Int32).toInt := gx_add (by omega) (by omega)
      exact gw_some (gs_inl ⟨k2, (by show (0 ≤ (s1.2.2.1 + (1 : Int32)).toInt ∧ (s1.2.2.1 + (1 : Int32)).toInt ≤ 10) ∧ (0 ≤ v12.toInt ∧ v12.toInt ≤ 100); omega)⟩ (by show (10 - (s1.2.2.1 + (1 : Int32)).toInt) < (10 - s1.2.2.1.toInt); omega) (by show 0 ≤ (10 - (s1.2.2.1 + (1 : Int32)).toInt); omega))
    ·
      refine gw_eq (fun h33_14 => ?_) (fun h33_14 => ?_)
      ·
        exact hj10 _ trivial
      ·
        refine gw_gRa (a0 + 1) ((AfW.eq q0 k2).tc) (AfW.eq q0 k2).r1 ?_
        refine gw_aI (i := s1.2.2.1) ((AfW.eq q0 k2).t1) ((AfW.eq q0 k2).l1) (by omega) (by omega) (fun v16 ev16 => ?_)
        exact hj10 _ trivial
set_option maxHeartbeats 1000000 in
theorem s_X5_sugarChewed {μ : gm_M} (h : CI μ) {a0 : Nat} {a1 : Nat} {a2 : Int32} (qt : List.contains [10, 6, 8, 9, 11, 14, 15] (gm_tag μ a0) = true) (q1 : ict a1) : gwI (f_X5_sugarChewed a0 a1 a2 μ) (fun x m => m = μ) := by
  refine gwI_of ?_
  unfold f_X5_sugarChewed
  have l2 : (2 : Int32).toInt = 2 := rfl
  have l3 : (3 : Int32).toInt = 3 := rfl
  refine gw_gI (ict.c h.1 q1) (fun v1 ev1 => ?_)
  refine gw_dv (by omega) ?_
  exact gw_some (gq_I rfl)
set_option maxHeartbeats 1000000 in
theorem s_X6_sugarChewed {μ : gm_M} (h : CI μ) {a0 : Nat} {a1 : Nat} {a2 : Int32} (qt : List.contains [9, 11] (gm_tag μ a0) = true) (q1 : ict a1) : gwI (f_X6_sugarChewed a0 a1 a2 μ) (fun x m => m = μ) := by
  refine gwI_of ?_
  unfold f_X6_sugarChewed
  have l2 : (2 : Int32).toInt = 2 := rfl
  refine gw_if qt ?_
  refine gw_bI (s_X5_sugarChewed h (ks_mono qt (by decide)) q1) (fun x1 m1 z1 => ?_)
  replace z1 := z1.symm
  subst z1
  exact gw_some (gq_I rfl)
set_option maxHeartbeats 1000000 in
theorem s_X9_sugarChewed {μ : gm_M} (h : CI μ) {a0 : Nat} {a1 : Nat} {a2 : Int32} (qt : List.contains [6, 14] (gm_tag μ a0) = true) (q1 : ict a1) : gwI (f_X9_sugarChewed a0 a1 a2 μ) (fun x m => m = μ) := by
  refine gwI_of ?_
  unfold f_X9_sugarChewed
  have l2 : (2 : Int32).toInt = 2 := rfl
  refine gw_if qt ?_
  refine gw_bI (s_X5_sugarChewed h (ks_mono qt (by decide)) q1) (fun x1 m1 z1 => ?_)
  replace z1 := z1.symm
  subst z1
  refine gw_dv (by omega) ?_
  exact gw_some (gq_I rfl)
set_option maxHeartbeats 1000000 in
theorem s_X3_sugarChewed {μ : gm_M} (h : CI μ) {a0 : Nat} {a1 : Nat} {a2 : Int32} (qt : List.contains [8, 15] (gm_tag μ a0) = true) (q1 : ict a1) : gwI (f_X3_sugarChewed a0 a1 a2 μ) (fun x m => m = μ) := by
  refine gwI_of ?_
  unfold f_X3_sugarChewed
  have l0 : (0 : Int32).toInt = 0 := rfl
  have l2 : (2 : Int32).toInt = 2 := rfl
  refine gw_if qt ?_
  refine gw_bI (s_X5_sugarChewed h (ks_mono qt (by decide)) q1) (fun x1 m1 z1 => ?_)
  replace z1 := z1.symm
  subst z1
  exact gw_some (gq_I rfl)
set_option maxHeartbeats 1000000 in
theorem s_X4_sugarChewed {μ : gm_M} (h : CI μ) {a0 : Nat} {a1 : Nat} {a2 : Int32} (qt : List.contains [9] (gm_tag μ a0) = true) (q1 : ict a1) : gwI (f_X4_sugarChewed a0 a1 a2 μ) (fun x m => m = μ) := by
  refine gwI_of ?_
  unfold f_X4_sugarChewed
  refine gw_if qt ?_
  refine gw_bI (s_X6_sugarChewed h (ks_mono qt (by decide)) q1) (fun x1 m1 z1 => ?_)
  replace z1 := z1.symm
  subst z1
  refine gw_gI (ict.c h.1 q1) (fun v2 ev2 => ?_)
  exact gw_some (gq_I rfl)
set_option maxHeartbeats 1000000 in
theorem s_X1_sugarChewed {μ : gm_M} (h : CI μ) {a0 : Nat} {a1 : Nat} {a2 : Int32} (qt : List.contains [6] (gm_tag μ a0) = true) (q1 : ict a1) : gwI (f_X1_sugarChewed a0 a1 a2 μ) (fun x m => m = μ) := by
  refine gwI_of ?_
  unfold f_X1_sugarChewed
  have l1 : (1 : Int32).toInt = 1 := rfl
  refine gw_if qt ?_
  refine gw_bI (s_X9_sugarChewed h (ks_mono qt (by decide)) q1) (fun x1 m1 z1 => ?_)
  replace z1 := z1.symm
  subst z1
  exact gw_some (gq_I rfl)
set_option maxHeartbeats 1000000 in
theorem s_X10_sugarChewed {μ : gm_M} (h : CI μ) {a0 : Nat} {a1 : Nat} {a2 : Int32} (qt : List.contains [15] (gm_tag μ a0) = true) (q1 : ict a1) : gwI (f_X10_sugarChewed a0 a1 a2 μ) (fun x m => m = μ) := by
  refine gwI_of ?_
  unfold f_X10_sugarChewed
  have l3 : (3 : Int32).toInt = 3 := rfl
  refine gw_if qt ?_
  refine gw_bI (s_X3_sugarChewed h (ks_mono qt (by decide)) q1) (fun x1 m1 z1 => ?_)
  replace z1 := z1.symm
  subst z1
  refine gw_gRa (a1 + 1) (ict.c h.1 q1) (ict.row h.1 q1) ?_
  have n3 := gx_and3 a2
  refine gw_aI (i := (a2 &&& (3 : Int32))) (ict.rt h.1 q1) (ict.rl h.1 q1) (by omega) (by omega) (fun v4 ev4 => ?_)
  exact gw_some (gq_I rfl)
set_option maxHeartbeats 1000000 in
theorem s_X5_jawTired {μ : gm_M} (h : CI μ) {a0 : Nat} {a1 : Nat} (qt : List.contains [10, 6, 8, 9, 11, 14, 15] (gm_tag μ a0) = true) (q1 : ict a1) : gwI (f_X5_jawTired a0 a1 μ) (fun x m => m = μ) := by
  refine gwI_of ?_
  unfold f_X5_jawTired
  refine gw_gI (ict.c h.1 q1) (fun v1 ev1 => ?_)
  exact gw_some (gq_I rfl)
set_option maxHeartbeats 1000000 in
theorem s_X6_jawTired {μ : gm_M} (h : CI μ) {a0 : Nat} {a1 : Nat} (qt : List.contains [9, 11] (gm_tag μ a0) = true) (q1 : ict a1) : gwI (f_X6_jawTired a0 a1 μ) (fun x m => m = μ) := by
  refine gwI_of ?_
  unfold f_X6_jawTired
  have l1 : (1 : Int32).toInt = 1 := rfl
  refine gw_gI (ict.c h.1 q1) (fun v1 ev1 => ?_)
  exact gw_some (gq_I rfl)
set_option maxHeartbeats 1000000 in
theorem s_X3_jawTired {μ : gm_M} (h : CI μ) {a0 : Nat} {a1 : Nat} (qt : List.contains [8, 15] (gm_tag μ a0) = true) (q1 : ict a1) : gwI (f_X3_jawTired a0 a1 μ) (fun x m => m = μ) := by
  refine gwI_of ?_
  unfold f_X3_jawTired
  have l2 : (2 : Int32).toInt = 2 := rfl
  refine gw_gI (ict.c h.1 q1) (fun v1 ev1 => ?_)
  exact gw_some (gq_I rfl)
set_option maxHeartbeats 1000000 in
theorem s_X1_jawTired {μ : gm_M} (h : CI μ) {a0 : Nat} {a1 : Nat} (qt : List.contains [6] (gm_tag μ a0) = true) (q1 : ict a1) : gwI (f_X1_jawTired a0 a1 μ) (fun x m => m = μ) := by
  refine gwI_of ?_
  unfold f_X1_jawTired
  have l2 : (2 : Int32).toInt = 2 := rfl
  refine gw_gI (ict.c h.1 q1) (fun v1 ev1 => ?_)
  refine gw_dv (by omega) ?_
  exact gw_some (gq_I rfl)
set_option maxHeartbeats 1000000 in
theorem s_X5_dares {μ : gm_M} (h : CI μ) {a0 : Nat} {a1 : Int32} (qt : List.contains [10, 6, 8, 9, 11, 14, 15] (gm_tag μ a0) = true) : gwI (f_X5_dares a0 a1 μ) (fun x m => m = μ) := by
  refine gwI_of ?_
  unfold f_X5_dares
  exact gw_some (gq_I rfl)
set_option maxHeartbeats 1000000 in
theorem s_X1_dares {μ : gm_M} (h : CI μ) {a0 : Nat} {a1 : Int32} (qt : List.contains [6] (gm_tag μ a0) = true) : gwI (f_X1_dares a0 a1 μ) (fun x m => m = μ) := by
  refine gwI_of ?_
  unfold f_X1_dares
  have l0 : (0 : Int32).toInt = 0 := rfl
  have l10 : (10 : Int32).toInt = 10 := rfl
  exact gw_some (gq_I rfl)
theorem s_fv_sugarChewed {μ : gm_M} (h : CI μ) {r : Nat} {b0 : Nat} {b1 : Int32} (q0 : kid r) (q1 : ict b0) : gwI (fv_sugarChewed r b0 b1 μ) (fun x m => m = μ) := by
  have t := kid.t h.1 q0
  unfold fv_sugarChewed
  by_cases e5 : gm_tag μ r = 10
  · rw [if_pos e5]; exact s_X5_sugarChewed h (by rw [e5]; rfl) q1
  rw [if_neg e5]
  by_cases e6 : gm_tag μ r = 11
  · rw [if_pos e6]; exact s_X6_sugarChewed h (by rw [e6]; rfl) q1
  rw [if_neg e6]
  by_cases e9 : gm_tag μ r = 14
  · rw [if_pos e9]; exact s_X9_sugarChewed h (by rw [e9]; rfl) q1
  rw [if_neg e9]
  by_cases e3 : gm_tag μ r = 8
  · rw [if_pos e3]; exact s_X3_sugarChewed h (by rw [e3]; rfl) q1
  rw [if_neg e3]
  by_cases e4 : gm_tag μ r = 9
  · rw [if_pos e4]; exact s_X4_sugarChewed h (by rw [e4]; rfl) q1
  rw [if_neg e4]
  by_cases e1 : gm_tag μ r = 6
  · rw [if_pos e1]; exact s_X1_sugarChewed h (by rw [e1]; rfl) q1
  rw [if_neg e1]
  by_cases e10 : gm_tag μ r = 15
  · rw [if_pos e10]; exact s_X10_sugarChewed h (by rw [e10]; rfl) q1
  rw [if_neg e10]
  exfalso; omega
theorem s_fv_jawTired {μ : gm_M} (h : CI μ) {r : Nat} {b0 : Nat} (q0 : kid r) (q1 : ict b0) : gwI (fv_jawTired r b0 μ) (fun x m => m = μ) := by
  have t := kid.t h.1 q0
  unfold fv_jawTired
  by_cases e5 : gm_tag μ r = 10
  · rw [if_pos e5]; exact s_X5_jawTired h (by rw [e5]; rfl) q1
  rw [if_neg e5]
  by_cases e6 : gm_tag μ r = 11
  · rw [if_pos e6]; exact s_X6_jawTired h (by rw [e6]; rfl) q1
  rw [if_neg e6]
  by_cases e9 : gm_tag μ r = 14
  · rw [if_pos e9]; exact s_X5_jawTired h (by rw [e9]; rfl) q1
  rw [if_neg e9]
  by_cases e3 : gm_tag μ r = 8
  · rw [if_pos e3]; exact s_X3_jawTired h (by rw [e3]; rfl) q1
  rw [if_neg e3]
  by_cases e4 : gm_tag μ r = 9
  · rw [if_pos e4]; exact s_X6_jawTired h (by rw [e4]; rfl) q1
  rw [if_neg e4]
  by_cases e1 : gm_tag μ r = 6
  · rw [if_pos e1]; exact s_X1_jawTired h (by rw [e1]; rfl) q1
  rw [if_neg e1]
  by_cases e10 : gm_tag μ r = 15
  · rw [if_pos e10]; exact s_X3_jawTired h (by rw [e10]; rfl) q1
  rw [if_neg e10]
  exfalso; omega
theorem s_fv_dares {μ : gm_M} (h : CI μ) {r : Nat} {b0 : Int32} (q0 : kid r) : gwI (fv_dares r b0 μ) (fun x m => m = μ) := by
  have t := kid.t h.1 q0
  unfold fv_dares
  by_cases e5 : gm_tag μ r = 10
  · rw [if_pos e5]; exact s_X5_dares h (by rw [e5]; rfl)
  rw [if_neg e5]
  by_cases e6 : gm_tag μ r = 11
  · rw [if_pos e6]; exact s_X5_dares h (by rw [e6]; rfl)
  rw [if_neg e6]
  by_cases e9 : gm_tag μ r = 14
  · rw [if_pos e9]; exact s_X5_dares h (by rw [e9]; rfl)
  rw [if_neg e9]
  by_cases e3 : gm_tag μ r = 8
  · rw [if_pos e3]; exact s_X5_dares h (by rw [e3]; rfl)
  rw [if_neg e3]
  by_cases e4 : gm_tag μ r = 9
  · rw [if_pos e4]; exact s_X5_dares h (by rw [e4]; rfl)
  rw [if_neg e4]
  by_cases e1 : gm_tag μ r = 6
  · rw [if_pos e1]; exact s_X1_dares h (by rw [e1]; rfl)
  rw [if_neg e1]
  by_cases e10 : gm_tag μ r = 15
  · rw [if_pos e10]; exact s_X5_dares h (by rw [e10]; rfl)
  rw [if_neg e10]
  exfalso; omega
set_option maxHeartbeats 1000000 in
theorem s_X2_holds {μ : gm_M} (h : CI μ) {a0 : Nat} {a1 : Nat} {a2 : Int32} (q0 : ict a0) (q1 : AfW μ a1) : gwI (f_X2_holds a0 a1 a2 μ) (fun x m => m = μ) := by
  refine gwI_of ?_
  unfold f_X2_holds
  have l0 : (0 : Int32).toInt = 0 := rfl
  have l2 : (2 : Int32).toInt = 2 := rfl
  refine gw_if (q1.t) ?_
  refine gw_bI (s_X0_stretchOf h q1 q0) (fun x1 m1 z1 => ?_)
  replace z1 := z1.symm
  subst z1
  refine gw_gI (ict.c h.1 q0) (fun v2 ev2 => ?_)
  refine gw_gI (ict.c h.1 q0) (fun v3 ev3 => ?_)
  refine gw_gI (ict.c h.1 q0) (fun v4 ev4 => ?_)
  refine gw_dv (by omega) ?_
  refine gw_gI (q1.tc) (fun v5 ev5 => ?_)
  refine gw_gR (ict.c h.1 q0) (fun v6 ev6 => ?_)
  have cv6 : kid v6 := by rw [ev6]; exact h.kd q0
  refine gw_bI (s_fv_dares h cv6) (fun x7 m7 z7 => ?_)
  replace z7 := z7.symm
  subst z7
  exact gw_some (gq_I rfl)
set_option maxHeartbeats 1000000 in
theorem s_X2_passMinute {μ : gm_M} (h : CI μ) {a0 : Nat} {a1 : Int32} (q0 : ict a0) : gwV (f_X2_passMinute a0 a1 μ) (fun m => chg a0 μ m) := by
  refine gwV_of ?_
  unfold f_X2_passMinute
  have l0 : (0 : Int32).toInt = 0 := rfl
  have l1 : (1 : Int32).toInt = 1 := rfl
  have l5 : (5 : Int32).toInt = 5 := rfl
  have l99 : (99 : Int32).toInt = 99 := rfl
  have k0 := chg.refl a0 μ
  refine gw_gI (ict.c (h.ch q0 k0).1 q0) (fun v1 ev1 => ?_)
  refine gw_le (fun h4_2 => ?_) (fun h4_2 => ?_)
  ·
    refine gw_gI (ict.c (h.ch q0 k0).1 q0) (fun v3 ev3 => ?_)
    refine gw_le (fun h33_4 => ?_) (fun h33_4 => ?_)
    ·
      refine gw_gI (ict.c (h.ch q0 k0).1 q0) (fun v5 ev5 => ?_)
      refine gw_pI (ict.c (h.ch q0 k0).1 q0) (fun m6 em6 => ?_)
      have km6 := k0.w em6 (by decide)
      exact gw_some (gq_V km6)
    ·
      refine gw_gI (ict.c (h.ch q0 k0).1 q0) (fun v7 ev7 => ?_)
      refine gw_gR (ict.c (h.ch q0 k0).1 q0) (fun v8 ev8 => ?_)
      have cv8 : kid v8 := by rw [ev8]; exact (h.ch q0 k0).kd q0
      refine gw_bI (s_fv_sugarChewed (h.ch q0 k0) cv8 q0) (fun x9 m9 z9 => ?_)
      replace z9 := z9.symm
      subst z9
      refine gw_pI (ict.c (h.ch q0 k0).1 q0) (fun m10 em10 => ?_)
      have km10 := k0.w em10 (by decide)
      refine gw_gI (ict.c (h.ch q0 km10).1 q0) (fun v11 ev11 => ?_)
      refine gw_gR (ict.c (h.ch q0 km10).1 q0) (fun v12 ev12 => ?_)
      have cv12 : kid v12 := by rw [ev12]; exact (h.ch q0 km10).kd q0
      refine gw_bI (s_fv_jawTired (h.ch q0 km10) cv12 q0) (fun x13 m13 z13 => ?_)
      replace z13 := z13.symm
      subst z13
      refine gw_pI (ict.c (h.ch q0 km10).1 q0) (fun m14 em14 => ?_)
      have km14 := km10.w em14 (by decide)
      exact gw_some (gq_V km14)
  ·
    refine gw_gI (ict.c (h.ch q0 k0).1 q0) (fun v15 ev15 => ?_)
    refine gw_gI (ict.c (h.ch q0 k0).1 q0) (fun v16 ev16 => ?_)
    refine gw_pI (ict.c (h.ch q0 k0).1 q0) (fun m17 em17 => ?_)
    have km17 := k0.w em17 (by decide)
    exact gw_some (gq_V km17)
set_option maxHeartbeats 1000000 in
theorem s_X2_breathe {μ : gm_M} (h : CI μ) {a0 : Nat} {a1 : Int32} {a2 : Int32} (q0 : ict a0) : gwI (f_X2_breathe a0 a1 a2 μ) (fun x m => chg a0 μ m ∧ (x.toInt = 0 ∨ x.toInt = 1)) := by
  refine gwI_of ?_
  unfold f_X2_breathe
  have l0 : (0 : Int32).toInt = 0 := rfl
  have l1 : (1 : Int32).toInt = 1 := rfl
  have l10 : (10 : Int32).toInt = 10 := rfl
  have l9999 : (9999 : Int32).toInt = 9999 := rfl
  have k0 := chg.refl a0 μ
  refine gw_gI (ict.c (h.ch q0 k0).1 q0) (fun v1 ev1 => ?_)
  refine gw_pI (ict.c (h.ch q0 k0).1 q0) (fun m2 em2 => ?_)
  have km2 := k0.w em2 (by decide)
  refine gw_gI (ict.c (h.ch q0 km2).1 q0) (fun v3 ev3 => ?_)
  refine gw_lt (fun h15_4 => ?_) (fun h15_4 => ?_)
  ·
    refine gw_gI (ict.c (h.ch q0 km2).1 q0) (fun v5 ev5 => ?_)
    refine gw_gI (ict.c (h.ch q0 km2).1 q0) (fun v6 ev6 => ?_)
    refine gw_dv (by omega) ?_
    refine gw_pI (ict.c (h.ch q0 km2).1 q0) (fun m7 em7 => ?_)
    have km7 := km2.w em7 (by decide)
    refine gw_pI (ict.c (h.ch q0 km7).1 q0) (fun m8 em8 => ?_)
    have km8 := km7.w em8 (by decide)
    refine gw_z Iff.rfl (by omega) (gq_I ⟨km8, by omega⟩)
  ·
    refine gw_z Iff.rfl (by omega) (gq_I ⟨km2, by omega⟩)
end
section
set_option maxHeartbeats 1000000 in
theorem s_X7_isKept_3 {μ : gm_M} (h : CI μ) {a1 : Int32}  : gwI (f_X7_isKept 3 a1 μ) (fun x m => m = μ ∧ ((x.toInt = 1 ∧ 0 ≤ a1.toInt ∧ a1.toInt < (μ.2.1 3 2).toInt ∧ a1.toInt < 20) ∨ x.toInt = 0)) := by
  refine gwI_of ?_
  unfold f_X7_isKept
  have l0 : (0 : Int32).toInt = 0 := rfl
  have l1 : (1 : Int32).toInt = 1 := rfl
  refine gw_lt (fun h1_1 => ?_) (fun h1_1 => ?_)
  ·
    refine gw_z Iff.rfl (by omega) (gq_I ⟨rfl, by omega⟩)
  ·
    refine gw_gI (h.1.c (r := 3) rfl) (fun v2 ev2 => ?_)
    have bv2 := h.n3
    have dv2 : v2.toInt = (μ.2.1 3 2).toInt := by rw [ev2]
    refine gw_le (fun h9_3 => ?_) (fun h9_3 => ?_)
    ·
      refine gw_z Iff.rfl (by omega) (gq_I ⟨rfl, by omega⟩)
    ·
      refine gw_gI (h.1.c (r := 3) rfl) (fun v4 ev4 => ?_)
      have bv4 := h.l3
      have dv4 : v4.toInt = (μ.2.1 3 0).toInt := by rw [ev4]
      refine gw_le (fun h17_5 => ?_) (fun h17_5 => ?_)
      ·
        refine gw_z Iff.rfl (by omega) (gq_I ⟨rfl, by omega⟩)
      ·
        refine gw_z Iff.rfl (by omega) (gq_I ⟨rfl, by omega⟩)
set_option maxHeartbeats 1000000 in
theorem s_X7_isKept_23 {μ : gm_M} (h : CI μ) {a1 : Int32}  : gwI (f_X7_isKept 23 a1 μ) (fun x m => m = μ ∧ ((x.toInt = 1 ∧ 0 ≤ a1.toInt ∧ a1.toInt < (μ.2.1 23 2).toInt ∧ a1.toInt < 5) ∨ x.toInt = 0)) := by
  refine gwI_of ?_
  unfold f_X7_isKept
  have l0 : (0 : Int32).toInt = 0 := rfl
  have l1 : (1 : Int32).toInt = 1 := rfl
  refine gw_lt (fun h1_1 => ?_) (fun h1_1 => ?_)
  ·
    refine gw_z Iff.rfl (by omega) (gq_I ⟨rfl, by omega⟩)
  ·
    refine gw_gI (h.1.c (r := 23) rfl) (fun v2 ev2 => ?_)
    have bv2 := h.n23
    have dv2 : v2.toInt = (μ.2.1 23 2).toInt := by rw [ev2]
    refine gw_le (fun h9_3 => ?_) (fun h9_3 => ?_)
    ·
      refine gw_z Iff.rfl (by omega) (gq_I ⟨rfl, by omega⟩)
    ·
      refine gw_gI (h.1.c (r := 23) rfl) (fun v4 ev4 => ?_)
      have bv4 := h.l23
      have dv4 : v4.toInt = (μ.2.1 23 0).toInt := by rw [ev4]
      refine gw_le (fun h17_5 => ?_) (fun h17_5 => ?_)
      ·
        refine gw_z Iff.rfl (by omega) (gq_I ⟨rfl, by omega⟩)
      ·
        refine gw_z Iff.rfl (by omega) (gq_I ⟨rfl, by omega⟩)
set_option maxHeartbeats 1000000 in
theorem s_X7_isKept_25 {μ : gm_M} (h : CI μ) {a1 : Int32}  : gwI (f_X7_isKept 25 a1 μ) (fun x m => m = μ ∧ ((x.toInt = 1 ∧ 0 ≤ a1.toInt ∧ a1.toInt < (μ.2.1 25 2).toInt ∧ a1.toInt < 8) ∨ x.toInt = 0)) := by
  refine gwI_of ?_
  unfold f_X7_isKept
  have l0 : (0 : Int32).toInt = 0 := rfl
  have l1 : (1 : Int32).toInt = 1 := rfl
  refine gw_lt (fun h1_1 => ?_) (fun h1_1 => ?_)
  ·
    refine gw_z Iff.rfl (by omega) (gq_I ⟨rfl, by omega⟩)
  ·
    refine gw_gI (h.1.c (r := 25) rfl) (fun v2 ev2 => ?_)
    have bv2 := h.n25
    have dv2 : v2.toInt = (μ.2.1 25 2).toInt := by rw [ev2]
    refine gw_le (fun h9_3 => ?_) (fun h9_3 => ?_)
    ·
      refine gw_z Iff.rfl (by omega) (gq_I ⟨rfl, by omega⟩)
    ·
      refine gw_gI (h.1.c (r := 25) rfl) (fun v4 ev4 => ?_)
      have bv4 := h.l25
      have dv4 : v4.toInt = (μ.2.1 25 0).toInt := by rw [ev4]
      refine gw_le (fun h17_5 => ?_) (fun h17_5 => ?_)
      ·
        refine gw_z Iff.rfl (by omega) (gq_I ⟨rfl, by omega⟩)
      ·
        refine gw_z Iff.rfl (by omega) (gq_I ⟨rfl, by omega⟩)
set_option maxHeartbeats 1000000 in
theorem s_X7_isKept_27 {μ : gm_M} (h : CI μ) {a1 : Int32}  : gwI (f_X7_isKept 27 a1 μ) (fun x m => m = μ ∧ ((x.toInt = 1 ∧ 0 ≤ a1.toInt ∧ a1.toInt < (μ.2.1 27 2).toInt ∧ a1.toInt < 8) ∨ x.toInt = 0)) := by
  refine gwI_of ?_
  unfold f_X7_isKept
  have l0 : (0 : Int32).toInt = 0 := rfl
  have l1 : (1 : Int32).toInt = 1 := rfl
  refine gw_lt (fun h1_1 => ?_) (fun h1_1 => ?_)
  ·
    refine gw_z Iff.rfl (by omega) (gq_I ⟨rfl, by omega⟩)
  ·
    refine gw_gI (h.1.c (r := 27) rfl) (fun v2 ev2 => ?_)
    have bv2 := h.n27
    have dv2 : v2.toInt = (μ.2.1 27 2).toInt := by rw [ev2]
    refine gw_le (fun h9_3 => ?_) (fun h9_3 => ?_)
    ·
      refine gw_z Iff.rfl (by omega) (gq_I ⟨rfl, by omega⟩)
    ·
      refine gw_gI (h.1.c (r := 27) rfl) (fun v4 ev4 => ?_)
      have bv4 := h.l27
      have dv4 : v4.toInt = (μ.2.1 27 0).toInt := by rw [ev4]
      refine gw_le (fun h17_5 => ?_) (fun h17_5 => ?_)
      ·
        refine gw_z Iff.rfl (by omega) (gq_I ⟨rfl, by omega⟩)
      ·
        refine gw_z Iff.rfl (by omega) (gq_I ⟨rfl, by omega⟩)
set_option maxHeartbeats 1000000 in
theorem s_X7_cell_3 {μ : gm_M} (h : CI μ) {a1 : Int32} {a2 : Int32}  : gwI (f_X7_cell 3 a1 a2 μ) (fun x m => m = μ) := by
  refine gwI_of ?_
  unfold f_X7_cell
  have l0 : (0 : Int32).toInt = 0 := rfl
  have l3 : (3 : Int32).toInt = 3 := rfl
  refine gw_if (h.1.t (r := 3) rfl) ?_
  refine gw_bI (s_X7_isKept_3 h ) (fun x1 m1 ⟨z1, f1⟩ => ?_)
  replace z1 := z1.symm
  subst z1
  refine gw_eq (fun h5_2 => ?_) (fun h5_2 => ?_)
  ·
    exact gw_some (gq_I rfl)
  ·
    refine gw_lt (fun h9_3 => ?_) (fun h9_3 => ?_)
    ·
      exact gw_some (gq_I rfl)
    ·
      refine gw_lt (fun h14_4 => ?_) (fun h14_4 => ?_)
      ·
        refine gw_gRa 4 (h.1.c (r := 3) rfl) (h.1.r (by decide)) ?_
        have n5 : (a1 * (3 : Int32)).toInt = 3 * a1.toInt := gx_mulr 3 rfl (by omega) (by omega)
        have n6 : ((a1 * (3 : Int32)) + a2).toInt = (a1 * (3 : Int32)).toInt + a2.toInt := gx_add (by omega) (by omega)
        refine gw_aI (i := ((a1 * (3 : Int32)) + a2)) (h.1.t (r := 4) rfl) (h.1.l (r := 4) rfl) (by omega) (by omega) (fun v7 ev7 => ?_)
        exact gw_some (gq_I rfl)
      ·
        exact gw_some (gq_I rfl)
set_option maxHeartbeats 1000000 in
theorem s_X7_cell_23 {μ : gm_M} (h : CI μ) {a1 : Int32} {a2 : Int32}  : gwI (f_X7_cell 23 a1 a2 μ) (fun x m => m = μ ∧ (a2.toInt = 2 → x.toInt ≤ 60)) := by
  refine gwI_of ?_
  unfold f_X7_cell
  have l0 : (0 : Int32).toInt = 0 := rfl
  have l3 : (3 : Int32).toInt = 3 := rfl
  refine gw_if (h.1.t (r := 23) rfl) ?_
  refine gw_bI (s_X7_isKept_23 h ) (fun x1 m1 ⟨z1, f1⟩ => ?_)
  replace z1 := z1.symm
  subst z1
  refine gw_eq (fun h5_2 => ?_) (fun h5_2 => ?_)
  ·
    exact gw_some (gq_I ⟨rfl, by omega⟩)
  ·
    refine gw_lt (fun h9_3 => ?_) (fun h9_3 => ?_)
    ·
      exact gw_some (gq_I ⟨rfl, by omega⟩)
    ·
      refine gw_lt (fun h14_4 => ?_) (fun h14_4 => ?_)
      ·
        refine gw_gRa 24 (h.1.c (r := 23) rfl) (h.1.r (by decide)) ?_
        have n5 : (a1 * (3 : Int32)).toInt = 3 * a1.toInt := gx_mulr 3 rfl (by omega) (by omega)
        have n6 : ((a1 * (3 : Int32)) + a2).toInt = (a1 * (3 : Int32)).toInt + a2.toInt := gx_add (by omega) (by omega)
        refine gw_aI (i := ((a1 * (3 : Int32)) + a2)) (h.1.t (r := 24) rfl) (h.1.l (r := 24) rfl) (by omega) (by omega) (fun v7 ev7 => ?_)
        have yv7 : a2.toInt = 2 → v7.toInt ≤ 60 := fun h2 => by rw [ev7, show ((a1 * (3 : Int32)) + a2).toInt.toNat = 3 * a1.toInt.toNat + 2 from by omega]; exact h.sm _ (by omega)
        exact gw_some (gq_I ⟨rfl, by omega⟩)
      ·
        exact gw_some (gq_I ⟨rfl, by omega⟩)
set_option maxHeartbeats 1000000 in
theorem s_X7_cell_25 {μ : gm_M} (h : CI μ) {a1 : Int32} {a2 : Int32}  : gwI (f_X7_cell 25 a1 a2 μ) (fun x m => m = μ) := by
  refine gwI_of ?_
  unfold f_X7_cell
  have l0 : (0 : Int32).toInt = 0 := rfl
  have l3 : (3 : Int32).toInt = 3 := rfl
  refine gw_if (h.1.t (r := 25) rfl) ?_
  refine gw_bI (s_X7_isKept_25 h ) (fun x1 m1 ⟨z1, f1⟩ => ?_)
  replace z1 := z1.symm
  subst z1
  refine gw_eq (fun h5_2 => ?_) (fun h5_2 => ?_)
  ·
    exact gw_some (gq_I rfl)
  ·
    refine gw_lt (fun h9_3 => ?_) (fun h9_3 => ?_)
    ·
      exact gw_some (gq_I rfl)
    ·
      refine gw_lt (fun h14_4 => ?_) (fun h14_4 => ?_)
      ·
        refine gw_gRa 26 (h.1.c (r := 25) rfl) (h.1.r (by decide)) ?_
        have n5 : (a1 * (3 : Int32)).toInt = 3 * a1.toInt := gx_mulr 3 rfl (by omega) (by omega)
        have n6 : ((a1 * (3 : Int32)) + a2).toInt = (a1 * (3 : Int32)).toInt + a2.toInt := gx_add (by omega) (by omega)
        refine gw_aI (i := ((a1 * (3 : Int32)) + a2)) (h.1.t (r := 26) rfl) (h.1.l (r := 26) rfl) (by omega) (by omega) (fun v7 ev7 => ?_)
        exact gw_some (gq_I rfl)
      ·
        exact gw_some (gq_I rfl)
set_option maxHeartbeats 1000000 in
theorem s_X7_cell_27 {μ : gm_M} (h : CI μ) {a1 : Int32} {a2 : Int32}  : gwI (f_X7_cell 27 a1 a2 μ) (fun x m => m = μ) := by
  refine gwI_of ?_
  unfold f_X7_cell
  have l0 : (0 : Int32).toInt = 0 := rfl
  have l3 : (3 : Int32).toInt = 3 := rfl
  refine gw_if (h.1.t (r := 27) rfl) ?_
  refine gw_bI (s_X7_isKept_27 h ) (fun x1 m1 ⟨z1, f1⟩ => ?_)
  replace z1 := z1.symm
  subst z1
  refine gw_eq (fun h5_2 => ?_) (fun h5_2 => ?_)
  ·
    exact gw_some (gq_I rfl)
  ·
    refine gw_lt (fun h9_3 => ?_) (fun h9_3 => ?_)
    ·
      exact gw_some (gq_I rfl)
    ·
      refine gw_lt (fun h14_4 => ?_) (fun h14_4 => ?_)
      ·
        refine gw_gRa 28 (h.1.c (r := 27) rfl) (h.1.r (by decide)) ?_
        have n5 : (a1 * (3 : Int32)).toInt = 3 * a1.toInt := gx_mulr 3 rfl (by omega) (by omega)
        have n6 : ((a1 * (3 : Int32)) + a2).toInt = (a1 * (3 : Int32)).toInt + a2.toInt := gx_add (by omega) (by omega)
        refine gw_aI (i := ((a1 * (3 : Int32)) + a2)) (h.1.t (r := 28) rfl) (h.1.l (r := 28) rfl) (by omega) (by omega) (fun v7 ev7 => ?_)
        exact gw_some (gq_I rfl)
      ·
        exact gw_some (gq_I rfl)
set_option maxHeartbeats 1000000 in
theorem s_X2_copy_63 {μ : gm_M} (h : CI μ) {a1 : Nat} (q0 : isch a1) : gwV (f_X2_copy 63 a1 μ) (fun m => kc μ m) := by
  refine gwV_of ?_
  unfold f_X2_copy
  have l0 : (0 : Int32).toInt = 0 := rfl
  have k0 := kc.refl μ
  refine gw_gI (ict.c (h.of k0).1 (Or.inl q0)) (fun v1 ev1 => ?_)
  refine gw_pI (ict.c (h.of k0).1 (Or.inr rfl)) (fun m2 em2 => ?_)
  have km2 := k0.wr em2 (by decide)
  refine gw_gR (ict.c (h.of km2).1 (Or.inl q0)) (fun v3 ev3 => ?_)
  have cv3 : kid v3 := by rw [ev3]; exact (h.of km2).kd (Or.inl q0)
  refine gw_pR (ict.c (h.of km2).1 (Or.inr rfl)) (fun m4 em4 => ?_)
  have km4 := km2.wk em4 cv3
  refine gw_gI (ict.c (h.of km4).1 (Or.inl q0)) (fun v5 ev5 => ?_)
  refine gw_pI (ict.c (h.of km4).1 (Or.inr rfl)) (fun m6 em6 => ?_)
  have km6 := km4.wr em6 (by decide)
  refine gw_gI (ict.c (h.of km6).1 (Or.inl q0)) (fun v7 ev7 => ?_)
  refine gw_pI (ict.c (h.of km6).1 (Or.inr rfl)) (fun m8 em8 => ?_)
  have km8 := km6.wr em8 (by decide)
  refine gw_gI (ict.c (h.of km8).1 (Or.inl q0)) (fun v9 ev9 => ?_)
  refine gw_pI (ict.c (h.of km8).1 (Or.inr rfl)) (fun m10 em10 => ?_)
  have km10 := km8.wr em10 (by decide)
  refine gw_gI (ict.c (h.of km10).1 (Or.inl q0)) (fun v11 ev11 => ?_)
  refine gw_pI (ict.c (h.of km10).1 (Or.inr rfl)) (fun m12 em12 => ?_)
  have km12 := km10.wr em12 (by decide)
  refine gw_gI (ict.c (h.of km12).1 (Or.inl q0)) (fun v13 ev13 => ?_)
  refine gw_pI (ict.c (h.of km12).1 (Or.inr rfl)) (fun m14 em14 => ?_)
  have km14 := km12.wr em14 (by decide)
  refine gw_gI (ict.c (h.of km14).1 (Or.inl q0)) (fun v15 ev15 => ?_)
  refine gw_pI (ict.c (h.of km14).1 (Or.inr rfl)) (fun m16 em16 => ?_)
  have km16 := km14.wr em16 (by decide)
  refine gw_gRa (a1 + 1) (ict.c (h.of km16).1 (Or.inl q0)) (ict.row (h.of km16).1 (Or.inl q0)) ?_
  refine gw_gRa 64 (ict.c (h.of km16).1 (Or.inr rfl)) ((h.of km16).1.r (by decide)) ?_
  refine gw_gRa 64 (ict.c (h.of km16).1 (Or.inr rfl)) ((h.of km16).1.r (by decide)) ?_
  refine gw_al ((h.of km16).1.t (r := 64) rfl) ((h.of km16).1.l (r := 64) rfl) ?_
  have lo18 : (Int32.ofNat 4).toInt = 4 := rfl
  refine gx_cp (by have := q0; unfold isch at this; omega) (ict.rt (h.of km16).1 (Or.inl q0)) ((h.of km16).1.t (r := 64) rfl) (ict.rl (h.of km16).1 (Or.inl q0)) ((h.of km16).1.l (r := 64) rfl) (by omega) (by omega) (by omega) (by omega) (by omega) (fun m19 e1m19 e2m19 e3m19 e4m19 => ?_)
  have km19 := km16.cp e1m19 e2m19 e3m19 (by decide)
  exact gw_some (gq_V km19)
set_option maxHeartbeats 1000000 in
theorem s_X11_thinned {μ : gm_M} {a0 : Int32} {a1 : Int32}  : gwI (f_X11_thinned a0 a1 μ) (fun x m => m = μ) := by
  refine gwI_of ?_
  unfold f_X11_thinned
  have l0 : (0 : Int32).toInt = 0 := rfl
  have l5 : (5 : Int32).toInt = 5 := rfl
  exact gw_some (gq_I rfl)
set_option maxHeartbeats 1000000 in
theorem s_X11_thinsBelow {μ : gm_M} {a0 : Int32} {a1 : Int32}  : gwI (f_X11_thinsBelow a0 a1 μ) (fun x m => m = μ) := by
  refine gwI_of ?_
  unfold f_X11_thinsBelow
  have l0 : (0 : Int32).toInt = 0 := rfl
  have l1 : (1 : Int32).toInt = 1 := rfl
  have l10 : (10 : Int32).toInt = 10 := rfl
  refine gw_loop (fun s1 => s1.2.2 = μ ∧ (0 ≤ s1.2.1.toInt ∧ s1.2.1.toInt ≤ 10)) (fun s1 => (10 - s1.2.1.toInt)) (fun s1 ⟨k2, u3⟩ => ?_) 5000 ((0 : Int32), (0 : Int32), μ) ⟨rfl, (by show 0 ≤ (0 : Int32).toInt ∧ (0 : Int32).toInt ≤ 10; omega)⟩ (by show (10 - (0 : Int32).toInt) < ((5000 : Nat) : Int); omega) (by show 0 ≤ (10 - (0 : Int32).toInt); omega)
  refine gw_le (fun h7_4 => ?_) (fun h7_4 => ?_)
  ·
    exact gw_some (gs_inr (gq_I k2))
  ·
    refine gw_bI (s_X11_thinned ) (fun x5 m5 z5 => ?_)
    replace z5 := z5.symm
    subst z5
    refine gw_j (fun s6 => True) (fun s6 _ => ?_) (fun j7 hj7 => ?_)
    ·
      have n8 : (s1.2.1 + (1 : Int32)).toInt = s1.2.1.toInt + (1 : Int32).toInt := gx_add (by omega) (by omega)
      exact gw_some (gs_inl ⟨k2, (by show 0 ≤ (s1.2.1 + (1 : Int32)).toInt ∧ (s1.2.1 + (1 : Int32)).toInt ≤ 10; omega)⟩ (by show (10 - (s1.2.1 + (1 : Int32)).toInt) < (10 - s1.2.1.toInt); omega) (by show 0 ≤ (10 - (s1.2.1 + (1 : Int32)).toInt); omega))
    ·
      refine gw_le (fun h16_9 => ?_) (fun h16_9 => ?_)
      ·
        exact hj7 _ trivial
      ·
        exact hj7 _ trivial
set_option maxHeartbeats 1000000 in
theorem s_X11_thinsBearing {μ : gm_M} {a0 : Int32} {a1 : Int32}  : gwI (f_X11_thinsBearing a0 a1 μ) (fun x m => m = μ) := by
  refine gwI_of ?_
  unfold f_X11_thinsBearing
  have l10 : (10 : Int32).toInt = 10 := rfl
  refine gw_bI (s_X11_thinsBelow ) (fun x1 m1 z1 => ?_)
  replace z1 := z1.symm
  subst z1
  exact gw_some (gq_I rfl)
set_option maxHeartbeats 1000000 in
theorem s_X11_greatestCommon {μ : gm_M} {a0 : Int32} {a1 : Int32}  : gwI (f_X11_greatestCommon a0 a1 μ) (fun x m => m = μ) := by
  refine gwI_of ?_
  unfold f_X11_greatestCommon
  have l0 : (0 : Int32).toInt = 0 := rfl
  have l1 : (1 : Int32).toInt = 1 := rfl
  have l100 : (100 : Int32).toInt = 100 := rfl
  refine gw_loop (fun s1 => (0 ≤ s1.2.2.toInt ∧ s1.2.2.toInt ≤ 100)) (fun s1 => (100 - s1.2.2.toInt)) (fun s1 u2 => ?_) 5000 (a0, a1, (0 : Int32)) (by show 0 ≤ (0 : Int32).toInt ∧ (0 : Int32).toInt ≤ 100; omega) (by show (100 - (0 : Int32).toInt) < ((5000 : Nat) : Int); omega) (by show 0 ≤ (100 - (0 : Int32).toInt); omega)
  refine gw_le (fun h5_3 => ?_) (fun h5_3 => ?_)
  ·
    exact gw_some (gs_inr (gq_I rfl))
  ·
    refine gw_eq (fun h9_4 => ?_) (fun h9_4 => ?_)
    ·
      exact gw_some (gs_inr (gq_I rfl))
    ·
      refine gw_dv (by omega) ?_
      have n5 : (s1.2.2 + (1 : Int32)).toInt = s1.2.2.toInt + (1 : Int32).toInt := gx_add (by omega) (by omega)
      exact gw_some (gs_inl (by show 0 ≤ (s1.2.2 + (1 : Int32)).toInt ∧ (s1.2.2 + (1 : Int32)).toInt ≤ 100; omega) (by show (100 - (s1.2.2 + (1 : Int32)).toInt) < (100 - s1.2.2.toInt); omega) (by show 0 ≤ (100 - (s1.2.2 + (1 : Int32)).toInt); omega))
set_option maxHeartbeats 1000000 in
theorem s_X11_fraction {μ : gm_M} {a0 : Int32} {a1 : Int32} {a2 : Int32}  : gwL (f_X11_fraction a0 a1 a2 μ) (fun x m => m = μ) := by
  refine gwL_of ?_
  unfold f_X11_fraction
  have l0 : (0 : Int32).toInt = 0 := rfl
  refine gw_bI (s_X11_greatestCommon ) (fun x1 m1 z1 => ?_)
  replace z1 := z1.symm
  subst z1
  refine gw_ne (fun h7_2 => ?_) (fun h7_2 => ?_)
  ·
    refine gw_j (fun s3 => True) (fun s3 _ => ?_) (fun j4 hj4 => ?_)
    ·
      exact gw_some (gq_L rfl)
    ·
      refine gw_ne (fun h15_5 => ?_) (fun h15_5 => ?_)
      ·
        refine gw_dv (by omega) ?_
        exact hj4 _ trivial
      ·
        refine gw_dv (by omega) ?_
        exact hj4 _ trivial
  ·
    exact gw_some (gq_L rfl)
set_option maxHeartbeats 1000000 in
theorem s_X11_isUnder {μ : gm_M} (h : CI μ) {a0 : Nat} {a1 : Int32} (q0 : kid a0) : gwI (f_X11_isUnder a0 a1 μ) (fun x m => m = μ ∧ (x.toInt = 0 ∨ x.toInt = 1)) := by
  refine gwI_of ?_
  unfold f_X11_isUnder
  have l0 : (0 : Int32).toInt = 0 := rfl
  have l1 : (1 : Int32).toInt = 1 := rfl
  have l2 : (2 : Int32).toInt = 2 := rfl
  have l3 : (3 : Int32).toInt = 3 := rfl
  have l4 : (4 : Int32).toInt = 4 := rfl
  have l5 : (5 : Int32).toInt = 5 := rfl
  have l6 : (6 : Int32).toInt = 6 := rfl
  refine gw_eq (fun h1_1 => ?_) (fun h1_1 => ?_)
  ·
    refine gw_z Iff.rfl (by omega) (gq_I ⟨rfl, by omega⟩)
  ·
    refine gw_eq (fun h1_2 => ?_) (fun h1_2 => ?_)
    ·
      refine gw_io (by rcases kid.t h.1 q0 with q | q | q | q | q | q | q <;> rw [q] <;> decide) (fun v3 iv3 => ?_)
      have jv3 : v3.toInt = 0 ∨ v3.toInt = 1 := iv3.elim (fun q => Or.inr q.1) (fun q => Or.inl q.1)
      refine gw_z Iff.rfl (by omega) (gq_I ⟨rfl, by omega⟩)
    ·
      refine gw_eq (fun h1_4 => ?_) (fun h1_4 => ?_)
      ·
        refine gw_io (by rcases kid.t h.1 q0 with q | q | q | q | q | q | q <;> rw [q] <;> decide) (fun v5 iv5 => ?_)
        have jv5 : v5.toInt = 0 ∨ v5.toInt = 1 := iv5.elim (fun q => Or.inr q.1) (fun q => Or.inl q.1)
        refine gw_z Iff.rfl (by omega) (gq_I ⟨rfl, by omega⟩)
      ·
        refine gw_eq (fun h1_6 => ?_) (fun h1_6 => ?_)
        ·
          refine gw_io (by rcases kid.t h.1 q0 with q | q | q | q | q | q | q <;> rw [q] <;> decide) (fun v7 iv7 => ?_)
          have jv7 : v7.toInt = 0 ∨ v7.toInt = 1 := iv7.elim (fun q => Or.inr q.1) (fun q => Or.inl q.1)
          refine gw_z Iff.rfl (by omega) (gq_I ⟨rfl, by omega⟩)
        ·
          refine gw_eq (fun h1_8 => ?_) (fun h1_8 => ?_)
          ·
            refine gw_io (by rcases kid.t h.1 q0 with q | q | q | q | q | q | q <;> rw [q] <;> decide) (fun v9 iv9 => ?_)
            have jv9 : v9.toInt = 0 ∨ v9.toInt = 1 := iv9.elim (fun q => Or.inr q.1) (fun q => Or.inl q.1)
            refine gw_z Iff.rfl (by omega) (gq_I ⟨rfl, by omega⟩)
          ·
            refine gw_eq (fun h1_10 => ?_) (fun h1_10 => ?_)
            ·
              refine gw_io (by rcases kid.t h.1 q0 with q | q | q | q | q | q | q <;> rw [q] <;> decide) (fun v11 iv11 => ?_)
              have jv11 : v11.toInt = 0 ∨ v11.toInt = 1 := iv11.elim (fun q => Or.inr q.1) (fun q => Or.inl q.1)
              refine gw_z Iff.rfl (by omega) (gq_I ⟨rfl, by omega⟩)
            ·
              refine gw_eq (fun h1_12 => ?_) (fun h1_12 => ?_)
              ·
                refine gw_io (by rcases kid.t h.1 q0 with q | q | q | q | q | q | q <;> rw [q] <;> decide) (fun v13 iv13 => ?_)
                have jv13 : v13.toInt = 0 ∨ v13.toInt = 1 := iv13.elim (fun q => Or.inr q.1) (fun q => Or.inl q.1)
                refine gw_z Iff.rfl (by omega) (gq_I ⟨rfl, by omega⟩)
              ·
                refine gw_z Iff.rfl (by omega) (gq_I ⟨rfl, by omega⟩)
set_option maxHeartbeats 1000000 in
theorem s_X11_holdsNow {μ : gm_M} (h : CI μ) {a1 : Int32} (q0 : 0 ≤ a1.toInt ∧ a1.toInt < 5) : gwI (f_X11_holdsNow 1 a1 μ) (fun x m => m = μ) := by
  refine gwI_of ?_
  unfold f_X11_holdsNow
  refine gw_gRa 15 (h.1.c (r := 1) rfl) (h.1.r (by decide)) ?_
  refine gw_gRa 16 (h.1.c (r := 15) rfl) (h.1.r (by decide)) ?_
  refine gw_aR (i := a1) (h.1.t (r := 16) rfl) (h.1.l (r := 16) rfl) (by omega) (by omega) (fun v1 ev1 => ?_)
  have cv1 : isch v1 := by rw [ev1]; exact isch.of h.1 (by omega) (by omega)
  refine gw_gRa 15 (h.1.c (r := 1) rfl) (h.1.r (by decide)) ?_
  refine gw_gR (h.1.c (r := 15) rfl) (fun v2 ev2 => ?_)
  have cv2 : AfW μ v2 := by rw [ev2]; exact h.af
  refine gw_gRa 15 (h.1.c (r := 1) rfl) (h.1.r (by decide)) ?_
  refine gw_gI (h.1.c (r := 15) rfl) (fun v3 ev3 => ?_)
  refine gw_if (ict.t h.1 (Or.inl cv1)) ?_
  refine gw_bI (s_X2_holds h (Or.inl cv1) cv2) (fun x4 m4 z4 => ?_)
  replace z4 := z4.symm
  subst z4
  exact gw_some (gq_I rfl)
set_option maxHeartbeats 1000000 in
theorem s_X11_bubbleBits {μ : gm_M} (h : CI μ)   : gwI (f_X11_bubbleBits 1 μ) (fun x m => m = μ) := by
  refine gwI_of ?_
  unfold f_X11_bubbleBits
  have l0 : (0 : Int32).toInt = 0 := rfl
  have l1 : (1 : Int32).toInt = 1 := rfl
  refine gw_loop (fun s1 => (0 ≤ s1.2.toInt ∧ s1.2.toInt ≤ 5)) (fun s1 => (5 - s1.2.toInt)) (fun s1 u2 => ?_) 5000 ((0 : Int32), (0 : Int32)) (by show 0 ≤ (0 : Int32).toInt ∧ (0 : Int32).toInt ≤ 5; omega) (by show (5 - (0 : Int32).toInt) < ((5000 : Nat) : Int); omega) (by show 0 ≤ (5 - (0 : Int32).toInt); omega)
  refine gw_gRa 15 (h.1.c (r := 1) rfl) (h.1.r (by decide)) ?_
  refine gw_gI (h.1.c (r := 15) rfl) (fun v3 ev3 => ?_)
  have bv3 := h.n1
  have dv3 : v3.toInt = (μ.2.1 15 1).toInt := by rw [ev3]
  refine gw_le (fun h12_4 => ?_) (fun h12_4 => ?_)
  ·
    exact gw_some (gs_inr (gq_I rfl))
  ·
    refine gw_gRa 15 (h.1.c (r := 1) rfl) (h.1.r (by decide)) ?_
    refine gw_gRa 16 (h.1.c (r := 15) rfl) (h.1.r (by decide)) ?_
    refine gw_aR (i := s1.2) (h.1.t (r := 16) rfl) (h.1.l (r := 16) rfl) (by omega) (by omega) (fun v5 ev5 => ?_)
    have cv5 : isch v5 := by rw [ev5]; exact isch.of h.1 (by omega) (by omega)
    refine gw_gI (ict.c h.1 (Or.inl cv5)) (fun v6 ev6 => ?_)
    refine gw_j (fun s7 => True) (fun s7 _ => ?_) (fun j8 hj8 => ?_)
    ·
      have n9 : (s1.2 + (1 : Int32)).toInt = s1.2.toInt + (1 : Int32).toInt := gx_add (by omega) (by omega)
      exact gw_some (gs_inl (by show 0 ≤ (s1.2 + (1 : Int32)).toInt ∧ (s1.2 + (1 : Int32)).toInt ≤ 5; omega) (by show (5 - (s1.2 + (1 : Int32)).toInt) < (5 - s1.2.toInt); omega) (by show 0 ≤ (5 - (s1.2 + (1 : Int32)).toInt); omega))
    ·
      refine gw_le (fun h27_10 => ?_) (fun h27_10 => ?_)
      ·
        exact hj8 _ trivial
      ·
        exact hj8 _ trivial
set_option maxHeartbeats 1000000 in
theorem s_X11_trialBehind {μ : gm_M} (h : CI μ) {a1 : Int32} (q0 : a1.toInt ≤ 100) : gwI (f_X11_trialBehind 1 a1 μ) (fun x m => kc μ m) := by
  refine gwI_of ?_
  unfold f_X11_trialBehind
  have l0 : (0 : Int32).toInt = 0 := rfl
  have l1 : (1 : Int32).toInt = 1 := rfl
  have k0 := kc.refl μ
  refine gw_loop (fun s1 => kc μ s1.2 ∧ (0 ≤ s1.1.toInt ∧ s1.1.toInt ≤ 100)) (fun s1 => (100 - s1.1.toInt)) (fun s1 ⟨k2, u3⟩ => ?_) 5000 ((0 : Int32), μ) ⟨k0, (by show 0 ≤ (0 : Int32).toInt ∧ (0 : Int32).toInt ≤ 100; omega)⟩ (by show (100 - (0 : Int32).toInt) < ((5000 : Nat) : Int); omega) (by show 0 ≤ (100 - (0 : Int32).toInt); omega)
  refine gw_le (fun h4_4 => ?_) (fun h4_4 => ?_)
  ·
    refine gw_gRa 63 ((h.of k2).1.c (r := 1) rfl) ((h.of k2).1.r (by decide)) ?_
    refine gw_gRa 15 ((h.of k2).1.c (r := 1) rfl) ((h.of k2).1.r (by decide)) ?_
    refine gw_gR ((h.of k2).1.c (r := 15) rfl) (fun v5 ev5 => ?_)
    have cv5 : AfW s1.2 v5 := by rw [ev5]; exact (h.of k2).af
    refine gw_gRa 15 ((h.of k2).1.c (r := 1) rfl) ((h.of k2).1.r (by decide)) ?_
    refine gw_gI ((h.of k2).1.c (r := 15) rfl) (fun v6 ev6 => ?_)
    refine gw_if (ict.t (h.of k2).1 (Or.inr rfl)) ?_
    refine gw_bI (s_X2_holds (h.of k2) (Or.inr rfl) cv5) (fun x7 m7 z7 => ?_)
    replace z7 := z7.symm
    subst z7
    exact gw_some (gs_inr (gq_I k2))
  ·
    refine gw_gRa 63 ((h.of k2).1.c (r := 1) rfl) ((h.of k2).1.r (by decide)) ?_
    refine gw_gRa 15 ((h.of k2).1.c (r := 1) rfl) ((h.of k2).1.r (by decide)) ?_
    refine gw_gI ((h.of k2).1.c (r := 15) rfl) (fun v8 ev8 => ?_)
    refine gw_if (ict.t (h.of k2).1 (Or.inr rfl)) ?_
    refine gw_bV (s_X2_passMinute (h.of k2) (Or.inr rfl)) (fun m9 g9 => ?_)
    have kk9 := k2.ch g9
    have n10 : (s1.1 + (1 : Int32)).toInt = s1.1.toInt + (1 : Int32).toInt := gx_add (by omega) (by omega)
    exact gw_some (gs_inl ⟨kk9, (by show 0 ≤ (s1.1 + (1 : Int32)).toInt ∧ (s1.1 + (1 : Int32)).toInt ≤ 100; omega)⟩ (by show (100 - (s1.1 + (1 : Int32)).toInt) < (100 - s1.1.toInt); omega) (by show 0 ≤ (100 - (s1.1 + (1 : Int32)).toInt); omega))
set_option maxHeartbeats 1000000 in
theorem s_X11_holdsBehind {μ : gm_M} (h : CI μ) {a1 : Int32} {a2 : Int32} (q0 : 0 ≤ a1.toInt ∧ a1.toInt < 5) (q1 : a2.toInt ≤ 100) : gwI (f_X11_holdsBehind 1 a1 a2 μ) (fun x m => kc μ m) := by
  refine gwI_of ?_
  unfold f_X11_holdsBehind
  have k0 := kc.refl μ
  refine gw_gRa 63 ((h.of k0).1.c (r := 1) rfl) ((h.of k0).1.r (by decide)) ?_
  refine gw_gRa 15 ((h.of k0).1.c (r := 1) rfl) ((h.of k0).1.r (by decide)) ?_
  refine gw_gRa 16 ((h.of k0).1.c (r := 15) rfl) ((h.of k0).1.r (by decide)) ?_
  refine gw_aR (i := a1) ((h.of k0).1.t (r := 16) rfl) ((h.of k0).1.l (r := 16) rfl) (by omega) (by omega) (fun v1 ev1 => ?_)
  have cv1 : isch v1 := by rw [ev1]; exact isch.of (h.of k0).1 (by omega) (by omega)
  refine gw_if (ict.t (h.of k0).1 (Or.inr rfl)) ?_
  refine gw_bV (s_X2_copy_63 (h.of k0) cv1) (fun m2 g2 => ?_)
  have kk2 := k0.trans g2
  refine gw_if ((h.of kk2).1.t (r := 1) rfl) ?_
  refine gw_bI (s_X11_trialBehind (h.of kk2) (by omega)) (fun x3 m3 g3 => ?_)
  have kk3 := kk2.trans g3
  exact gw_some (gq_I kk3)
set_option maxHeartbeats 1000000 in
theorem s_X11_sumBehind {μ : gm_M} (h : CI μ) {a1 : Int32} (q0 : a1.toInt ≤ 100) : gwI (f_X11_sumBehind 1 a1 μ) (fun x m => kc μ m) := by
  refine gwI_of ?_
  unfold f_X11_sumBehind
  have l0 : (0 : Int32).toInt = 0 := rfl
  have l1 : (1 : Int32).toInt = 1 := rfl
  have k0 := kc.refl μ
  refine gw_loop (fun s1 => kc μ s1.2.2 ∧ (0 ≤ s1.2.1.toInt ∧ s1.2.1.toInt ≤ 5)) (fun s1 => (5 - s1.2.1.toInt)) (fun s1 ⟨k2, u3⟩ => ?_) 5000 ((0 : Int32), (0 : Int32), μ) ⟨k0, (by show 0 ≤ (0 : Int32).toInt ∧ (0 : Int32).toInt ≤ 5; omega)⟩ (by show (5 - (0 : Int32).toInt) < ((5000 : Nat) : Int); omega) (by show 0 ≤ (5 - (0 : Int32).toInt); omega)
  refine gw_gRa 15 ((h.of k2).1.c (r := 1) rfl) ((h.of k2).1.r (by decide)) ?_
  refine gw_gI ((h.of k2).1.c (r := 15) rfl) (fun v4 ev4 => ?_)
  have bv4 := (h.of k2).n1
  have dv4 : v4.toInt = (s1.2.2.2.1 15 1).toInt := by rw [ev4]
  have yv4 : v4.toInt = (μ.2.1 15 1).toInt := by rw [dv4, k2.row (by decide)]
  refine gw_le (fun h12_5 => ?_) (fun h12_5 => ?_)
  ·
    exact gw_some (gs_inr (gq_I k2))
  ·
    refine gw_if ((h.of k2).1.t (r := 1) rfl) ?_
    refine gw_bI (s_X11_holdsBehind (h.of k2) (by omega) (by omega)) (fun x6 m6 g6 => ?_)
    have kk6 := k2.trans g6
    have n7 : (s1.2.1 + (1 : Int32)).toInt = s1.2.1.toInt + (1 : Int32).toInt := gx_add (by omega) (by omega)
    exact gw_some (gs_inl ⟨kk6, (by show 0 ≤ (s1.2.1 + (1 : Int32)).toInt ∧ (s1.2.1 + (1 : Int32)).toInt ≤ 5; omega)⟩ (by show (5 - (s1.2.1 + (1 : Int32)).toInt) < (5 - s1.2.1.toInt); omega) (by show 0 ≤ (5 - (s1.2.1 + (1 : Int32)).toInt); omega))
set_option maxHeartbeats 1000000 in
theorem s_X11_trialWhen {μ : gm_M} (h : CI μ) {a1 : Int32}  : gwI (f_X11_trialWhen 1 a1 μ) (fun x m => kc μ m) := by
  refine gwI_of ?_
  unfold f_X11_trialWhen
  have lm1 : (-1 : Int32).toInt = -1 := rfl
  have l0 : (0 : Int32).toInt = 0 := rfl
  have l1 : (1 : Int32).toInt = 1 := rfl
  have l60 : (60 : Int32).toInt = 60 := rfl
  have k0 := kc.refl μ
  refine gw_loop (fun s1 => kc μ s1.2.2.2 ∧ (0 ≤ s1.2.2.1.toInt ∧ s1.2.2.1.toInt ≤ 61)) (fun s1 => (61 - s1.2.2.1.toInt)) (fun s1 ⟨k2, u3⟩ => ?_) 5000 ((-1 : Int32), (0 : Int32), (0 : Int32), μ) ⟨k0, (by show 0 ≤ (0 : Int32).toInt ∧ (0 : Int32).toInt ≤ 61; omega)⟩ (by show (61 - (0 : Int32).toInt) < ((5000 : Nat) : Int); omega) (by show 0 ≤ (61 - (0 : Int32).toInt); omega)
  refine gw_lt (fun h11_4 => ?_) (fun h11_4 => ?_)
  ·
    refine gw_ne (fun h76_5 => ?_) (fun h76_5 => ?_)
    ·
      exact gw_some (gs_inr (gq_I k2))
    ·
      exact gw_some (gs_inr (gq_I k2))
  ·
    refine gw_gRa 63 ((h.of k2).1.c (r := 1) rfl) ((h.of k2).1.r (by decide)) ?_
    refine gw_gRa 15 ((h.of k2).1.c (r := 1) rfl) ((h.of k2).1.r (by decide)) ?_
    refine gw_gR ((h.of k2).1.c (r := 15) rfl) (fun v6 ev6 => ?_)
    have cv6 : AfW s1.2.2.2 v6 := by rw [ev6]; exact (h.of k2).af
    refine gw_gRa 15 ((h.of k2).1.c (r := 1) rfl) ((h.of k2).1.r (by decide)) ?_
    refine gw_gI ((h.of k2).1.c (r := 15) rfl) (fun v7 ev7 => ?_)
    refine gw_if (ict.t (h.of k2).1 (Or.inr rfl)) ?_
    refine gw_bI (s_X2_holds (h.of k2) (Or.inr rfl) cv6) (fun x8 m8 z8 => ?_)
    replace z8 := z8.symm
    subst z8
    refine gw_j (fun s9 => True) (fun s9 _ => ?_) (fun j10 hj10 => ?_)
    ·
      refine gw_gRa 63 ((h.of k2).1.c (r := 1) rfl) ((h.of k2).1.r (by decide)) ?_
      refine gw_gRa 15 ((h.of k2).1.c (r := 1) rfl) ((h.of k2).1.r (by decide)) ?_
      refine gw_gI ((h.of k2).1.c (r := 15) rfl) (fun v11 ev11 => ?_)
      refine gw_if (ict.t (h.of k2).1 (Or.inr rfl)) ?_
      refine gw_bV (s_X2_passMinute (h.of k2) (Or.inr rfl)) (fun m12 g12 => ?_)
      have kk12 := k2.ch g12
      have n13 : (s1.2.2.1 + (1 : Int32)).toInt = s1.2.2.1.toInt + (1 : Int32).toInt := gx_add (by omega) (by omega)
      exact gw_some (gs_inl ⟨kk12, (by show 0 ≤ (s1.2.2.1 + (1 : Int32)).toInt ∧ (s1.2.2.1 + (1 : Int32)).toInt ≤ 61; omega)⟩ (by show (61 - (s1.2.2.1 + (1 : Int32)).toInt) < (61 - s1.2.2.1.toInt); omega) (by show 0 ≤ (61 - (s1.2.2.1 + (1 : Int32)).toInt); omega))
    ·
      refine gw_le (fun h43_14 => ?_) (fun h43_14 => ?_)
      ·
        exact hj10 _ trivial
      ·
        exact hj10 _ trivial
set_option maxHeartbeats 1000000 in
theorem s_X11_holdsWithGumOf {μ : gm_M} (h : CI μ) {a1 : Int32} {a2 : Int32} (q0 : 0 ≤ a1.toInt ∧ a1.toInt < 5) (q1 : 0 ≤ a2.toInt ∧ a2.toInt < 5) : gwI (f_X11_holdsWithGumOf 1 a1 a2 μ) (fun x m => kc μ m) := by
  refine gwI_of ?_
  unfold f_X11_holdsWithGumOf
  have l0 : (0 : Int32).toInt = 0 := rfl
  have k0 := kc.refl μ
  refine gw_gRa 63 ((h.of k0).1.c (r := 1) rfl) ((h.of k0).1.r (by decide)) ?_
  refine gw_gRa 15 ((h.of k0).1.c (r := 1) rfl) ((h.of k0).1.r (by decide)) ?_
  refine gw_gRa 16 ((h.of k0).1.c (r := 15) rfl) ((h.of k0).1.r (by decide)) ?_
  refine gw_aR (i := a1) ((h.of k0).1.t (r := 16) rfl) ((h.of k0).1.l (r := 16) rfl) (by omega) (by omega) (fun v1 ev1 => ?_)
  have cv1 : isch v1 := by rw [ev1]; exact isch.of (h.of k0).1 (by omega) (by omega)
  refine gw_if (ict.t (h.of k0).1 (Or.inr rfl)) ?_
  refine gw_bV (s_X2_copy_63 (h.of k0) cv1) (fun m2 g2 => ?_)
  have kk2 := k0.trans g2
  refine gw_gRa 63 ((h.of kk2).1.c (r := 1) rfl) ((h.of kk2).1.r (by decide)) ?_
  refine gw_gRa 15 ((h.of kk2).1.c (r := 1) rfl) ((h.of kk2).1.r (by decide)) ?_
  refine gw_gRa 16 ((h.of kk2).1.c (r := 15) rfl) ((h.of kk2).1.r (by decide)) ?_
  refine gw_aR (i := a2) ((h.of kk2).1.t (r := 16) rfl) ((h.of kk2).1.l (r := 16) rfl) (by omega) (by omega) (fun v3 ev3 => ?_)
  have cv3 : isch v3 := by rw [ev3]; exact isch.of (h.of kk2).1 (by omega) (by omega)
  refine gw_gI (ict.c (h.of kk2).1 (Or.inl cv3)) (fun v4 ev4 => ?_)
  refine gw_pI (ict.c (h.of kk2).1 (Or.inr rfl)) (fun m5 em5 => ?_)
  have km5 := kk2.wr em5 (by decide)
  refine gw_gRa 63 ((h.of km5).1.c (r := 1) rfl) ((h.of km5).1.r (by decide)) ?_
  refine gw_gRa 15 ((h.of km5).1.c (r := 1) rfl) ((h.of km5).1.r (by decide)) ?_
  refine gw_gRa 16 ((h.of km5).1.c (r := 15) rfl) ((h.of km5).1.r (by decide)) ?_
  refine gw_aR (i := a2) ((h.of km5).1.t (r := 16) rfl) ((h.of km5).1.l (r := 16) rfl) (by omega) (by omega) (fun v6 ev6 => ?_)
  have cv6 : isch v6 := by rw [ev6]; exact isch.of (h.of km5).1 (by omega) (by omega)
  refine gw_gI (ict.c (h.of km5).1 (Or.inl cv6)) (fun v7 ev7 => ?_)
  refine gw_pI (ict.c (h.of km5).1 (Or.inr rfl)) (fun m8 em8 => ?_)
  have km8 := km5.wr em8 (by decide)
  refine gw_if ((h.of km8).1.t (r := 1) rfl) ?_
  refine gw_bI (s_X11_trialBehind (h.of km8) (by omega)) (fun x9 m9 g9 => ?_)
  have kk9 := km8.trans g9
  exact gw_some (gq_I kk9)
set_option maxHeartbeats 1000000 in
theorem s_X11_fillBehind {μ : gm_M} (h : CI μ) {a1 : Int32} (q0 : 0 ≤ a1.toInt ∧ a1.toInt < 5) : gwV (f_X11_fillBehind 1 a1 μ) (fun m => kc μ m) := by
  refine gwV_of ?_
  unfold f_X11_fillBehind
  have l0 : (0 : Int32).toInt = 0 := rfl
  have l1 : (1 : Int32).toInt = 1 := rfl
  have l5 : (5 : Int32).toInt = 5 := rfl
  have k0 := kc.refl μ
  refine gw_gRa 63 ((h.of k0).1.c (r := 1) rfl) ((h.of k0).1.r (by decide)) ?_
  refine gw_gRa 15 ((h.of k0).1.c (r := 1) rfl) ((h.of k0).1.r (by decide)) ?_
  refine gw_gRa 16 ((h.of k0).1.c (r := 15) rfl) ((h.of k0).1.r (by decide)) ?_
  refine gw_aR (i := a1) ((h.of k0).1.t (r := 16) rfl) ((h.of k0).1.l (r := 16) rfl) (by omega) (by omega) (fun v1 ev1 => ?_)
  have cv1 : isch v1 := by rw [ev1]; exact isch.of (h.of k0).1 (by omega) (by omega)
  refine gw_if (ict.t (h.of k0).1 (Or.inr rfl)) ?_
  refine gw_bV (s_X2_copy_63 (h.of k0) cv1) (fun m2 g2 => ?_)
  have kk2 := k0.trans g2
  refine gw_loop (fun s3 => kc μ s3.2 ∧ (0 ≤ s3.1.toInt ∧ s3.1.toInt ≤ 5)) (fun s3 => (5 - s3.1.toInt)) (fun s3 ⟨k4, u5⟩ => ?_) 5000 ((0 : Int32), m2) ⟨kk2, (by show 0 ≤ (0 : Int32).toInt ∧ (0 : Int32).toInt ≤ 5; omega)⟩ (by show (5 - (0 : Int32).toInt) < ((5000 : Nat) : Int); omega) (by show 0 ≤ (5 - (0 : Int32).toInt); omega)
  refine gw_gRa 15 ((h.of k4).1.c (r := 1) rfl) ((h.of k4).1.r (by decide)) ?_
  refine gw_gI ((h.of k4).1.c (r := 15) rfl) (fun v6 ev6 => ?_)
  have bv6 := (h.of k4).n1
  have dv6 : v6.toInt = (s3.2.2.1 15 1).toInt := by rw [ev6]
  have yv6 : v6.toInt = (μ.2.1 15 1).toInt := by rw [dv6, k4.row (by decide)]
  refine gw_le (fun h26_7 => ?_) (fun h26_7 => ?_)
  ·
    exact gw_some (gs_inr (gq_V k4))
  ·
    refine gw_gRa 5 ((h.of k4).1.c (r := 1) rfl) ((h.of k4).1.r (by decide)) ?_
    refine gw_gRa 63 ((h.of k4).1.c (r := 1) rfl) ((h.of k4).1.r (by decide)) ?_
    refine gw_gRa 15 ((h.of k4).1.c (r := 1) rfl) ((h.of k4).1.r (by decide)) ?_
    refine gw_gR ((h.of k4).1.c (r := 15) rfl) (fun v8 ev8 => ?_)
    have cv8 : AfW s3.2 v8 := by rw [ev8]; exact (h.of k4).af
    refine gw_gRa 15 ((h.of k4).1.c (r := 1) rfl) ((h.of k4).1.r (by decide)) ?_
    refine gw_gI ((h.of k4).1.c (r := 15) rfl) (fun v9 ev9 => ?_)
    refine gw_if (ict.t (h.of k4).1 (Or.inr rfl)) ?_
    refine gw_bI (s_X2_holds (h.of k4) (Or.inr rfl) cv8) (fun x10 m10 z10 => ?_)
    replace z10 := z10.symm
    subst z10
    have n11 : (a1 * (5 : Int32)).toInt = 5 * a1.toInt := gx_mulr 5 rfl (by omega) (by omega)
    have n12 : ((a1 * (5 : Int32)) + s3.1).toInt = (a1 * (5 : Int32)).toInt + s3.1.toInt := gx_add (by omega) (by omega)
    refine gw_sI (i := ((a1 * (5 : Int32)) + s3.1)) ((h.of k4).1.t (r := 5) rfl) ((h.of k4).1.l (r := 5) rfl) (by omega) (by omega) (fun m13 em13 => ?_)
    have km13 := k4.wr em13 (by decide)
    refine gw_gRa 63 ((h.of km13).1.c (r := 1) rfl) ((h.of km13).1.r (by decide)) ?_
    refine gw_gRa 15 ((h.of km13).1.c (r := 1) rfl) ((h.of km13).1.r (by decide)) ?_
    refine gw_gI ((h.of km13).1.c (r := 15) rfl) (fun v14 ev14 => ?_)
    refine gw_if (ict.t (h.of km13).1 (Or.inr rfl)) ?_
    refine gw_bV (s_X2_passMinute (h.of km13) (Or.inr rfl)) (fun m15 g15 => ?_)
    have kk15 := km13.ch g15
    have n16 : (s3.1 + (1 : Int32)).toInt = s3.1.toInt + (1 : Int32).toInt := gx_add (by omega) (by omega)
    exact gw_some (gs_inl ⟨kk15, (by show 0 ≤ (s3.1 + (1 : Int32)).toInt ∧ (s3.1 + (1 : Int32)).toInt ≤ 5; omega)⟩ (by show (5 - (s3.1 + (1 : Int32)).toInt) < (5 - s3.1.toInt); omega) (by show 0 ≤ (5 - (s3.1 + (1 : Int32)).toInt); omega))
end
section
set_option maxHeartbeats 1000000 in
theorem s_X11_isAllSeen {μ : gm_M} (h : CI μ) {a1 : Int32} {a2 : Int32} {a3 : Int32}  : gwI (f_X11_isAllSeen 1 a1 a2 a3 μ) (fun x m => kc μ m ∧ (x.toInt = 0 ∨ x.toInt = 1)) := by
  refine gwI_of ?_
  unfold f_X11_isAllSeen
  have l0 : (0 : Int32).toInt = 0 := rfl
  have l1 : (1 : Int32).toInt = 1 := rfl
  have l2 : (2 : Int32).toInt = 2 := rfl
  have k0 := kc.refl μ
  refine gw_loop (fun s1 => kc μ s1.2 ∧ (0 ≤ s1.1.toInt ∧ s1.1.toInt ≤ 5)) (fun s1 => (5 - s1.1.toInt)) (fun s1 ⟨k2, u3⟩ => ?_) 5000 ((0 : Int32), μ) ⟨k0, (by show 0 ≤ (0 : Int32).toInt ∧ (0 : Int32).toInt ≤ 5; omega)⟩ (by show (5 - (0 : Int32).toInt) < ((5000 : Nat) : Int); omega) (by show 0 ≤ (5 - (0 : Int32).toInt); omega)
  refine gw_gRa 15 ((h.of k2).1.c (r := 1) rfl) ((h.of k2).1.r (by decide)) ?_
  refine gw_gRa 23 ((h.of k2).1.c (r := 15) rfl) ((h.of k2).1.r (by decide)) ?_
  refine gw_gI ((h.of k2).1.c (r := 23) rfl) (fun v4 ev4 => ?_)
  have bv4 := (h.of k2).n23
  have dv4 : v4.toInt = (s1.2.2.1 23 2).toInt := by rw [ev4]
  have yv4 : v4.toInt = (μ.2.1 23 2).toInt := by rw [dv4, k2.row (by decide)]
  refine gw_le (fun h15_5 => ?_) (fun h15_5 => ?_)
  ·
    refine gw_z Iff.rfl (by omega) (gs_inr (gq_I ⟨k2, by omega⟩))
  ·
    refine gw_gRa 15 ((h.of k2).1.c (r := 1) rfl) ((h.of k2).1.r (by decide)) ?_
    refine gw_gRa 23 ((h.of k2).1.c (r := 15) rfl) ((h.of k2).1.r (by decide)) ?_
    refine gw_if ((h.of k2).1.t (r := 23) rfl) ?_
    refine gw_bI (s_X7_cell_23 (h.of k2) ) (fun x6 m6 ⟨z6, f6⟩ => ?_)
    replace z6 := z6.symm
    subst z6
    refine gw_if ((h.of k2).1.t (r := 1) rfl) ?_
    refine gw_bI (s_X11_isNobody (h.of k2) ) (fun x7 m7 ⟨z7, f7⟩ => ?_)
    replace z7 := z7.symm
    subst z7
    refine gw_j (fun s8 => kc μ s8) (fun s8 k10 => ?_) (fun j9 hj9 => ?_)
    ·
      have n11 : (s1.1 + (1 : Int32)).toInt = s1.1.toInt + (1 : Int32).toInt := gx_add (by omega) (by omega)
      exact gw_some (gs_inl ⟨k10, (by show 0 ≤ (s1.1 + (1 : Int32)).toInt ∧ (s1.1 + (1 : Int32)).toInt ≤ 5; omega)⟩ (by show (5 - (s1.1 + (1 : Int32)).toInt) < (5 - s1.1.toInt); omega) (by show 0 ≤ (5 - (s1.1 + (1 : Int32)).toInt); omega))
    ·
      refine gw_eq (fun h39_12 => ?_) (fun h39_12 => ?_)
      ·
        refine gw_gRa 63 ((h.of k2).1.c (r := 1) rfl) ((h.of k2).1.r (by decide)) ?_
        refine gw_gRa 15 ((h.of k2).1.c (r := 1) rfl) ((h.of k2).1.r (by decide)) ?_
        refine gw_gRa 16 ((h.of k2).1.c (r := 15) rfl) ((h.of k2).1.r (by decide)) ?_
        refine gw_aR (i := x6) ((h.of k2).1.t (r := 16) rfl) ((h.of k2).1.l (r := 16) rfl) (by omega) (by omega) (fun v13 ev13 => ?_)
        have cv13 : isch v13 := by rw [ev13]; exact isch.of (h.of k2).1 (by omega) (by omega)
        refine gw_if (ict.t (h.of k2).1 (Or.inr rfl)) ?_
        refine gw_bV (s_X2_copy_63 (h.of k2) cv13) (fun m14 g14 => ?_)
        have kk14 := k2.trans g14
        refine gw_j (fun s15 => kc μ s15) (fun s15 k17 => ?_) (fun j16 hj16 => ?_)
        ·
          refine gw_gRa 15 ((h.of k17).1.c (r := 1) rfl) ((h.of k17).1.r (by decide)) ?_
          refine gw_gRa 23 ((h.of k17).1.c (r := 15) rfl) ((h.of k17).1.r (by decide)) ?_
          refine gw_if ((h.of k17).1.t (r := 23) rfl) ?_
          refine gw_bI (s_X7_cell_23 (h.of k17) ) (fun x18 m18 ⟨z18, f18⟩ => ?_)
          replace z18 := z18.symm
          subst z18
          refine gw_if ((h.of k17).1.t (r := 1) rfl) ?_
          refine gw_bI (s_X11_trialBehind (h.of k17) (by omega)) (fun x19 m19 g19 => ?_)
          have kk19 := k17.trans g19
          refine gw_gRa 15 ((h.of kk19).1.c (r := 1) rfl) ((h.of kk19).1.r (by decide)) ?_
          refine gw_gRa 23 ((h.of kk19).1.c (r := 15) rfl) ((h.of kk19).1.r (by decide)) ?_
          refine gw_if ((h.of kk19).1.t (r := 23) rfl) ?_
          refine gw_bI (s_X7_cell_23 (h.of kk19) ) (fun x20 m20 ⟨z20, f20⟩ => ?_)
          replace z20 := z20.symm
          subst z20
          refine gw_eq (fun h114_21 => ?_) (fun h114_21 => ?_)
          ·
            exact hj9 _ kk19
          ·
            refine gw_z Iff.rfl (by omega) (gs_inr (gq_I ⟨kk19, by omega⟩))
        ·
          refine gw_ne (fun h65_22 => ?_) (fun h65_22 => ?_)
          ·
            exact hj16 _ kk14
          ·
            refine gw_gRa 63 ((h.of kk14).1.c (r := 1) rfl) ((h.of kk14).1.r (by decide)) ?_
            refine gw_pI (ict.c (h.of kk14).1 (Or.inr rfl)) (fun m23 em23 => ?_)
            have km23 := kk14.wr em23 (by decide)
            refine gw_gRa 63 ((h.of km23).1.c (r := 1) rfl) ((h.of km23).1.r (by decide)) ?_
            refine gw_pI (ict.c (h.of km23).1 (Or.inr rfl)) (fun m24 em24 => ?_)
            have km24 := km23.wr em24 (by decide)
            exact hj16 _ km24
      ·
        exact hj9 _ k2
set_option maxHeartbeats 1000000 in
theorem s_X11_tryPlanRow {μ : gm_M} (h : CI μ) {a1 : Int32} {a2 : Int32}  : gwV (f_X11_tryPlanRow 1 a1 a2 μ) (fun m => kc μ m) := by
  refine gwV_of ?_
  unfold f_X11_tryPlanRow
  have l0 : (0 : Int32).toInt = 0 := rfl
  have l1 : (1 : Int32).toInt = 1 := rfl
  have l2 : (2 : Int32).toInt = 2 := rfl
  have l6 : (6 : Int32).toInt = 6 := rfl
  have l10 : (10 : Int32).toInt = 10 := rfl
  have l999 : (999 : Int32).toInt = 999 := rfl
  have k0 := kc.refl μ
  refine gw_ne (fun h2_1 => ?_) (fun h2_1 => ?_)
  ·
    refine gw_ne (fun h62_2 => ?_) (fun h62_2 => ?_)
    ·
      refine gw_gRa 63 ((h.of k0).1.c (r := 1) rfl) ((h.of k0).1.r (by decide)) ?_
      refine gw_gRa 63 ((h.of k0).1.c (r := 1) rfl) ((h.of k0).1.r (by decide)) ?_
      refine gw_gRa 15 ((h.of k0).1.c (r := 1) rfl) ((h.of k0).1.r (by decide)) ?_
      refine gw_gR ((h.of k0).1.c (r := 15) rfl) (fun v3 ev3 => ?_)
      have cv3 : AfW μ v3 := by rw [ev3]; exact (h.of k0).af
      refine gw_if (ict.t (h.of k0).1 (Or.inr rfl)) ?_
      refine gw_bI (s_X2_holds (h.of k0) (Or.inr rfl) cv3) (fun x4 m4 z4 => ?_)
      replace z4 := z4.symm
      subst z4
      refine gw_if (ict.t (h.of k0).1 (Or.inr rfl)) ?_
      refine gw_bI (s_X2_breathe (h.of k0) (Or.inr rfl)) (fun x5 m5 ⟨g5, f5⟩ => ?_)
      have kk5 := k0.ch g5
      exact gw_some (gq_V kk5)
    ·
      refine gw_gRa 63 ((h.of k0).1.c (r := 1) rfl) ((h.of k0).1.r (by decide)) ?_
      refine gw_pI (ict.c (h.of k0).1 (Or.inr rfl)) (fun m6 em6 => ?_)
      have km6 := k0.wr em6 (by decide)
      refine gw_gRa 63 ((h.of km6).1.c (r := 1) rfl) ((h.of km6).1.r (by decide)) ?_
      refine gw_pI (ict.c (h.of km6).1 (Or.inr rfl)) (fun m7 em7 => ?_)
      have km7 := km6.wr em7 (by decide)
      refine gw_gRa 63 ((h.of km7).1.c (r := 1) rfl) ((h.of km7).1.r (by decide)) ?_
      refine gw_pI (ict.c (h.of km7).1 (Or.inr rfl)) (fun m8 em8 => ?_)
      have km8 := km7.wr em8 (by decide)
      exact gw_some (gq_V km8)
  ·
    refine gw_gRa 63 ((h.of k0).1.c (r := 1) rfl) ((h.of k0).1.r (by decide)) ?_
    refine gw_gRa 63 ((h.of k0).1.c (r := 1) rfl) ((h.of k0).1.r (by decide)) ?_
    refine gw_gI (ict.c (h.of k0).1 (Or.inr rfl)) (fun v9 ev9 => ?_)
    refine gw_pI (ict.c (h.of k0).1 (Or.inr rfl)) (fun m10 em10 => ?_)
    have km10 := k0.wr em10 (by decide)
    refine gw_gRa 63 ((h.of km10).1.c (r := 1) rfl) ((h.of km10).1.r (by decide)) ?_
    refine gw_gRa 63 ((h.of km10).1.c (r := 1) rfl) ((h.of km10).1.r (by decide)) ?_
    refine gw_gI (ict.c (h.of km10).1 (Or.inr rfl)) (fun v11 ev11 => ?_)
    refine gw_gRa 15 ((h.of km10).1.c (r := 1) rfl) ((h.of km10).1.r (by decide)) ?_
    refine gw_gR ((h.of km10).1.c (r := 15) rfl) (fun v12 ev12 => ?_)
    have cv12 : AfW m10 v12 := by rw [ev12]; exact (h.of km10).af
    refine gw_gI (cv12.tc) (fun v13 ev13 => ?_)
    refine gw_pI (ict.c (h.of km10).1 (Or.inr rfl)) (fun m14 em14 => ?_)
    have km14 := km10.wr em14 (by decide)
    exact gw_some (gq_V km14)
set_option maxHeartbeats 1000000 in
theorem s_X11_tryPlan {μ : gm_M} (h : CI μ)   : gwV (f_X11_tryPlan 1 μ) (fun m => kc μ m) := by
  refine gwV_of ?_
  unfold f_X11_tryPlan
  have l0 : (0 : Int32).toInt = 0 := rfl
  have l1 : (1 : Int32).toInt = 1 := rfl
  have k0 := kc.refl μ
  refine gw_gRa 15 ((h.of k0).1.c (r := 1) rfl) ((h.of k0).1.r (by decide)) ?_
  refine gw_gI ((h.of k0).1.c (r := 15) rfl) (fun v1 ev1 => ?_)
  refine gw_loop (fun s2 => kc μ s2.2.2 ∧ (0 ≤ s2.2.1.toInt ∧ s2.2.1.toInt ≤ 8)) (fun s2 => (8 - s2.2.1.toInt)) (fun s2 ⟨k3, u4⟩ => ?_) 5000 (v1, (0 : Int32), μ) ⟨k0, (by show 0 ≤ (0 : Int32).toInt ∧ (0 : Int32).toInt ≤ 8; omega)⟩ (by show (8 - (0 : Int32).toInt) < ((5000 : Nat) : Int); omega) (by show 0 ≤ (8 - (0 : Int32).toInt); omega)
  refine gw_gRa 15 ((h.of k3).1.c (r := 1) rfl) ((h.of k3).1.r (by decide)) ?_
  refine gw_gRa 25 ((h.of k3).1.c (r := 15) rfl) ((h.of k3).1.r (by decide)) ?_
  refine gw_gI ((h.of k3).1.c (r := 25) rfl) (fun v5 ev5 => ?_)
  have bv5 := (h.of k3).n25
  have dv5 : v5.toInt = (s2.2.2.2.1 25 2).toInt := by rw [ev5]
  have yv5 : v5.toInt = (μ.2.1 25 2).toInt := by rw [dv5, k3.row (by decide)]
  refine gw_le (fun h21_6 => ?_) (fun h21_6 => ?_)
  ·
    exact gw_some (gs_inr (gq_V k3))
  ·
    refine gw_gRa 15 ((h.of k3).1.c (r := 1) rfl) ((h.of k3).1.r (by decide)) ?_
    refine gw_gRa 25 ((h.of k3).1.c (r := 15) rfl) ((h.of k3).1.r (by decide)) ?_
    refine gw_if ((h.of k3).1.t (r := 25) rfl) ?_
    refine gw_bI (s_X7_cell_25 (h.of k3) ) (fun x7 m7 z7 => ?_)
    replace z7 := z7.symm
    subst z7
    refine gw_j (fun s8 => kc μ s8.2) (fun s8 k10 => ?_) (fun j9 hj9 => ?_)
    ·
      have n11 : (s2.2.1 + (1 : Int32)).toInt = s2.2.1.toInt + (1 : Int32).toInt := gx_add (by omega) (by omega)
      exact gw_some (gs_inl ⟨k10, (by show 0 ≤ (s2.2.1 + (1 : Int32)).toInt ∧ (s2.2.1 + (1 : Int32)).toInt ≤ 8; omega)⟩ (by show (8 - (s2.2.1 + (1 : Int32)).toInt) < (8 - s2.2.1.toInt); omega) (by show 0 ≤ (8 - (s2.2.1 + (1 : Int32)).toInt); omega))
    ·
      refine gw_ne (fun h38_12 => ?_) (fun h38_12 => ?_)
      ·
        refine gw_gRa 15 ((h.of k3).1.c (r := 1) rfl) ((h.of k3).1.r (by decide)) ?_
        refine gw_gRa 25 ((h.of k3).1.c (r := 15) rfl) ((h.of k3).1.r (by decide)) ?_
        refine gw_if ((h.of k3).1.t (r := 25) rfl) ?_
        refine gw_bI (s_X7_cell_25 (h.of k3) ) (fun x13 m13 z13 => ?_)
        replace z13 := z13.symm
        subst z13
        refine gw_gRa 63 ((h.of k3).1.c (r := 1) rfl) ((h.of k3).1.r (by decide)) ?_
        refine gw_gI (ict.c (h.of k3).1 (Or.inr rfl)) (fun v14 ev14 => ?_)
        refine gw_ne (fun h74_15 => ?_) (fun h74_15 => ?_)
        ·
          exact hj9 _ k3
        ·
          refine gw_if ((h.of k3).1.t (r := 1) rfl) ?_
          refine gw_bV (s_X11_tryPlanRow (h.of k3) ) (fun m16 g16 => ?_)
          have kk16 := k3.trans g16
          exact hj9 _ kk16
      ·
        refine gw_gRa 63 ((h.of k3).1.c (r := 1) rfl) ((h.of k3).1.r (by decide)) ?_
        refine gw_if (ict.t (h.of k3).1 (Or.inr rfl)) ?_
        refine gw_bV (s_X2_passMinute (h.of k3) (Or.inr rfl)) (fun m17 g17 => ?_)
        have kk17 := k3.ch g17
        exact hj9 _ kk17
set_option maxHeartbeats 1000000 in
theorem sb_X11_arrange {R0 : Nat → Int32 → Int32 → Int32 → gm_M → Option (Option Value × gm_M)} (d : Nat) (hR : ∀ {m : gm_M} (h : CI m) {b1 b2 b3 : Int32}, 0 ≤ b1.toInt ∧ b1.toInt ≤ 5 → 5 - b1.toInt < d → gwV (R0 1 b1 b2 b3 m) (fun m1 => kc m m1)) {μ : gm_M} (h : CI μ) {a1 a2 a3 : Int32} (q0 : 0 ≤ a1.toInt ∧ a1.toInt ≤ 5) (q1 : 5 - a1.toInt < d + 1) : gwV (b_X11_arrange R0 1 a1 a2 a3 μ) (fun m => kc μ m) := by
  refine gwV_of ?_
  unfold b_X11_arrange
  have l0 : (0 : Int32).toInt = 0 := rfl
  have l1 : (1 : Int32).toInt = 1 := rfl
  have l5 : (5 : Int32).toInt = 5 := rfl
  have k0 := kc.refl μ
  refine gw_gRa 15 ((h.of k0).1.c (r := 1) rfl) ((h.of k0).1.r (by decide)) ?_
  refine gw_gI ((h.of k0).1.c (r := 15) rfl) (fun v1 ev1 => ?_)
  have bv1 := (h.of k0).n1
  have dv1 : v1.toInt = (μ.2.1 15 1).toInt := by rw [ev1]
  refine gw_ji ?_
  refine gw_le (fun h8_2 => ?_) (fun h8_2 => ?_)
  ·
    refine gw_gI ((h.of k0).1.c (r := 1) rfl) (fun v3 ev3 => ?_)
    refine gw_le (fun h21_4 => ?_) (fun h21_4 => ?_)
    ·
      exact gw_some (gq_V k0)
    ·
      refine gw_pI ((h.of k0).1.c (r := 1) rfl) (fun m5 em5 => ?_)
      have km5 := k0.w1 em5
      refine gw_gRa 6 ((h.of km5).1.c (r := 1) rfl) ((h.of km5).1.r (by decide)) ?_
      refine gw_gRa 7 ((h.of km5).1.c (r := 1) rfl) ((h.of km5).1.r (by decide)) ?_
      refine gx_cp (by decide) ((h.of km5).1.t (r := 6) rfl) ((h.of km5).1.t (r := 7) rfl) ((h.of km5).1.l (r := 6) rfl) ((h.of km5).1.l (r := 7) rfl) (by omega) (by omega) (by omega) (by omega) (by omega) (fun m6 e1m6 e2m6 e3m6 e4m6 => ?_)
      have km6 := km5.cp e1m6 e2m6 e3m6 (by decide)
      exact gw_some (gq_V km6)
  ·
    refine gw_lt (fun h13_7 => ?_) (fun h13_7 => ?_)
    ·
      refine gw_loop (fun s8 => kc μ s8.2 ∧ (0 ≤ s8.1.toInt ∧ s8.1.toInt ≤ 5)) (fun s8 => (5 - s8.1.toInt)) (fun s8 ⟨k9, u10⟩ => ?_) 5000 ((0 : Int32), μ) ⟨k0, (by show 0 ≤ (0 : Int32).toInt ∧ (0 : Int32).toInt ≤ 5; omega)⟩ (by show (5 - (0 : Int32).toInt) < ((5000 : Nat) : Int); omega) (by show 0 ≤ (5 - (0 : Int32).toInt); omega)
      refine gw_gRa 15 ((h.of k9).1.c (r := 1) rfl) ((h.of k9).1.r (by decide)) ?_
      refine gw_gI ((h.of k9).1.c (r := 15) rfl) (fun v11 ev11 => ?_)
      have bv11 := (h.of k9).n1
      have dv11 : v11.toInt = (s8.2.2.1 15 1).toInt := by rw [ev11]
      have yv11 : v11.toInt = (μ.2.1 15 1).toInt := by rw [dv11, k9.row (by decide)]
      refine gw_le (fun h56_12 => ?_) (fun h56_12 => ?_)
      ·
        exact gw_some (gs_inr (gq_V k9))
      ·
        refine gw_j (fun s13 => kc μ s13) (fun s13 k15 => ?_) (fun j14 hj14 => ?_)
        ·
          have n16 : (s8.1 + (1 : Int32)).toInt = s8.1.toInt + (1 : Int32).toInt := gx_add (by omega) (by omega)
          exact gw_some (gs_inl ⟨k15, (by show 0 ≤ (s8.1 + (1 : Int32)).toInt ∧ (s8.1 + (1 : Int32)).toInt ≤ 5; omega)⟩ (by show (5 - (s8.1 + (1 : Int32)).toInt) < (5 - s8.1.toInt); omega) (by show 0 ≤ (5 - (s8.1 + (1 : Int32)).toInt); omega))
        ·
          refine gw_eq (fun h65_17 => ?_) (fun h65_17 => ?_)
          ·
            refine gw_gRa 6 ((h.of k9).1.c (r := 1) rfl) ((h.of k9).1.r (by decide)) ?_
            refine gw_sI (i := a1) ((h.of k9).1.t (r := 6) rfl) ((h.of k9).1.l (r := 6) rfl) (by omega) (by omega) (fun m18 em18 => ?_)
            have km18 := k9.wr em18 (by decide)
            refine gw_gRa 5 ((h.of km18).1.c (r := 1) rfl) ((h.of km18).1.r (by decide)) ?_
            have n19 : (s8.1 * (5 : Int32)).toInt = 5 * s8.1.toInt := gx_mulr 5 rfl (by omega) (by omega)
            have n20 : ((s8.1 * (5 : Int32)) + a1).toInt = (s8.1 * (5 : Int32)).toInt + a1.toInt := gx_add (by omega) (by omega)
            refine gw_aI (i := ((s8.1 * (5 : Int32)) + a1)) ((h.of km18).1.t (r := 5) rfl) ((h.of km18).1.l (r := 5) rfl) (by omega) (by omega) (fun v21 ev21 => ?_)
            refine gw_if ((h.of km18).1.t (r := 1) rfl) ?_
            have n22 : (a1 + (1 : Int32)).toInt = a1.toInt + (1 : Int32).toInt := gx_add (by omega) (by omega)
            refine gw_bV (hR (h.of km18) (by omega) (by omega)) (fun m23 g23 => ?_)
            have kk23 := km18.trans g23
            exact hj14 _ kk23
          ·
            exact hj14 _ k9
    ·
      refine gw_gI ((h.of k0).1.c (r := 1) rfl) (fun v24 ev24 => ?_)
      refine gw_le (fun h21_25 => ?_) (fun h21_25 => ?_)
      ·
        exact gw_some (gq_V k0)
      ·
        refine gw_pI ((h.of k0).1.c (r := 1) rfl) (fun m26 em26 => ?_)
        have km26 := k0.w1 em26
        refine gw_gRa 6 ((h.of km26).1.c (r := 1) rfl) ((h.of km26).1.r (by decide)) ?_
        refine gw_gRa 7 ((h.of km26).1.c (r := 1) rfl) ((h.of km26).1.r (by decide)) ?_
        refine gx_cp (by decide) ((h.of km26).1.t (r := 6) rfl) ((h.of km26).1.t (r := 7) rfl) ((h.of km26).1.l (r := 6) rfl) ((h.of km26).1.l (r := 7) rfl) (by omega) (by omega) (by omega) (by omega) (by omega) (fun m27 e1m27 e2m27 e3m27 e4m27 => ?_)
        have km27 := km26.cp e1m27 e2m27 e3m27 (by decide)
        exact gw_some (gq_V km27)
theorem sr_X11_arrange : ∀ (d : Nat) {m : gm_M} (h : CI m) {b1 b2 b3 : Int32}, 0 ≤ b1.toInt ∧ b1.toInt ≤ 5 → 5 - b1.toInt < d → gwV (r_X11_arrange d 1 b1 b2 b3 m) (fun m1 => kc m m1)
  | 0, m, h, b1, b2, b3, q0, q1 => by omega
  | d + 1, m, h, b1, b2, b3, q0, q1 => sb_X11_arrange d (fun h => sr_X11_arrange d h) h q0 (by omega)
theorem s_X11_arrange {μ : gm_M} (h : CI μ) {a1 a2 a3 : Int32} (q0 : 0 ≤ a1.toInt ∧ a1.toInt ≤ 5) : gwV (f_X11_arrange 1 a1 a2 a3 μ) (fun m => kc μ m) := sr_X11_arrange 64 h q0 (by omega)
set_option maxHeartbeats 1000000 in
theorem s_X11_of {μ : gm_M} (h : CI μ) {a1 : Int32} {a2 : Int32}  : gwI (f_X11_of 1 a1 a2 μ) (fun x m => kc μ m) := by
  refine gwI_of ?_
  unfold f_X11_of
  have lm1 : (-1 : Int32).toInt = -1 := rfl
  have l0 : (0 : Int32).toInt = 0 := rfl
  have l1 : (1 : Int32).toInt = 1 := rfl
  have l2 : (2 : Int32).toInt = 2 := rfl
  have l3 : (3 : Int32).toInt = 3 := rfl
  have l4 : (4 : Int32).toInt = 4 := rfl
  have l5 : (5 : Int32).toInt = 5 := rfl
  have l6 : (6 : Int32).toInt = 6 := rfl
  have l7 : (7 : Int32).toInt = 7 := rfl
  have l8 : (8 : Int32).toInt = 8 := rfl
  have l9 : (9 : Int32).toInt = 9 := rfl
  have l10 : (10 : Int32).toInt = 10 := rfl
  have k0 := kc.refl μ
  refine gw_if ((h.of k0).1.t (r := 1) rfl) ?_
  refine gw_bI (s_X11_isNobody (h.of k0) ) (fun x1 m1 ⟨z1, f1⟩ => ?_)
  replace z1 := z1.symm
  subst z1
  refine gw_eq (fun h5_2 => ?_) (fun h5_2 => ?_)
  ·
    refine gw_gRa 15 ((h.of k0).1.c (r := 1) rfl) ((h.of k0).1.r (by decide)) ?_
    refine gw_gRa 16 ((h.of k0).1.c (r := 15) rfl) ((h.of k0).1.r (by decide)) ?_
    refine gw_aR (i := a1) ((h.of k0).1.t (r := 16) rfl) ((h.of k0).1.l (r := 16) rfl) (by omega) (by omega) (fun v3 ev3 => ?_)
    have cv3 : isch v3 := by rw [ev3]; exact isch.of (h.of k0).1 (by omega) (by omega)
    refine gw_eq (fun h21_4 => ?_) (fun h21_4 => ?_)
    ·
      refine gw_gR (ict.c (h.of k0).1 (Or.inl cv3)) (fun v5 ev5 => ?_)
      have cv5 : kid v5 := by rw [ev5]; exact (h.of k0).kd (Or.inl cv3)
      refine gw_gI (kid.c (h.of k0).1 cv5) (fun v6 ev6 => ?_)
      exact gw_some (gq_I k0)
    ·
      refine gw_eq (fun h21_7 => ?_) (fun h21_7 => ?_)
      ·
        refine gw_gI (ict.c (h.of k0).1 (Or.inl cv3)) (fun v8 ev8 => ?_)
        exact gw_some (gq_I k0)
      ·
        refine gw_eq (fun h21_9 => ?_) (fun h21_9 => ?_)
        ·
          refine gw_gI (ict.c (h.of k0).1 (Or.inl cv3)) (fun v10 ev10 => ?_)
          exact gw_some (gq_I k0)
        ·
          refine gw_eq (fun h21_11 => ?_) (fun h21_11 => ?_)
          ·
            refine gw_gI (ict.c (h.of k0).1 (Or.inl cv3)) (fun v12 ev12 => ?_)
            exact gw_some (gq_I k0)
          ·
            refine gw_eq (fun h21_13 => ?_) (fun h21_13 => ?_)
            ·
              refine gw_gI (ict.c (h.of k0).1 (Or.inl cv3)) (fun v14 ev14 => ?_)
              exact gw_some (gq_I k0)
            ·
              refine gw_eq (fun h21_15 => ?_) (fun h21_15 => ?_)
              ·
                refine gw_gI (ict.c (h.of k0).1 (Or.inl cv3)) (fun v16 ev16 => ?_)
                exact gw_some (gq_I k0)
              ·
                refine gw_eq (fun h21_17 => ?_) (fun h21_17 => ?_)
                ·
                  refine gw_gI (ict.c (h.of k0).1 (Or.inl cv3)) (fun v18 ev18 => ?_)
                  exact gw_some (gq_I k0)
                ·
                  refine gw_eq (fun h21_19 => ?_) (fun h21_19 => ?_)
                  ·
                    refine gw_gRa 15 ((h.of k0).1.c (r := 1) rfl) ((h.of k0).1.r (by decide)) ?_
                    refine gw_gR ((h.of k0).1.c (r := 15) rfl) (fun v20 ev20 => ?_)
                    have cv20 : AfW μ v20 := by rw [ev20]; exact (h.of k0).af
                    refine gw_gRa 15 ((h.of k0).1.c (r := 1) rfl) ((h.of k0).1.r (by decide)) ?_
                    refine gw_gI ((h.of k0).1.c (r := 15) rfl) (fun v21 ev21 => ?_)
                    refine gw_if (cv20.t) ?_
                    refine gw_bI (s_X0_stretchOf (h.of k0) cv20 (Or.inl cv3)) (fun x22 m22 z22 => ?_)
                    replace z22 := z22.symm
                    subst z22
                    exact gw_some (gq_I k0)
                  ·
                    refine gw_eq (fun h21_23 => ?_) (fun h21_23 => ?_)
                    ·
                      refine gw_gR (ict.c (h.of k0).1 (Or.inl cv3)) (fun v24 ev24 => ?_)
                      have cv24 : kid v24 := by rw [ev24]; exact (h.of k0).kd (Or.inl cv3)
                      refine gw_gRa 15 ((h.of k0).1.c (r := 1) rfl) ((h.of k0).1.r (by decide)) ?_
                      refine gw_gI ((h.of k0).1.c (r := 15) rfl) (fun v25 ev25 => ?_)
                      refine gw_bI (s_fv_sugarChewed (h.of k0) cv24 (Or.inl cv3)) (fun x26 m26 z26 => ?_)
                      replace z26 := z26.symm
                      subst z26
                      exact gw_some (gq_I k0)
                    ·
                      refine gw_eq (fun h21_27 => ?_) (fun h21_27 => ?_)
                      ·
                        refine gw_gR (ict.c (h.of k0).1 (Or.inl cv3)) (fun v28 ev28 => ?_)
                        have cv28 : kid v28 := by rw [ev28]; exact (h.of k0).kd (Or.inl cv3)
                        refine gw_bI (s_fv_jawTired (h.of k0) cv28 (Or.inl cv3)) (fun x29 m29 z29 => ?_)
                        replace z29 := z29.symm
                        subst z29
                        exact gw_some (gq_I k0)
                      ·
                        refine gw_eq (fun h21_30 => ?_) (fun h21_30 => ?_)
                        ·
                          refine gw_if ((h.of k0).1.t (r := 1) rfl) ?_
                          refine gw_bI (s_X11_holdsNow (h.of k0) (by omega)) (fun x31 m31 z31 => ?_)
                          replace z31 := z31.symm
                          subst z31
                          exact gw_some (gq_I k0)
                        ·
                          exact gw_some (gq_I k0)
  ·
    exact gw_some (gq_I k0)
set_option maxHeartbeats 1000000 in
theorem s_X11_told {μ : gm_M} (h : CI μ) {a1 : Int32}  : gwI (f_X11_told 1 a1 μ) (fun x m => kc μ m) := by
  refine gwI_of ?_
  unfold f_X11_told
  have lm1 : (-1 : Int32).toInt = -1 := rfl
  have l0 : (0 : Int32).toInt = 0 := rfl
  have l1 : (1 : Int32).toInt = 1 := rfl
  have l2 : (2 : Int32).toInt = 2 := rfl
  have l3 : (3 : Int32).toInt = 3 := rfl
  have l4 : (4 : Int32).toInt = 4 := rfl
  have k0 := kc.refl μ
  refine gw_eq (fun h1_1 => ?_) (fun h1_1 => ?_)
  ·
    refine gw_gRa 15 ((h.of k0).1.c (r := 1) rfl) ((h.of k0).1.r (by decide)) ?_
    refine gw_gI ((h.of k0).1.c (r := 15) rfl) (fun v2 ev2 => ?_)
    exact gw_some (gq_I k0)
  ·
    refine gw_eq (fun h1_3 => ?_) (fun h1_3 => ?_)
    ·
      refine gw_gRa 15 ((h.of k0).1.c (r := 1) rfl) ((h.of k0).1.r (by decide)) ?_
      refine gw_gR ((h.of k0).1.c (r := 15) rfl) (fun v4 ev4 => ?_)
      have cv4 : AfW μ v4 := by rw [ev4]; exact (h.of k0).af
      refine gw_gI (cv4.tc) (fun v5 ev5 => ?_)
      exact gw_some (gq_I k0)
    ·
      refine gw_eq (fun h1_6 => ?_) (fun h1_6 => ?_)
      ·
        refine gw_gRa 15 ((h.of k0).1.c (r := 1) rfl) ((h.of k0).1.r (by decide)) ?_
        refine gw_gR ((h.of k0).1.c (r := 15) rfl) (fun v7 ev7 => ?_)
        have cv7 : AfW μ v7 := by rw [ev7]; exact (h.of k0).af
        refine gw_gI (cv7.tc) (fun v8 ev8 => ?_)
        exact gw_some (gq_I k0)
      ·
        refine gw_eq (fun h1_9 => ?_) (fun h1_9 => ?_)
        ·
          refine gw_if ((h.of k0).1.t (r := 1) rfl) ?_
          refine gw_bI (s_X11_sumBehind (h.of k0) (by omega)) (fun x10 m10 g10 => ?_)
          have kk10 := k0.trans g10
          exact gw_some (gq_I kk10)
        ·
          refine gw_eq (fun h1_11 => ?_) (fun h1_11 => ?_)
          ·
            refine gw_if ((h.of k0).1.t (r := 1) rfl) ?_
            refine gw_bI (s_X11_bubbleBits (h.of k0) ) (fun x12 m12 z12 => ?_)
            replace z12 := z12.symm
            subst z12
            exact gw_some (gq_I k0)
          ·
            exact gw_some (gq_I k0)
set_option maxHeartbeats 1000000 in
theorem s_X11_on {μ : gm_M} (h : CI μ) {a1 : Int32} {a2 : Int32}  : gwI (f_X11_on 1 a1 a2 μ) (fun x m => kc μ m) := by
  refine gwI_of ?_
  unfold f_X11_on
  have lm2 : (-2 : Int32).toInt = -2 := rfl
  have lm1 : (-1 : Int32).toInt = -1 := rfl
  have l0 : (0 : Int32).toInt = 0 := rfl
  have l10 : (10 : Int32).toInt = 10 := rfl
  have l20 : (20 : Int32).toInt = 20 := rfl
  have l60 : (60 : Int32).toInt = 60 := rfl
  have k0 := kc.refl μ
  refine gw_ji ?_
  refine gw_lt (fun h3_1 => ?_) (fun h3_1 => ?_)
  ·
    refine gw_ji ?_
    refine gw_eq (fun h19_2 => ?_) (fun h19_2 => ?_)
    ·
      refine gw_bI (s_X11_isOutside ) (fun x3 m3 ⟨z3, f3⟩ => ?_)
      replace z3 := z3.symm
      subst z3
      refine gw_eq (fun h39_4 => ?_) (fun h39_4 => ?_)
      ·
        refine gw_ne (fun h46_5 => ?_) (fun h46_5 => ?_)
        ·
          refine gw_if ((h.of k0).1.t (r := 1) rfl) ?_
          have n6 := gx_subw a2 (10 : Int32)
          have n6a := gx_lo a2
          have n6b := gx_hi a2
          have n6c := gx_lo (a2 - (10 : Int32))
          have n6d := gx_hi (a2 - (10 : Int32))
          refine gw_bI (s_X11_holdsBehind (h.of k0) (by omega) (by omega)) (fun x7 m7 g7 => ?_)
          have kk7 := k0.trans g7
          refine gw_lt (fun h66_8 => ?_) (fun h66_8 => ?_)
          ·
            exact gw_some (gq_I kk7)
          ·
            refine gw_gRa 63 ((h.of kk7).1.c (r := 1) rfl) ((h.of kk7).1.r (by decide)) ?_
            refine gw_gI (ict.c (h.of kk7).1 (Or.inr rfl)) (fun v9 ev9 => ?_)
            exact gw_some (gq_I kk7)
        ·
          refine gw_if ((h.of k0).1.t (r := 1) rfl) ?_
          refine gw_bI (s_X11_sumBehind (h.of k0) (by omega)) (fun x10 m10 g10 => ?_)
          have kk10 := k0.trans g10
          exact gw_some (gq_I kk10)
      ·
        exact gw_some (gq_I k0)
    ·
      refine gw_if ((h.of k0).1.t (r := 1) rfl) ?_
      have n11 := gx_subw a2 (10 : Int32)
      have n11a := gx_lo a2
      have n11b := gx_hi a2
      have n11c := gx_lo (a2 - (10 : Int32))
      have n11d := gx_hi (a2 - (10 : Int32))
      refine gw_bI (s_X11_isNobody (h.of k0) ) (fun x12 m12 ⟨z12, f12⟩ => ?_)
      replace z12 := z12.symm
      subst z12
      refine gw_eq (fun h27_13 => ?_) (fun h27_13 => ?_)
      ·
        refine gw_bI (s_X11_isOutside ) (fun x14 m14 ⟨z14, f14⟩ => ?_)
        replace z14 := z14.symm
        subst z14
        refine gw_eq (fun h39_15 => ?_) (fun h39_15 => ?_)
        ·
          refine gw_ne (fun h46_16 => ?_) (fun h46_16 => ?_)
          ·
            refine gw_if ((h.of k0).1.t (r := 1) rfl) ?_
            have n17 := gx_subw a2 (10 : Int32)
            have n17a := gx_lo a2
            have n17b := gx_hi a2
            have n17c := gx_lo (a2 - (10 : Int32))
            have n17d := gx_hi (a2 - (10 : Int32))
            refine gw_bI (s_X11_holdsBehind (h.of k0) (by omega) (by omega)) (fun x18 m18 g18 => ?_)
            have kk18 := k0.trans g18
            refine gw_lt (fun h66_19 => ?_) (fun h66_19 => ?_)
            ·
              exact gw_some (gq_I kk18)
            ·
              refine gw_gRa 63 ((h.of kk18).1.c (r := 1) rfl) ((h.of kk18).1.r (by decide)) ?_
              refine gw_gI (ict.c (h.of kk18).1 (Or.inr rfl)) (fun v20 ev20 => ?_)
              exact gw_some (gq_I kk18)
          ·
            refine gw_if ((h.of k0).1.t (r := 1) rfl) ?_
            refine gw_bI (s_X11_sumBehind (h.of k0) (by omega)) (fun x21 m21 g21 => ?_)
            have kk21 := k0.trans g21
            exact gw_some (gq_I kk21)
        ·
          exact gw_some (gq_I k0)
      ·
        exact gw_some (gq_I k0)
  ·
    refine gw_ji ?_
    refine gw_eq (fun h19_22 => ?_) (fun h19_22 => ?_)
    ·
      refine gw_bI (s_X11_isOutside ) (fun x23 m23 ⟨z23, f23⟩ => ?_)
      replace z23 := z23.symm
      subst z23
      refine gw_eq (fun h39_24 => ?_) (fun h39_24 => ?_)
      ·
        refine gw_ne (fun h46_25 => ?_) (fun h46_25 => ?_)
        ·
          refine gw_if ((h.of k0).1.t (r := 1) rfl) ?_
          have n26 := gx_subw a2 (20 : Int32)
          have n26a := gx_lo a2
          have n26b := gx_hi a2
          have n26c := gx_lo (a2 - (20 : Int32))
          have n26d := gx_hi (a2 - (20 : Int32))
          refine gw_bI (s_X11_holdsBehind (h.of k0) (by omega) (by omega)) (fun x27 m27 g27 => ?_)
          have kk27 := k0.trans g27
          refine gw_lt (fun h66_28 => ?_) (fun h66_28 => ?_)
          ·
            exact gw_some (gq_I kk27)
          ·
            refine gw_gRa 63 ((h.of kk27).1.c (r := 1) rfl) ((h.of kk27).1.r (by decide)) ?_
            refine gw_gI (ict.c (h.of kk27).1 (Or.inr rfl)) (fun v29 ev29 => ?_)
            exact gw_some (gq_I kk27)
        ·
          refine gw_if ((h.of k0).1.t (r := 1) rfl) ?_
          refine gw_bI (s_X11_sumBehind (h.of k0) (by omega)) (fun x30 m30 g30 => ?_)
          have kk30 := k0.trans g30
          exact gw_some (gq_I kk30)
      ·
        exact gw_some (gq_I k0)
    ·
      refine gw_if ((h.of k0).1.t (r := 1) rfl) ?_
      have n31 := gx_subw a2 (20 : Int32)
      have n31a := gx_lo a2
      have n31b := gx_hi a2
      have n31c := gx_lo (a2 - (20 : Int32))
      have n31d := gx_hi (a2 - (20 : Int32))
      refine gw_bI (s_X11_isNobody (h.of k0) ) (fun x32 m32 ⟨z32, f32⟩ => ?_)
      replace z32 := z32.symm
      subst z32
      refine gw_eq (fun h27_33 => ?_) (fun h27_33 => ?_)
      ·
        refine gw_bI (s_X11_isOutside ) (fun x34 m34 ⟨z34, f34⟩ => ?_)
        replace z34 := z34.symm
        subst z34
        refine gw_eq (fun h39_35 => ?_) (fun h39_35 => ?_)
        ·
          refine gw_ne (fun h46_36 => ?_) (fun h46_36 => ?_)
          ·
            refine gw_if ((h.of k0).1.t (r := 1) rfl) ?_
            have n37 := gx_subw a2 (20 : Int32)
            have n37a := gx_lo a2
            have n37b := gx_hi a2
            have n37c := gx_lo (a2 - (20 : Int32))
            have n37d := gx_hi (a2 - (20 : Int32))
            refine gw_bI (s_X11_holdsBehind (h.of k0) (by omega) (by omega)) (fun x38 m38 g38 => ?_)
            have kk38 := k0.trans g38
            refine gw_lt (fun h66_39 => ?_) (fun h66_39 => ?_)
            ·
              exact gw_some (gq_I kk38)
            ·
              refine gw_gRa 63 ((h.of kk38).1.c (r := 1) rfl) ((h.of kk38).1.r (by decide)) ?_
              refine gw_gI (ict.c (h.of kk38).1 (Or.inr rfl)) (fun v40 ev40 => ?_)
              exact gw_some (gq_I kk38)
          ·
            refine gw_if ((h.of k0).1.t (r := 1) rfl) ?_
            refine gw_bI (s_X11_sumBehind (h.of k0) (by omega)) (fun x41 m41 g41 => ?_)
            have kk41 := k0.trans g41
            exact gw_some (gq_I kk41)
        ·
          exact gw_some (gq_I k0)
      ·
        exact gw_some (gq_I k0)
set_option maxHeartbeats 1000000 in
theorem s_X11_when {μ : gm_M} (h : CI μ) {a1 : Int32} {a2 : Int32}  : gwI (f_X11_when 1 a1 a2 μ) (fun x m => kc μ m) := by
  refine gwI_of ?_
  unfold f_X11_when
  have lm1 : (-1 : Int32).toInt = -1 := rfl
  have l0 : (0 : Int32).toInt = 0 := rfl
  have l1 : (1 : Int32).toInt = 1 := rfl
  have k0 := kc.refl μ
  refine gw_if ((h.of k0).1.t (r := 1) rfl) ?_
  refine gw_bI (s_X11_isNobody (h.of k0) ) (fun x1 m1 ⟨z1, f1⟩ => ?_)
  replace z1 := z1.symm
  subst z1
  refine gw_ne (fun h5_2 => ?_) (fun h5_2 => ?_)
  ·
    exact gw_some (gq_I k0)
  ·
    refine gw_bI (s_X11_isOutside ) (fun x3 m3 ⟨z3, f3⟩ => ?_)
    replace z3 := z3.symm
    subst z3
    refine gw_eq (fun h14_4 => ?_) (fun h14_4 => ?_)
    ·
      refine gw_gRa 63 ((h.of k0).1.c (r := 1) rfl) ((h.of k0).1.r (by decide)) ?_
      refine gw_gRa 15 ((h.of k0).1.c (r := 1) rfl) ((h.of k0).1.r (by decide)) ?_
      refine gw_gRa 16 ((h.of k0).1.c (r := 15) rfl) ((h.of k0).1.r (by decide)) ?_
      refine gw_aR (i := a1) ((h.of k0).1.t (r := 16) rfl) ((h.of k0).1.l (r := 16) rfl) (by omega) (by omega) (fun v5 ev5 => ?_)
      have cv5 : isch v5 := by rw [ev5]; exact isch.of (h.of k0).1 (by omega) (by omega)
      refine gw_if (ict.t (h.of k0).1 (Or.inr rfl)) ?_
      refine gw_bV (s_X2_copy_63 (h.of k0) cv5) (fun m6 g6 => ?_)
      have kk6 := k0.trans g6
      refine gw_if ((h.of kk6).1.t (r := 1) rfl) ?_
      refine gw_bI (s_X11_trialWhen (h.of kk6) ) (fun x7 m7 g7 => ?_)
      have kk7 := kk6.trans g7
      exact gw_some (gq_I kk7)
    ·
      exact gw_some (gq_I k0)
set_option maxHeartbeats 1000000 in
theorem s_X11_soon {μ : gm_M} (h : CI μ) {a1 : Int32} {a2 : Int32}  : gwI (f_X11_soon 1 a1 a2 μ) (fun x m => kc μ m) := by
  refine gwI_of ?_
  unfold f_X11_soon
  have lm5 : (-5 : Int32).toInt = -5 := rfl
  have lm2 : (-2 : Int32).toInt = -2 := rfl
  have lm1 : (-1 : Int32).toInt = -1 := rfl
  have l0 : (0 : Int32).toInt = 0 := rfl
  have l1 : (1 : Int32).toInt = 1 := rfl
  have l60 : (60 : Int32).toInt = 60 := rfl
  have l999 : (999 : Int32).toInt = 999 := rfl
  have k0 := kc.refl μ
  refine gw_if ((h.of k0).1.t (r := 1) rfl) ?_
  refine gw_bI (s_X11_isNobody (h.of k0) ) (fun x1 m1 ⟨z1, f1⟩ => ?_)
  replace z1 := z1.symm
  subst z1
  refine gw_eq (fun h5_2 => ?_) (fun h5_2 => ?_)
  ·
    refine gw_bI (s_X11_isOutside ) (fun x3 m3 ⟨z3, f3⟩ => ?_)
    replace z3 := z3.symm
    subst z3
    refine gw_eq (fun h18_4 => ?_) (fun h18_4 => ?_)
    ·
      refine gw_gRa 63 ((h.of k0).1.c (r := 1) rfl) ((h.of k0).1.r (by decide)) ?_
      refine gw_gRa 15 ((h.of k0).1.c (r := 1) rfl) ((h.of k0).1.r (by decide)) ?_
      refine gw_gRa 16 ((h.of k0).1.c (r := 15) rfl) ((h.of k0).1.r (by decide)) ?_
      refine gw_aR (i := a1) ((h.of k0).1.t (r := 16) rfl) ((h.of k0).1.l (r := 16) rfl) (by omega) (by omega) (fun v5 ev5 => ?_)
      have cv5 : isch v5 := by rw [ev5]; exact isch.of (h.of k0).1 (by omega) (by omega)
      refine gw_if (ict.t (h.of k0).1 (Or.inr rfl)) ?_
      refine gw_bV (s_X2_copy_63 (h.of k0) cv5) (fun m6 g6 => ?_)
      have kk6 := k0.trans g6
      refine gw_loop (fun s7 => kc μ s7.2 ∧ (0 ≤ s7.1.toInt ∧ s7.1.toInt ≤ 61)) (fun s7 => (61 - s7.1.toInt)) (fun s7 ⟨k8, u9⟩ => ?_) 5000 ((0 : Int32), m6) ⟨kk6, (by show 0 ≤ (0 : Int32).toInt ∧ (0 : Int32).toInt ≤ 61; omega)⟩ (by show (61 - (0 : Int32).toInt) < ((5000 : Nat) : Int); omega) (by show 0 ≤ (61 - (0 : Int32).toInt); omega)
      refine gw_lt (fun h45_10 => ?_) (fun h45_10 => ?_)
      ·
        exact gw_some (gs_inr (gq_I k8))
      ·
        refine gw_gRa 63 ((h.of k8).1.c (r := 1) rfl) ((h.of k8).1.r (by decide)) ?_
        refine gw_gRa 15 ((h.of k8).1.c (r := 1) rfl) ((h.of k8).1.r (by decide)) ?_
        refine gw_gR ((h.of k8).1.c (r := 15) rfl) (fun v11 ev11 => ?_)
        have cv11 : AfW s7.2 v11 := by rw [ev11]; exact (h.of k8).af
        refine gw_gRa 15 ((h.of k8).1.c (r := 1) rfl) ((h.of k8).1.r (by decide)) ?_
        refine gw_gI ((h.of k8).1.c (r := 15) rfl) (fun v12 ev12 => ?_)
        refine gw_if (ict.t (h.of k8).1 (Or.inr rfl)) ?_
        refine gw_bI (s_X2_holds (h.of k8) (Or.inr rfl) cv11) (fun x13 m13 z13 => ?_)
        replace z13 := z13.symm
        subst z13
        refine gw_lt (fun h72_14 => ?_) (fun h72_14 => ?_)
        ·
          refine gw_gRa 63 ((h.of k8).1.c (r := 1) rfl) ((h.of k8).1.r (by decide)) ?_
          refine gw_gRa 15 ((h.of k8).1.c (r := 1) rfl) ((h.of k8).1.r (by decide)) ?_
          refine gw_gI ((h.of k8).1.c (r := 15) rfl) (fun v15 ev15 => ?_)
          refine gw_if (ict.t (h.of k8).1 (Or.inr rfl)) ?_
          refine gw_bV (s_X2_passMinute (h.of k8) (Or.inr rfl)) (fun m16 g16 => ?_)
          have kk16 := k8.ch g16
          have n17 : (s7.1 + (1 : Int32)).toInt = s7.1.toInt + (1 : Int32).toInt := gx_add (by omega) (by omega)
          exact gw_some (gs_inl ⟨kk16, (by show 0 ≤ (s7.1 + (1 : Int32)).toInt ∧ (s7.1 + (1 : Int32)).toInt ≤ 61; omega)⟩ (by show (61 - (s7.1 + (1 : Int32)).toInt) < (61 - s7.1.toInt); omega) (by show 0 ≤ (61 - (s7.1 + (1 : Int32)).toInt); omega))
        ·
          exact gw_some (gs_inr (gq_I k8))
    ·
      exact gw_some (gq_I k0)
  ·
    exact gw_some (gq_I k0)
set_option maxHeartbeats 1000000 in
theorem s_X11_pieces {μ : gm_M} (h : CI μ) {a1 : Int32} {a2 : Int32}  : gwI (f_X11_pieces 1 a1 a2 μ) (fun x m => kc μ m) := by
  refine gwI_of ?_
  unfold f_X11_pieces
  have lm1 : (-1 : Int32).toInt = -1 := rfl
  have l0 : (0 : Int32).toInt = 0 := rfl
  have l1 : (1 : Int32).toInt = 1 := rfl
  have l6 : (6 : Int32).toInt = 6 := rfl
  have k0 := kc.refl μ
  refine gw_if ((h.of k0).1.t (r := 1) rfl) ?_
  refine gw_bI (s_X11_isNobody (h.of k0) ) (fun x1 m1 ⟨z1, f1⟩ => ?_)
  replace z1 := z1.symm
  subst z1
  refine gw_ne (fun h5_2 => ?_) (fun h5_2 => ?_)
  ·
    exact gw_some (gq_I k0)
  ·
    refine gw_bI (s_X11_isOutside ) (fun x3 m3 ⟨z3, f3⟩ => ?_)
    replace z3 := z3.symm
    subst z3
    refine gw_eq (fun h14_4 => ?_) (fun h14_4 => ?_)
    ·
      refine gw_loop (fun s5 => kc μ s5.2.2.2 ∧ (0 ≤ s5.2.2.1.toInt ∧ s5.2.2.1.toInt ≤ 7)) (fun s5 => (7 - s5.2.2.1.toInt)) (fun s5 ⟨k6, u7⟩ => ?_) 5000 ((-1 : Int32), (0 : Int32), (0 : Int32), μ) ⟨k0, (by show 0 ≤ (0 : Int32).toInt ∧ (0 : Int32).toInt ≤ 7; omega)⟩ (by show (7 - (0 : Int32).toInt) < ((5000 : Nat) : Int); omega) (by show 0 ≤ (7 - (0 : Int32).toInt); omega)
      refine gw_lt (fun h31_8 => ?_) (fun h31_8 => ?_)
      ·
        refine gw_ne (fun h114_9 => ?_) (fun h114_9 => ?_)
        ·
          exact gw_some (gs_inr (gq_I k6))
        ·
          exact gw_some (gs_inr (gq_I k6))
      ·
        refine gw_gRa 63 ((h.of k6).1.c (r := 1) rfl) ((h.of k6).1.r (by decide)) ?_
        refine gw_gRa 15 ((h.of k6).1.c (r := 1) rfl) ((h.of k6).1.r (by decide)) ?_
        refine gw_gRa 16 ((h.of k6).1.c (r := 15) rfl) ((h.of k6).1.r (by decide)) ?_
        refine gw_aR (i := a1) ((h.of k6).1.t (r := 16) rfl) ((h.of k6).1.l (r := 16) rfl) (by omega) (by omega) (fun v10 ev10 => ?_)
        have cv10 : isch v10 := by rw [ev10]; exact isch.of (h.of k6).1 (by omega) (by omega)
        refine gw_if (ict.t (h.of k6).1 (Or.inr rfl)) ?_
        refine gw_bV (s_X2_copy_63 (h.of k6) cv10) (fun m11 g11 => ?_)
        have kk11 := k6.trans g11
        refine gw_gRa 63 ((h.of kk11).1.c (r := 1) rfl) ((h.of kk11).1.r (by decide)) ?_
        refine gw_pI (ict.c (h.of kk11).1 (Or.inr rfl)) (fun m12 em12 => ?_)
        have km12 := kk11.wr em12 (by decide)
        refine gw_gRa 63 ((h.of km12).1.c (r := 1) rfl) ((h.of km12).1.r (by decide)) ?_
        refine gw_gRa 15 ((h.of km12).1.c (r := 1) rfl) ((h.of km12).1.r (by decide)) ?_
        refine gw_gR ((h.of km12).1.c (r := 15) rfl) (fun v13 ev13 => ?_)
        have cv13 : AfW m12 v13 := by rw [ev13]; exact (h.of km12).af
        refine gw_gI (cv13.tc) (fun v14 ev14 => ?_)
        refine gw_pI (ict.c (h.of km12).1 (Or.inr rfl)) (fun m15 em15 => ?_)
        have km15 := km12.wr em15 (by decide)
        refine gw_gRa 63 ((h.of km15).1.c (r := 1) rfl) ((h.of km15).1.r (by decide)) ?_
        refine gw_pI (ict.c (h.of km15).1 (Or.inr rfl)) (fun m16 em16 => ?_)
        have km16 := km15.wr em16 (by decide)
        refine gw_if ((h.of km16).1.t (r := 1) rfl) ?_
        refine gw_bI (s_X11_trialWhen (h.of km16) ) (fun x17 m17 g17 => ?_)
        have kk17 := km16.trans g17
        refine gw_j (fun s18 => True) (fun s18 _ => ?_) (fun j19 hj19 => ?_)
        ·
          have n20 : (s5.2.2.1 + (1 : Int32)).toInt = s5.2.2.1.toInt + (1 : Int32).toInt := gx_add (by omega) (by omega)
          exact gw_some (gs_inl ⟨kk17, (by show 0 ≤ (s5.2.2.1 + (1 : Int32)).toInt ∧ (s5.2.2.1 + (1 : Int32)).toInt ≤ 7; omega)⟩ (by show (7 - (s5.2.2.1 + (1 : Int32)).toInt) < (7 - s5.2.2.1.toInt); omega) (by show 0 ≤ (7 - (s5.2.2.1 + (1 : Int32)).toInt); omega))
        ·
          refine gw_le (fun h97_21 => ?_) (fun h97_21 => ?_)
          ·
            exact hj19 _ trivial
          ·
            exact hj19 _ trivial
    ·
      exact gw_some (gq_I k0)
set_option maxHeartbeats 1000000 in
theorem s_X11_breaths {μ : gm_M} (h : CI μ) {a1 : Int32} {a2 : Int32}  : gwI (f_X11_breaths 1 a1 a2 μ) (fun x m => kc μ m) := by
  refine gwI_of ?_
  unfold f_X11_breaths
  have lm2 : (-2 : Int32).toInt = -2 := rfl
  have lm1 : (-1 : Int32).toInt = -1 := rfl
  have l0 : (0 : Int32).toInt = 0 := rfl
  have l1 : (1 : Int32).toInt = 1 := rfl
  have l99 : (99 : Int32).toInt = 99 := rfl
  have k0 := kc.refl μ
  refine gw_if ((h.of k0).1.t (r := 1) rfl) ?_
  refine gw_bI (s_X11_isNobody (h.of k0) ) (fun x1 m1 ⟨z1, f1⟩ => ?_)
  replace z1 := z1.symm
  subst z1
  refine gw_eq (fun h5_2 => ?_) (fun h5_2 => ?_)
  ·
    refine gw_bI (s_X11_isOutside ) (fun x3 m3 ⟨z3, f3⟩ => ?_)
    replace z3 := z3.symm
    subst z3
    refine gw_eq (fun h17_4 => ?_) (fun h17_4 => ?_)
    ·
      refine gw_if ((h.of k0).1.t (r := 1) rfl) ?_
      refine gw_bI (s_X11_holdsNow (h.of k0) (by omega)) (fun x5 m5 z5 => ?_)
      replace z5 := z5.symm
      subst z5
      refine gw_gRa 15 ((h.of k0).1.c (r := 1) rfl) ((h.of k0).1.r (by decide)) ?_
      refine gw_gRa 16 ((h.of k0).1.c (r := 15) rfl) ((h.of k0).1.r (by decide)) ?_
      refine gw_aR (i := a1) ((h.of k0).1.t (r := 16) rfl) ((h.of k0).1.l (r := 16) rfl) (by omega) (by omega) (fun v6 ev6 => ?_)
      have cv6 : isch v6 := by rw [ev6]; exact isch.of (h.of k0).1 (by omega) (by omega)
      refine gw_gI (ict.c (h.of k0).1 (Or.inl cv6)) (fun v7 ev7 => ?_)
      refine gw_dv (by omega) ?_
      exact gw_some (gq_I k0)
    ·
      exact gw_some (gq_I k0)
  ·
    exact gw_some (gq_I k0)
set_option maxHeartbeats 1000000 in
theorem s_X11_slack {μ : gm_M} (h : CI μ) {a1 : Int32}  : gwI (f_X11_slack 1 a1 μ) (fun x m => kc μ m) := by
  refine gwI_of ?_
  unfold f_X11_slack
  have lm10001 : (-10001 : Int32).toInt = -10001 := rfl
  have l0 : (0 : Int32).toInt = 0 := rfl
  have k0 := kc.refl μ
  refine gw_if ((h.of k0).1.t (r := 1) rfl) ?_
  refine gw_bI (s_X11_isNobody (h.of k0) ) (fun x1 m1 ⟨z1, f1⟩ => ?_)
  replace z1 := z1.symm
  subst z1
  refine gw_eq (fun h5_2 => ?_) (fun h5_2 => ?_)
  ·
    refine gw_if ((h.of k0).1.t (r := 1) rfl) ?_
    refine gw_bI (s_X11_holdsNow (h.of k0) (by omega)) (fun x3 m3 z3 => ?_)
    replace z3 := z3.symm
    subst z3
    refine gw_gRa 15 ((h.of k0).1.c (r := 1) rfl) ((h.of k0).1.r (by decide)) ?_
    refine gw_gRa 16 ((h.of k0).1.c (r := 15) rfl) ((h.of k0).1.r (by decide)) ?_
    refine gw_aR (i := a1) ((h.of k0).1.t (r := 16) rfl) ((h.of k0).1.l (r := 16) rfl) (by omega) (by omega) (fun v4 ev4 => ?_)
    have cv4 : isch v4 := by rw [ev4]; exact isch.of (h.of k0).1 (by omega) (by omega)
    refine gw_gI (ict.c (h.of k0).1 (Or.inl cv4)) (fun v5 ev5 => ?_)
    exact gw_some (gq_I k0)
  ·
    exact gw_some (gq_I k0)
set_option maxHeartbeats 1000000 in
theorem s_X11_likely {μ : gm_M} (h : CI μ) {a1 : Int32} {a2 : Int32} {a3 : Int32}  : gwL (f_X11_likely 1 a1 a2 a3 μ) (fun x m => kc μ m) := by
  refine gwL_of ?_
  unfold f_X11_likely
  have l0 : (0 : Int32).toInt = 0 := rfl
  have l1 : (1 : Int32).toInt = 1 := rfl
  have l10 : (10 : Int32).toInt = 10 := rfl
  have l999 : (999 : Int32).toInt = 999 := rfl
  have k0 := kc.refl μ
  refine gw_if ((h.of k0).1.t (r := 1) rfl) ?_
  refine gw_bI (s_X11_isNobody (h.of k0) ) (fun x1 m1 ⟨z1, f1⟩ => ?_)
  replace z1 := z1.symm
  subst z1
  refine gw_j (fun s2 => kc μ s2) (fun s2 k4 => ?_) (fun j3 hj3 => ?_)
  ·
    exact gw_some (gq_L k4)
  ·
    refine gw_ne (fun h5_5 => ?_) (fun h5_5 => ?_)
    ·
      exact hj3 _ k0
    ·
      refine gw_bI (s_X11_isOutside ) (fun x6 m6 ⟨z6, f6⟩ => ?_)
      replace z6 := z6.symm
      subst z6
      refine gw_ne (fun h16_7 => ?_) (fun h16_7 => ?_)
      ·
        exact hj3 _ k0
      ·
        refine gw_bI (s_X11_isOutside ) (fun x8 m8 ⟨z8, f8⟩ => ?_)
        replace z8 := z8.symm
        subst z8
        refine gw_eq (fun h25_9 => ?_) (fun h25_9 => ?_)
        ·
          refine gw_if ((h.of k0).1.t (r := 1) rfl) ?_
          refine gw_bI (s_X11_holdsNow (h.of k0) (by omega)) (fun x10 m10 z10 => ?_)
          replace z10 := z10.symm
          subst z10
          refine gw_bI (s_X11_thinsBearing ) (fun x11 m11 z11 => ?_)
          replace z11 := z11.symm
          subst z11
          refine gw_bL (s_X11_fraction ) (fun x12 m12 z12 => ?_)
          replace z12 := z12.symm
          subst z12
          exact gw_some (gq_L k0)
        ·
          exact hj3 _ k0
set_option maxHeartbeats 1000000 in
theorem s_X11_dare {μ : gm_M} (h : CI μ) {a1 : Int32}  : gwI (f_X11_dare 1 a1 μ) (fun x m => kc μ m) := by
  refine gwI_of ?_
  unfold f_X11_dare
  have lm1 : (-1 : Int32).toInt = -1 := rfl
  have l0 : (0 : Int32).toInt = 0 := rfl
  have l9 : (9 : Int32).toInt = 9 := rfl
  have l999 : (999 : Int32).toInt = 999 := rfl
  have k0 := kc.refl μ
  refine gw_if ((h.of k0).1.t (r := 1) rfl) ?_
  refine gw_bI (s_X11_isNobody (h.of k0) ) (fun x1 m1 ⟨z1, f1⟩ => ?_)
  replace z1 := z1.symm
  subst z1
  refine gw_eq (fun h5_2 => ?_) (fun h5_2 => ?_)
  ·
    refine gw_if ((h.of k0).1.t (r := 1) rfl) ?_
    refine gw_bI (s_X11_holdsNow (h.of k0) (by omega)) (fun x3 m3 z3 => ?_)
    replace z3 := z3.symm
    subst z3
    refine gw_loop (fun s4 => kc μ s4.2.2.2 ∧ (-1 ≤ s4.2.2.1.toInt ∧ s4.2.2.1.toInt ≤ 9)) (fun s4 => (s4.2.2.1.toInt + 1)) (fun s4 ⟨k5, u6⟩ => ?_) 5000 ((0 : Int32), (0 : Int32), (9 : Int32), μ) ⟨k0, (by show -1 ≤ (9 : Int32).toInt ∧ (9 : Int32).toInt ≤ 9; omega)⟩ (by show ((9 : Int32).toInt + 1) < ((5000 : Nat) : Int); omega) (by show 0 ≤ ((9 : Int32).toInt + 1); omega)
    refine gw_lt (fun h27_7 => ?_) (fun h27_7 => ?_)
    ·
      exact gw_some (gs_inr (gq_I k5))
    ·
      refine gw_bI (s_X11_thinned ) (fun x8 m8 z8 => ?_)
      replace z8 := z8.symm
      subst z8
      refine gw_bI (s_X11_thinsBearing ) (fun x9 m9 z9 => ?_)
      replace z9 := z9.symm
      subst z9
      refine gw_j (fun s10 => True) (fun s10 _ => ?_) (fun j11 hj11 => ?_)
      ·
        have n12 : (s4.2.2.1 + (-1 : Int32)).toInt = s4.2.2.1.toInt + (-1 : Int32).toInt := gx_add (by omega) (by omega)
        obtain ⟨w13, hw13⟩ : ∃ w : Int32, w = (s4.2.2.1 + (-1 : Int32)) := ⟨_, rfl⟩
        rw [← hw13]
        rw [← hw13] at n12
        exact gw_some (gs_inl ⟨k5, (by show -1 ≤ w13.toInt ∧ w13.toInt ≤ 9; omega)⟩ (by show (w13.toInt + 1) < (s4.2.2.1.toInt + 1); omega) (by show 0 ≤ (w13.toInt + 1); omega))
      ·
        refine gw_le (fun h58_14 => ?_) (fun h58_14 => ?_)
        ·
          exact hj11 _ trivial
        ·
          exact hj11 _ trivial
  ·
    exact gw_some (gq_I k0)
set_option maxHeartbeats 1000000 in
theorem s_X11_first {μ : gm_M} (h : CI μ)   : gwI (f_X11_first 1 μ) (fun x m => kc μ m) := by
  refine gwI_of ?_
  unfold f_X11_first
  have lm5 : (-5 : Int32).toInt = -5 := rfl
  have lm1 : (-1 : Int32).toInt = -1 := rfl
  have l0 : (0 : Int32).toInt = 0 := rfl
  have l1 : (1 : Int32).toInt = 1 := rfl
  have k0 := kc.refl μ
  refine gw_loop (fun s1 => kc μ s1.2.2.2 ∧ (0 ≤ s1.2.2.1.toInt ∧ s1.2.2.1.toInt ≤ 5)) (fun s1 => (5 - s1.2.2.1.toInt)) (fun s1 ⟨k2, u3⟩ => ?_) 5000 ((-5 : Int32), (-1 : Int32), (0 : Int32), μ) ⟨k0, (by show 0 ≤ (0 : Int32).toInt ∧ (0 : Int32).toInt ≤ 5; omega)⟩ (by show (5 - (0 : Int32).toInt) < ((5000 : Nat) : Int); omega) (by show 0 ≤ (5 - (0 : Int32).toInt); omega)
  refine gw_gRa 15 ((h.of k2).1.c (r := 1) rfl) ((h.of k2).1.r (by decide)) ?_
  refine gw_gI ((h.of k2).1.c (r := 15) rfl) (fun v4 ev4 => ?_)
  have bv4 := (h.of k2).n1
  have dv4 : v4.toInt = (s1.2.2.2.2.1 15 1).toInt := by rw [ev4]
  have yv4 : v4.toInt = (μ.2.1 15 1).toInt := by rw [dv4, k2.row (by decide)]
  refine gw_le (fun h15_5 => ?_) (fun h15_5 => ?_)
  ·
    exact gw_some (gs_inr (gq_I k2))
  ·
    refine gw_if ((h.of k2).1.t (r := 1) rfl) ?_
    refine gw_bI (s_X11_holdsNow (h.of k2) (by omega)) (fun x6 m6 z6 => ?_)
    replace z6 := z6.symm
    subst z6
    refine gw_j (fun s7 => True) (fun s7 _ => ?_) (fun j8 hj8 => ?_)
    ·
      have n9 : (s1.2.2.1 + (1 : Int32)).toInt = s1.2.2.1.toInt + (1 : Int32).toInt := gx_add (by omega) (by omega)
      exact gw_some (gs_inl ⟨k2, (by show 0 ≤ (s1.2.2.1 + (1 : Int32)).toInt ∧ (s1.2.2.1 + (1 : Int32)).toInt ≤ 5; omega)⟩ (by show (5 - (s1.2.2.1 + (1 : Int32)).toInt) < (5 - s1.2.2.1.toInt); omega) (by show 0 ≤ (5 - (s1.2.2.1 + (1 : Int32)).toInt); omega))
    ·
      refine gw_le (fun h28_10 => ?_) (fun h28_10 => ?_)
      ·
        exact hj8 _ trivial
      ·
        exact hj8 _ trivial
set_option maxHeartbeats 1000000 in
theorem s_X11_beats {μ : gm_M} (h : CI μ) {a1 : Int32} {a2 : Int32} {a3 : Int32}  : gwL (f_X11_beats 1 a1 a2 a3 μ) (fun x m => kc μ m) := by
  refine gwL_of ?_
  unfold f_X11_beats
  have l0 : (0 : Int32).toInt = 0 := rfl
  have l1 : (1 : Int32).toInt = 1 := rfl
  have l10 : (10 : Int32).toInt = 10 := rfl
  have l100 : (100 : Int32).toInt = 100 := rfl
  have k0 := kc.refl μ
  refine gw_if ((h.of k0).1.t (r := 1) rfl) ?_
  refine gw_bI (s_X11_isNobody (h.of k0) ) (fun x1 m1 ⟨z1, f1⟩ => ?_)
  replace z1 := z1.symm
  subst z1
  refine gw_j (fun s2 => kc μ s2) (fun s2 k4 => ?_) (fun j3 hj3 => ?_)
  ·
    exact gw_some (gq_L k4)
  ·
    refine gw_ne (fun h5_5 => ?_) (fun h5_5 => ?_)
    ·
      exact hj3 _ k0
    ·
      refine gw_if ((h.of k0).1.t (r := 1) rfl) ?_
      refine gw_bI (s_X11_isNobody (h.of k0) ) (fun x6 m6 ⟨z6, f6⟩ => ?_)
      replace z6 := z6.symm
      subst z6
      refine gw_ne (fun h13_7 => ?_) (fun h13_7 => ?_)
      ·
        exact hj3 _ k0
      ·
        refine gw_bI (s_X11_isOutside ) (fun x8 m8 ⟨z8, f8⟩ => ?_)
        replace z8 := z8.symm
        subst z8
        refine gw_ne (fun h22_9 => ?_) (fun h22_9 => ?_)
        ·
          exact hj3 _ k0
        ·
          refine gw_ne (fun h27_10 => ?_) (fun h27_10 => ?_)
          ·
            refine gw_if ((h.of k0).1.t (r := 1) rfl) ?_
            refine gw_bI (s_X11_holdsNow (h.of k0) (by omega)) (fun x11 m11 z11 => ?_)
            replace z11 := z11.symm
            subst z11
            refine gw_if ((h.of k0).1.t (r := 1) rfl) ?_
            refine gw_bI (s_X11_holdsNow (h.of k0) (by omega)) (fun x12 m12 z12 => ?_)
            replace z12 := z12.symm
            subst z12
            refine gw_loop (fun s13 => kc μ s13.2.2 ∧ (0 ≤ s13.2.1.toInt ∧ s13.2.1.toInt ≤ 10)) (fun s13 => (10 - s13.2.1.toInt)) (fun s13 ⟨k14, u15⟩ => ?_) 5000 ((0 : Int32), (0 : Int32), μ) ⟨k0, (by show 0 ≤ (0 : Int32).toInt ∧ (0 : Int32).toInt ≤ 10; omega)⟩ (by show (10 - (0 : Int32).toInt) < ((5000 : Nat) : Int); omega) (by show 0 ≤ (10 - (0 : Int32).toInt); omega)
            refine gw_le (fun h58_16 => ?_) (fun h58_16 => ?_)
            ·
              refine gw_bL (s_X11_fraction ) (fun x17 m17 z17 => ?_)
              replace z17 := z17.symm
              subst z17
              exact gw_some (gs_inr (gq_L k14))
            ·
              refine gw_bI (s_X11_thinned ) (fun x18 m18 z18 => ?_)
              replace z18 := z18.symm
              subst z18
              refine gw_bI (s_X11_thinsBelow ) (fun x19 m19 z19 => ?_)
              replace z19 := z19.symm
              subst z19
              have n20 : (s13.2.1 + (1 : Int32)).toInt = s13.2.1.toInt + (1 : Int32).toInt := gx_add (by omega) (by omega)
              exact gw_some (gs_inl ⟨k14, (by show 0 ≤ (s13.2.1 + (1 : Int32)).toInt ∧ (s13.2.1 + (1 : Int32)).toInt ≤ 10; omega)⟩ (by show (10 - (s13.2.1 + (1 : Int32)).toInt) < (10 - s13.2.1.toInt); omega) (by show 0 ≤ (10 - (s13.2.1 + (1 : Int32)).toInt); omega))
          ·
            exact hj3 _ k0
set_option maxHeartbeats 1000000 in
theorem s_X11_swap {μ : gm_M} (h : CI μ)   : gwI (f_X11_swap 1 μ) (fun x m => kc μ m) := by
  refine gwI_of ?_
  unfold f_X11_swap
  have lm5 : (-5 : Int32).toInt = -5 := rfl
  have l0 : (0 : Int32).toInt = 0 := rfl
  have l1 : (1 : Int32).toInt = 1 := rfl
  have l10 : (10 : Int32).toInt = 10 := rfl
  have k0 := kc.refl μ
  refine gw_loop (fun s1 => kc μ s1.2.2.2 ∧ (0 ≤ s1.2.2.1.toInt ∧ s1.2.2.1.toInt ≤ 5)) (fun s1 => (5 - s1.2.2.1.toInt)) (fun s1 ⟨k2, u3⟩ => ?_) 5000 ((0 : Int32), (-5 : Int32), (0 : Int32), μ) ⟨k0, (by show 0 ≤ (0 : Int32).toInt ∧ (0 : Int32).toInt ≤ 5; omega)⟩ (by show (5 - (0 : Int32).toInt) < ((5000 : Nat) : Int); omega) (by show 0 ≤ (5 - (0 : Int32).toInt); omega)
  refine gw_gRa 15 ((h.of k2).1.c (r := 1) rfl) ((h.of k2).1.r (by decide)) ?_
  refine gw_gI ((h.of k2).1.c (r := 15) rfl) (fun v4 ev4 => ?_)
  have bv4 := (h.of k2).n1
  have dv4 : v4.toInt = (s1.2.2.2.2.1 15 1).toInt := by rw [ev4]
  have yv4 : v4.toInt = (μ.2.1 15 1).toInt := by rw [dv4, k2.row (by decide)]
  refine gw_le (fun h15_5 => ?_) (fun h15_5 => ?_)
  ·
    exact gw_some (gs_inr (gq_I k2))
  ·
    have n7 : (s1.2.2.1 + (1 : Int32)).toInt = s1.2.2.1.toInt + (1 : Int32).toInt := gx_add (by omega) (by omega)
    refine gw_loop (fun s6 => kc μ s6.2.2.2 ∧ (0 ≤ s6.2.2.1.toInt ∧ s6.2.2.1.toInt ≤ 5)) (fun s6 => (5 - s6.2.2.1.toInt)) (fun s6 ⟨k8, u9⟩ => ?_) 5000 (s1.1, s1.2.1, (s1.2.2.1 + (1 : Int32)), s1.2.2.2) ⟨k2, (by show 0 ≤ (s1.2.2.1 + (1 : Int32)).toInt ∧ (s1.2.2.1 + (1 : Int32)).toInt ≤ 5; omega)⟩ (by show (5 - (s1.2.2.1 + (1 : Int32)).toInt) < ((5000 : Nat) : Int); omega) (by show 0 ≤ (5 - (s1.2.2.1 + (1 : Int32)).toInt); omega)
    refine gw_gRa 15 ((h.of k8).1.c (r := 1) rfl) ((h.of k8).1.r (by decide)) ?_
    refine gw_gI ((h.of k8).1.c (r := 15) rfl) (fun v10 ev10 => ?_)
    have bv10 := (h.of k8).n1
    have dv10 : v10.toInt = (s6.2.2.2.2.1 15 1).toInt := by rw [ev10]
    have yv10 : v10.toInt = (μ.2.1 15 1).toInt := by rw [dv10, k8.row (by decide)]
    refine gw_le (fun h32_11 => ?_) (fun h32_11 => ?_)
    ·
      have n12 : (s1.2.2.1 + (1 : Int32)).toInt = s1.2.2.1.toInt + (1 : Int32).toInt := gx_add (by omega) (by omega)
      exact gw_some (gs_inr (gs_inl ⟨k8, (by show 0 ≤ (s1.2.2.1 + (1 : Int32)).toInt ∧ (s1.2.2.1 + (1 : Int32)).toInt ≤ 5; omega)⟩ (by show (5 - (s1.2.2.1 + (1 : Int32)).toInt) < (5 - s1.2.2.1.toInt); omega) (by show 0 ≤ (5 - (s1.2.2.1 + (1 : Int32)).toInt); omega)))
    ·
      refine gw_if ((h.of k8).1.t (r := 1) rfl) ?_
      refine gw_bI (s_X11_holdsWithGumOf (h.of k8) (by omega) (by omega)) (fun x13 m13 g13 => ?_)
      have kk13 := k8.trans g13
      refine gw_if ((h.of kk13).1.t (r := 1) rfl) ?_
      refine gw_bI (s_X11_holdsWithGumOf (h.of kk13) (by omega) (by omega)) (fun x14 m14 g14 => ?_)
      have kk14 := kk13.trans g14
      refine gw_if ((h.of kk14).1.t (r := 1) rfl) ?_
      refine gw_bI (s_X11_holdsNow (h.of kk14) (by omega)) (fun x15 m15 z15 => ?_)
      replace z15 := z15.symm
      subst z15
      refine gw_if ((h.of kk14).1.t (r := 1) rfl) ?_
      refine gw_bI (s_X11_holdsNow (h.of kk14) (by omega)) (fun x16 m16 z16 => ?_)
      replace z16 := z16.symm
      subst z16
      refine gw_j (fun s17 => True) (fun s17 _ => ?_) (fun j18 hj18 => ?_)
      ·
        have n19 : (s6.2.2.1 + (1 : Int32)).toInt = s6.2.2.1.toInt + (1 : Int32).toInt := gx_add (by omega) (by omega)
        exact gw_some (gs_inl ⟨kk14, (by show 0 ≤ (s6.2.2.1 + (1 : Int32)).toInt ∧ (s6.2.2.1 + (1 : Int32)).toInt ≤ 5; omega)⟩ (by show (5 - (s6.2.2.1 + (1 : Int32)).toInt) < (5 - s6.2.2.1.toInt); omega) (by show 0 ≤ (5 - (s6.2.2.1 + (1 : Int32)).toInt); omega))
      ·
        refine gw_le (fun h68_20 => ?_) (fun h68_20 => ?_)
        ·
          exact hj18 _ trivial
        ·
          exact hj18 _ trivial
set_option maxHeartbeats 1000000 in
theorem s_X11_order {μ : gm_M} (h : CI μ) {a1 : Int32}  : gwI (f_X11_order 1 a1 μ) (fun x m => kc μ m) := by
  refine gwI_of ?_
  unfold f_X11_order
  have lm5 : (-5 : Int32).toInt = -5 := rfl
  have lm1 : (-1 : Int32).toInt = -1 := rfl
  have l0 : (0 : Int32).toInt = 0 := rfl
  have l1 : (1 : Int32).toInt = 1 := rfl
  have l4 : (4 : Int32).toInt = 4 := rfl
  have k0 := kc.refl μ
  refine gw_bI (s_X11_isOutside ) (fun x1 m1 ⟨z1, f1⟩ => ?_)
  replace z1 := z1.symm
  subst z1
  refine gw_eq (fun h6_2 => ?_) (fun h6_2 => ?_)
  ·
    refine gw_gRa 15 ((h.of k0).1.c (r := 1) rfl) ((h.of k0).1.r (by decide)) ?_
    refine gw_gI ((h.of k0).1.c (r := 15) rfl) (fun v3 ev3 => ?_)
    have bv3 := (h.of k0).n1
    have dv3 : v3.toInt = (μ.2.1 15 1).toInt := by rw [ev3]
    refine gw_lt (fun h19_4 => ?_) (fun h19_4 => ?_)
    ·
      refine gw_loop (fun s5 => kc μ s5.2 ∧ (0 ≤ s5.1.toInt ∧ s5.1.toInt ≤ 5)) (fun s5 => (5 - s5.1.toInt)) (fun s5 ⟨k6, u7⟩ => ?_) 5000 ((0 : Int32), μ) ⟨k0, (by show 0 ≤ (0 : Int32).toInt ∧ (0 : Int32).toInt ≤ 5; omega)⟩ (by show (5 - (0 : Int32).toInt) < ((5000 : Nat) : Int); omega) (by show 0 ≤ (5 - (0 : Int32).toInt); omega)
      refine gw_gRa 15 ((h.of k6).1.c (r := 1) rfl) ((h.of k6).1.r (by decide)) ?_
      refine gw_gI ((h.of k6).1.c (r := 15) rfl) (fun v8 ev8 => ?_)
      have bv8 := (h.of k6).n1
      have dv8 : v8.toInt = (s5.2.2.1 15 1).toInt := by rw [ev8]
      have yv8 : v8.toInt = (μ.2.1 15 1).toInt := by rw [dv8, k6.row (by decide)]
      refine gw_le (fun h35_9 => ?_) (fun h35_9 => ?_)
      ·
        refine gw_pI ((h.of k6).1.c (r := 1) rfl) (fun m10 em10 => ?_)
        have km10 := k6.w1 em10
        refine gw_if ((h.of km10).1.t (r := 1) rfl) ?_
        refine gw_bV (s_X11_arrange (h.of km10) (by omega)) (fun m11 g11 => ?_)
        have kk11 := km10.trans g11
        refine gw_le (fun h62_12 => ?_) (fun h62_12 => ?_)
        ·
          refine gw_gRa 7 ((h.of kk11).1.c (r := 1) rfl) ((h.of kk11).1.r (by decide)) ?_
          refine gw_aI (i := a1) ((h.of kk11).1.t (r := 7) rfl) ((h.of kk11).1.l (r := 7) rfl) (by omega) (by omega) (fun v13 ev13 => ?_)
          exact gw_some (gs_inr (gq_I kk11))
        ·
          refine gw_gI ((h.of kk11).1.c (r := 1) rfl) (fun v14 ev14 => ?_)
          exact gw_some (gs_inr (gq_I kk11))
      ·
        refine gw_if ((h.of k6).1.t (r := 1) rfl) ?_
        refine gw_bV (s_X11_fillBehind (h.of k6) (by omega)) (fun m15 g15 => ?_)
        have kk15 := k6.trans g15
        have n16 : (s5.1 + (1 : Int32)).toInt = s5.1.toInt + (1 : Int32).toInt := gx_add (by omega) (by omega)
        exact gw_some (gs_inl ⟨kk15, (by show 0 ≤ (s5.1 + (1 : Int32)).toInt ∧ (s5.1 + (1 : Int32)).toInt ≤ 5; omega)⟩ (by show (5 - (s5.1 + (1 : Int32)).toInt) < (5 - s5.1.toInt); omega) (by show 0 ≤ (5 - (s5.1 + (1 : Int32)).toInt); omega))
    ·
      exact gw_some (gq_I k0)
  ·
    exact gw_some (gq_I k0)
set_option maxHeartbeats 1000000 in
theorem s_X11_clean {μ : gm_M} (h : CI μ) {a1 : Int32} {a2 : Int32}  : gwI (f_X11_clean 1 a1 a2 μ) (fun x m => kc μ m) := by
  refine gwI_of ?_
  unfold f_X11_clean
  have lm2 : (-2 : Int32).toInt = -2 := rfl
  have lm1 : (-1 : Int32).toInt = -1 := rfl
  have l0 : (0 : Int32).toInt = 0 := rfl
  have l1 : (1 : Int32).toInt = 1 := rfl
  have l99 : (99 : Int32).toInt = 99 := rfl
  have k0 := kc.refl μ
  refine gw_if ((h.of k0).1.t (r := 1) rfl) ?_
  refine gw_bI (s_X11_isNobody (h.of k0) ) (fun x1 m1 ⟨z1, f1⟩ => ?_)
  replace z1 := z1.symm
  subst z1
  refine gw_eq (fun h5_2 => ?_) (fun h5_2 => ?_)
  ·
    refine gw_bI (s_X11_isOutside ) (fun x3 m3 ⟨z3, f3⟩ => ?_)
    replace z3 := z3.symm
    subst z3
    refine gw_eq (fun h17_4 => ?_) (fun h17_4 => ?_)
    ·
      refine gw_gRa 15 ((h.of k0).1.c (r := 1) rfl) ((h.of k0).1.r (by decide)) ?_
      refine gw_gRa 16 ((h.of k0).1.c (r := 15) rfl) ((h.of k0).1.r (by decide)) ?_
      refine gw_aR (i := a1) ((h.of k0).1.t (r := 16) rfl) ((h.of k0).1.l (r := 16) rfl) (by omega) (by omega) (fun v5 ev5 => ?_)
      have cv5 : isch v5 := by rw [ev5]; exact isch.of (h.of k0).1 (by omega) (by omega)
      refine gw_gI (ict.c (h.of k0).1 (Or.inl cv5)) (fun v6 ev6 => ?_)
      refine gw_dv (by omega) ?_
      exact gw_some (gq_I k0)
    ·
      exact gw_some (gq_I k0)
  ·
    exact gw_some (gq_I k0)
set_option maxHeartbeats 1000000 in
theorem s_X11_who {μ : gm_M} (h : CI μ) {a1 : Int32} {a2 : Int32}  : gwI (f_X11_who 1 a1 a2 μ) (fun x m => kc μ m) := by
  refine gwI_of ?_
  unfold f_X11_who
  have lm2 : (-2 : Int32).toInt = -2 := rfl
  have l0 : (0 : Int32).toInt = 0 := rfl
  have l1 : (1 : Int32).toInt = 1 := rfl
  have l40 : (40 : Int32).toInt = 40 := rfl
  have l999 : (999 : Int32).toInt = 999 := rfl
  have k0 := kc.refl μ
  refine gw_bI (s_X11_isOutside ) (fun x1 m1 ⟨z1, f1⟩ => ?_)
  replace z1 := z1.symm
  subst z1
  refine gw_ne (fun h8_2 => ?_) (fun h8_2 => ?_)
  ·
    exact gw_some (gq_I k0)
  ·
    refine gw_bI (s_X11_isOutside ) (fun x3 m3 ⟨z3, f3⟩ => ?_)
    replace z3 := z3.symm
    subst z3
    refine gw_eq (fun h18_4 => ?_) (fun h18_4 => ?_)
    ·
      refine gw_loop (fun s5 => kc μ s5.2.2 ∧ (0 ≤ s5.2.1.toInt ∧ s5.2.1.toInt ≤ 5)) (fun s5 => (5 - s5.2.1.toInt)) (fun s5 ⟨k6, u7⟩ => ?_) 5000 ((0 : Int32), (0 : Int32), μ) ⟨k0, (by show 0 ≤ (0 : Int32).toInt ∧ (0 : Int32).toInt ≤ 5; omega)⟩ (by show (5 - (0 : Int32).toInt) < ((5000 : Nat) : Int); omega) (by show 0 ≤ (5 - (0 : Int32).toInt); omega)
      refine gw_gRa 15 ((h.of k6).1.c (r := 1) rfl) ((h.of k6).1.r (by decide)) ?_
      refine gw_gI ((h.of k6).1.c (r := 15) rfl) (fun v8 ev8 => ?_)
      have bv8 := (h.of k6).n1
      have dv8 : v8.toInt = (s5.2.2.2.1 15 1).toInt := by rw [ev8]
      have yv8 : v8.toInt = (μ.2.1 15 1).toInt := by rw [dv8, k6.row (by decide)]
      refine gw_le (fun h38_9 => ?_) (fun h38_9 => ?_)
      ·
        exact gw_some (gs_inr (gq_I k6))
      ·
        refine gw_if ((h.of k6).1.t (r := 1) rfl) ?_
        refine gw_bI (s_X11_holdsBehind (h.of k6) (by omega) (by omega)) (fun x10 m10 g10 => ?_)
        have kk10 := k6.trans g10
        refine gw_j (fun s11 => True) (fun s11 _ => ?_) (fun j12 hj12 => ?_)
        ·
          have n13 : (s5.2.1 + (1 : Int32)).toInt = s5.2.1.toInt + (1 : Int32).toInt := gx_add (by omega) (by omega)
          exact gw_some (gs_inl ⟨kk10, (by show 0 ≤ (s5.2.1 + (1 : Int32)).toInt ∧ (s5.2.1 + (1 : Int32)).toInt ≤ 5; omega)⟩ (by show (5 - (s5.2.1 + (1 : Int32)).toInt) < (5 - s5.2.1.toInt); omega) (by show 0 ≤ (5 - (s5.2.1 + (1 : Int32)).toInt); omega))
        ·
          refine gw_ne (fun h49_14 => ?_) (fun h49_14 => ?_)
          ·
            exact hj12 _ trivial
          ·
            exact hj12 _ trivial
    ·
      exact gw_some (gq_I k0)
set_option maxHeartbeats 1000000 in
theorem s_X11_firm {μ : gm_M} (h : CI μ) {a1 : Int32} {a2 : Int32}  : gwI (f_X11_firm 1 a1 a2 μ) (fun x m => kc μ m) := by
  refine gwI_of ?_
  unfold f_X11_firm
  have lm5 : (-5 : Int32).toInt = -5 := rfl
  have lm1 : (-1 : Int32).toInt = -1 := rfl
  have l0 : (0 : Int32).toInt = 0 := rfl
  have l1 : (1 : Int32).toInt = 1 := rfl
  have l9 : (9 : Int32).toInt = 9 := rfl
  have k0 := kc.refl μ
  refine gw_if ((h.of k0).1.t (r := 1) rfl) ?_
  refine gw_bI (s_X11_isNobody (h.of k0) ) (fun x1 m1 ⟨z1, f1⟩ => ?_)
  replace z1 := z1.symm
  subst z1
  refine gw_ne (fun h5_2 => ?_) (fun h5_2 => ?_)
  ·
    exact gw_some (gq_I k0)
  ·
    refine gw_bI (s_X11_isOutside ) (fun x3 m3 ⟨z3, f3⟩ => ?_)
    replace z3 := z3.symm
    subst z3
    refine gw_eq (fun h14_4 => ?_) (fun h14_4 => ?_)
    ·
      refine gw_loop (fun s5 => kc μ s5.2.2.2 ∧ (-1 ≤ s5.2.2.1.toInt ∧ s5.2.2.1.toInt ≤ 9)) (fun s5 => (s5.2.2.1.toInt + 1)) (fun s5 ⟨k6, u7⟩ => ?_) 5000 ((0 : Int32), (-5 : Int32), (9 : Int32), μ) ⟨k0, (by show -1 ≤ (9 : Int32).toInt ∧ (9 : Int32).toInt ≤ 9; omega)⟩ (by show ((9 : Int32).toInt + 1) < ((5000 : Nat) : Int); omega) (by show 0 ≤ ((9 : Int32).toInt + 1); omega)
      refine gw_lt (fun h31_8 => ?_) (fun h31_8 => ?_)
      ·
        refine gw_ne (fun h70_9 => ?_) (fun h70_9 => ?_)
        ·
          exact gw_some (gs_inr (gq_I k6))
        ·
          exact gw_some (gs_inr (gq_I k6))
      ·
        refine gw_gRa 15 ((h.of k6).1.c (r := 1) rfl) ((h.of k6).1.r (by decide)) ?_
        refine gw_gRa 16 ((h.of k6).1.c (r := 15) rfl) ((h.of k6).1.r (by decide)) ?_
        refine gw_aR (i := a1) ((h.of k6).1.t (r := 16) rfl) ((h.of k6).1.l (r := 16) rfl) (by omega) (by omega) (fun v10 ev10 => ?_)
        have cv10 : isch v10 := by rw [ev10]; exact isch.of (h.of k6).1 (by omega) (by omega)
        refine gw_gI (ict.c (h.of k6).1 (Or.inl cv10)) (fun v11 ev11 => ?_)
        refine gw_if ((h.of k6).1.t (r := 1) rfl) ?_
        refine gw_bI (s_X11_isAllSeen (h.of k6) ) (fun x12 m12 ⟨g12, f12⟩ => ?_)
        have kk12 := k6.trans g12
        refine gw_j (fun s13 => True) (fun s13 _ => ?_) (fun j14 hj14 => ?_)
        ·
          have n15 : (s5.2.2.1 + (-1 : Int32)).toInt = s5.2.2.1.toInt + (-1 : Int32).toInt := gx_add (by omega) (by omega)
          obtain ⟨w16, hw16⟩ : ∃ w : Int32, w = (s5.2.2.1 + (-1 : Int32)) := ⟨_, rfl⟩
          rw [← hw16]
          rw [← hw16] at n15
          exact gw_some (gs_inl ⟨kk12, (by show -1 ≤ w16.toInt ∧ w16.toInt ≤ 9; omega)⟩ (by show (w16.toInt + 1) < (s5.2.2.1.toInt + 1); omega) (by show 0 ≤ (w16.toInt + 1); omega))
        ·
          refine gw_eq (fun h53_17 => ?_) (fun h53_17 => ?_)
          ·
            exact hj14 _ trivial
          ·
            exact hj14 _ trivial
    ·
      exact gw_some (gq_I k0)
set_option maxHeartbeats 1000000 in
theorem s_X11_had {μ : gm_M} (h : CI μ) {a1 : Int32}  : gwI (f_X11_had 1 a1 μ) (fun x m => kc μ m) := by
  refine gwI_of ?_
  unfold f_X11_had
  have lm1 : (-1 : Int32).toInt = -1 := rfl
  have l0 : (0 : Int32).toInt = 0 := rfl
  have l1 : (1 : Int32).toInt = 1 := rfl
  have l6 : (6 : Int32).toInt = 6 := rfl
  have k0 := kc.refl μ
  refine gw_if ((h.of k0).1.t (r := 1) rfl) ?_
  refine gw_bI (s_X11_isNobody (h.of k0) ) (fun x1 m1 ⟨z1, f1⟩ => ?_)
  replace z1 := z1.symm
  subst z1
  refine gw_eq (fun h5_2 => ?_) (fun h5_2 => ?_)
  ·
    refine gw_loop (fun s3 => kc μ s3.2.2 ∧ (0 ≤ s3.2.1.toInt ∧ s3.2.1.toInt ≤ 7)) (fun s3 => (7 - s3.2.1.toInt)) (fun s3 ⟨k4, u5⟩ => ?_) 5000 ((0 : Int32), (0 : Int32), μ) ⟨k0, (by show 0 ≤ (0 : Int32).toInt ∧ (0 : Int32).toInt ≤ 7; omega)⟩ (by show (7 - (0 : Int32).toInt) < ((5000 : Nat) : Int); omega) (by show 0 ≤ (7 - (0 : Int32).toInt); omega)
    refine gw_lt (fun h17_6 => ?_) (fun h17_6 => ?_)
    ·
      exact gw_some (gs_inr (gq_I k4))
    ·
      refine gw_gRa 15 ((h.of k4).1.c (r := 1) rfl) ((h.of k4).1.r (by decide)) ?_
      refine gw_gRa 16 ((h.of k4).1.c (r := 15) rfl) ((h.of k4).1.r (by decide)) ?_
      refine gw_aR (i := a1) ((h.of k4).1.t (r := 16) rfl) ((h.of k4).1.l (r := 16) rfl) (by omega) (by omega) (fun v7 ev7 => ?_)
      have cv7 : isch v7 := by rw [ev7]; exact isch.of (h.of k4).1 (by omega) (by omega)
      refine gw_gI (ict.c (h.of k4).1 (Or.inl cv7)) (fun v8 ev8 => ?_)
      refine gw_if ((h.of k4).1.t (r := 1) rfl) ?_
      refine gw_bI (s_X11_isAllSeen (h.of k4) ) (fun x9 m9 ⟨g9, f9⟩ => ?_)
      have kk9 := k4.trans g9
      refine gw_j (fun s10 => True) (fun s10 _ => ?_) (fun j11 hj11 => ?_)
      ·
        have n12 : (s3.2.1 + (1 : Int32)).toInt = s3.2.1.toInt + (1 : Int32).toInt := gx_add (by omega) (by omega)
        exact gw_some (gs_inl ⟨kk9, (by show 0 ≤ (s3.2.1 + (1 : Int32)).toInt ∧ (s3.2.1 + (1 : Int32)).toInt ≤ 7; omega)⟩ (by show (7 - (s3.2.1 + (1 : Int32)).toInt) < (7 - s3.2.1.toInt); omega) (by show 0 ≤ (7 - (s3.2.1 + (1 : Int32)).toInt); omega))
      ·
        refine gw_eq (fun h38_13 => ?_) (fun h38_13 => ?_)
        ·
          exact hj11 _ trivial
        ·
          exact hj11 _ trivial
  ·
    exact gw_some (gq_I k0)
set_option maxHeartbeats 1000000 in
theorem s_X11_mean {μ : gm_M} (h : CI μ) {a1 : Int32} {a2 : Int32}  : gwL (f_X11_mean 1 a1 a2 μ) (fun x m => kc μ m) := by
  refine gwL_of ?_
  unfold f_X11_mean
  have l0 : (0 : Int32).toInt = 0 := rfl
  have l1 : (1 : Int32).toInt = 1 := rfl
  have l60 : (60 : Int32).toInt = 60 := rfl
  have k0 := kc.refl μ
  refine gw_bI (s_X11_isOutside ) (fun x1 m1 ⟨z1, f1⟩ => ?_)
  replace z1 := z1.symm
  subst z1
  refine gw_j (fun s2 => kc μ s2) (fun s2 k4 => ?_) (fun j3 hj3 => ?_)
  ·
    exact gw_some (gq_L k4)
  ·
    refine gw_ne (fun h7_5 => ?_) (fun h7_5 => ?_)
    ·
      exact hj3 _ k0
    ·
      refine gw_bI (s_X11_isOutside ) (fun x6 m6 ⟨z6, f6⟩ => ?_)
      replace z6 := z6.symm
      subst z6
      refine gw_ne (fun h16_7 => ?_) (fun h16_7 => ?_)
      ·
        exact hj3 _ k0
      ·
        refine gw_gRa 15 ((h.of k0).1.c (r := 1) rfl) ((h.of k0).1.r (by decide)) ?_
        refine gw_gI ((h.of k0).1.c (r := 15) rfl) (fun v8 ev8 => ?_)
        have bv8 := (h.of k0).n1
        have dv8 : v8.toInt = (μ.2.1 15 1).toInt := by rw [ev8]
        refine gw_ne (fun h26_9 => ?_) (fun h26_9 => ?_)
        ·
          refine gw_if ((h.of k0).1.t (r := 1) rfl) ?_
          refine gw_bI (s_X11_sumBehind (h.of k0) (by omega)) (fun x10 m10 g10 => ?_)
          have kk10 := k0.trans g10
          refine gw_gRa 15 ((h.of kk10).1.c (r := 1) rfl) ((h.of kk10).1.r (by decide)) ?_
          refine gw_gI ((h.of kk10).1.c (r := 15) rfl) (fun v11 ev11 => ?_)
          have bv11 := (h.of kk10).n1
          have dv11 : v11.toInt = (m10.2.1 15 1).toInt := by rw [ev11]
          have yv11 : v11.toInt = (μ.2.1 15 1).toInt := by rw [dv11, kk10.row (by decide)]
          refine gw_bL (s_X11_fraction ) (fun x12 m12 z12 => ?_)
          replace z12 := z12.symm
          subst z12
          exact gw_some (gq_L kk10)
        ·
          exact hj3 _ k0
set_option maxHeartbeats 1000000 in
theorem s_X11_done {μ : gm_M} (h : CI μ) {a1 : Int32}  : gwI (f_X11_done 1 a1 μ) (fun x m => kc μ m) := by
  refine gwI_of ?_
  unfold f_X11_done
  have lm1 : (-1 : Int32).toInt = -1 := rfl
  have l0 : (0 : Int32).toInt = 0 := rfl
  have l1 : (1 : Int32).toInt = 1 := rfl
  have k0 := kc.refl μ
  refine gw_bI (s_X11_isOutside ) (fun x1 m1 ⟨z1, f1⟩ => ?_)
  replace z1 := z1.symm
  subst z1
  refine gw_eq (fun h6_2 => ?_) (fun h6_2 => ?_)
  ·
    refine gw_loop (fun s3 => kc μ s3.2.2 ∧ (0 ≤ s3.2.1.toInt ∧ s3.2.1.toInt ≤ 5)) (fun s3 => (5 - s3.2.1.toInt)) (fun s3 ⟨k4, u5⟩ => ?_) 5000 ((0 : Int32), (0 : Int32), μ) ⟨k0, (by show 0 ≤ (0 : Int32).toInt ∧ (0 : Int32).toInt ≤ 5; omega)⟩ (by show (5 - (0 : Int32).toInt) < ((5000 : Nat) : Int); omega) (by show 0 ≤ (5 - (0 : Int32).toInt); omega)
    refine gw_gRa 15 ((h.of k4).1.c (r := 1) rfl) ((h.of k4).1.r (by decide)) ?_
    refine gw_gI ((h.of k4).1.c (r := 15) rfl) (fun v6 ev6 => ?_)
    have bv6 := (h.of k4).n1
    have dv6 : v6.toInt = (s3.2.2.2.1 15 1).toInt := by rw [ev6]
    have yv6 : v6.toInt = (μ.2.1 15 1).toInt := by rw [dv6, k4.row (by decide)]
    refine gw_le (fun h23_7 => ?_) (fun h23_7 => ?_)
    ·
      exact gw_some (gs_inr (gq_I k4))
    ·
      refine gw_gRa 63 ((h.of k4).1.c (r := 1) rfl) ((h.of k4).1.r (by decide)) ?_
      refine gw_gRa 15 ((h.of k4).1.c (r := 1) rfl) ((h.of k4).1.r (by decide)) ?_
      refine gw_gRa 16 ((h.of k4).1.c (r := 15) rfl) ((h.of k4).1.r (by decide)) ?_
      refine gw_aR (i := s3.2.1) ((h.of k4).1.t (r := 16) rfl) ((h.of k4).1.l (r := 16) rfl) (by omega) (by omega) (fun v8 ev8 => ?_)
      have cv8 : isch v8 := by rw [ev8]; exact isch.of (h.of k4).1 (by omega) (by omega)
      refine gw_if (ict.t (h.of k4).1 (Or.inr rfl)) ?_
      refine gw_bV (s_X2_copy_63 (h.of k4) cv8) (fun m9 g9 => ?_)
      have kk9 := k4.trans g9
      refine gw_if ((h.of kk9).1.t (r := 1) rfl) ?_
      refine gw_bV (s_X11_tryPlan (h.of kk9) ) (fun m10 g10 => ?_)
      have kk10 := kk9.trans g10
      refine gw_j (fun s11 => True) (fun s11 _ => ?_) (fun j12 hj12 => ?_)
      ·
        have n13 : (s3.2.1 + (1 : Int32)).toInt = s3.2.1.toInt + (1 : Int32).toInt := gx_add (by omega) (by omega)
        exact gw_some (gs_inl ⟨kk10, (by show 0 ≤ (s3.2.1 + (1 : Int32)).toInt ∧ (s3.2.1 + (1 : Int32)).toInt ≤ 5; omega)⟩ (by show (5 - (s3.2.1 + (1 : Int32)).toInt) < (5 - s3.2.1.toInt); omega) (by show 0 ≤ (5 - (s3.2.1 + (1 : Int32)).toInt); omega))
      ·
        refine gw_ne (fun h48_14 => ?_) (fun h48_14 => ?_)
        ·
          refine gw_gRa 63 ((h.of kk10).1.c (r := 1) rfl) ((h.of kk10).1.r (by decide)) ?_
          refine gw_gI (ict.c (h.of kk10).1 (Or.inr rfl)) (fun v15 ev15 => ?_)
          refine gw_gRa 15 ((h.of kk10).1.c (r := 1) rfl) ((h.of kk10).1.r (by decide)) ?_
          refine gw_gRa 16 ((h.of kk10).1.c (r := 15) rfl) ((h.of kk10).1.r (by decide)) ?_
          refine gw_aR (i := s3.2.1) ((h.of kk10).1.t (r := 16) rfl) ((h.of kk10).1.l (r := 16) rfl) (by omega) (by omega) (fun v16 ev16 => ?_)
          have cv16 : isch v16 := by rw [ev16]; exact isch.of (h.of kk10).1 (by omega) (by omega)
          refine gw_gI (ict.c (h.of kk10).1 (Or.inl cv16)) (fun v17 ev17 => ?_)
          exact hj12 _ trivial
        ·
          refine gw_gRa 63 ((h.of kk10).1.c (r := 1) rfl) ((h.of kk10).1.r (by decide)) ?_
          refine gw_gI (ict.c (h.of kk10).1 (Or.inr rfl)) (fun v18 ev18 => ?_)
          exact hj12 _ trivial
  ·
    exact gw_some (gq_I k0)
set_option maxHeartbeats 1000000 in
theorem s_X11_looked {μ : gm_M} (h : CI μ)   : gwI (f_X11_looked 1 μ) (fun x m => kc μ m) := by
  refine gwI_of ?_
  unfold f_X11_looked
  have lm5 : (-5 : Int32).toInt = -5 := rfl
  have l0 : (0 : Int32).toInt = 0 := rfl
  have l1 : (1 : Int32).toInt = 1 := rfl
  have k0 := kc.refl μ
  refine gw_loop (fun s1 => kc μ s1.2 ∧ (0 ≤ s1.1.toInt ∧ s1.1.toInt ≤ 8)) (fun s1 => (8 - s1.1.toInt)) (fun s1 ⟨k2, u3⟩ => ?_) 5000 ((0 : Int32), μ) ⟨k0, (by show 0 ≤ (0 : Int32).toInt ∧ (0 : Int32).toInt ≤ 8; omega)⟩ (by show (8 - (0 : Int32).toInt) < ((5000 : Nat) : Int); omega) (by show 0 ≤ (8 - (0 : Int32).toInt); omega)
  refine gw_gRa 15 ((h.of k2).1.c (r := 1) rfl) ((h.of k2).1.r (by decide)) ?_
  refine gw_gRa 27 ((h.of k2).1.c (r := 15) rfl) ((h.of k2).1.r (by decide)) ?_
  refine gw_gI ((h.of k2).1.c (r := 27) rfl) (fun v4 ev4 => ?_)
  have bv4 := (h.of k2).n27
  have dv4 : v4.toInt = (s1.2.2.1 27 2).toInt := by rw [ev4]
  have yv4 : v4.toInt = (μ.2.1 27 2).toInt := by rw [dv4, k2.row (by decide)]
  refine gw_le (fun h13_5 => ?_) (fun h13_5 => ?_)
  ·
    exact gw_some (gs_inr (gq_I k2))
  ·
    refine gw_gRa 15 ((h.of k2).1.c (r := 1) rfl) ((h.of k2).1.r (by decide)) ?_
    refine gw_gRa 27 ((h.of k2).1.c (r := 15) rfl) ((h.of k2).1.r (by decide)) ?_
    refine gw_if ((h.of k2).1.t (r := 27) rfl) ?_
    refine gw_bI (s_X7_cell_27 (h.of k2) ) (fun x6 m6 z6 => ?_)
    replace z6 := z6.symm
    subst z6
    refine gw_if ((h.of k2).1.t (r := 1) rfl) ?_
    refine gw_bI (s_X11_isNobody (h.of k2) ) (fun x7 m7 ⟨z7, f7⟩ => ?_)
    replace z7 := z7.symm
    subst z7
    refine gw_j (fun s8 => kc μ s8) (fun s8 k10 => ?_) (fun j9 hj9 => ?_)
    ·
      have n11 : (s1.1 + (1 : Int32)).toInt = s1.1.toInt + (1 : Int32).toInt := gx_add (by omega) (by omega)
      exact gw_some (gs_inl ⟨k10, (by show 0 ≤ (s1.1 + (1 : Int32)).toInt ∧ (s1.1 + (1 : Int32)).toInt ≤ 8; omega)⟩ (by show (8 - (s1.1 + (1 : Int32)).toInt) < (8 - s1.1.toInt); omega) (by show 0 ≤ (8 - (s1.1 + (1 : Int32)).toInt); omega))
    ·
      refine gw_ne (fun h34_12 => ?_) (fun h34_12 => ?_)
      ·
        exact hj9 _ k2
      ·
        refine gw_gRa 15 ((h.of k2).1.c (r := 1) rfl) ((h.of k2).1.r (by decide)) ?_
        refine gw_gRa 16 ((h.of k2).1.c (r := 15) rfl) ((h.of k2).1.r (by decide)) ?_
        refine gw_aR (i := x6) ((h.of k2).1.t (r := 16) rfl) ((h.of k2).1.l (r := 16) rfl) (by omega) (by omega) (fun v13 ev13 => ?_)
        have cv13 : isch v13 := by rw [ev13]; exact isch.of (h.of k2).1 (by omega) (by omega)
        refine gw_gI (ict.c (h.of k2).1 (Or.inl cv13)) (fun v14 ev14 => ?_)
        refine gw_gRa 15 ((h.of k2).1.c (r := 1) rfl) ((h.of k2).1.r (by decide)) ?_
        refine gw_gRa 27 ((h.of k2).1.c (r := 15) rfl) ((h.of k2).1.r (by decide)) ?_
        refine gw_if ((h.of k2).1.t (r := 27) rfl) ?_
        refine gw_bI (s_X7_cell_27 (h.of k2) ) (fun x15 m15 z15 => ?_)
        replace z15 := z15.symm
        subst z15
        refine gw_eq (fun h61_16 => ?_) (fun h61_16 => ?_)
        ·
          exact hj9 _ k2
        ·
          exact gw_some (gs_inr (gq_I k2))
set_option maxHeartbeats 1000000 in
theorem s_X11_as {μ : gm_M} (h : CI μ) {a1 : Int32} {a2 : Int32}  : gwI (f_X11_as 1 a1 a2 μ) (fun x m => kc μ m) := by
  refine gwI_of ?_
  unfold f_X11_as
  have lm6 : (-6 : Int32).toInt = -6 := rfl
  have lm1 : (-1 : Int32).toInt = -1 := rfl
  have l0 : (0 : Int32).toInt = 0 := rfl
  have l6 : (6 : Int32).toInt = 6 := rfl
  have k0 := kc.refl μ
  refine gw_if ((h.of k0).1.t (r := 1) rfl) ?_
  refine gw_bI (s_X11_isNobody (h.of k0) ) (fun x1 m1 ⟨z1, f1⟩ => ?_)
  replace z1 := z1.symm
  subst z1
  refine gw_ne (fun h5_2 => ?_) (fun h5_2 => ?_)
  ·
    exact gw_some (gq_I k0)
  ·
    refine gw_bI (s_X11_isOutside ) (fun x3 m3 ⟨z3, f3⟩ => ?_)
    replace z3 := z3.symm
    subst z3
    refine gw_eq (fun h15_4 => ?_) (fun h15_4 => ?_)
    ·
      refine gw_gRa 15 ((h.of k0).1.c (r := 1) rfl) ((h.of k0).1.r (by decide)) ?_
      refine gw_gRa 16 ((h.of k0).1.c (r := 15) rfl) ((h.of k0).1.r (by decide)) ?_
      refine gw_aR (i := a1) ((h.of k0).1.t (r := 16) rfl) ((h.of k0).1.l (r := 16) rfl) (by omega) (by omega) (fun v5 ev5 => ?_)
      have cv5 : isch v5 := by rw [ev5]; exact isch.of (h.of k0).1 (by omega) (by omega)
      refine gw_gR (ict.c (h.of k0).1 (Or.inl cv5)) (fun v6 ev6 => ?_)
      have cv6 : kid v6 := by rw [ev6]; exact (h.of k0).kd (Or.inl cv5)
      refine gw_bI (s_X11_isUnder (h.of k0) cv6) (fun x7 m7 ⟨z7, f7⟩ => ?_)
      replace z7 := z7.symm
      subst z7
      refine gw_eq (fun h38_8 => ?_) (fun h38_8 => ?_)
      ·
        exact gw_some (gq_I k0)
      ·
        refine gw_gI (ict.c (h.of k0).1 (Or.inl cv5)) (fun v9 ev9 => ?_)
        exact gw_some (gq_I k0)
    ·
      exact gw_some (gq_I k0)
set_option maxHeartbeats 1000000 in
theorem s_X11_count {μ : gm_M} (h : CI μ) {a1 : Int32}  : gwI (f_X11_count 1 a1 μ) (fun x m => kc μ m) := by
  refine gwI_of ?_
  unfold f_X11_count
  have lm1 : (-1 : Int32).toInt = -1 := rfl
  have l0 : (0 : Int32).toInt = 0 := rfl
  have l1 : (1 : Int32).toInt = 1 := rfl
  have l2 : (2 : Int32).toInt = 2 := rfl
  have l3 : (3 : Int32).toInt = 3 := rfl
  have l4 : (4 : Int32).toInt = 4 := rfl
  have l5 : (5 : Int32).toInt = 5 := rfl
  have l6 : (6 : Int32).toInt = 6 := rfl
  have k0 := kc.refl μ
  refine gw_eq (fun h1_1 => ?_) (fun h1_1 => ?_)
  ·
    refine gw_gRa 15 ((h.of k0).1.c (r := 1) rfl) ((h.of k0).1.r (by decide)) ?_
    refine gw_gI ((h.of k0).1.c (r := 15) rfl) (fun v2 ev2 => ?_)
    have bv2 := (h.of k0).n1
    have dv2 : v2.toInt = (μ.2.1 15 1).toInt := by rw [ev2]
    exact gw_some (gq_I k0)
  ·
    refine gw_eq (fun h1_3 => ?_) (fun h1_3 => ?_)
    ·
      refine gw_gRa 15 ((h.of k0).1.c (r := 1) rfl) ((h.of k0).1.r (by decide)) ?_
      refine gw_gI ((h.of k0).1.c (r := 15) rfl) (fun v4 ev4 => ?_)
      have bv4 := (h.of k0).n5
      have dv4 : v4.toInt = (μ.2.1 15 5).toInt := by rw [ev4]
      exact gw_some (gq_I k0)
    ·
      refine gw_eq (fun h1_5 => ?_) (fun h1_5 => ?_)
      ·
        refine gw_gRa 15 ((h.of k0).1.c (r := 1) rfl) ((h.of k0).1.r (by decide)) ?_
        refine gw_gRa 23 ((h.of k0).1.c (r := 15) rfl) ((h.of k0).1.r (by decide)) ?_
        refine gw_gI ((h.of k0).1.c (r := 23) rfl) (fun v6 ev6 => ?_)
        have bv6 := (h.of k0).n23
        have dv6 : v6.toInt = (μ.2.1 23 2).toInt := by rw [ev6]
        exact gw_some (gq_I k0)
      ·
        refine gw_eq (fun h1_7 => ?_) (fun h1_7 => ?_)
        ·
          refine gw_gRa 15 ((h.of k0).1.c (r := 1) rfl) ((h.of k0).1.r (by decide)) ?_
          refine gw_gRa 25 ((h.of k0).1.c (r := 15) rfl) ((h.of k0).1.r (by decide)) ?_
          refine gw_gI ((h.of k0).1.c (r := 25) rfl) (fun v8 ev8 => ?_)
          have bv8 := (h.of k0).n25
          have dv8 : v8.toInt = (μ.2.1 25 2).toInt := by rw [ev8]
          exact gw_some (gq_I k0)
        ·
          refine gw_eq (fun h1_9 => ?_) (fun h1_9 => ?_)
          ·
            refine gw_gRa 15 ((h.of k0).1.c (r := 1) rfl) ((h.of k0).1.r (by decide)) ?_
            refine gw_gRa 27 ((h.of k0).1.c (r := 15) rfl) ((h.of k0).1.r (by decide)) ?_
            refine gw_gI ((h.of k0).1.c (r := 27) rfl) (fun v10 ev10 => ?_)
            have bv10 := (h.of k0).n27
            have dv10 : v10.toInt = (μ.2.1 27 2).toInt := by rw [ev10]
            exact gw_some (gq_I k0)
          ·
            refine gw_eq (fun h1_11 => ?_) (fun h1_11 => ?_)
            ·
              refine gw_gRa 15 ((h.of k0).1.c (r := 1) rfl) ((h.of k0).1.r (by decide)) ?_
              refine gw_gI ((h.of k0).1.c (r := 15) rfl) (fun v12 ev12 => ?_)
              have bv12 := (h.of k0).n4
              have dv12 : v12.toInt = (μ.2.1 15 4).toInt := by rw [ev12]
              exact gw_some (gq_I k0)
            ·
              refine gw_eq (fun h1_13 => ?_) (fun h1_13 => ?_)
              ·
                refine gw_gRa 3 ((h.of k0).1.c (r := 1) rfl) ((h.of k0).1.r (by decide)) ?_
                refine gw_gI ((h.of k0).1.c (r := 3) rfl) (fun v14 ev14 => ?_)
                have bv14 := (h.of k0).n3
                have dv14 : v14.toInt = (μ.2.1 3 2).toInt := by rw [ev14]
                exact gw_some (gq_I k0)
              ·
                exact gw_some (gq_I k0)
set_option maxHeartbeats 1000000 in
theorem s_X11_trace {μ : gm_M} (h : CI μ) {a1 : Int32}  : gwI (f_X11_trace 1 a1 μ) (fun x m => kc μ m) := by
  refine gwI_of ?_
  unfold f_X11_trace
  have lm1 : (-1 : Int32).toInt = -1 := rfl
  have l0 : (0 : Int32).toInt = 0 := rfl
  have k0 := kc.refl μ
  refine gw_gRa 3 ((h.of k0).1.c (r := 1) rfl) ((h.of k0).1.r (by decide)) ?_
  refine gw_if ((h.of k0).1.t (r := 3) rfl) ?_
  refine gw_bI (s_X7_isKept_3 (h.of k0) ) (fun x1 m1 ⟨z1, f1⟩ => ?_)
  replace z1 := z1.symm
  subst z1
  refine gw_eq (fun h8_2 => ?_) (fun h8_2 => ?_)
  ·
    exact gw_some (gq_I k0)
  ·
    refine gw_gRa 3 ((h.of k0).1.c (r := 1) rfl) ((h.of k0).1.r (by decide)) ?_
    refine gw_if ((h.of k0).1.t (r := 3) rfl) ?_
    refine gw_bI (s_X7_cell_3 (h.of k0) ) (fun x3 m3 z3 => ?_)
    replace z3 := z3.symm
    subst z3
    exact gw_some (gq_I k0)
end
