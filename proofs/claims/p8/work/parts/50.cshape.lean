/-! the class's memory -/
def isch (a : Nat) : Prop := a = 29 ∨ a = 31 ∨ a = 33 ∨ a = 35 ∨ a = 37
def ict (a : Nat) : Prop := isch a ∨ a = 63
def icl (a : Nat) : Prop := ict a ∨ a = 53 ∨ a = 55 ∨ a = 57 ∨ a = 59 ∨ a = 61
def kid (a : Nat) : Prop := 8 ≤ a ∧ a ≤ 14
def AfW (μ : gm_M) (a : Nat) : Prop := (a = 18 ∨ a = 42 ∨ 75 ≤ a) ∧ (μ.1[a]? = some (5, 10) ∧ μ.1[a + 1]? = some (1, 10) ∧ μ.1[a + 2]? = some (1, 10) ∧ μ.1[a + 3]? = some (1, 100)) ∧ (μ.2.2 a 3 = a + 1 ∧ μ.2.2 a 4 = a + 2 ∧ μ.2.2 a 5 = a + 3) ∧ (0 ≤ (μ.2.1 a 2).toInt ∧ (μ.2.1 a 2).toInt ≤ 10) ∧ ∀ k : Nat, k < 10 → 0 ≤ (μ.2.1 (a + 2) k).toInt ∧ (μ.2.1 (a + 2) k).toInt ≤ 100
def scI (μ : gm_M) (s : Nat) : Prop := (0 ≤ (μ.2.1 s 1).toInt ∧ (μ.2.1 s 1).toInt ≤ 5) ∧ (0 ≤ (μ.2.1 s 4).toInt ∧ (μ.2.1 s 4).toInt ≤ 100) ∧ (0 ≤ (μ.2.1 s 5).toInt ∧ (μ.2.1 s 5).toInt ≤ 5) ∧ AfW μ (μ.2.2 s 6) ∧ (0 ≤ (μ.2.1 (s + 8) 2).toInt ∧ (μ.2.1 (s + 8) 2).toInt ≤ 5) ∧ (0 ≤ (μ.2.1 (s + 10) 2).toInt ∧ (μ.2.1 (s + 10) 2).toInt ≤ 8) ∧ (0 ≤ (μ.2.1 (s + 12) 2).toInt ∧ (μ.2.1 (s + 12) 2).toInt ≤ 8) ∧ (μ.2.1 (s + 8) 0).toInt = 5 ∧ (μ.2.1 (s + 10) 0).toInt = 8 ∧ (μ.2.1 (s + 12) 0).toInt = 8 ∧ ∀ k : Nat, k < 5 → (μ.2.1 (s + 9) (3 * k + 2)).toInt ≤ 60
def cI (μ : gm_M) : Prop := scI μ 15 ∧ scI μ 39 ∧ (∀ a : Nat, icl a → kid (μ.2.2 a 1)) ∧ ((0 ≤ (μ.2.1 3 2).toInt ∧ (μ.2.1 3 2).toInt ≤ 1000) ∧ (μ.2.1 3 0).toInt = 20)
def CI (μ : gm_M) : Prop := gS μ ∧ cI μ
theorem isch.t {μ : gm_M} (h : gS μ) {a : Nat} (p : isch a) : gm_tag μ a = 7 := by
  rcases p with rfl | rfl | rfl | rfl | rfl <;> exact h.t rfl
theorem ict.t {μ : gm_M} (h : gS μ) {a : Nat} (p : ict a) : gm_tag μ a = 7 := by
  rcases p with p | rfl
  · exact p.t h
  · exact h.t rfl
theorem ict.c {μ : gm_M} (h : gS μ) {a : Nat} (p : ict a) : [7].contains (gm_tag μ a) = true := by rw [p.t h]; rfl
theorem ict.row {μ : gm_M} (h : gS μ) {a : Nat} (p : ict a) : μ.2.2 a 8 = a + 1 := by
  rcases p with (rfl | rfl | rfl | rfl | rfl) | rfl <;> exact h.r (by decide)
theorem ict.rt {μ : gm_M} (h : gS μ) {a : Nat} (p : ict a) : gm_tag μ (a + 1) = 1 := by
  rcases p with (rfl | rfl | rfl | rfl | rfl) | rfl <;> exact h.t rfl
theorem ict.rl {μ : gm_M} (h : gS μ) {a : Nat} (p : ict a) : gm_len μ (a + 1) = 4 := by
  rcases p with (rfl | rfl | rfl | rfl | rfl) | rfl <;> exact h.l rfl
theorem kid.c {μ : gm_M} (h : gS μ) {a : Nat} (p : kid a) : [6, 8, 9, 10, 11, 14, 15].contains (gm_tag μ a) = true := by
  obtain ⟨p1, p2⟩ := p
  obtain rfl | rfl | rfl | rfl | rfl | rfl | rfl : a = 8 ∨ a = 9 ∨ a = 10 ∨ a = 11 ∨ a = 12 ∨ a = 13 ∨ a = 14 := by omega
  all_goals (rw [h.t rfl]; rfl)
theorem kid.t {μ : gm_M} (h : gS μ) {a : Nat} (p : kid a) : gm_tag μ a = 10 ∨ gm_tag μ a = 11 ∨ gm_tag μ a = 14 ∨ gm_tag μ a = 8 ∨ gm_tag μ a = 9 ∨ gm_tag μ a = 6 ∨ gm_tag μ a = 15 := by
  obtain ⟨p1, p2⟩ := p
  obtain rfl | rfl | rfl | rfl | rfl | rfl | rfl : a = 8 ∨ a = 9 ∨ a = 10 ∨ a = 11 ∨ a = 12 ∨ a = 13 ∨ a = 14 := by omega
  · exact Or.inl (h.t rfl)
  · exact Or.inr (Or.inl (h.t rfl))
  · exact Or.inr (Or.inr (Or.inl (h.t rfl)))
  · exact Or.inr (Or.inr (Or.inr (Or.inl (h.t rfl))))
  · exact Or.inr (Or.inr (Or.inr (Or.inr (Or.inl (h.t rfl)))))
  · exact Or.inr (Or.inr (Or.inr (Or.inr (Or.inr (Or.inl (h.t rfl))))))
  · exact Or.inr (Or.inr (Or.inr (Or.inr (Or.inr (Or.inr (h.t rfl))))))
theorem isch.of {μ : gm_M} (h : gS μ) {i : Int32} (h0 : 0 ≤ i.toInt) (h1 : i.toInt < 5) : isch (μ.2.2 16 i.toInt.toNat) := by
  have e : i.toInt.toNat = 0 ∨ i.toInt.toNat = 1 ∨ i.toInt.toNat = 2 ∨ i.toInt.toNat = 3 ∨ i.toInt.toNat = 4 := by omega
  rcases e with e | e | e | e | e <;> rw [e]
  · exact Or.inl (h.r (by decide))
  · exact Or.inr (Or.inl (h.r (by decide)))
  · exact Or.inr (Or.inr (Or.inl (h.r (by decide))))
  · exact Or.inr (Or.inr (Or.inr (Or.inl (h.r (by decide)))))
  · exact Or.inr (Or.inr (Or.inr (Or.inr (h.r (by decide)))))
theorem isch.at {μ : gm_M} (h : gS μ) {k : Nat} (h1 : k < 5) : μ.2.2 16 k = 29 + 2 * k := by
  have e : k = 0 ∨ k = 1 ∨ k = 2 ∨ k = 3 ∨ k = 4 := by omega
  rcases e with rfl | rfl | rfl | rfl | rfl <;> exact h.r (by decide)
theorem AfW.tc {μ : gm_M} {a : Nat} (p : AfW μ a) : [5].contains (gm_tag μ a) = true := by
  unfold gm_tag; rw [p.2.1.1]; rfl
theorem AfW.t {μ : gm_M} {a : Nat} (p : AfW μ a) : gm_tag μ a = 5 := by
  unfold gm_tag; rw [p.2.1.1]
theorem AfW.t1 {μ : gm_M} {a : Nat} (p : AfW μ a) : gm_tag μ (a + 1) = 1 := by
  unfold gm_tag; rw [p.2.1.2.1]
theorem AfW.t2 {μ : gm_M} {a : Nat} (p : AfW μ a) : gm_tag μ (a + 2) = 1 := by
  unfold gm_tag; rw [p.2.1.2.2.1]
theorem AfW.t3 {μ : gm_M} {a : Nat} (p : AfW μ a) : gm_tag μ (a + 3) = 1 := by
  unfold gm_tag; rw [p.2.1.2.2.2]
theorem AfW.l1 {μ : gm_M} {a : Nat} (p : AfW μ a) : gm_len μ (a + 1) = 10 := by
  unfold gm_len; rw [p.2.1.2.1]
theorem AfW.l2 {μ : gm_M} {a : Nat} (p : AfW μ a) : gm_len μ (a + 2) = 10 := by
  unfold gm_len; rw [p.2.1.2.2.1]
theorem AfW.l3 {μ : gm_M} {a : Nat} (p : AfW μ a) : gm_len μ (a + 3) = 100 := by
  unfold gm_len; rw [p.2.1.2.2.2]
theorem AfW.r1 {μ : gm_M} {a : Nat} (p : AfW μ a) : μ.2.2 a 3 = a + 1 := p.2.2.1.1
theorem AfW.r2 {μ : gm_M} {a : Nat} (p : AfW μ a) : μ.2.2 a 4 = a + 2 := p.2.2.1.2.1
theorem AfW.r3 {μ : gm_M} {a : Nat} (p : AfW μ a) : μ.2.2 a 5 = a + 3 := p.2.2.1.2.2
theorem AfW.n {μ : gm_M} {a : Nat} (p : AfW μ a) : 0 ≤ (μ.2.1 a 2).toInt ∧ (μ.2.1 a 2).toInt ≤ 10 := p.2.2.2.1
theorem AfW.en {μ : gm_M} {a : Nat} (p : AfW μ a) (k : Nat) (h : k < 10) : 0 ≤ (μ.2.1 (a + 2) k).toInt ∧ (μ.2.1 (a + 2) k).toInt ≤ 100 := p.2.2.2.2 k h
/-- what holds an afternoon's cells as they were keeps it one -/
theorem AfW.same {μ m : gm_M} {a : Nat} (p : AfW μ a) (e1 : ∀ (r : Nat) (q : Nat × Nat), μ.1[r]? = some q → m.1[r]? = some q) (e2 : m.2.2 a = μ.2.2 a) (e3 : m.2.1 a = μ.2.1 a) (e4 : m.2.1 (a + 2) = μ.2.1 (a + 2)) : AfW m a := by
  obtain ⟨p0, ⟨p1, p2, p3, p4⟩, p5, p6, p7⟩ := p
  refine ⟨p0, ⟨e1 _ _ p1, e1 _ _ p2, e1 _ _ p3, e1 _ _ p4⟩, ?_, ?_, ?_⟩
  · rw [e2]; exact p5
  · rw [e3]; exact p6
  · rw [e4]; exact p7
theorem AfW.eq {μ m : gm_M} {a : Nat} (p : AfW μ a) (e : m = μ) : AfW m a := by rw [e]; exact p
theorem CI.eq {μ m : gm_M} (p : CI μ) (e : m = μ) : CI m := by rw [e]; exact p
/-- what an asking of the class may change -/
def kc (μ m : gm_M) : Prop := m.1 = μ.1 ∧ (∀ r : Nat, r ≠ 1 → r ≠ 5 → r ≠ 6 → r ≠ 7 → r ≠ 63 → r ≠ 64 → m.2.1 r = μ.2.1 r) ∧ (∀ j : Nat, j ≠ 9 → m.2.1 1 j = μ.2.1 1 j) ∧ (∀ r j : Nat, ¬ (r = 63 ∧ j = 1) → m.2.2 r j = μ.2.2 r j) ∧ (kid (μ.2.2 63 1) → kid (m.2.2 63 1))
theorem kc.refl (μ : gm_M) : kc μ μ := ⟨rfl, fun _ _ _ _ _ _ _ => rfl, fun _ _ => rfl, fun _ _ _ => rfl, fun h => h⟩
theorem kc.trans {a b c : gm_M} (h : kc a b) (g : kc b c) : kc a c := by
  obtain ⟨h1, h2, h3, h4, h5⟩ := h
  obtain ⟨g1, g2, g3, g4, g5⟩ := g
  exact ⟨g1.trans h1, fun r r1 r2 r3 r4 r5 r6 => (g2 r r1 r2 r3 r4 r5 r6).trans (h2 r r1 r2 r3 r4 r5 r6), fun j hj => (g3 j hj).trans (h3 j hj), fun r j hr => (g4 r j hr).trans (h4 r j hr), fun q => g5 (h5 q)⟩
theorem kc.gS {μ m : gm_M} (g : kc μ m) (h : gS μ) : gS m := by
  refine ⟨fun r q e => by rw [g.1]; exact h.1 r q e, fun q hq => ?_⟩
  rw [g.2.2.2.1 q.1 q.2.1 (fun e => ?_)]
  · exact h.2 q hq
  · obtain ⟨a, b, c⟩ := q
    obtain ⟨rfl, rfl⟩ := e
    revert hq
    have : ∀ q ∈ gRl, ¬ (q.1 = 63 ∧ q.2.1 = 1) := by decide
    exact fun hq => this _ hq ⟨rfl, rfl⟩
theorem kc.row {μ m : gm_M} (g : kc μ m) {r : Nat} (h : r ≠ 1 ∧ r ≠ 5 ∧ r ≠ 6 ∧ r ≠ 7 ∧ r ≠ 63 ∧ r ≠ 64) : m.2.1 r = μ.2.1 r := g.2.1 r h.1 h.2.1 h.2.2.1 h.2.2.2.1 h.2.2.2.2.1 h.2.2.2.2.2
theorem kc.ref {μ m : gm_M} (g : kc μ m) {r : Nat} (h : r ≠ 63) : m.2.2 r = μ.2.2 r := funext fun j => g.2.2.2.1 r j (fun e => h e.1)
theorem AfW.kc {μ m : gm_M} {a : Nat} (p : AfW μ a) (g : kc μ m) : AfW m a := by
  have p0 := p.1
  exact p.same (fun r q e => by rw [g.1]; exact e) (g.ref (by omega)) (g.row (by omega)) (g.row (by omega))
theorem scI.same {μ m : gm_M} {s : Nat} (p : scI μ s) (e1 : ∀ (r : Nat) (q : Nat × Nat), μ.1[r]? = some q → m.1[r]? = some q) (e2 : ∀ j, j = 1 ∨ j = 4 ∨ j = 5 → m.2.1 s j = μ.2.1 s j) (e3 : m.2.2 s 6 = μ.2.2 s 6) (e4 : ∀ r, r = s + 8 ∨ r = s + 9 ∨ r = s + 10 ∨ r = s + 12 → m.2.1 r = μ.2.1 r) (ea : AfW μ (μ.2.2 s 6) → AfW m (μ.2.2 s 6)) : scI m s := by
  obtain ⟨p1, p2, p3, p4, p5, p6, p7, p8⟩ := p
  unfold scI
  rw [e2 1 (by omega), e2 4 (by omega), e2 5 (by omega), e3, e4 (s + 8) (by omega), e4 (s + 9) (by omega), e4 (s + 10) (by omega), e4 (s + 12) (by omega)]
  exact ⟨p1, p2, p3, ea p4, p5, p6, p7, p8⟩
theorem CI.of {μ m : gm_M} (h : CI μ) (g : kc μ m) : CI m := by
  obtain ⟨h0, h1, h2, h3, h4⟩ := h
  refine ⟨g.gS h0, h1.same (fun r q e => by rw [g.1]; exact e) (fun j _ => by rw [g.row (by decide)]) (by rw [g.ref (by decide)]) (fun r hr => g.row (by omega)) (fun p => p.kc g), h2.same (fun r q e => by rw [g.1]; exact e) (fun j _ => by rw [g.row (by decide)]) (by rw [g.ref (by decide)]) (fun r hr => g.row (by omega)) (fun p => p.kc g), fun a ha => ?_, ?_⟩
  · by_cases e : a = 63
    · subst e; exact g.2.2.2.2 (h3 _ ha)
    · rw [g.ref e]; exact h3 _ ha
  · rw [g.row (by decide)]; exact h4
/-- writes of ints -/
theorem kc.wr {a b m : gm_M} {r j : Nat} {x : Int32} (h : kc a b) (e : m = (b.1, gm_u b.2.1 r j x, b.2.2)) (hr : r = 5 ∨ r = 6 ∨ r = 7 ∨ r = 63 ∨ r = 64) : kc a m := by
  subst e
  refine h.trans ⟨rfl, fun q h1 h2 h3 h4 h5 h6 => ?_, fun k _ => ?_, fun _ _ _ => rfl, fun q => q⟩
  · show gm_u b.2.1 r j x q = b.2.1 q
    exact gu_row (by omega)
  · show gm_u b.2.1 r j x 1 k = b.2.1 1 k
    rw [gu_row (by omega)]
theorem kc.w1 {a b m : gm_M} {x : Int32} (h : kc a b) (e : m = (b.1, gm_u b.2.1 1 9 x, b.2.2)) : kc a m := by
  subst e
  refine h.trans ⟨rfl, fun q h1 h2 h3 h4 h5 h6 => ?_, fun k hk => ?_, fun _ _ _ => rfl, fun q => q⟩
  · show gm_u b.2.1 1 9 x q = b.2.1 q
    exact gu_row h1
  · show gm_u b.2.1 1 9 x 1 k = b.2.1 1 k
    exact gu_ne hk
theorem kc.wk {a b m : gm_M} {x : Nat} (h : kc a b) (e : m = (b.1, b.2.1, gm_u b.2.2 63 1 x)) (hx : kid x) : kc a m := by
  subst e
  refine h.trans ⟨rfl, fun q h1 h2 h3 h4 h5 h6 => rfl, fun k hk => rfl, fun r j hj => ?_, fun _ => ?_⟩
  · show gm_u b.2.2 63 1 x r j = b.2.2 r j
    by_cases e : r = 63
    · subst e
      exact gu_ne (fun q => hj ⟨rfl, q⟩)
    · rw [gu_row e]
  · show kid (gm_u b.2.2 63 1 x 63 1)
    rw [gu_eq]; exact hx
/-- a child changes by itself -/
def chg (a : Nat) (μ m : gm_M) : Prop := m.1 = μ.1 ∧ m.2.2 = μ.2.2 ∧ (∀ r : Nat, r ≠ a → m.2.1 r = μ.2.1 r) ∧ ∀ j : Nat, j < 3 → m.2.1 a j = μ.2.1 a j
theorem chg.refl (a : Nat) (μ : gm_M) : chg a μ μ := ⟨rfl, rfl, fun _ _ => rfl, fun _ _ => rfl⟩
theorem chg.w {a j : Nat} {μ b m : gm_M} {x : Int32} (h : chg a μ b) (e : m = (b.1, gm_u b.2.1 a j x, b.2.2)) (hj : 3 ≤ j) : chg a μ m := by
  subst e
  obtain ⟨h1, h2, h3, h4⟩ := h
  refine ⟨h1, h2, fun r hr => ?_, fun k hk => ?_⟩
  · show gm_u b.2.1 a j x r = μ.2.1 r
    rw [gu_row hr]; exact h3 r hr
  · show gm_u b.2.1 a j x a k = μ.2.1 a k
    rw [gu_ne (by omega)]; exact h4 k hk
theorem kc.ch {a b m : gm_M} (h : kc a b) (g : chg 63 b m) : kc a m := by
  obtain ⟨h1, h2, h3, h4⟩ := g
  exact h.trans ⟨h1, fun r _ _ _ _ h5 _ => h3 r h5, fun j _ => by rw [h3 1 (by decide)], fun r j _ => by rw [h2], fun q => by rw [h2]; exact q⟩
theorem CI.ch {μ m : gm_M} {a : Nat} (h : CI μ) (ha : ict a) (g : chg a μ m) : CI m := by
  obtain ⟨g1, g2, g3, g4⟩ := g
  obtain ⟨h0, h1, h2, h3, h4⟩ := h
  have hn : a ≠ 24 ∧ a ≠ 48 ∧ a ≠ 15 ∧ a ≠ 39 ∧ a ≠ 23 ∧ a ≠ 25 ∧ a ≠ 27 ∧ a ≠ 47 ∧ a ≠ 49 ∧ a ≠ 51 ∧ a ≠ 3 ∧ 29 ≤ a ∧ a ≤ 63 ∧ a ≠ 42 ∧ a ≠ 44 := by
    unfold ict isch at ha; omega
  have hA : ∀ q, AfW μ q → AfW m q := fun q p => by
    have p0 := p.1
    exact p.same (fun r q e => by rw [g1]; exact e) (by rw [g2]) (g3 _ (by omega)) (g3 _ (by omega))
  refine ⟨h0.same g1 g2, h1.same (fun r q e => by rw [g1]; exact e) (fun j _ => by rw [g3 15 (by omega)]) (by rw [g2]) (fun r hr => g3 r (by omega)) (hA _), h2.same (fun r q e => by rw [g1]; exact e) (fun j _ => by rw [g3 39 (by omega)]) (by rw [g2]) (fun r hr => g3 r (by omega)) (hA _), fun a ha => by rw [g2]; exact h3 a ha, by rw [g3 3 (by omega)]; exact h4⟩
theorem gx_cp {β : Type} {μ : gm_M} {src dst : Nat} {sp dp i : Int32} {n1 n2 : Nat} {f : gm_M → Option β} {Q : β → Prop} (h1 : src ≠ dst) (h2 : gm_tag μ src = 1) (h3 : gm_tag μ dst = 1) (l1 : gm_len μ src = n1) (l2 : gm_len μ dst = n2) (a0 : 0 ≤ sp.toInt) (b0 : 0 ≤ dp.toInt) (c0 : 0 ≤ i.toInt) (a1 : sp.toInt + i.toInt ≤ n1) (b1 : dp.toInt + i.toInt ≤ n2) (k : ∀ m : gm_M, m.1 = μ.1 → m.2.2 = μ.2.2 → (∀ r : Nat, r ≠ dst → m.2.1 r = μ.2.1 r) → (∀ j : Nat, m.2.1 dst j = va_cpy (μ.2.1 src) (μ.2.1 dst) sp.toInt.toNat dp.toInt.toNat i.toInt.toNat j) → gw (f m) Q) : gw (gm_cp μ src sp dst dp i f) Q := by
  have hn : ∀ x : Int32, 0 ≤ x.toInt → ¬ x < 0 := fun x hx e => by
    rw [Int32.lt_iff_toInt_lt] at e
    have : (0 : Int32).toInt = 0 := rfl
    omega
  unfold gm_cp
  rw [if_pos ⟨h1, h2, h3, hn _ a0, hn _ b0, hn _ c0, by rw [l1]; show sp.toInt.toNat + i.toInt.toNat ≤ n1; omega, by rw [l2]; show dp.toInt.toNat + i.toInt.toNat ≤ n2; omega⟩]
  refine k _ rfl rfl (fun r hr => ?_) (fun j => ?_)
  · funext j
    show (if r = dst then _ else μ.2.1 r j) = _
    rw [if_neg hr]
  · show (if dst = dst then _ else _) = _
    rw [if_pos rfl]
    rfl
theorem kc.cp {a b m : gm_M} {dst : Nat} (h : kc a b) (e1 : m.1 = b.1) (e2 : m.2.2 = b.2.2) (e3 : ∀ r : Nat, r ≠ dst → m.2.1 r = b.2.1 r) (hd : dst = 5 ∨ dst = 6 ∨ dst = 7 ∨ dst = 64) : kc a m :=
  h.trans ⟨e1, fun r _ _ _ _ _ _ => e3 r (by omega), fun j _ => by rw [e3 1 (by omega)], fun _ _ _ => by rw [e2], fun q => by rw [e2]; exact q⟩
theorem ks_mono {ks kt : List Nat} {t : Nat} (h : ks.contains t = true) (w : ∀ x ∈ ks, x ∈ kt) : kt.contains t = true := List.contains_iff_mem.mpr (w _ (List.contains_iff_mem.mp h))
theorem CI.n1 {μ : gm_M} (h : CI μ) : 0 ≤ (μ.2.1 15 1).toInt ∧ (μ.2.1 15 1).toInt ≤ 5 := h.2.1.1
theorem CI.n4 {μ : gm_M} (h : CI μ) : 0 ≤ (μ.2.1 15 4).toInt ∧ (μ.2.1 15 4).toInt ≤ 100 := h.2.1.2.1
theorem CI.n5 {μ : gm_M} (h : CI μ) : 0 ≤ (μ.2.1 15 5).toInt ∧ (μ.2.1 15 5).toInt ≤ 5 := h.2.1.2.2.1
theorem CI.af {μ : gm_M} (h : CI μ) : AfW μ (μ.2.2 15 6) := h.2.1.2.2.2.1
theorem CI.n23 {μ : gm_M} (h : CI μ) : 0 ≤ (μ.2.1 23 2).toInt ∧ (μ.2.1 23 2).toInt ≤ 5 := h.2.1.2.2.2.2.1
theorem CI.n25 {μ : gm_M} (h : CI μ) : 0 ≤ (μ.2.1 25 2).toInt ∧ (μ.2.1 25 2).toInt ≤ 8 := h.2.1.2.2.2.2.2.1
theorem CI.n27 {μ : gm_M} (h : CI μ) : 0 ≤ (μ.2.1 27 2).toInt ∧ (μ.2.1 27 2).toInt ≤ 8 := h.2.1.2.2.2.2.2.2.1
theorem CI.l23 {μ : gm_M} (h : CI μ) : (μ.2.1 23 0).toInt = 5 := h.2.1.2.2.2.2.2.2.2.1
theorem CI.l25 {μ : gm_M} (h : CI μ) : (μ.2.1 25 0).toInt = 8 := h.2.1.2.2.2.2.2.2.2.2.1
theorem CI.l27 {μ : gm_M} (h : CI μ) : (μ.2.1 27 0).toInt = 8 := h.2.1.2.2.2.2.2.2.2.2.2.1
theorem CI.sm {μ : gm_M} (h : CI μ) (k : Nat) (hk : k < 5) : (μ.2.1 24 (3 * k + 2)).toInt ≤ 60 := h.2.1.2.2.2.2.2.2.2.2.2.2 k hk
theorem CI.n3 {μ : gm_M} (h : CI μ) : 0 ≤ (μ.2.1 3 2).toInt ∧ (μ.2.1 3 2).toInt ≤ 1000 := h.2.2.2.2.1
theorem CI.l3 {μ : gm_M} (h : CI μ) : (μ.2.1 3 0).toInt = 20 := h.2.2.2.2.2
theorem CI.kd {μ : gm_M} (h : CI μ) {a : Nat} (p : ict a) : kid (μ.2.2 a 1) := h.2.2.2.1 a (Or.inl p)
theorem gx_and3 (x : Int32) : 0 ≤ (x &&& 3).toInt ∧ (x &&& 3).toInt ≤ 3 := by
  have e : (x &&& 3).toInt = ((x &&& 3).toBitVec.toNat : Int) := by
    rw [← Int32.toInt_toBitVec, BitVec.toInt_eq_toNat_of_lt]
    have : (x &&& 3).toBitVec.toNat ≤ 3 := by
      rw [Int32.toBitVec_and, BitVec.toNat_and]
      exact Nat.and_le_right
    omega
  have : (x &&& 3).toBitVec.toNat ≤ 3 := by
    rw [Int32.toBitVec_and, BitVec.toNat_and]
    exact Nat.and_le_right
  omega
theorem gw_io {β : Type} {μ : gm_M} {ys ns : List Nat} {r : Nat} {f : Int32 → Option β} {Q : β → Prop} (h : ys.contains (gm_tag μ r) = true ∨ ns.contains (gm_tag μ r) = true) (k : ∀ x : Int32, (x.toInt = 1 ∧ ys.contains (gm_tag μ r) = true) ∨ (x.toInt = 0 ∧ ¬ ys.contains (gm_tag μ r) = true) → gw (f x) Q) : gw (gm_io μ ys ns r f) Q := by
  unfold gm_io
  by_cases e : ys.contains (gm_tag μ r) = true
  · rw [if_pos e]; exact k 1 (Or.inl ⟨rfl, e⟩)
  · rw [if_neg e, if_pos (h.resolve_left e)]; exact k 0 (Or.inr ⟨rfl, e⟩)
