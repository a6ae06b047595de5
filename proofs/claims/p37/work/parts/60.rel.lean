section
/-! the class's changes, place by place -/
def wI (μ : gm_M) (r j : Nat) (x : Int32) : gm_M := (μ.1, gm_u μ.2.1 r j x, μ.2.2)
theorem wI_1 (μ : gm_M) (r j : Nat) (x : Int32) : (wI μ r j x).1 = μ.1 := rfl
theorem wI_2 (μ : gm_M) (r j : Nat) (x : Int32) : (wI μ r j x).2.2 = μ.2.2 := rfl
theorem wI_o (μ : gm_M) (r j : Nat) (x : Int32) {q : Nat} (h : q ≠ r) : (wI μ r j x).2.1 q = μ.2.1 q := gu_row h
theorem wI_n (μ : gm_M) (r j : Nat) (x : Int32) {k : Nat} (h : k ≠ j) : (wI μ r j x).2.1 r k = μ.2.1 r k := gu_ne h
theorem wI_e (μ : gm_M) (r j : Nat) (x : Int32) : (wI μ r j x).2.1 r j = x := gu_eq
theorem wI_t (μ : gm_M) (r j : Nat) (x : Int32) (q : Nat) : gm_tag (wI μ r j x) q = gm_tag μ q := rfl
theorem wI_l (μ : gm_M) (r j : Nat) (x : Int32) (q : Nat) : gm_len (wI μ r j x) q = gm_len μ q := rfl
theorem gS.wI {μ : gm_M} (h : gS μ) (r j : Nat) (x : Int32) : gS (wI μ r j x) := h
theorem gw_pIw {β : Type} {μ : gm_M} {ks : List Nat} {r j : Nat} {x : Int32} {Q : β → Prop} {f : gm_M → Option β} (h : ks.contains (gm_tag μ r) = true) (k : gw (f (wI μ r j x)) Q) : gw (gm_pI μ ks r j x f) Q := gw_pI h (fun m e => by rw [e]; exact k)
theorem gw_pZw {β : Type} {μ : gm_M} {ks : List Nat} {r j : Nat} {x : Int32} {Q : β → Prop} {f : gm_M → Option β} (h : ks.contains (gm_tag μ r) = true) (hx : x.toInt = 0 ∨ x.toInt = 1) (k : gw (f (wI μ r j x)) Q) : gw (gm_pZ μ ks r j x f) Q := gw_pZ h hx (fun m e => by rw [e]; exact k)
theorem gw_sIw {β : Type} {μ : gm_M} {r n : Nat} {i x : Int32} {Q : β → Prop} {f : gm_M → Option β} (j : Nat) (t : gm_tag μ r = 1) (l : gm_len μ r = n) (hj : i.toInt = j) (h1 : j < n) (k : gw (f (wI μ r j x)) Q) : gw (gm_sI μ r i x f) Q :=
  gw_sI t l (by omega) (by omega) (fun m e => by
    have : i.toInt.toNat = j := by omega
    rw [this] at e
    rw [e]; exact k)
theorem gw_aIw {β : Type} {μ : gm_M} {r n : Nat} {i : Int32} {Q : β → Prop} {f : Int32 → Option β} (j : Nat) (t : gm_tag μ r = 1) (l : gm_len μ r = n) (hj : i.toInt = j) (h1 : j < n) (k : gw (f (μ.2.1 r j)) Q) : gw (gm_aI μ r i f) Q :=
  gw_aI t l (by omega) (by omega) (fun v e => by
    have : i.toInt.toNat = j := by omega
    rw [this] at e
    rw [e]; exact k)
theorem gw_gIw {β : Type} {μ : gm_M} {ks : List Nat} {r j : Nat} {Q : β → Prop} {f : Int32 → Option β} (h : ks.contains (gm_tag μ r) = true) (k : gw (f (μ.2.1 r j)) Q) : gw (gm_gI μ ks r j f) Q := gw_gI h (fun v e => by rw [e]; exact k)
/-- a row is added -/
def ad (μ : gm_M) (r : Nat) (a b c : Int32) : gm_M := wI (wI (wI (wI μ (r + 1) (3 * (μ.2.1 r 2).toInt.toNat) a) (r + 1) (3 * (μ.2.1 r 2).toInt.toNat + 1) b) (r + 1) (3 * (μ.2.1 r 2).toInt.toNat + 2) c) r 2 (μ.2.1 r 2 + 1)
theorem s_add {μ : gm_M} {r n : Nat} (L : Int) (ht : gm_tag μ r = 12) (hc : gm_tag μ (r + 1) = 1) (hl : gm_len μ (r + 1) = n) (hr : μ.2.2 r 1 = r + 1) (hL : (μ.2.1 r 0).toInt = L) (h0 : 0 ≤ (μ.2.1 r 2).toInt) (h1 : (μ.2.1 r 2).toInt ≤ 100000) (hn : 3 * L ≤ n) {a b c : Int32} : gwI (f_X7_add r a b c μ) (fun x m => x = μ.2.1 r 2 + 1 ∧ (((μ.2.1 r 2).toInt < L ∧ m = ad μ r a b c) ∨ (L ≤ (μ.2.1 r 2).toInt ∧ m = wI μ r 2 (μ.2.1 r 2 + 1)))) := by
  refine gwI_of ?_
  unfold f_X7_add
  have l1 : (1 : Int32).toInt = 1 := rfl
  have l2 : (2 : Int32).toInt = 2 := rfl
  have l3 : (3 : Int32).toInt = 3 := rfl
  have c12 : ∀ q : Nat, q = 12 → [12].contains q = true := fun q e => by rw [e]; rfl
  refine gw_gIw (c12 _ ht) ?_
  refine gw_gIw (c12 _ ht) ?_
  refine gw_ji ?_
  have fin : ∀ m : gm_M, m.1 = μ.1 → m.2.1 r 2 = μ.2.1 r 2 → (((μ.2.1 r 2).toInt < L ∧ wI m r 2 (μ.2.1 r 2 + 1) = ad μ r a b c) ∨ (L ≤ (μ.2.1 r 2).toInt ∧ wI m r 2 (μ.2.1 r 2 + 1) = wI μ r 2 (μ.2.1 r 2 + 1))) → gw (gm_gI m [12] r 2 (fun v5 => gm_pI m [12] r 2 (v5 + (1 : Int32)) (fun m6 => gm_gI m6 [12] r 2 (fun v7 => some (some (.int v7), m6))))) (gqI (fun x m => x = μ.2.1 r 2 + 1 ∧ (((μ.2.1 r 2).toInt < L ∧ m = ad μ r a b c) ∨ (L ≤ (μ.2.1 r 2).toInt ∧ m = wI μ r 2 (μ.2.1 r 2 + 1))))) := by
    intro m e1 e2 hd
    have t : gm_tag m r = 12 := by unfold gm_tag; rw [e1]; exact ht
    refine gw_gIw (c12 _ t) ?_
    refine gw_pIw (c12 _ t) ?_
    refine gw_gIw (c12 _ t) ?_
    rw [wI_e, e2]
    exact gw_some (gq_I ⟨rfl, hd⟩)
  refine gw_le (fun g => ?_) (fun g => ?_)
  · exact fin μ rfl rfl (Or.inr ⟨by omega, rfl⟩)
  · have hne : r ≠ r + 1 := by omega
    have nm : (μ.2.1 r 2 * (3 : Int32)).toInt = 3 * (μ.2.1 r 2).toInt := gx_mulr 3 rfl (by omega) (by omega)
    have n1 : (μ.2.1 r 2 * (3 : Int32) + (1 : Int32)).toInt = (μ.2.1 r 2 * (3 : Int32)).toInt + (1 : Int32).toInt := gx_add (by omega) (by omega)
    have n2 : (μ.2.1 r 2 * (3 : Int32) + (2 : Int32)).toInt = (μ.2.1 r 2 * (3 : Int32)).toInt + (2 : Int32).toInt := gx_add (by omega) (by omega)
    refine gw_gRa (r + 1) (c12 _ ht) hr ?_
    refine gw_gIw (c12 _ ht) ?_
    refine gw_sIw (3 * (μ.2.1 r 2).toInt.toNat) hc hl (by omega) (by omega) ?_
    refine gw_gRa (r + 1) (c12 _ ht) hr ?_
    refine gw_gIw (c12 _ ht) ?_
    rw [wI_o _ _ _ _ hne]
    refine gw_sIw (3 * (μ.2.1 r 2).toInt.toNat + 1) hc hl (by omega) (by omega) ?_
    refine gw_gRa (r + 1) (c12 _ ht) hr ?_
    refine gw_gIw (c12 _ ht) ?_
    rw [wI_o _ _ _ _ hne, wI_o _ _ _ _ hne]
    refine gw_sIw (3 * (μ.2.1 r 2).toInt.toNat + 2) hc hl (by omega) (by omega) ?_
    refine fin _ rfl ?_ (Or.inl ⟨by omega, rfl⟩)
    rw [wI_o _ _ _ _ hne, wI_o _ _ _ _ hne, wI_o _ _ _ _ hne]
theorem s_clear {μ : gm_M} {r : Nat} (ht : gm_tag μ r = 12) : gwI (f_X7_clear r μ) (fun x m => x = 0 ∧ m = wI μ r 2 0) := by
  refine gwI_of ?_
  unfold f_X7_clear
  refine gw_pIw (by rw [ht]; rfl) ?_
  exact gw_some (gq_I ⟨rfl, rfl⟩)
theorem s_isFull {μ : gm_M} {r : Nat} (ht : gm_tag μ r = 12) : gwI (f_X7_isFull r μ) (fun x m => m = μ ∧ ((x.toInt = 0 ∧ (μ.2.1 r 2).toInt < (μ.2.1 r 0).toInt) ∨ (x.toInt = 1 ∧ (μ.2.1 r 0).toInt ≤ (μ.2.1 r 2).toInt))) := by
  refine gwI_of ?_
  unfold f_X7_isFull
  have l0 : (0 : Int32).toInt = 0 := rfl
  have l1 : (1 : Int32).toInt = 1 := rfl
  refine gw_gIw (by rw [ht]; rfl) ?_
  refine gw_gIw (by rw [ht]; rfl) ?_
  refine gw_lt (fun g => ?_) (fun g => ?_)
  · exact gw_z Iff.rfl (by omega) (gq_I ⟨rfl, by omega⟩)
  · exact gw_z Iff.rfl (by omega) (gq_I ⟨rfl, by omega⟩)
/-- a child begins -/
theorem s_begin {μ : gm_M} (h : gS μ) {a kd : Nat} {v sw : Int32} (ha : isch a) : gwV (f_X2_begin a kd v sw μ) (fun m => m.1 = μ.1 ∧ m.2.2 = gm_u μ.2.2 a 1 kd ∧ (∀ r : Nat, r ≠ a → r ≠ a + 1 → m.2.1 r = μ.2.1 r) ∧ m.2.1 a 0 = μ.2.1 a 0 ∧ m.2.1 a 2 = v ∧ m.2.1 a 3 = 1 ∧ m.2.1 a 4 = sw ∧ m.2.1 a 5 = 0 ∧ m.2.1 a 6 = 0 ∧ m.2.1 a 7 = 0 ∧ ∀ j : Nat, j < 4 → m.2.1 (a + 1) j = 0) := by
  refine gwV_of ?_
  unfold f_X2_begin
  have l0 : (0 : Int32).toInt = 0 := rfl
  have l1 : (1 : Int32).toInt = 1 := rfl
  have ht : [7].contains (gm_tag μ a) = true := ict.c h (Or.inl ha)
  have htr : gm_tag μ (a + 1) = 1 := ict.rt h (Or.inl ha)
  have hlr : gm_len μ (a + 1) = 4 := ict.rl h (Or.inl ha)
  have hr8 : μ.2.2 a 8 = a + 1 := ict.row h (Or.inl ha)
  refine gw_pR ht (fun m1 e1 => ?_)
  subst e1
  refine gw_pIw ht ?_
  refine gw_pIw ht ?_
  refine gw_pIw ht ?_
  refine gw_pIw ht ?_
  refine gw_pIw ht ?_
  refine gw_pIw ht ?_
  generalize hM : wI (wI (wI (wI (wI (wI (μ.1, μ.2.1, gm_u μ.2.2 a 1 kd) a 2 v) a 3 1) a 4 sw) a 5 0) a 6 0) a 7 0 = M
  have M1 : M.1 = μ.1 := by rw [← hM]; rfl
  have M2 : M.2.2 = gm_u μ.2.2 a 1 kd := by rw [← hM]; rfl
  have Mo : ∀ r : Nat, r ≠ a → M.2.1 r = μ.2.1 r := fun r hr => by
    rw [← hM, wI_o _ _ _ _ hr, wI_o _ _ _ _ hr, wI_o _ _ _ _ hr, wI_o _ _ _ _ hr, wI_o _ _ _ _ hr, wI_o _ _ _ _ hr]
  have Mn : M.2.1 a 0 = μ.2.1 a 0 := by
    rw [← hM, wI_n _ _ _ _ (by decide), wI_n _ _ _ _ (by decide), wI_n _ _ _ _ (by decide), wI_n _ _ _ _ (by decide), wI_n _ _ _ _ (by decide), wI_n _ _ _ _ (by decide)]
  have M7 : M.2.1 a 7 = 0 := by rw [← hM, wI_e]
  have M6 : M.2.1 a 6 = 0 := by rw [← hM, wI_n _ _ _ _ (by decide), wI_e]
  have M5 : M.2.1 a 5 = 0 := by rw [← hM, wI_n _ _ _ _ (by decide), wI_n _ _ _ _ (by decide), wI_e]
  have M4 : M.2.1 a 4 = sw := by rw [← hM, wI_n _ _ _ _ (by decide), wI_n _ _ _ _ (by decide), wI_n _ _ _ _ (by decide), wI_e]
  have M3 : M.2.1 a 3 = 1 := by rw [← hM, wI_n _ _ _ _ (by decide), wI_n _ _ _ _ (by decide), wI_n _ _ _ _ (by decide), wI_n _ _ _ _ (by decide), wI_e]
  have Mv : M.2.1 a 2 = v := by rw [← hM, wI_n _ _ _ _ (by decide), wI_n _ _ _ _ (by decide), wI_n _ _ _ _ (by decide), wI_n _ _ _ _ (by decide), wI_n _ _ _ _ (by decide), wI_e]
  clear hM
  refine gw_loop (fun s => (0 ≤ s.1.toInt ∧ s.1.toInt ≤ 4) ∧ s.2.1 = M.1 ∧ s.2.2.2 = M.2.2 ∧ (∀ r : Nat, r ≠ a + 1 → s.2.2.1 r = M.2.1 r) ∧ ∀ j : Nat, (j : Int) < s.1.toInt → s.2.2.1 (a + 1) j = 0) (fun s => 4 - s.1.toInt) (fun s ⟨g1, g2, g3, g4, g5⟩ => ?_) 5000 ((0 : Int32), M) ⟨⟨by show 0 ≤ (0 : Int32).toInt; omega, by show (0 : Int32).toInt ≤ 4; omega⟩, rfl, rfl, fun _ _ => rfl, fun j hj => by have : (j : Int) < (0 : Int32).toInt := hj; omega⟩ (by show 4 - (0 : Int32).toInt < ((5000 : Nat) : Int); omega) (by show 0 ≤ 4 - (0 : Int32).toInt; omega)
  have t7 : [7].contains (gm_tag s.2 a) = true := by unfold gm_tag; rw [g2, M1]; exact ht
  have t1 : gm_tag s.2 (a + 1) = 1 := by unfold gm_tag; rw [g2, M1]; exact htr
  have tl : gm_len s.2 (a + 1) = 4 := by unfold gm_len; rw [g2, M1]; exact hlr
  have t8 : s.2.2.2 a 8 = a + 1 := by rw [g3, M2, gu_ne (by decide)]; exact hr8
  refine gw_gRa (a + 1) t7 t8 ?_
  refine gw_al t1 tl ?_
  have lo : (Int32.ofNat 4).toInt = 4 := rfl
  refine gw_le (fun g => ?_) (fun g => ?_)
  · refine gw_some (gs_inr (gq_V ⟨g2.trans M1, g3.trans M2, fun r r1 r2 => (g4 r r2).trans (Mo r r1), ?_, ?_, ?_, ?_, ?_, ?_, ?_, fun j hj => g5 j (by omega)⟩))
    · rw [g4 a (by omega)]; exact Mn
    · rw [g4 a (by omega)]; exact Mv
    · rw [g4 a (by omega)]; exact M3
    · rw [g4 a (by omega)]; exact M4
    · rw [g4 a (by omega)]; exact M5
    · rw [g4 a (by omega)]; exact M6
    · rw [g4 a (by omega)]; exact M7
  · refine gw_gRa (a + 1) t7 t8 ?_
    refine gw_sIw s.1.toInt.toNat t1 tl (by omega) (by omega) ?_
    have n : (s.1 + (1 : Int32)).toInt = s.1.toInt + (1 : Int32).toInt := gx_add (by omega) (by omega)
    refine gw_some (gs_inl ⟨⟨by show 0 ≤ (s.1 + (1 : Int32)).toInt; omega, by show (s.1 + (1 : Int32)).toInt ≤ 4; omega⟩, g2, g3, fun r hr => (wI_o _ _ _ _ hr).trans (g4 r hr), fun j hj => ?_⟩ (by show 4 - (s.1 + (1 : Int32)).toInt < 4 - s.1.toInt; omega) (by show 0 ≤ 4 - (s.1 + (1 : Int32)).toInt; omega))
    have hj : (j : Int) < (s.1 + (1 : Int32)).toInt := hj
    show (wI s.2 (a + 1) s.1.toInt.toNat 0).2.1 (a + 1) j = 0
    by_cases e : j = s.1.toInt.toNat
    · subst e; rw [wI_e]
    · rw [wI_n _ _ _ _ e]; exact g5 j (by omega)
end
section
theorem gS.w {b m : gm_M} {r j : Nat} {x : Int32} (h : gS b) (e : m = (b.1, gm_u b.2.1 r j x, b.2.2)) : gS m := by rw [e]; exact h
theorem r66w {μ b m : gm_M} {r j : Nat} {x : Int32} (p : b.2.1 66 = μ.2.1 66) (e : m = (b.1, gm_u b.2.1 r j x, b.2.2)) (hr : r ≠ 66) : m.2.1 66 = μ.2.1 66 := by
  rw [e]
  show gm_u b.2.1 r j x 66 = _
  rw [gu_row (Ne.symm hr), p]
theorem kid15 {μ : gm_M} (h : gS μ) {a : Nat} (p : kid a) {v : Int32} (i : (v.toInt = 1 ∧ [15].contains (gm_tag μ a) = true) ∨ (v.toInt = 0 ∧ ¬ [15].contains (gm_tag μ a) = true)) : (v.toInt = 1 ∧ a = 14) ∨ (v.toInt = 0 ∧ a ≠ 14) := by
  have q : [15].contains (gm_tag μ a) = true ↔ a = 14 := by
    obtain ⟨p1, p2⟩ := p
    obtain rfl | rfl | rfl | rfl | rfl | rfl | rfl : a = 8 ∨ a = 9 ∨ a = 10 ∨ a = 11 ∨ a = 12 ∨ a = 13 ∨ a = 14 := by omega
    all_goals (rw [h.t rfl]; decide)
  rcases i with ⟨i1, i2⟩ | ⟨i1, i2⟩
  · exact Or.inl ⟨i1, q.mp i2⟩
  · exact Or.inr ⟨i1, fun e => i2 (q.mpr e)⟩
/-! the two sides agree, as far as the light goes -/
def lp (i : Nat) : Prop := i = 0 ∨ i = 26 ∨ (28 ≤ i ∧ i < 31) ∨ (33 ≤ i ∧ i < 63)
def nm (μ : gm_M) (s c : Nat) (σ : Nat → Int32) : Prop := (μ.2.1 s 0 = σ 0 ∧ μ.2.1 s 1 = σ 26 ∧ μ.2.1 (s + 8) 2 = σ 28 ∧ μ.2.1 (s + 10) 2 = σ 29 ∧ μ.2.1 (s + 12) 2 = σ 30) ∧ ∀ k : Nat, k < 5 → (μ.2.1 (c + 2 * k) 0 = Int32.ofNat k ∧ ((μ.2.2 (c + 2 * k) 1 : Nat) : Int) = 8 + (σ (33 + k)).toInt ∧ μ.2.1 (c + 2 * k) 2 = σ (38 + k)) ∧ ∀ j : Nat, j < 4 → μ.2.1 (c + 2 * k + 1) j = σ (43 + 4 * k + j)
def LT (μ : gm_M) : Prop := μ.2.1 3 2 = μ.2.1 65 19 ∧ ∀ i : Nat, i < 20 → (i : Int) < (μ.2.1 3 2).toInt → μ.2.1 4 (3 * i) = μ.2.1 74 i
def ALL (μ : gm_M) : Prop := MI μ ∧ mI (μ.2.1 67) ∧ CI μ ∧ nm μ 15 29 (μ.2.1 66) ∧ nm μ 39 53 (μ.2.1 67) ∧ (μ.2.1 1 3 = μ.2.1 65 4 ∧ (μ.2.1 1 3 = 0 ∨ μ.2.1 1 3 = 1)) ∧ LT μ
theorem nm.fr {μ m : gm_M} {s c : Nat} {σ τ : Nat → Int32} (p : nm μ s c σ) (e0 : m.2.1 s 0 = μ.2.1 s 0) (e1 : m.2.1 s 1 = μ.2.1 s 1) (e2 : m.2.1 (s + 8) 2 = μ.2.1 (s + 8) 2 ∧ m.2.1 (s + 10) 2 = μ.2.1 (s + 10) 2 ∧ m.2.1 (s + 12) 2 = μ.2.1 (s + 12) 2) (e3 : ∀ k : Nat, k < 5 → m.2.1 (c + 2 * k) 0 = μ.2.1 (c + 2 * k) 0 ∧ m.2.1 (c + 2 * k) 2 = μ.2.1 (c + 2 * k) 2 ∧ m.2.2 (c + 2 * k) 1 = μ.2.2 (c + 2 * k) 1 ∧ ∀ j : Nat, j < 4 → m.2.1 (c + 2 * k + 1) j = μ.2.1 (c + 2 * k + 1) j) (et : ∀ i : Nat, lp i → τ i = σ i) : nm m s c τ := by
  obtain ⟨⟨p0, p1, p2, p3, p4⟩, pk⟩ := p
  refine ⟨⟨?_, ?_, ?_, ?_, ?_⟩, fun k hk => ?_⟩
  · rw [e0, et 0 (Or.inl rfl)]; exact p0
  · rw [e1, et 26 (Or.inr (Or.inl rfl))]; exact p1
  · rw [e2.1, et 28 (by unfold lp; omega)]; exact p2
  · rw [e2.2.1, et 29 (by unfold lp; omega)]; exact p3
  · rw [e2.2.2, et 30 (by unfold lp; omega)]; exact p4
  · obtain ⟨⟨a1, a2, a3⟩, a4⟩ := pk k hk
    obtain ⟨b1, b2, b3, b4⟩ := e3 k hk
    refine ⟨⟨?_, ?_, ?_⟩, fun j hj => ?_⟩
    · rw [b1]; exact a1
    · rw [b3, et (33 + k) (by unfold lp; omega)]; exact a2
    · rw [b2, et (38 + k) (by unfold lp; omega)]; exact a3
    · rw [b4 j hj, et (43 + 4 * k + j) (by unfold lp; omega)]; exact a4 j hj
theorem ALL.kc {μ m : gm_M} (h : ALL μ) (g : kc μ m) : ALL m := by
  obtain ⟨h1, h2, h3, h4, h5, h6, h7⟩ := h
  have r1 : ∀ j : Nat, j ≠ 9 → m.2.1 1 j = μ.2.1 1 j := g.2.2.1
  refine ⟨⟨g.gS h1.1, by rw [g.row (by decide)]; exact h1.2⟩, by rw [g.row (by decide)]; exact h2, h3.of g, ?_, ?_, ?_, ?_⟩
  · refine h4.fr (by rw [g.row (by decide)]) (by rw [g.row (by decide)]) ⟨by rw [g.row (by decide)], by rw [g.row (by decide)], by rw [g.row (by decide)]⟩ (fun k hk => ⟨by rw [g.row (by omega)], by rw [g.row (by omega)], by rw [g.ref (by omega)], fun j _ => by rw [g.row (by omega)]⟩) (fun i _ => by rw [g.row (by decide)])
  · refine h5.fr (by rw [g.row (by decide)]) (by rw [g.row (by decide)]) ⟨by rw [g.row (by decide)], by rw [g.row (by decide)], by rw [g.row (by decide)]⟩ (fun k hk => ⟨by rw [g.row (by omega)], by rw [g.row (by omega)], by rw [g.ref (by omega)], fun j _ => by rw [g.row (by omega)]⟩) (fun i _ => by rw [g.row (by decide)])
  · rw [r1 3 (by decide), g.row (r := 65) (by decide)]; exact h6
  · unfold LT
    rw [g.row (r := 3) (by decide), g.row (r := 65) (by decide), g.row (r := 4) (by decide), g.row (r := 74) (by decide)]
    exact h7
theorem CI.rows {μ m : gm_M} (h : CI μ) (e1 : m.1 = μ.1) (e2 : m.2.2 = μ.2.2) (e3 : ∀ r : Nat, (r < 65 ∨ 75 ≤ r) → m.2.1 r = μ.2.1 r) : CI m := by
  obtain ⟨h0, h1, h2, h3, h4⟩ := h
  have hA : ∀ q, AfW μ q → AfW m q := fun q p => by
    have p0 := p.1
    exact p.same (fun r q e => by rw [e1]; exact e) (by rw [e2]) (e3 _ (by omega)) (e3 _ (by omega))
  refine ⟨h0.same e1 e2, h1.same (fun r q e => by rw [e1]; exact e) (fun j _ => by rw [e3 15 (by omega)]) (by rw [e2]) (fun r hr => e3 r (by omega)) (hA _), h2.same (fun r q e => by rw [e1]; exact e) (fun j _ => by rw [e3 39 (by omega)]) (by rw [e2]) (fun r hr => e3 r (by omega)) (hA _), fun a ha => by rw [e2]; exact h3 a ha, by rw [e3 3 (by omega)]; exact h4⟩
theorem ALL.qm {μ m : gm_M} (h : ALL μ) (g : qm μ m) : ALL m := by
  have hM := h.1.q g
  obtain ⟨h1, h2, h3, h4, h5, h6, h7⟩ := h
  obtain ⟨g1, g2, g3, g5, g6, g7⟩ := g
  have row : ∀ r : Nat, (r ≠ 65 ∧ r ≠ 68 ∧ r ≠ 69 ∧ r ≠ 70 ∧ r ≠ 71 ∧ r ≠ 72 ∧ r ≠ 73) → m.2.1 r = μ.2.1 r := fun r q => g3 r q.1 q.2.1 q.2.2.1 q.2.2.2.1 q.2.2.2.2.1 q.2.2.2.2.2.1 q.2.2.2.2.2.2
  refine ⟨hM, by rw [row 67 (by decide)]; exact h2, h3.rows g1 g2 (fun r hr => row r (by omega)), ?_, ?_, ?_, ?_⟩
  · refine h4.fr (by rw [row _ (by decide)]) (by rw [row _ (by decide)]) ⟨by rw [row _ (by decide)], by rw [row _ (by decide)], by rw [row _ (by decide)]⟩ (fun k hk => ⟨by rw [row _ (by omega)], by rw [row _ (by omega)], by rw [g2], fun j _ => by rw [row _ (by omega)]⟩) (fun i _ => by rw [row _ (by decide)])
  · refine h5.fr (by rw [row _ (by decide)]) (by rw [row _ (by decide)]) ⟨by rw [row _ (by decide)], by rw [row _ (by decide)], by rw [row _ (by decide)]⟩ (fun k hk => ⟨by rw [row _ (by omega)], by rw [row _ (by omega)], by rw [g2], fun j _ => by rw [row _ (by omega)]⟩) (fun i _ => by rw [row _ (by decide)])
  · rw [row 1 (by decide), g6]; exact h6
  · unfold LT
    rw [row 3 (by decide), g7, row 4 (by decide), row 74 (by decide)]
    exact h7
theorem ALL.n26 {μ : gm_M} (h : ALL μ) : (μ.2.1 15 1).toInt = (μ.2.1 66 26).toInt := by rw [h.2.2.2.1.1.2.1]
theorem ALL.n0 {μ : gm_M} (h : ALL μ) : (μ.2.1 15 0).toInt = (μ.2.1 66 0).toInt := by rw [h.2.2.2.1.1.1]
theorem ALL.n28 {μ : gm_M} (h : ALL μ) : (μ.2.1 23 2).toInt = (μ.2.1 66 28).toInt := by rw [h.2.2.2.1.1.2.2.1]
theorem ALL.n29 {μ : gm_M} (h : ALL μ) : (μ.2.1 25 2).toInt = (μ.2.1 66 29).toInt := by rw [h.2.2.2.1.1.2.2.2.1]
theorem ALL.n30 {μ : gm_M} (h : ALL μ) : (μ.2.1 27 2).toInt = (μ.2.1 66 30).toInt := by rw [h.2.2.2.1.1.2.2.2.2]
theorem ALL.ch {μ : gm_M} (h : ALL μ) {c : Int32} (h0 : 0 ≤ c.toInt) (h1 : c.toInt < 5) {v : Nat} (e : v = μ.2.2 16 c.toInt.toNat) : v = 29 + 2 * c.toInt.toNat := by
  rw [e]; exact isch.at h.2.2.1.1 (by omega)
theorem ALL.kd {μ : gm_M} (h : ALL μ) (k : Nat) (hk : k < 5) : ((μ.2.2 (29 + 2 * k) 1 : Nat) : Int) = 8 + (μ.2.1 66 (33 + k)).toInt := (h.2.2.2.1.2 k hk).1.2.1
theorem ALL.vv {μ : gm_M} (h : ALL μ) (k : Nat) (hk : k < 5) : μ.2.1 (29 + 2 * k) 2 = μ.2.1 66 (38 + k) := (h.2.2.2.1.2 k hk).1.2.2
theorem ALL.no {μ : gm_M} (h : ALL μ) (k : Nat) (hk : k < 5) : μ.2.1 (29 + 2 * k) 0 = Int32.ofNat k := (h.2.2.2.1.2 k hk).1.1
theorem ALL.rw {μ : gm_M} (h : ALL μ) (k j : Nat) (hk : k < 5) (hj : j < 4) : μ.2.1 (29 + 2 * k + 1) j = μ.2.1 66 (43 + 4 * k + j) := (h.2.2.2.1.2 k hk).2 j hj
theorem ict.n66 {a : Nat} (p : ict a) : a ≠ 66 ∧ a + 1 ≠ 66 := by unfold ict isch at p; omega
theorem CI.int {μ m : gm_M} (h : CI μ) (e1 : m.1 = μ.1) (e2 : m.2.2 = μ.2.2) (e3 : ∀ r : Nat, (r = 18 ∨ r = 42 ∨ r = 20 ∨ r = 44 ∨ 75 ≤ r ∨ r = 39 ∨ r = 47 ∨ r = 48 ∨ r = 49 ∨ r = 51) → m.2.1 r = μ.2.1 r) (b1 : (0 ≤ (m.2.1 15 1).toInt ∧ (m.2.1 15 1).toInt ≤ 5) ∧ (0 ≤ (m.2.1 15 4).toInt ∧ (m.2.1 15 4).toInt ≤ 100) ∧ (0 ≤ (m.2.1 15 5).toInt ∧ (m.2.1 15 5).toInt ≤ 5)) (b2 : (0 ≤ (m.2.1 23 2).toInt ∧ (m.2.1 23 2).toInt ≤ 5) ∧ (0 ≤ (m.2.1 25 2).toInt ∧ (m.2.1 25 2).toInt ≤ 8) ∧ (0 ≤ (m.2.1 27 2).toInt ∧ (m.2.1 27 2).toInt ≤ 8)) (b3 : m.2.1 23 0 = μ.2.1 23 0 ∧ m.2.1 25 0 = μ.2.1 25 0 ∧ m.2.1 27 0 = μ.2.1 27 0) (b4 : ∀ k : Nat, k < 5 → (m.2.1 24 (3 * k + 2)).toInt ≤ 60) (b5 : (0 ≤ (m.2.1 3 2).toInt ∧ (m.2.1 3 2).toInt ≤ 1000) ∧ m.2.1 3 0 = μ.2.1 3 0) : CI m := by
  obtain ⟨h0, h1, h2, h3, h4⟩ := h
  have hA : ∀ q, AfW μ q → AfW m q := fun q p => by
    have p0 := p.1
    exact p.same (fun r q e => by rw [e1]; exact e) (by rw [e2]) (e3 _ (by omega)) (e3 _ (by omega))
  refine ⟨h0.same e1 e2, ?_, h2.same (fun r q e => by rw [e1]; exact e) (fun j _ => by rw [e3 39 (by omega)]) (by rw [e2]) (fun r hr => e3 r (by omega)) (hA _), fun a ha => by rw [e2]; exact h3 a ha, b5.1, by rw [b5.2]; exact h4.2⟩
  obtain ⟨p1, p2, p3, p4, p5, p6, p7, p8, p9, p10, p11⟩ := h1
  refine ⟨b1.1, b1.2.1, b1.2.2, by rw [e2]; exact hA _ p4, b2.1, b2.2.1, b2.2.2, ?_, ?_, ?_, b4⟩
  · show (m.2.1 23 0).toInt = 5
    rw [b3.1]; exact p8
  · show (m.2.1 25 0).toInt = 8
    rw [b3.2.1]; exact p9
  · show (m.2.1 27 0).toInt = 8
    rw [b3.2.2]; exact p10
theorem wI_g {μ : gm_M} {r j q k : Nat} {x : Int32} : (wI μ r j x).2.1 q k = if q = r ∧ k = j then x else μ.2.1 q k := by
  show gm_u μ.2.1 r j x q k = _
  unfold gm_u
  by_cases h1 : q = r
  · by_cases h2 : k = j
    · rw [if_pos h1, if_pos h2, if_pos ⟨h1, h2⟩]
    · rw [if_pos h1, if_neg h2, if_neg (fun e => h2 e.2)]
  · rw [if_neg h1, if_neg (fun e => h1 e.1)]
theorem ALL.upd {μ m : gm_M} (h : ALL μ) (e1 : m.1 = μ.1) (e2 : m.2.2 = μ.2.2) (ez : ∀ r : Nat, (r = 1 ∨ r = 18 ∨ r = 20 ∨ (39 ≤ r ∧ r < 63) ∨ r = 67 ∨ 75 ≤ r) → m.2.1 r = μ.2.1 r) (e65 : m.2.1 65 4 = μ.2.1 65 4) (mi : mI (m.2.1 66)) (b1 : (0 ≤ (m.2.1 15 1).toInt ∧ (m.2.1 15 1).toInt ≤ 5) ∧ (0 ≤ (m.2.1 15 4).toInt ∧ (m.2.1 15 4).toInt ≤ 100) ∧ (0 ≤ (m.2.1 15 5).toInt ∧ (m.2.1 15 5).toInt ≤ 5)) (b2 : (0 ≤ (m.2.1 23 2).toInt ∧ (m.2.1 23 2).toInt ≤ 5) ∧ (0 ≤ (m.2.1 25 2).toInt ∧ (m.2.1 25 2).toInt ≤ 8) ∧ (0 ≤ (m.2.1 27 2).toInt ∧ (m.2.1 27 2).toInt ≤ 8)) (b3 : m.2.1 23 0 = μ.2.1 23 0 ∧ m.2.1 25 0 = μ.2.1 25 0 ∧ m.2.1 27 0 = μ.2.1 27 0) (b4 : ∀ k : Nat, k < 5 → (m.2.1 24 (3 * k + 2)).toInt ≤ 60) (b5 : (0 ≤ (m.2.1 3 2).toInt ∧ (m.2.1 3 2).toInt ≤ 1000) ∧ m.2.1 3 0 = μ.2.1 3 0) (n1 : nm m 15 29 (m.2.1 66)) (l1 : LT m) : ALL m := by
  obtain ⟨h1, h2, h3, h4, h5, h6, h7⟩ := h
  refine ⟨⟨h1.1.same e1 e2, mi⟩, by rw [ez 67 (by omega)]; exact h2, h3.int e1 e2 (fun r hr => ez r (by omega)) b1 b2 b3 b4 b5, n1, ?_, by rw [ez 1 (by omega), e65]; exact h6, l1⟩
  refine h5.fr (by rw [ez 39 (by omega)]) (by rw [ez 39 (by omega)]) ⟨by rw [ez _ (by omega)], by rw [ez _ (by omega)], by rw [ez _ (by omega)]⟩ (fun k hk => ⟨by rw [ez _ (by omega)], by rw [ez _ (by omega)], by rw [e2], fun j _ => by rw [ez _ (by omega)]⟩) (fun i _ => by rw [ez 67 (by omega)])
/-- only children's rows and the reference's row change -/
theorem ALL.upc {μ m : gm_M} (h : ALL μ) (e1 : m.1 = μ.1) (e2 : m.2.2 = μ.2.2) (ez : ∀ r : Nat, (r < 29 ∨ (39 ≤ r ∧ r < 63) ∨ r = 65 ∨ 67 ≤ r) → m.2.1 r = μ.2.1 r) (mi : mI (m.2.1 66)) (n1 : nm m 15 29 (m.2.1 66)) : ALL m := by
  have hc := h.2.2.1
  refine h.upd e1 e2 (fun r hr => ez r (by omega)) (by rw [ez 65 (by omega)]) mi ?_ ?_ ?_ ?_ ?_ n1 ?_
  · rw [ez 15 (by omega)]; exact ⟨hc.n1, hc.n4, hc.n5⟩
  · rw [ez 23 (by omega), ez 25 (by omega), ez 27 (by omega)]; exact ⟨hc.n23, hc.n25, hc.n27⟩
  · rw [ez 23 (by omega), ez 25 (by omega), ez 27 (by omega)]; exact ⟨rfl, rfl, rfl⟩
  · rw [ez 24 (by omega)]; exact hc.sm
  · rw [ez 3 (by omega)]; exact ⟨hc.n3, rfl⟩
  · unfold LT
    rw [ez 3 (by omega), ez 65 (by omega), ez 4 (by omega), ez 74 (by omega)]
    exact h.2.2.2.2.2.2
/-- a word of a child's row -/
theorem A_row {μ : gm_M} (h : ALL μ) {k j : Nat} (hk : k < 5) (hj : j < 4) (x : Int32) : ALL (wI (wI μ (29 + 2 * k + 1) j x) 66 (43 + 4 * k + j) x) := by
  have o : ∀ q : Nat, q ≠ 29 + 2 * k + 1 → q ≠ 66 → (wI (wI μ (29 + 2 * k + 1) j x) 66 (43 + 4 * k + j) x).2.1 q = μ.2.1 q := fun q q1 q2 => by rw [wI_o _ _ _ _ q2, wI_o _ _ _ _ q1]
  have o66 : ∀ i : Nat, i ≠ 43 + 4 * k + j → (wI (wI μ (29 + 2 * k + 1) j x) 66 (43 + 4 * k + j) x).2.1 66 i = μ.2.1 66 i := fun i hi => by rw [wI_n _ _ _ _ hi, wI_o _ _ _ _ (by omega)]
  refine h.upc rfl rfl (fun r hr => o r (by omega) (by omega)) (h.1.2.same (fun i hi => o66 i (by unfold mp at hi; omega))) ?_
  obtain ⟨p, pk⟩ := h.2.2.2.1
  refine ⟨?_, fun q hq => ?_⟩
  · rw [o 15 (by omega) (by omega), o 23 (by omega) (by omega), o 25 (by omega) (by omega), o 27 (by omega) (by omega), o66 0 (by omega), o66 26 (by omega), o66 28 (by omega), o66 29 (by omega), o66 30 (by omega)]
    exact p
  · obtain ⟨⟨a1, a2, a3⟩, a4⟩ := pk q hq
    refine ⟨⟨?_, ?_, ?_⟩, fun i hi => ?_⟩
    · rw [o _ (by omega) (by omega)]; exact a1
    · rw [o66 _ (by omega)]; exact a2
    · rw [o _ (by omega) (by omega), o66 _ (by omega)]; exact a3
    · by_cases e : q = k
      · subst e
        by_cases e2 : i = j
        · subst e2
          rw [wI_e, wI_o _ _ _ _ (by omega), wI_e]
        · rw [wI_o _ _ _ _ (by omega), wI_n _ _ _ _ e2, o66 _ (by omega)]; exact a4 i hi
      · rw [o _ (by omega) (by omega), o66 _ (by omega)]; exact a4 i hi
/-- what of a child is not compared here -/
theorem A_set {μ : gm_M} (h : ALL μ) {k j i : Nat} (hk : k < 5) (hj : 3 ≤ j) (hi : 1 ≤ i) (hi2 : i < 26) (x y : Int32) : ALL (wI (wI μ (29 + 2 * k) j x) 66 i y) := by
  have o : ∀ q : Nat, q ≠ 29 + 2 * k → q ≠ 66 → (wI (wI μ (29 + 2 * k) j x) 66 i y).2.1 q = μ.2.1 q := fun q q1 q2 => by rw [wI_o _ _ _ _ q2, wI_o _ _ _ _ q1]
  have o66 : ∀ q : Nat, q ≠ i → (wI (wI μ (29 + 2 * k) j x) 66 i y).2.1 66 q = μ.2.1 66 q := fun q hi => by rw [wI_n _ _ _ _ hi, wI_o _ _ _ _ (by omega)]
  refine h.upc rfl rfl (fun r hr => o r (by omega) (by omega)) (h.1.2.same (fun q hq => o66 q (by unfold mp at hq; omega))) (h.2.2.2.1.fr ?_ ?_ ?_ (fun q hq => ?_) (fun q hq => o66 q (by unfold lp at hq; omega)))
  · rw [o 15 (by omega) (by omega)]
  · rw [o 15 (by omega) (by omega)]
  · rw [o (15 + 8) (by omega) (by omega), o (15 + 10) (by omega) (by omega), o (15 + 12) (by omega) (by omega)]; exact ⟨rfl, rfl, rfl⟩
  · refine ⟨?_, ?_, rfl, fun j _ => by rw [o _ (by omega) (by omega)]⟩
    · by_cases e : q = k
      · subst e; rw [wI_o _ _ _ _ (by omega), wI_n _ _ _ _ (by omega)]
      · rw [o _ (by omega) (by omega)]
    · by_cases e : q = k
      · subst e; rw [wI_o _ _ _ _ (by omega), wI_n _ _ _ _ (by omega)]
      · rw [o _ (by omega) (by omega)]
end
section
theorem A_chg {μ m : gm_M} (h : ALL μ) {k : Nat} (hk : k < 5) (g : chg (29 + 2 * k) μ m) : ALL m := by
  obtain ⟨g1, g2, g3, g4⟩ := g
  refine h.upc g1 g2 (fun r hr => g3 r (by omega)) (by rw [g3 66 (by omega)]; exact h.1.2) (h.2.2.2.1.fr ?_ ?_ ?_ (fun q hq => ?_) (fun q hq => by rw [g3 66 (by omega)]))
  · rw [g3 15 (by omega)]
  · rw [g3 15 (by omega)]
  · rw [g3 (15 + 8) (by omega), g3 (15 + 10) (by omega), g3 (15 + 12) (by omega)]; exact ⟨rfl, rfl, rfl⟩
  · refine ⟨?_, ?_, by rw [g2], fun j _ => by rw [g3 _ (by omega)]⟩
    · by_cases e : q = k
      · subst e; exact g4 0 (by omega)
      · rw [g3 _ (by omega)]
    · by_cases e : q = k
      · subst e; exact g4 2 (by omega)
      · rw [g3 _ (by omega)]
theorem A_km3 {μ m : gm_M} (h : ALL μ) (g : km A3 μ m) : ALL m := by
  obtain ⟨g1, g2, g3, g4, g5, g6, g7⟩ := g
  have row : ∀ r : Nat, (r ≠ 65 ∧ r ≠ 66 ∧ r ≠ 69 ∧ r ≠ 70 ∧ r ≠ 71 ∧ r ≠ 72 ∧ r ≠ 73) → m.2.1 r = μ.2.1 r := fun r q => g3 r q.1 q.2.1 q.2.2.1 q.2.2.2.1 q.2.2.2.2.1 q.2.2.2.2.2.1 q.2.2.2.2.2.2
  have hc := h.2.2.1
  refine h.upd g1 g2 (fun r hr => row r (by omega)) g6 (h.1.2.same (fun i hi => g4 i (by unfold A3; unfold mp at hi; omega))) ?_ ?_ ?_ ?_ ?_ ?_ ?_
  · rw [row 15 (by decide)]; exact ⟨hc.n1, hc.n4, hc.n5⟩
  · rw [row 23 (by decide), row 25 (by decide), row 27 (by decide)]; exact ⟨hc.n23, hc.n25, hc.n27⟩
  · rw [row 23 (by decide), row 25 (by decide), row 27 (by decide)]; exact ⟨rfl, rfl, rfl⟩
  · rw [row 24 (by decide)]; exact hc.sm
  · rw [row 3 (by decide)]; exact ⟨hc.n3, rfl⟩
  · refine h.2.2.2.1.fr (by rw [row 15 (by decide)]) (by rw [row 15 (by decide)]) ⟨by rw [row (15 + 8) (by decide)], by rw [row (15 + 10) (by decide)], by rw [row (15 + 12) (by decide)]⟩ (fun k hk => ⟨by rw [row _ (by omega)], by rw [row _ (by omega)], by rw [g2], fun j _ => by rw [row _ (by omega)]⟩) (fun i hi => g4 i (by unfold A3; unfold lp at hi; omega))
  · unfold LT
    rw [row 3 (by decide), g7, row 4 (by decide), row 74 (by decide)]
    exact h.2.2.2.2.2.2
/-- a row of SEEN, PLAN or BOOK comes or all go -/
theorem ALL.upr {μ m : gm_M} (h : ALL μ) {r s : Nat} {L : Int} (hr : (r = 23 ∧ s = 28 ∧ L = 5) ∨ (r = 25 ∧ s = 29 ∧ L = 8) ∨ (r = 27 ∧ s = 30 ∧ L = 8)) (e1 : m.1 = μ.1) (e2 : m.2.2 = μ.2.2) (ez : ∀ q : Nat, q ≠ r → q ≠ r + 1 → q ≠ 66 → m.2.1 q = μ.2.1 q) (er : m.2.1 r 0 = μ.2.1 r 0) (ec : m.2.1 r 2 = m.2.1 66 s) (bc : 0 ≤ (m.2.1 r 2).toInt ∧ (m.2.1 r 2).toInt ≤ L) (b4 : ∀ k : Nat, k < 5 → (m.2.1 24 (3 * k + 2)).toInt ≤ 60) (mi : mI (m.2.1 66)) (el : ∀ i : Nat, lp i → i ≠ s → m.2.1 66 i = μ.2.1 66 i) : ALL m := by
  have hc := h.2.2.1
  obtain ⟨p, pk⟩ := h.2.2.2.1
  have h7 := h.2.2.2.2.2.2
  refine h.upd e1 e2 (fun q hq => ez q (by omega) (by omega) (by omega)) (by rw [ez 65 (by omega) (by omega) (by omega)]) mi ?_ ?_ ?_ b4 ?_ ?_ ?_
  · rw [ez 15 (by omega) (by omega) (by omega)]; exact ⟨hc.n1, hc.n4, hc.n5⟩
  · rcases hr with ⟨rfl, rfl, rfl⟩ | ⟨rfl, rfl, rfl⟩ | ⟨rfl, rfl, rfl⟩
    · rw [ez 25 (by omega) (by omega) (by omega), ez 27 (by omega) (by omega) (by omega)]; exact ⟨bc, hc.n25, hc.n27⟩
    · rw [ez 23 (by omega) (by omega) (by omega), ez 27 (by omega) (by omega) (by omega)]; exact ⟨hc.n23, bc, hc.n27⟩
    · rw [ez 23 (by omega) (by omega) (by omega), ez 25 (by omega) (by omega) (by omega)]; exact ⟨hc.n23, hc.n25, bc⟩
  · rcases hr with ⟨rfl, rfl, rfl⟩ | ⟨rfl, rfl, rfl⟩ | ⟨rfl, rfl, rfl⟩
    · rw [ez 25 (by omega) (by omega) (by omega), ez 27 (by omega) (by omega) (by omega)]; exact ⟨er, rfl, rfl⟩
    · rw [ez 23 (by omega) (by omega) (by omega), ez 27 (by omega) (by omega) (by omega)]; exact ⟨rfl, er, rfl⟩
    · rw [ez 23 (by omega) (by omega) (by omega), ez 25 (by omega) (by omega) (by omega)]; exact ⟨rfl, rfl, er⟩
  · rw [ez 3 (by omega) (by omega) (by omega)]; exact ⟨hc.n3, rfl⟩
  · refine ⟨?_, fun k hk => ?_⟩
    · rw [ez 15 (by omega) (by omega) (by omega), el 0 (by unfold lp; omega) (by omega), el 26 (by unfold lp; omega) (by omega)]
      rcases hr with ⟨rfl, rfl, rfl⟩ | ⟨rfl, rfl, rfl⟩ | ⟨rfl, rfl, rfl⟩
      · rw [ez (15 + 10) (by omega) (by omega) (by omega), ez (15 + 12) (by omega) (by omega) (by omega), el 29 (by unfold lp; omega) (by omega), el 30 (by unfold lp; omega) (by omega)]
        exact ⟨p.1, p.2.1, ec, p.2.2.2.1, p.2.2.2.2⟩
      · rw [ez (15 + 8) (by omega) (by omega) (by omega), ez (15 + 12) (by omega) (by omega) (by omega), el 28 (by unfold lp; omega) (by omega), el 30 (by unfold lp; omega) (by omega)]
        exact ⟨p.1, p.2.1, p.2.2.1, ec, p.2.2.2.2⟩
      · rw [ez (15 + 8) (by omega) (by omega) (by omega), ez (15 + 10) (by omega) (by omega) (by omega), el 28 (by unfold lp; omega) (by omega), el 29 (by unfold lp; omega) (by omega)]
        exact ⟨p.1, p.2.1, p.2.2.1, p.2.2.2.1, ec⟩
    · obtain ⟨⟨a1, a2, a3⟩, a4⟩ := pk k hk
      refine ⟨⟨?_, ?_, ?_⟩, fun j hj => ?_⟩
      · rw [ez _ (by omega) (by omega) (by omega)]; exact a1
      · rw [e2, el _ (by unfold lp; omega) (by omega)]; exact a2
      · rw [ez _ (by omega) (by omega) (by omega), el _ (by unfold lp; omega) (by omega)]; exact a3
      · rw [ez _ (by omega) (by omega) (by omega), el _ (by unfold lp; omega) (by omega)]; exact a4 j hj
  · unfold LT
    rw [ez 3 (by omega) (by omega) (by omega), ez 65 (by omega) (by omega) (by omega), ez 4 (by omega) (by omega) (by omega), ez 74 (by omega) (by omega) (by omega)]
    exact h7
theorem ad_o {μ : gm_M} {r : Nat} {a b c : Int32} {q : Nat} (h1 : q ≠ r) (h2 : q ≠ r + 1) : (ad μ r a b c).2.1 q = μ.2.1 q := by
  unfold ad; rw [wI_o _ _ _ _ h1, wI_o _ _ _ _ h2, wI_o _ _ _ _ h2, wI_o _ _ _ _ h2]
theorem ad_c {μ : gm_M} {r : Nat} {a b c : Int32} : (ad μ r a b c).2.1 r 2 = μ.2.1 r 2 + 1 := by unfold ad; rw [wI_e]
theorem ad_0 {μ : gm_M} {r : Nat} {a b c : Int32} : (ad μ r a b c).2.1 r 0 = μ.2.1 r 0 := by
  unfold ad; rw [wI_n _ _ _ _ (by decide), wI_o _ _ _ _ (by omega), wI_o _ _ _ _ (by omega), wI_o _ _ _ _ (by omega)]
theorem ad_2 {μ : gm_M} {r : Nat} {a b c : Int32} (k : Nat) : (ad μ r a b c).2.1 (r + 1) (3 * k + 2) = if k = (μ.2.1 r 2).toInt.toNat then c else μ.2.1 (r + 1) (3 * k + 2) := by
  unfold ad
  rw [wI_o _ _ _ _ (by omega)]
  by_cases e : k = (μ.2.1 r 2).toInt.toNat
  · rw [if_pos e, e, wI_e]
  · rw [if_neg e, wI_n _ _ _ _ (by omega), wI_n _ _ _ _ (by omega), wI_n _ _ _ _ (by omega)]
theorem mI.row {σ τ : Nat → Int32} (h : mI σ) {n : Nat} (c : (n < 5 ∧ (∀ k, mp k → k ≠ 28 → k ≠ 63 + n → τ k = σ k) ∧ (0 ≤ (τ 28).toInt ∧ (τ 28).toInt ≤ 5) ∧ 0 ≤ (τ (63 + n)).toInt ∧ (τ (63 + n)).toInt ≤ 4) ∨ (n < 8 ∧ (∀ k, mp k → k ≠ 29 → k ≠ 78 + n → k ≠ 86 + n → τ k = σ k) ∧ (0 ≤ (τ 29).toInt ∧ (τ 29).toInt ≤ 8) ∧ (0 ≤ (τ (78 + n)).toInt ∧ (τ (78 + n)).toInt ≤ 3) ∧ ((τ (78 + n)).toInt ≠ 0 → 0 ≤ (τ (86 + n)).toInt ∧ (τ (86 + n)).toInt ≤ 4)) ∨ (n < 8 ∧ (∀ k, mp k → k ≠ 30 → k ≠ 94 + n → τ k = σ k) ∧ (0 ≤ (τ 30).toInt ∧ (τ 30).toInt ≤ 8) ∧ 0 ≤ (τ (94 + n)).toInt ∧ (τ (94 + n)).toInt ≤ 4)) : mI τ := by
  obtain ⟨h26, h27, h28, h29, h30, h31, h32, hs, hp, hb, hw⟩ := h
  have hW : (∀ k, 220 ≤ k → k < 925 → τ k = σ k) → ∀ a : Nat, a < 5 → wfp τ a := fun e a ha => by
    obtain ⟨w1, w2, tp, w3, w4⟩ := hw a ha
    unfold wfp
    rw [e (220 + a) (by omega) (by omega)]
    refine ⟨w1, w2, tp, w3, fun i hi => ?_⟩
    rw [e (225 + 140 * a + i) (by omega) (by omega)]
    exact w4 i hi
  unfold mp at c
  rcases c with ⟨hn, e, c1, c2⟩ | ⟨hn, e, c1, c2, c3⟩ | ⟨hn, e, c1, c2⟩
  · refine ⟨by rw [e 26 (by omega) (by omega) (by omega)]; exact h26, by rw [e 27 (by omega) (by omega) (by omega)]; exact h27, c1, by rw [e 29 (by omega) (by omega) (by omega)]; exact h29, by rw [e 30 (by omega) (by omega) (by omega)]; exact h30, by rw [e 31 (by omega) (by omega) (by omega)]; exact h31, by rw [e 32 (by omega) (by omega) (by omega)]; exact h32, fun k hk => ?_, fun k hk => ?_, fun k hk => ?_, hW (fun k hk hk2 => e k (by omega) (by omega) (by omega))⟩
    · by_cases q : k = n
      · subst q; exact c2
      · rw [e _ (by omega) (by omega) (by omega)]; exact hs k hk
    · rw [e _ (by omega) (by omega) (by omega), e _ (by omega) (by omega) (by omega)]; exact hp k hk
    · rw [e _ (by omega) (by omega) (by omega)]; exact hb k hk
  · refine ⟨by rw [e 26 (by omega) (by omega) (by omega) (by omega)]; exact h26, by rw [e 27 (by omega) (by omega) (by omega) (by omega)]; exact h27, by rw [e 28 (by omega) (by omega) (by omega) (by omega)]; exact h28, c1, by rw [e 30 (by omega) (by omega) (by omega) (by omega)]; exact h30, by rw [e 31 (by omega) (by omega) (by omega) (by omega)]; exact h31, by rw [e 32 (by omega) (by omega) (by omega) (by omega)]; exact h32, fun k hk => ?_, fun k hk => ?_, fun k hk => ?_, hW (fun k hk hk2 => e k (by omega) (by omega) (by omega) (by omega))⟩
    · rw [e _ (by omega) (by omega) (by omega) (by omega)]; exact hs k hk
    · by_cases q : k = n
      · subst q; exact ⟨c2, c3⟩
      · rw [e _ (by omega) (by omega) (by omega) (by omega), e _ (by omega) (by omega) (by omega) (by omega)]; exact hp k hk
    · rw [e _ (by omega) (by omega) (by omega) (by omega)]; exact hb k hk
  · refine ⟨by rw [e 26 (by omega) (by omega) (by omega)]; exact h26, by rw [e 27 (by omega) (by omega) (by omega)]; exact h27, by rw [e 28 (by omega) (by omega) (by omega)]; exact h28, by rw [e 29 (by omega) (by omega) (by omega)]; exact h29, c1, by rw [e 31 (by omega) (by omega) (by omega)]; exact h31, by rw [e 32 (by omega) (by omega) (by omega)]; exact h32, fun k hk => ?_, fun k hk => ?_, fun k hk => ?_, hW (fun k hk hk2 => e k (by omega) (by omega) (by omega))⟩
    · rw [e _ (by omega) (by omega) (by omega)]; exact hs k hk
    · rw [e _ (by omega) (by omega) (by omega), e _ (by omega) (by omega) (by omega)]; exact hp k hk
    · by_cases q : k = n
      · subst q; exact c2
      · rw [e _ (by omega) (by omega) (by omega)]; exact hb k hk
end
section
theorem cnt1 {x : Int32} {L : Int} (h0 : 0 ≤ x.toInt) (h1 : x.toInt < L) (hL : L ≤ 1000) : 0 ≤ (x + 1).toInt ∧ (x + 1).toInt ≤ L := by
  have l1 : (1 : Int32).toInt = 1 := rfl
  have e : (x + 1).toInt = x.toInt + (1 : Int32).toInt := gx_add (by omega) (by omega)
  omega
theorem A_clr {μ : gm_M} (h : ALL μ) {r s : Nat} (hr : (r = 23 ∧ s = 28) ∨ (r = 25 ∧ s = 29) ∨ (r = 27 ∧ s = 30)) : ALL (wI (wI μ r 2 0) 66 s 0) := by
  have l0 : (0 : Int32).toInt = 0 := rfl
  have o : ∀ q : Nat, q ≠ r → q ≠ 66 → (wI (wI μ r 2 0) 66 s 0).2.1 q = μ.2.1 q := fun q q1 q2 => by rw [wI_o _ _ _ _ q2, wI_o _ _ _ _ q1]
  have o6 : ∀ i : Nat, i ≠ s → (wI (wI μ r 2 0) 66 s 0).2.1 66 i = μ.2.1 66 i := fun i hi => by rw [wI_n _ _ _ _ hi, wI_o _ _ _ _ (by omega)]
  have e6 : (wI (wI μ r 2 0) 66 s 0).2.1 66 s = 0 := wI_e _ _ _ _
  have er2 : (wI (wI μ r 2 0) 66 s 0).2.1 r 2 = 0 := by rw [wI_o _ _ _ _ (by omega), wI_e]
  have er0 : (wI (wI μ r 2 0) 66 s 0).2.1 r 0 = μ.2.1 r 0 := by rw [wI_o _ _ _ _ (by omega), wI_n _ _ _ _ (by decide)]
  have hsm := h.2.2.1.sm
  have m := h.1.2
  refine h.upr (r := r) (s := s) (L := if r = 23 then 5 else 8) (by rcases hr with ⟨rfl, rfl⟩ | ⟨rfl, rfl⟩ | ⟨rfl, rfl⟩ <;> simp) rfl rfl (fun q q1 _ q3 => o q q1 q3) er0 (by rw [er2, e6]) (by rw [er2]; constructor; exact Int.le_refl 0; show (0 : Int) ≤ _; split <;> decide) (fun k hk => ?_) ?_ (fun i _ hi => o6 i hi)
  · rw [o 24 (by omega) (by omega)]; exact hsm k hk
  · obtain ⟨h26, h27, h28, h29, h30, h31, h32, hs, hp, hb, hw⟩ := m
    have h63 := hs 0 (by decide)
    have h78 := hp 0 (by decide)
    have h94 := hb 0 (by decide)
    rcases hr with ⟨rfl, rfl⟩ | ⟨rfl, rfl⟩ | ⟨rfl, rfl⟩
    · exact h.1.2.row (n := 0) (Or.inl ⟨by decide, fun k _ k1 _ => o6 k k1, by rw [e6]; decide, by rw [o6 (63 + 0) (by decide)]; exact h63⟩)
    · exact h.1.2.row (n := 0) (Or.inr (Or.inl ⟨by decide, fun k _ k1 _ _ => o6 k k1, by rw [e6]; decide, by rw [o6 (78 + 0) (by decide)]; exact h78.1, by rw [o6 (78 + 0) (by decide), o6 (86 + 0) (by decide)]; exact h78.2⟩))
    · exact h.1.2.row (n := 0) (Or.inr (Or.inr ⟨by decide, fun k _ k1 _ => o6 k k1, by rw [e6]; decide, by rw [o6 (94 + 0) (by decide)]; exact h94⟩))
theorem A_see {μ : gm_M} (h : ALL μ) {a b c : Int32} {N : Nat} (hN : (μ.2.1 66 28).toInt = N) (n : N < 5) (ha : 0 ≤ a.toInt ∧ a.toInt < 5) (hc : c.toInt ≤ 60) : ALL (wI (wI (wI (wI (ad μ 23 a b c) 66 (63 + N) a) 66 (68 + N) b) 66 (73 + N) c) 66 28 (μ.2.1 66 28 + 1)) := by
  have hn := h.n28
  have e28 : μ.2.1 23 2 = μ.2.1 66 28 := h.2.2.2.1.1.2.2.1
  generalize hM : wI (wI (wI (wI (ad μ 23 a b c) 66 (63 + N) a) 66 (68 + N) b) 66 (73 + N) c) 66 28 (μ.2.1 66 28 + 1) = M
  have o : ∀ q : Nat, q ≠ 66 → M.2.1 q = (ad μ 23 a b c).2.1 q := fun q q1 => by rw [← hM, wI_o _ _ _ _ q1, wI_o _ _ _ _ q1, wI_o _ _ _ _ q1, wI_o _ _ _ _ q1]
  have o6 : ∀ i : Nat, i ≠ 28 → i ≠ 63 + N → i ≠ 68 + N → i ≠ 73 + N → M.2.1 66 i = μ.2.1 66 i := fun i i1 i2 i3 i4 => by rw [← hM, wI_n _ _ _ _ i1, wI_n _ _ _ _ i4, wI_n _ _ _ _ i3, wI_n _ _ _ _ i2, ad_o (by omega) (by omega)]
  have e6 : M.2.1 66 28 = μ.2.1 66 28 + 1 := by rw [← hM, wI_e]
  have e63 : M.2.1 66 (63 + N) = a := by rw [← hM, wI_n _ _ _ _ (by omega), wI_n _ _ _ _ (by omega), wI_n _ _ _ _ (by omega), wI_e]
  have M1 : M.1 = μ.1 := by rw [← hM]; rfl
  have M2 : M.2.2 = μ.2.2 := by rw [← hM]; rfl
  clear hM
  have hb := cnt1 (x := μ.2.1 66 28) (L := 5) (by omega) (by omega) (by decide)
  refine h.upr (r := 23) (s := 28) (L := 5) (Or.inl ⟨rfl, rfl, rfl⟩) M1 M2 (fun q q1 q2 q3 => by rw [o q q3, ad_o q1 q2]) (by rw [o 23 (by decide), ad_0]) (by rw [o 23 (by decide), ad_c, e6, e28]) (by rw [o 23 (by decide), ad_c, e28]; exact hb) (fun k hk => ?_) ?_ (fun i hi hi2 => o6 i hi2 (by unfold lp at hi; omega) (by unfold lp at hi; omega) (by unfold lp at hi; omega))
  · rw [o 24 (by decide), ad_2 (r := 23)]
    split
    · exact hc
    · exact h.2.2.1.sm k hk
  · exact h.1.2.row (n := N) (Or.inl ⟨n, fun k hk k1 k2 => o6 k k1 k2 (by unfold mp at hk; omega) (by unfold mp at hk; omega), by rw [e6]; exact hb, by rw [e63]; omega⟩)
theorem A_plan {μ : gm_M} (h : ALL μ) {a b c : Int32} {N : Nat} (hN : (μ.2.1 66 29).toInt = N) (n : N < 8) (ha : 0 ≤ a.toInt ∧ a.toInt ≤ 3) (hb0 : a.toInt ≠ 0 → 0 ≤ b.toInt ∧ b.toInt < 5) : ALL (wI (wI (wI (ad μ 25 a b c) 66 (78 + N) a) 66 (86 + N) b) 66 29 (μ.2.1 66 29 + 1)) := by
  have hn := h.n29
  have e28 : μ.2.1 25 2 = μ.2.1 66 29 := h.2.2.2.1.1.2.2.2.1
  generalize hM : wI (wI (wI (ad μ 25 a b c) 66 (78 + N) a) 66 (86 + N) b) 66 29 (μ.2.1 66 29 + 1) = M
  have o : ∀ q : Nat, q ≠ 66 → M.2.1 q = (ad μ 25 a b c).2.1 q := fun q q1 => by rw [← hM, wI_o _ _ _ _ q1, wI_o _ _ _ _ q1, wI_o _ _ _ _ q1]
  have o6 : ∀ i : Nat, i ≠ 29 → i ≠ 78 + N → i ≠ 86 + N → M.2.1 66 i = μ.2.1 66 i := fun i i1 i2 i3 => by rw [← hM, wI_n _ _ _ _ i1, wI_n _ _ _ _ i3, wI_n _ _ _ _ i2, ad_o (by omega) (by omega)]
  have e6 : M.2.1 66 29 = μ.2.1 66 29 + 1 := by rw [← hM, wI_e]
  have e78 : M.2.1 66 (78 + N) = a := by rw [← hM, wI_n _ _ _ _ (by omega), wI_n _ _ _ _ (by omega), wI_e]
  have e86 : M.2.1 66 (86 + N) = b := by rw [← hM, wI_n _ _ _ _ (by omega), wI_e]
  have M1 : M.1 = μ.1 := by rw [← hM]; rfl
  have M2 : M.2.2 = μ.2.2 := by rw [← hM]; rfl
  clear hM
  have hb := cnt1 (x := μ.2.1 66 29) (L := 8) (by omega) (by omega) (by decide)
  refine h.upr (r := 25) (s := 29) (L := 8) (Or.inr (Or.inl ⟨rfl, rfl, rfl⟩)) M1 M2 (fun q q1 q2 q3 => by rw [o q q3, ad_o q1 q2]) (by rw [o 25 (by decide), ad_0]) (by rw [o 25 (by decide), ad_c, e6, e28]) (by rw [o 25 (by decide), ad_c, e28]; exact hb) (fun k hk => ?_) ?_ (fun i hi hi2 => o6 i hi2 (by unfold lp at hi; omega) (by unfold lp at hi; omega))
  · rw [o 24 (by decide), ad_o (by decide) (by decide)]
    exact h.2.2.1.sm k hk
  · exact h.1.2.row (n := N) (Or.inr (Or.inl ⟨n, fun k hk k1 k2 k3 => o6 k k1 k2 k3, by rw [e6]; exact hb, by rw [e78]; exact ha, by rw [e78, e86]; intro q; have := hb0 q; omega⟩))
theorem A_book {μ : gm_M} (h : ALL μ) {a b c : Int32} {N : Nat} (hN : (μ.2.1 66 30).toInt = N) (n : N < 8) (ha : 0 ≤ a.toInt ∧ a.toInt < 5) : ALL (wI (wI (wI (ad μ 27 a b c) 66 (94 + N) a) 66 (102 + N) b) 66 30 (μ.2.1 66 30 + 1)) := by
  have hn := h.n30
  have e28 : μ.2.1 27 2 = μ.2.1 66 30 := h.2.2.2.1.1.2.2.2.2
  generalize hM : wI (wI (wI (ad μ 27 a b c) 66 (94 + N) a) 66 (102 + N) b) 66 30 (μ.2.1 66 30 + 1) = M
  have o : ∀ q : Nat, q ≠ 66 → M.2.1 q = (ad μ 27 a b c).2.1 q := fun q q1 => by rw [← hM, wI_o _ _ _ _ q1, wI_o _ _ _ _ q1, wI_o _ _ _ _ q1]
  have o6 : ∀ i : Nat, i ≠ 30 → i ≠ 94 + N → i ≠ 102 + N → M.2.1 66 i = μ.2.1 66 i := fun i i1 i2 i3 => by rw [← hM, wI_n _ _ _ _ i1, wI_n _ _ _ _ i3, wI_n _ _ _ _ i2, ad_o (by omega) (by omega)]
  have e6 : M.2.1 66 30 = μ.2.1 66 30 + 1 := by rw [← hM, wI_e]
  have e94 : M.2.1 66 (94 + N) = a := by rw [← hM, wI_n _ _ _ _ (by omega), wI_n _ _ _ _ (by omega), wI_e]
  have M1 : M.1 = μ.1 := by rw [← hM]; rfl
  have M2 : M.2.2 = μ.2.2 := by rw [← hM]; rfl
  clear hM
  have hb := cnt1 (x := μ.2.1 66 30) (L := 8) (by omega) (by omega) (by decide)
  refine h.upr (r := 27) (s := 30) (L := 8) (Or.inr (Or.inr ⟨rfl, rfl, rfl⟩)) M1 M2 (fun q q1 q2 q3 => by rw [o q q3, ad_o q1 q2]) (by rw [o 27 (by decide), ad_0]) (by rw [o 27 (by decide), ad_c, e6, e28]) (by rw [o 27 (by decide), ad_c, e28]; exact hb) (fun k hk => ?_) ?_ (fun i hi hi2 => o6 i hi2 (by unfold lp at hi; omega) (by unfold lp at hi; omega))
  · rw [o 24 (by decide), ad_o (by decide) (by decide)]
    exact h.2.2.1.sm k hk
  · exact h.1.2.row (n := N) (Or.inr (Or.inr ⟨n, fun k hk k1 k2 => o6 k k1 k2 (by unfold mp at hk; omega), by rw [e6]; exact hb, by rw [e94]; omega⟩))
theorem rdn {b m : gm_M} {j k : Nat} {x : Int32} (e : m = (b.1, gm_u b.2.1 66 j x, b.2.2)) (h : k ≠ j) : m.2.1 66 k = b.2.1 66 k := by
  rw [e]
  show gm_u b.2.1 66 j x 66 k = _
  exact gu_ne h
theorem rde {b m : gm_M} {j : Nat} {x : Int32} (e : m = (b.1, gm_u b.2.1 66 j x, b.2.2)) : m.2.1 66 j = x := by
  rw [e]
  show gm_u b.2.1 66 j x 66 j = _
  exact gu_eq
theorem A_feedc {μ : gm_M} (h : ALL μ) {N : Nat} {x : Int32} (h0 : 0 ≤ (x + 1).toInt) (h1 : (x + 1).toInt ≤ 100) (a : Int32) : ALL (wI (wI μ 17 N a) 15 4 (x + 1)) := by
  have o : ∀ q : Nat, q ≠ 17 → q ≠ 15 → (wI (wI μ 17 N a) 15 4 (x + 1)).2.1 q = μ.2.1 q := fun q q1 q2 => by rw [wI_o _ _ _ _ q2, wI_o _ _ _ _ q1]
  have o5 : ∀ i : Nat, i ≠ 4 → (wI (wI μ 17 N a) 15 4 (x + 1)).2.1 15 i = μ.2.1 15 i := fun i hi => by rw [wI_n _ _ _ _ hi, wI_o _ _ _ _ (by decide)]
  have hc := h.2.2.1
  refine h.upd rfl rfl (fun q hq => o q (by omega) (by omega)) (by rw [o 65 (by decide) (by decide)]) (by rw [o 66 (by decide) (by decide)]; exact h.1.2) ?_ ?_ ?_ ?_ ?_ ?_ ?_
  · rw [o5 1 (by decide), o5 5 (by decide), wI_e]; exact ⟨hc.n1, ⟨h0, h1⟩, hc.n5⟩
  · rw [o 23 (by decide) (by decide), o 25 (by decide) (by decide), o 27 (by decide) (by decide)]; exact ⟨hc.n23, hc.n25, hc.n27⟩
  · rw [o 23 (by decide) (by decide), o 25 (by decide) (by decide), o 27 (by decide) (by decide)]; exact ⟨rfl, rfl, rfl⟩
  · rw [o 24 (by decide) (by decide)]; exact hc.sm
  · rw [o 3 (by decide) (by decide)]; exact ⟨hc.n3, rfl⟩
  · refine h.2.2.2.1.fr (by rw [o5 0 (by decide)]) (by rw [o5 1 (by decide)]) ⟨by rw [o (15 + 8) (by decide) (by decide)], by rw [o (15 + 10) (by decide) (by decide)], by rw [o (15 + 12) (by decide) (by decide)]⟩ (fun k hk => ⟨by rw [o _ (by omega) (by omega)], by rw [o _ (by omega) (by omega)], rfl, fun j _ => by rw [o _ (by omega) (by omega)]⟩) (fun i _ => by rw [o 66 (by decide) (by decide)])
  · unfold LT
    rw [o 3 (by decide) (by decide), o 65 (by decide) (by decide), o 4 (by decide) (by decide), o 74 (by decide) (by decide)]
    exact h.2.2.2.2.2.2
/-- only the reference's row changes, where the light doesn't look -/
theorem ALL.upm {μ m : gm_M} (h : ALL μ) (e1 : m.1 = μ.1) (e2 : m.2.2 = μ.2.2) (ez : ∀ q : Nat, q ≠ 66 → m.2.1 q = μ.2.1 q) (mi : mI (m.2.1 66)) (el : ∀ i : Nat, lp i → m.2.1 66 i = μ.2.1 66 i) : ALL m := by
  have hc := h.2.2.1
  refine h.upd e1 e2 (fun q hq => ez q (by omega)) (by rw [ez 65 (by decide)]) mi ?_ ?_ ?_ ?_ ?_ ?_ ?_
  · rw [ez 15 (by decide)]; exact ⟨hc.n1, hc.n4, hc.n5⟩
  · rw [ez 23 (by decide), ez 25 (by decide), ez 27 (by decide)]; exact ⟨hc.n23, hc.n25, hc.n27⟩
  · rw [ez 23 (by decide), ez 25 (by decide), ez 27 (by decide)]; exact ⟨rfl, rfl, rfl⟩
  · rw [ez 24 (by decide)]; exact hc.sm
  · rw [ez 3 (by decide)]; exact ⟨hc.n3, rfl⟩
  · exact h.2.2.2.1.fr (by rw [ez 15 (by decide)]) (by rw [ez 15 (by decide)]) ⟨by rw [ez (15 + 8) (by decide)], by rw [ez (15 + 10) (by decide)], by rw [ez (15 + 12) (by decide)]⟩ (fun k hk => ⟨by rw [ez _ (by omega)], by rw [ez _ (by omega)], by rw [e2], fun j _ => by rw [ez _ (by omega)]⟩) el
  · unfold LT
    rw [ez 3 (by decide), ez 65 (by decide), ez 4 (by decide), ez 74 (by decide)]
    exact h.2.2.2.2.2.2
theorem A_feedm {μ : gm_M} (h : ALL μ) {N : Nat} (hN : N < 100) (h1 : (μ.2.1 66 31).toInt < 100) (a : Int32) : ALL (wI (wI μ 66 (110 + N) a) 66 31 (μ.2.1 66 31 + 1)) := by
  have o6 : ∀ i : Nat, i ≠ 31 → i ≠ 110 + N → (wI (wI μ 66 (110 + N) a) 66 31 (μ.2.1 66 31 + 1)).2.1 66 i = μ.2.1 66 i := fun i i1 i2 => by rw [wI_n _ _ _ _ i1, wI_n _ _ _ _ i2]
  have e31 : (wI (wI μ 66 (110 + N) a) 66 31 (μ.2.1 66 31 + 1)).2.1 66 31 = μ.2.1 66 31 + 1 := wI_e _ _ _ _
  have n31 := h.1.n31
  have hb := cnt1 (x := μ.2.1 66 31) (L := 100) n31.1 h1 (by decide)
  refine h.upm rfl rfl (fun q hq => by rw [wI_o _ _ _ _ hq, wI_o _ _ _ _ hq]) ?_ (fun i hi => o6 i (by unfold lp at hi; omega) (by unfold lp at hi; omega))
  obtain ⟨h26, h27, h28, h29, h30, h31, h32, hs, hp, hb2, hw⟩ := h.1.2
  refine ⟨by rw [o6 26 (by omega) (by omega)]; exact h26, by rw [o6 27 (by omega) (by omega)]; exact h27, by rw [o6 28 (by omega) (by omega)]; exact h28, by rw [o6 29 (by omega) (by omega)]; exact h29, by rw [o6 30 (by omega) (by omega)]; exact h30, by rw [e31]; exact hb, by rw [o6 32 (by omega) (by omega)]; exact h32, fun k hk => ?_, fun k hk => ?_, fun k hk => ?_, fun a ha => ?_⟩
  · rw [o6 _ (by omega) (by omega)]; exact hs k hk
  · rw [o6 _ (by omega) (by omega), o6 _ (by omega) (by omega)]; exact hp k hk
  · rw [o6 _ (by omega) (by omega)]; exact hb2 k hk
  · obtain ⟨w1, w2, tp, w3, w4⟩ := hw a ha
    unfold wfp
    rw [o6 _ (by omega) (by omega)]
    refine ⟨w1, w2, tp, w3, fun i hi => ?_⟩
    rw [o6 _ (by omega) (by omega)]
    exact w4 i hi
theorem rdo {b m : gm_M} {r j q : Nat} {x : Int32} (e : m = (b.1, gm_u b.2.1 r j x, b.2.2)) (h : q ≠ r) : m.2.1 q = b.2.1 q := by
  rw [e]
  show gm_u b.2.1 r j x q = _
  exact gu_row h
end
section
theorem kin.at {μ : gm_M} (h : gS μ) {k : Nat} (h1 : k < 7) : μ.2.2 2 k = 8 + k := by
  have e : k = 0 ∨ k = 1 ∨ k = 2 ∨ k = 3 ∨ k = 4 ∨ k = 5 ∨ k = 6 := by omega
  rcases e with rfl | rfl | rfl | rfl | rfl | rfl | rfl <;> exact h.r (by decide)
theorem gS.kd {μ m : gm_M} (h : gS μ) {a kd : Nat} (ha : isch a) (e1 : m.1 = μ.1) (e2 : m.2.2 = gm_u μ.2.2 a 1 kd) : gS m := by
  refine ⟨fun r q e => by rw [e1]; exact h.1 r q e, fun q hq => ?_⟩
  rw [e2]
  have : ∀ q ∈ gRl, ¬ ((q.1 = 29 ∨ q.1 = 31 ∨ q.1 = 33 ∨ q.1 = 35 ∨ q.1 = 37) ∧ q.2.1 = 1) := by decide
  have hn := this q hq
  by_cases e : q.1 = a
  · rw [e, gu_ne (fun e3 => hn ⟨by rw [e]; exact ha, e3⟩), ← e]; exact h.2 q hq
  · rw [gu_row e]; exact h.2 q hq
theorem rde2 {b m : gm_M} {r j : Nat} {x : Int32} (e : m = (b.1, gm_u b.2.1 r j x, b.2.2)) : m.2.1 r j = x := by
  rw [e]
  show gm_u b.2.1 r j x r j = _
  exact gu_eq
theorem rdn2 {b m : gm_M} {r j k : Nat} {x : Int32} (e : m = (b.1, gm_u b.2.1 r j x, b.2.2)) (h : k ≠ j) : m.2.1 r k = b.2.1 r k := by
  rw [e]
  show gm_u b.2.1 r j x r k = _
  exact gu_ne h
theorem gx_p1 (x : Int32) : x + 1 - 1 = x := by
  rw [Int32.add_sub_cancel]
def CB (μ m : gm_M) (n : Nat) (a b : Int32) : Prop := m.1 = μ.1 ∧ m.2.2 = gm_u μ.2.2 (29 + 2 * n) 1 (8 + a.toInt.toNat) ∧ (∀ r : Nat, r ≠ 15 → r ≠ 29 + 2 * n → r ≠ 29 + 2 * n + 1 → m.2.1 r = μ.2.1 r) ∧ (∀ j : Nat, j ≠ 1 → m.2.1 15 j = μ.2.1 15 j) ∧ m.2.1 15 1 = μ.2.1 15 1 + 1 ∧ m.2.1 (29 + 2 * n) 0 = μ.2.1 (29 + 2 * n) 0 ∧ m.2.1 (29 + 2 * n) 2 = b ∧ ∀ j : Nat, j < 4 → m.2.1 (29 + 2 * n + 1) j = 0
theorem CB.mk {μ b m : gm_M} {v kd n : Nat} {a w : Int32} (hv : v = 29 + 2 * n) (hk : kd = 8 + a.toInt.toNat) (hn : n < 5) (B1 : b.1 = μ.1) (B2 : b.2.2 = gm_u μ.2.2 v 1 kd) (B3 : ∀ r : Nat, r ≠ v → r ≠ v + 1 → b.2.1 r = μ.2.1 r) (B4 : b.2.1 v 0 = μ.2.1 v 0) (B5 : b.2.1 v 2 = w) (B11 : ∀ j : Nat, j < 4 → b.2.1 (v + 1) j = 0) (e : m = (b.1, gm_u b.2.1 15 1 (μ.2.1 15 1 + 1), b.2.2)) : CB μ m n a w := by
  subst hv
  subst hk
  have o : ∀ q : Nat, q ≠ 15 → m.2.1 q = b.2.1 q := fun q hq => rdo e hq
  refine ⟨by rw [e]; exact B1, by rw [e]; exact B2, fun r r1 r2 r3 => by rw [o r r1, B3 r r2 r3], fun j hj => by rw [rdn2 e hj, B3 15 (by omega) (by omega)], rde2 e, by rw [o _ (by omega)]; exact B4, by rw [o _ (by omega)]; exact B5, fun j hj => by rw [o _ (by omega)]; exact B11 j hj⟩
def MB (μ m : gm_M) (n : Nat) (a b : Int32) : Prop := m.1 = μ.1 ∧ m.2.2 = μ.2.2 ∧ (∀ r : Nat, r ≠ 66 → m.2.1 r = μ.2.1 r) ∧ m.2.1 66 26 = μ.2.1 66 26 + 1 ∧ m.2.1 66 (33 + n) = a ∧ m.2.1 66 (38 + n) = b ∧ (∀ j : Nat, j < 4 → m.2.1 66 (43 + 4 * n + j) = 0) ∧ ∀ i : Nat, i ≠ 26 → i ≠ 33 + n → i ≠ 38 + n → ¬ (43 + 4 * n ≤ i ∧ i < 43 + 4 * n + 4) → ¬ (1 ≤ i ∧ i < 26) → m.2.1 66 i = μ.2.1 66 i
/-- a child comes -/
theorem A_child {μ m1 m2 : gm_M} (h : ALL μ) {n : Nat} {a b : Int32} (hn : (μ.2.1 15 1).toInt = n) (n5 : n < 5) (ha : 0 ≤ a.toInt ∧ a.toInt ≤ 6) (c : CB μ m1 n a b) (d : MB m1 m2 n a b) : ALL m2 := by
  obtain ⟨c1, c2, c3, c4, c5, c6, c7, c8⟩ := c
  obtain ⟨d1, d2, d3, d4, d5, d6, d7, d8⟩ := d
  have hN := h.n26
  have E26 : μ.2.1 15 1 = μ.2.1 66 26 := h.2.2.2.1.1.2.1
  have hc := h.2.2.1
  obtain ⟨hM, h2, -, h4, h5, h6, h7⟩ := h
  have isn : isch (29 + 2 * n) := by unfold isch; omega
  have r66 : m1.2.1 66 = μ.2.1 66 := c3 66 (by omega) (by omega) (by omega)
  have o : ∀ r : Nat, r ≠ 66 → r ≠ 15 → r ≠ 29 + 2 * n → r ≠ 29 + 2 * n + 1 → m2.2.1 r = μ.2.1 r := fun r r0 r1 r2 r3 => by rw [d3 r r0, c3 r r1 r2 r3]
  have o6 : ∀ i : Nat, i ≠ 26 → i ≠ 33 + n → i ≠ 38 + n → ¬ (43 + 4 * n ≤ i ∧ i < 43 + 4 * n + 4) → ¬ (1 ≤ i ∧ i < 26) → m2.2.1 66 i = μ.2.1 66 i := fun i i1 i2 i3 i4 i5 => by rw [d8 i i1 i2 i3 i4 i5, r66]
  have o15 : ∀ j : Nat, j ≠ 1 → m2.2.1 15 j = μ.2.1 15 j := fun j hj => by rw [d3 15 (by omega), c4 j hj]
  have e15 : m2.2.1 15 1 = μ.2.1 15 1 + 1 := by rw [d3 15 (by omega), c5]
  have R : m2.2.2 = gm_u μ.2.2 (29 + 2 * n) 1 (8 + a.toInt.toNat) := by rw [d2, c2]
  have T : m2.1 = μ.1 := by rw [d1, c1]
  have Rn : ∀ r j : Nat, ¬ (r = 29 + 2 * n ∧ j = 1) → m2.2.2 r j = μ.2.2 r j := fun r j hr => by
    rw [R]
    by_cases e : r = 29 + 2 * n
    · subst e; exact gu_ne (fun q => hr ⟨rfl, q⟩)
    · rw [gu_row e]
  have Re : m2.2.2 (29 + 2 * n) 1 = 8 + a.toInt.toNat := by rw [R]; exact gu_eq
  have hS : gS m2 := hM.1.kd isn T R
  have hb := cnt1 (x := μ.2.1 15 1) (L := 5) (by omega) (by omega) (by decide)
  have hA : ∀ q, AfW μ q → AfW m2 q := fun q p => by
    have p0 := p.1
    exact p.same (fun r q e => by rw [T]; exact e) (funext fun j => Rn _ j (by omega)) (o _ (by omega) (by omega) (by omega) (by omega)) (o _ (by omega) (by omega) (by omega) (by omega))
  have hmi : mI (m2.2.1 66) := by
    obtain ⟨h26, h27, h28, h29, h30, h31, h32, hs, hp, hb2, hw⟩ := hM.2
    refine ⟨by rw [d4, r66, ← E26]; exact hb, by rw [o6 27 (by omega) (by omega) (by omega) (by omega) (by omega)]; exact h27, by rw [o6 28 (by omega) (by omega) (by omega) (by omega) (by omega)]; exact h28, by rw [o6 29 (by omega) (by omega) (by omega) (by omega) (by omega)]; exact h29, by rw [o6 30 (by omega) (by omega) (by omega) (by omega) (by omega)]; exact h30, by rw [o6 31 (by omega) (by omega) (by omega) (by omega) (by omega)]; exact h31, by rw [o6 32 (by omega) (by omega) (by omega) (by omega) (by omega)]; exact h32, fun k hk => ?_, fun k hk => ?_, fun k hk => ?_, fun q hq => ?_⟩
    · rw [o6 _ (by omega) (by omega) (by omega) (by omega) (by omega)]; exact hs k hk
    · rw [o6 _ (by omega) (by omega) (by omega) (by omega) (by omega), o6 _ (by omega) (by omega) (by omega) (by omega) (by omega)]; exact hp k hk
    · rw [o6 _ (by omega) (by omega) (by omega) (by omega) (by omega)]; exact hb2 k hk
    · obtain ⟨w1, w2, tp, w3, w4⟩ := hw q hq
      unfold wfp
      rw [o6 _ (by omega) (by omega) (by omega) (by omega) (by omega)]
      refine ⟨w1, w2, tp, w3, fun i hi => ?_⟩
      rw [o6 _ (by omega) (by omega) (by omega) (by omega) (by omega)]
      exact w4 i hi
  have hci : cI m2 := by
    obtain ⟨h0, s1, s2, k1, t1⟩ := hc
    refine ⟨?_, s2.same (fun r q e => by rw [T]; exact e) (fun j _ => by rw [o 39 (by omega) (by omega) (by omega) (by omega)]) (Rn 39 6 (by omega)) (fun r hr => o r (by omega) (by omega) (by omega) (by omega)) (hA _), fun q hq => ?_, by rw [o 3 (by omega) (by omega) (by omega) (by omega)]; exact t1⟩
    · obtain ⟨p1, p2, p3, p4, p5, p6, p7, p8, p9, p10, p11⟩ := s1
      unfold scI
      rw [e15, o15 4 (by omega), o15 5 (by omega), Rn 15 6 (by omega), o (15 + 8) (by omega) (by omega) (by omega) (by omega), o (15 + 9) (by omega) (by omega) (by omega) (by omega), o (15 + 10) (by omega) (by omega) (by omega) (by omega), o (15 + 12) (by omega) (by omega) (by omega) (by omega)]
      exact ⟨hb, p2, p3, hA _ p4, p5, p6, p7, p8, p9, p10, p11⟩
    · by_cases e : q = 29 + 2 * n
      · subst e; rw [Re]; unfold kid; omega
      · rw [Rn q 1 (fun z => e z.1)]; exact k1 q hq
  refine ⟨⟨hS, hmi⟩, by rw [o 67 (by omega) (by omega) (by omega) (by omega)]; exact h2, ⟨hS, hci⟩, ?_, ?_, ?_, ?_⟩
  · obtain ⟨p, pk⟩ := h4
    refine ⟨?_, fun k hk => ?_⟩
    · rw [o15 0 (by omega), e15, d4, r66, ← E26, o (15 + 8) (by omega) (by omega) (by omega) (by omega), o (15 + 10) (by omega) (by omega) (by omega) (by omega), o (15 + 12) (by omega) (by omega) (by omega) (by omega), o6 0 (by omega) (by omega) (by omega) (by omega) (by omega), o6 28 (by omega) (by omega) (by omega) (by omega) (by omega), o6 29 (by omega) (by omega) (by omega) (by omega) (by omega), o6 30 (by omega) (by omega) (by omega) (by omega) (by omega)]
      exact ⟨p.1, rfl, p.2.2.1, p.2.2.2.1, p.2.2.2.2⟩
    · obtain ⟨⟨a1, a2, a3⟩, a4⟩ := pk k hk
      by_cases e : k = n
      · subst e
        refine ⟨⟨?_, ?_, ?_⟩, fun j hj => ?_⟩
        · rw [d3 _ (by omega), c6]; exact a1
        · rw [Re, d5]; omega
        · rw [d3 _ (by omega), c7, d6]
        · rw [d3 _ (by omega), c8 j hj, d7 j hj]
      · refine ⟨⟨?_, ?_, ?_⟩, fun j hj => ?_⟩
        · rw [o _ (by omega) (by omega) (by omega) (by omega)]; exact a1
        · rw [Rn _ 1 (by omega), o6 _ (by omega) (by omega) (by omega) (by omega) (by omega)]; exact a2
        · rw [o _ (by omega) (by omega) (by omega) (by omega), o6 _ (by omega) (by omega) (by omega) (by omega) (by omega)]; exact a3
        · rw [o _ (by omega) (by omega) (by omega) (by omega), o6 _ (by omega) (by omega) (by omega) (by omega) (by omega)]; exact a4 j hj
  · exact h5.fr (by rw [o 39 (by omega) (by omega) (by omega) (by omega)]) (by rw [o 39 (by omega) (by omega) (by omega) (by omega)]) ⟨by rw [o _ (by omega) (by omega) (by omega) (by omega)], by rw [o _ (by omega) (by omega) (by omega) (by omega)], by rw [o _ (by omega) (by omega) (by omega) (by omega)]⟩ (fun k hk => ⟨by rw [o _ (by omega) (by omega) (by omega) (by omega)], by rw [o _ (by omega) (by omega) (by omega) (by omega)], Rn _ 1 (by omega), fun j _ => by rw [o _ (by omega) (by omega) (by omega) (by omega)]⟩) (fun i _ => by rw [o 67 (by omega) (by omega) (by omega) (by omega)])
  · rw [o 1 (by omega) (by omega) (by omega) (by omega), o 65 (by omega) (by omega) (by omega) (by omega)]; exact h6
  · unfold LT
    rw [o 3 (by omega) (by omega) (by omega) (by omega), o 65 (by omega) (by omega) (by omega) (by omega), o 4 (by omega) (by omega) (by omega) (by omega), o 74 (by omega) (by omega) (by omega) (by omega)]
    exact h7
end
section
set_option maxHeartbeats 2000000 in
theorem c_child {μ : gm_M} (h : ALL μ) {a1 : Int32} {a2 : Int32} : gwI (f_X11_child 1 a1 a2 μ) (fun x m => (m = μ ∧ x = -1 ∧ (a1.toInt < 0 ∨ 6 < a1.toInt)) ∨ (m = μ ∧ x = -2 ∧ (0 ≤ a1.toInt ∧ a1.toInt ≤ 6) ∧ (a2.toInt < 0 ∨ 9 < a2.toInt)) ∨ (m = μ ∧ x = -4 ∧ (0 ≤ a1.toInt ∧ a1.toInt ≤ 6) ∧ (0 ≤ a2.toInt ∧ a2.toInt ≤ 9) ∧ 5 ≤ (μ.2.1 15 1).toInt) ∨ ((0 ≤ a1.toInt ∧ a1.toInt ≤ 6) ∧ (0 ≤ a2.toInt ∧ a2.toInt ≤ 9) ∧ (μ.2.1 15 1).toInt < 5 ∧ x = μ.2.1 15 1 ∧ CB μ m (μ.2.1 15 1).toInt.toNat a1 a2)) := by
  refine gwI_of ?_
  unfold f_X11_child
  have hc := h.2.2.1
  have lm4 : (-4 : Int32).toInt = -4 := rfl
  have lm2 : (-2 : Int32).toInt = -2 := rfl
  have lm1 : (-1 : Int32).toInt = -1 := rfl
  have l0 : (0 : Int32).toInt = 0 := rfl
  have l1 : (1 : Int32).toInt = 1 := rfl
  have l5 : (5 : Int32).toInt = 5 := rfl
  have l6 : (6 : Int32).toInt = 6 := rfl
  have l9 : (9 : Int32).toInt = 9 := rfl
  have N1 := hc.n1
  refine gw_bI (s_X11_isOutside ) (fun x1 m1 ⟨z1, f1⟩ => ?_)
  replace z1 := z1.symm
  subst z1
  refine gw_eq (fun h7_2 => ?_) (fun h7_2 => ?_)
  ·
    refine gw_bI (s_X11_isOutside ) (fun x3 m3 ⟨z3, f3⟩ => ?_)
    replace z3 := z3.symm
    subst z3
    refine gw_eq (fun h19_4 => ?_) (fun h19_4 => ?_)
    ·
      refine gw_gRa 15 (hc.1.c (r := 1) rfl) (hc.1.r (by decide)) ?_
      refine gw_gI (hc.1.c (r := 15) rfl) (fun v5 ev5 => ?_)
      have bv5 := hc.n1
      have dv5 : v5.toInt = (μ.2.1 15 1).toInt := by rw [ev5]
      refine gw_lt (fun h33_6 => ?_) (fun h33_6 => ?_)
      ·
        refine gw_gRa 15 (hc.1.c (r := 1) rfl) (hc.1.r (by decide)) ?_
        refine gw_gRa 16 (hc.1.c (r := 15) rfl) (hc.1.r (by decide)) ?_
        refine gw_gRa 15 (hc.1.c (r := 1) rfl) (hc.1.r (by decide)) ?_
        refine gw_gI (hc.1.c (r := 15) rfl) (fun v7 ev7 => ?_)
        have bv7 := hc.n1
        have dv7 : v7.toInt = (μ.2.1 15 1).toInt := by rw [ev7]
        have SZ := ev7
        refine gw_aR (i := v7) (hc.1.t (r := 16) rfl) (hc.1.l (r := 16) rfl) (by omega) (by omega) (fun v8 ev8 => ?_)
        have cv8 : isch v8 := by rw [ev8]; exact isch.of hc.1 (by omega) (by omega)
        have hv : v8 = 29 + 2 * (μ.2.1 15 1).toInt.toNat := by rw [ev8, SZ]; exact isch.at hc.1 (by omega)
        refine gw_gRa 2 (hc.1.c (r := 1) rfl) (hc.1.r (by decide)) ?_
        refine gw_aR (i := a1) (hc.1.t (r := 2) rfl) (hc.1.l (r := 2) rfl) (by omega) (by omega) (fun v9 ev9 => ?_)
        have hkv9 : v9 = 8 + a1.toInt.toNat := by rw [ev9]; exact kin.at hc.1 (by omega)
        have cv9 : kid v9 := by unfold kid; omega
        have hkk := hkv9
        refine gw_gRa 15 (hc.1.c (r := 1) rfl) (hc.1.r (by decide)) ?_
        refine gw_gR (hc.1.c (r := 15) rfl) (fun v10 ev10 => ?_)
        have cv10 : AfW μ v10 := by rw [ev10]; exact hc.af
        refine gw_gI (cv10.tc) (fun v11 ev11 => ?_)
        refine gw_if (ict.t hc.1 (Or.inl cv8)) ?_
        refine gw_bV (s_begin hc.1 cv8) (fun m12 z12 => ?_)
        obtain ⟨B1, B2, B3, B4, B5, B6, B7, B8, B9, B10, B11⟩ := z12
        refine gw_gRa 15 ((And.intro (gS.kd hc.1 cv8 B1 B2) True.intro : _ ∧ True).1.c (r := 1) rfl) ((And.intro (gS.kd hc.1 cv8 B1 B2) True.intro : _ ∧ True).1.r (by decide)) ?_
        refine gw_gI ((And.intro (gS.kd hc.1 cv8 B1 B2) True.intro : _ ∧ True).1.c (r := 15) rfl) (fun v13 ev13 => ?_)
        have s2 : v13 = μ.2.1 15 1 := by rw [ev13, B3 15 (by omega) (by omega)]
        refine gw_pI ((And.intro (gS.kd hc.1 cv8 B1 B2) True.intro : _ ∧ True).1.c (r := 15) rfl) (fun m14 em14 => ?_)
        have sm14 := gS.w (gS.kd hc.1 cv8 B1 B2) em14
        refine gw_gRa 15 ((And.intro sm14 True.intro : _ ∧ True).1.c (r := 1) rfl) ((And.intro sm14 True.intro : _ ∧ True).1.r (by decide)) ?_
        refine gw_gI ((And.intro sm14 True.intro : _ ∧ True).1.c (r := 15) rfl) (fun v15 ev15 => ?_)
        have VX : v15 - 1 = μ.2.1 15 1 := by rw [ev15, rde2 em14, s2]; exact gx_p1 _
        have CBX : CB μ m14 (μ.2.1 15 1).toInt.toNat a1 a2 := CB.mk hv hkk (by omega) B1 B2 B3 B4 B5 B11 (by rw [em14, s2])
        exact gw_some (gq_I (by first | exact Or.inl ⟨rfl, rfl, by omega⟩ | exact Or.inr (Or.inl ⟨rfl, rfl, by omega, by omega⟩) | exact Or.inr (Or.inr (Or.inl ⟨rfl, rfl, by omega, by omega, by omega⟩)) | exact Or.inr (Or.inr (Or.inr ⟨by omega, by omega, by omega, VX, CBX⟩))))
      ·
        exact gw_some (gq_I (by first | exact Or.inl ⟨rfl, rfl, by omega⟩ | exact Or.inr (Or.inl ⟨rfl, rfl, by omega, by omega⟩) | exact Or.inr (Or.inr (Or.inl ⟨rfl, rfl, by omega, by omega, by omega⟩)) | exact Or.inr (Or.inr (Or.inr ⟨by omega, by omega, by omega, VX, CBX⟩))))
    ·
      exact gw_some (gq_I (by first | exact Or.inl ⟨rfl, rfl, by omega⟩ | exact Or.inr (Or.inl ⟨rfl, rfl, by omega, by omega⟩) | exact Or.inr (Or.inr (Or.inl ⟨rfl, rfl, by omega, by omega, by omega⟩)) | exact Or.inr (Or.inr (Or.inr ⟨by omega, by omega, by omega, VX, CBX⟩))))
  ·
    exact gw_some (gq_I (by first | exact Or.inl ⟨rfl, rfl, by omega⟩ | exact Or.inr (Or.inl ⟨rfl, rfl, by omega, by omega⟩) | exact Or.inr (Or.inr (Or.inl ⟨rfl, rfl, by omega, by omega, by omega⟩)) | exact Or.inr (Or.inr (Or.inr ⟨by omega, by omega, by omega, VX, CBX⟩))))
end
section
theorem gx_addc {x y : Int32} (k : Int) (hk : x.toInt = k) (h1 : -2147483648 ≤ k + y.toInt) (h2 : k + y.toInt ≤ 2147483647) : (x + y).toInt = k + y.toInt := by
  rw [← hk] at h1 h2 ⊢
  exact gx_add h1 h2
def BMp (S : Int32 → Prop) (μ m : gm_M) (n : Nat) : Prop := (m.2.1 66 (1 + n) = 1 ∧ S (m.2.1 66 (6 + n)) ∧ m.2.1 66 (11 + n) = 0 ∧ m.2.1 66 (16 + n) = 0 ∧ m.2.1 66 (21 + n) = 0) ∧ ∀ i : Nat, 1 ≤ i ∧ i < 26 → i ≠ 1 + n → i ≠ 6 + n → i ≠ 11 + n → i ≠ 16 + n → i ≠ 21 + n → m.2.1 66 i = μ.2.1 66 i
theorem kh_ne {a b N : Nat} (h : a ≠ b) : a + N ≠ b + N := by omega
theorem kh_lt {K L N : Nat} (h5 : N < 5) (h : K + 5 ≤ L) : K + N < L := by omega
theorem kh_ad {x n : Int32} {N : Nat} (K : Nat) (hx : x.toInt = K) (hK : K ≤ 1000) (hn : n.toInt = N) (h5 : N < 5) : (x + n).toInt = ((K + N : Nat) : Int) := by
  have e : (x + n).toInt = x.toInt + n.toInt := gx_add (by omega) (by omega)
  omega
theorem kh_ad4 {n : Int32} {N : Nat} (hn : n.toInt = N) (h5 : N < 5) : ((43 : Int32) + (4 : Int32) * n).toInt = ((43 + 4 * N : Nat) : Int) := by
  have e4 : ((4 : Int32) * n).toInt = 4 * n.toInt := gx_mul 4 rfl (by omega) (by omega)
  have e : ((43 : Int32) + (4 : Int32) * n).toInt = 43 + ((4 : Int32) * n).toInt := gx_addc 43 rfl (by omega) (by omega)
  omega
theorem kh_in {x : Int32} {N : Nat} (K : Nat) (hK : K ≤ 1000) {z : Int32} (hz : z.toInt = ((K + 4 * N : Nat) : Int)) (h5 : N < 5) (hx : 0 ≤ x.toInt ∧ x.toInt ≤ 4) : (z + x).toInt = ((K + 4 * N + x.toInt.toNat : Nat) : Int) := by
  have e : (z + x).toInt = z.toInt + x.toInt := gx_add (by omega) (by omega)
  omega
theorem kh_i1 {x : Int32} (hx : 0 ≤ x.toInt ∧ x.toInt ≤ 4) : (x + (1 : Int32)).toInt = x.toInt + 1 := by
  have l1 : (1 : Int32).toInt = 1 := rfl
  have e : (x + (1 : Int32)).toInt = x.toInt + (1 : Int32).toInt := gx_add (by omega) (by omega)
  omega
def kh_B (μ : gm_M) (N : Nat) (a b x : Int32) : gm_M := wI (wI (wI (wI (wI (wI (wI μ 66 (33 + N) a) 66 (38 + N) b) 66 (1 + N) 1) 66 (6 + N) x) 66 (11 + N) 0) 66 (16 + N) 0) 66 (21 + N) 0
theorem kh_Bo {μ : gm_M} {N : Nat} {a b x : Int32} {r : Nat} (hr : r ≠ 66) : (kh_B μ N a b x).2.1 r = μ.2.1 r := by
  unfold kh_B
  rw [wI_o _ _ _ _ hr, wI_o _ _ _ _ hr, wI_o _ _ _ _ hr, wI_o _ _ _ _ hr, wI_o _ _ _ _ hr, wI_o _ _ _ _ hr, wI_o _ _ _ _ hr]
theorem kh_Bi {μ : gm_M} {N : Nat} {a b x : Int32} {i : Nat} (i1 : i ≠ 33 + N) (i2 : i ≠ 38 + N) (i3 : i ≠ 1 + N) (i4 : i ≠ 6 + N) (i5 : i ≠ 11 + N) (i6 : i ≠ 16 + N) (i7 : i ≠ 21 + N) : (kh_B μ N a b x).2.1 66 i = μ.2.1 66 i := by
  unfold kh_B
  rw [wI_n _ _ _ _ i7, wI_n _ _ _ _ i6, wI_n _ _ _ _ i5, wI_n _ _ _ _ i4, wI_n _ _ _ _ i3, wI_n _ _ _ _ i2, wI_n _ _ _ _ i1]
theorem kh_B33 {μ : gm_M} {N : Nat} {a b x : Int32} : (kh_B μ N a b x).2.1 66 (33 + N) = a := by
  unfold kh_B
  rw [wI_n _ _ _ _ (kh_ne (by decide)), wI_n _ _ _ _ (kh_ne (by decide)), wI_n _ _ _ _ (kh_ne (by decide)), wI_n _ _ _ _ (kh_ne (by decide)), wI_n _ _ _ _ (kh_ne (by decide)), wI_n _ _ _ _ (kh_ne (by decide)), wI_e]
theorem kh_B38 {μ : gm_M} {N : Nat} {a b x : Int32} : (kh_B μ N a b x).2.1 66 (38 + N) = b := by
  unfold kh_B
  rw [wI_n _ _ _ _ (kh_ne (by decide)), wI_n _ _ _ _ (kh_ne (by decide)), wI_n _ _ _ _ (kh_ne (by decide)), wI_n _ _ _ _ (kh_ne (by decide)), wI_n _ _ _ _ (kh_ne (by decide)), wI_e]
theorem kh_B1 {μ : gm_M} {N : Nat} {a b x : Int32} : (kh_B μ N a b x).2.1 66 (1 + N) = 1 := by
  unfold kh_B
  rw [wI_n _ _ _ _ (kh_ne (by decide)), wI_n _ _ _ _ (kh_ne (by decide)), wI_n _ _ _ _ (kh_ne (by decide)), wI_n _ _ _ _ (kh_ne (by decide)), wI_e]
theorem kh_B6 {μ : gm_M} {N : Nat} {a b x : Int32} : (kh_B μ N a b x).2.1 66 (6 + N) = x := by
  unfold kh_B
  rw [wI_n _ _ _ _ (kh_ne (by decide)), wI_n _ _ _ _ (kh_ne (by decide)), wI_n _ _ _ _ (kh_ne (by decide)), wI_e]
theorem kh_B11 {μ : gm_M} {N : Nat} {a b x : Int32} : (kh_B μ N a b x).2.1 66 (11 + N) = 0 := by
  unfold kh_B
  rw [wI_n _ _ _ _ (kh_ne (by decide)), wI_n _ _ _ _ (kh_ne (by decide)), wI_e]
theorem kh_B16 {μ : gm_M} {N : Nat} {a b x : Int32} : (kh_B μ N a b x).2.1 66 (16 + N) = 0 := by
  unfold kh_B
  rw [wI_n _ _ _ _ (kh_ne (by decide)), wI_e]
theorem kh_B21 {μ : gm_M} {N : Nat} {a b x : Int32} : (kh_B μ N a b x).2.1 66 (21 + N) = 0 := by
  unfold kh_B
  rw [wI_e]
theorem kh_end {S : Int32 → Prop} {μ t : gm_M} {N : Nat} {a b x n : Int32} (h5 : N < 5) (hx : S x) (hn : μ.2.1 66 26 = n) (g2 : t.1 = μ.1) (g3 : t.2.2 = μ.2.2) (g4 : ∀ r : Nat, r ≠ 66 → t.2.1 r = μ.2.1 r) (g5 : ∀ j : Nat, j < 4 → t.2.1 66 (43 + 4 * N + j) = 0) (g7 : ∀ i : Nat, ¬ (43 + 4 * N ≤ i ∧ i < 43 + 4 * N + 4) → t.2.1 66 i = (kh_B μ N a b x).2.1 66 i) : MB μ (wI t 66 26 (t.2.1 66 26 + 1)) N a b ∧ BMp S μ (wI t 66 26 (t.2.1 66 26 + 1)) N := by
  have lo : ∀ k : Nat, k < 42 → k ≠ 26 → (wI t 66 26 (t.2.1 66 26 + 1)).2.1 66 k = (kh_B μ N a b x).2.1 66 k := fun k h1 h2 => by rw [wI_n _ _ _ _ h2, g7 k (by omega)]
  refine ⟨⟨g2, g3, fun r hr => by rw [wI_o _ _ _ _ hr]; exact g4 r hr, ?_, ?_, ?_, fun j hj => ?_, fun i i1 i2 i3 i4 i5 => ?_⟩, ⟨?_, ?_, ?_, ?_, ?_⟩, fun i i0 i1 i2 i3 i4 i5 => ?_⟩
  · rw [wI_e, g7 26 (by omega), kh_Bi (by omega) (by omega) (by omega) (by omega) (by omega) (by omega) (by omega)]
  · rw [lo _ (by omega) (by omega)]; exact kh_B33
  · rw [wI_n _ _ _ _ (by omega), g7 _ (by omega)]; exact kh_B38
  · rw [wI_n _ _ _ _ (by omega)]; exact g5 j hj
  · rw [wI_n _ _ _ _ i1, g7 i i4]; exact kh_Bi i2 i3 (by omega) (by omega) (by omega) (by omega) (by omega)
  · rw [lo _ (by omega) (by omega)]; exact kh_B1
  · rw [lo _ (by omega) (by omega), kh_B6]; exact hx
  · rw [lo _ (by omega) (by omega)]; exact kh_B11
  · rw [lo _ (by omega) (by omega)]; exact kh_B16
  · rw [lo _ (by omega) (by omega)]; exact kh_B21
  · rw [lo _ (by omega) (by omega)]; exact kh_Bi (by omega) (by omega) i1 i2 i3 i4 i5
set_option maxHeartbeats 1000000 in
theorem k_child {S : Int32 → Prop} {μ : gm_M} (h : MI μ) (hS : ∀ M : gm_M, MI M → (∀ k : Nat, k = 32 ∨ 210 ≤ k → M.2.1 66 k = μ.2.1 66 k) → gwI (f_X12_sweetNow 65 M) (fun x m => m = M ∧ S x)) {a b : Int32} : gwI (f_X12_child 65 a b μ) (fun y m => (m = μ ∧ y = -1 ∧ (a.toInt < 0 ∨ 6 < a.toInt)) ∨ (m = μ ∧ y = -2 ∧ (0 ≤ a.toInt ∧ a.toInt ≤ 6) ∧ (b.toInt < 0 ∨ 9 < b.toInt)) ∨ (m = μ ∧ y = -4 ∧ (0 ≤ a.toInt ∧ a.toInt ≤ 6) ∧ (0 ≤ b.toInt ∧ b.toInt ≤ 9) ∧ 5 ≤ (μ.2.1 66 26).toInt) ∨ ((0 ≤ a.toInt ∧ a.toInt ≤ 6) ∧ (0 ≤ b.toInt ∧ b.toInt ≤ 9) ∧ (μ.2.1 66 26).toInt < 5 ∧ y = μ.2.1 66 26 ∧ MB μ m (μ.2.1 66 26).toInt.toNat a b ∧ BMp S μ m (μ.2.1 66 26).toInt.toNat)) := by
  refine gwI_of ?_
  unfold f_X12_child
  have hn := h.n26
  have hg := h.1
  have l0 : (0 : Int32).toInt = 0 := rfl
  have l6 : (6 : Int32).toInt = 6 := rfl
  refine gw_bI s_X12_in (fun x2 m2 ⟨z2, f2⟩ => ?_)
  replace z2 := z2.symm
  subst z2
  refine gw_ne (fun g2 => ?_) (fun g2 => gw_some (gq_I (Or.inl ⟨rfl, rfl, by omega⟩)))
  have hb1 : 0 ≤ a.toInt ∧ a.toInt ≤ 6 := by omega
  clear g2 f2 l6
  have l9 : (9 : Int32).toInt = 9 := rfl
  refine gw_bI s_X12_in (fun x4 m4 ⟨z4, f4⟩ => ?_)
  replace z4 := z4.symm
  subst z4
  refine gw_ne (fun g4 => ?_) (fun g4 => gw_some (gq_I (Or.inr (Or.inl ⟨rfl, rfl, hb1, by omega⟩))))
  have hb2 : 0 ≤ b.toInt ∧ b.toInt ≤ 9 := by omega
  clear g4 f4 l9 l0
  refine gw_gRa 66 (hg.c (r := 65) rfl) (hg.r (by decide)) ?_
  refine gw_aIw 26 (hg.t (r := 66) rfl) (hg.l (r := 66) rfl) (by rfl) (by decide) ?_
  refine gw_ne (fun g6 => ?_) (fun g6 => gw_some (gq_I (Or.inr (Or.inr (Or.inl ⟨rfl, rfl, hb1, hb2, by have l5 : (5 : Int32).toInt = 5 := rfl; omega⟩)))))
  have q5 : (μ.2.1 66 26).toInt < 5 := by have l5 : (5 : Int32).toInt = 5 := rfl; omega
  clear g6
  refine gw_gRa 66 (hg.c (r := 65) rfl) (hg.r (by decide)) ?_
  refine gw_aIw 26 (hg.t (r := 66) rfl) (hg.l (r := 66) rfl) (by rfl) (by decide) ?_
  generalize hn0 : μ.2.1 66 26 = n at *
  obtain ⟨N, hN⟩ : ∃ N : Nat, n.toInt = N := ⟨n.toInt.toNat, by omega⟩
  have h5 : N < 5 := by omega
  have eN : n.toInt.toNat = N := by omega
  clear hn
  refine gw_gRa 66 (hg.c (r := 65) rfl) (hg.r (by decide)) ?_
  refine gw_sIw (33 + N) (hg.t (r := 66) rfl) (hg.l (r := 66) rfl) (kh_ad 33 (by rfl) (by decide) hN h5) (kh_lt h5 (by decide)) ?_
  refine gw_gRa 66 (hg.c (r := 65) rfl) (hg.r (by decide)) ?_
  refine gw_sIw (38 + N) (hg.t (r := 66) rfl) (hg.l (r := 66) rfl) (kh_ad 38 (by rfl) (by decide) hN h5) (kh_lt h5 (by decide)) ?_
  refine gw_gRa 66 (hg.c (r := 65) rfl) (hg.r (by decide)) ?_
  refine gw_sIw (1 + N) (hg.t (r := 66) rfl) (hg.l (r := 66) rfl) (kh_ad 1 (by rfl) (by decide) hN h5) (kh_lt h5 (by decide)) ?_
  refine gw_gRa 66 (hg.c (r := 65) rfl) (hg.r (by decide)) ?_
  refine gw_if (hg.t (r := 65) rfl) ?_
  have hM3 : MI (wI (wI (wI μ 66 (33 + N) a) 66 (38 + N) b) 66 (1 + N) 1) := ⟨hg, h.2.same (fun k hk => by unfold mp at hk; rw [wI_n _ _ _ _ (by omega), wI_n _ _ _ _ (by omega), wI_n _ _ _ _ (by omega)])⟩
  refine gw_bI (hS _ hM3 (fun k hk => by rw [wI_n _ _ _ _ (by omega), wI_n _ _ _ _ (by omega), wI_n _ _ _ _ (by omega)])) (fun x17 m17 ⟨z17, s17⟩ => ?_)
  replace z17 := z17.symm
  subst z17
  refine gw_sIw (6 + N) (hg.t (r := 66) rfl) (hg.l (r := 66) rfl) (kh_ad 6 (by rfl) (by decide) hN h5) (kh_lt h5 (by decide)) ?_
  refine gw_gRa 66 (hg.c (r := 65) rfl) (hg.r (by decide)) ?_
  refine gw_sIw (11 + N) (hg.t (r := 66) rfl) (hg.l (r := 66) rfl) (kh_ad 11 (by rfl) (by decide) hN h5) (kh_lt h5 (by decide)) ?_
  refine gw_gRa 66 (hg.c (r := 65) rfl) (hg.r (by decide)) ?_
  refine gw_sIw (16 + N) (hg.t (r := 66) rfl) (hg.l (r := 66) rfl) (kh_ad 16 (by rfl) (by decide) hN h5) (kh_lt h5 (by decide)) ?_
  refine gw_gRa 66 (hg.c (r := 65) rfl) (hg.r (by decide)) ?_
  refine gw_sIw (21 + N) (hg.t (r := 66) rfl) (hg.l (r := 66) rfl) (kh_ad 21 (by rfl) (by decide) hN h5) (kh_lt h5 (by decide)) ?_
  have B1 : (kh_B μ N a b x17).1 = μ.1 := rfl
  have B2 : (kh_B μ N a b x17).2.2 = μ.2.2 := rfl
  have n43 : ((43 : Int32) + (4 : Int32) * n).toInt = ((43 + 4 * N : Nat) : Int) := kh_ad4 hN h5
  refine gw_loop (fun s => (0 ≤ s.1.toInt ∧ s.1.toInt ≤ 4) ∧ s.2.1 = μ.1 ∧ s.2.2.2 = μ.2.2 ∧ (∀ r : Nat, r ≠ 66 → s.2.2.1 r = μ.2.1 r) ∧ (∀ j : Nat, (j : Int) < s.1.toInt → s.2.2.1 66 (43 + 4 * N + j) = 0) ∧ ∀ i : Nat, ¬ (43 + 4 * N ≤ i ∧ i < 43 + 4 * N + 4) → s.2.2.1 66 i = (kh_B μ N a b x17).2.1 66 i) (fun s => 4 - s.1.toInt) (fun s ⟨g1, g2, g3, g4, g5, g7⟩ => ?_) 5000 ((0 : Int32), kh_B μ N a b x17) ⟨⟨by show 0 ≤ (0 : Int32).toInt; decide, by show (0 : Int32).toInt ≤ 4; decide⟩, B1, B2, fun r hr => kh_Bo hr, fun j hj => by have l0 : (0 : Int32).toInt = 0 := rfl; have : (j : Int) < (0 : Int32).toInt := hj; omega, fun _ _ => rfl⟩ (by show 4 - (0 : Int32).toInt < ((5000 : Nat) : Int); decide) (by show 0 ≤ 4 - (0 : Int32).toInt; decide)
  have hs : gS s.2 := hg.same g2 g3
  refine gw_le (fun q => ?_) (fun q => ?_)
  · have l4 : (4 : Int32).toInt = 4 := rfl
    refine gw_gRa 66 (hs.c (r := 65) rfl) (hs.r (by decide)) ?_
    refine gw_aIw 26 (hs.t (r := 66) rfl) (hs.l (r := 66) rfl) (by rfl) (by decide) ?_
    refine gw_sIw 26 (hs.t (r := 66) rfl) (hs.l (r := 66) rfl) (by rfl) (by decide) ?_
    refine gw_some (gs_inr (gq_I (Or.inr (Or.inr (Or.inr ⟨hb1, hb2, q5, rfl, ?_⟩)))))
    rw [eN]
    exact kh_end h5 s17 hn0 g2 g3 g4 (fun j hj => g5 j (by omega)) g7
  · have l4 : (4 : Int32).toInt = 4 := rfl
    have q4 : s.1.toInt < 4 := by omega
    have nx : (s.1 + (1 : Int32)).toInt = s.1.toInt + 1 := kh_i1 g1
    clear l4 q
    refine gw_gRa 66 (hs.c (r := 65) rfl) (hs.r (by decide)) ?_
    refine gw_sIw (43 + 4 * N + s.1.toInt.toNat) (hs.t (r := 66) rfl) (hs.l (r := 66) rfl) (kh_in 43 (by decide) n43 h5 g1) (by omega) ?_
    refine gw_some (gs_inl ⟨⟨by show 0 ≤ (s.1 + (1 : Int32)).toInt; omega, by show (s.1 + (1 : Int32)).toInt ≤ 4; omega⟩, g2, g3, fun r hr => (wI_o _ _ _ _ hr).trans (g4 r hr), fun j hj => ?_, fun i hi => ?_⟩ (by show 4 - (s.1 + (1 : Int32)).toInt < 4 - s.1.toInt; omega) (by show 0 ≤ 4 - (s.1 + (1 : Int32)).toInt; omega))
    · have hj : (j : Int) < (s.1 + (1 : Int32)).toInt := hj
      show (wI s.2 66 (43 + 4 * N + s.1.toInt.toNat) 0).2.1 66 (43 + 4 * N + j) = 0
      by_cases e : j = s.1.toInt.toNat
      · subst e; rw [wI_e]
      · rw [wI_n _ _ _ _ (by omega)]; exact g5 j (by omega)
    · show (wI s.2 66 (43 + 4 * N + s.1.toInt.toNat) 0).2.1 66 i = _
      rw [wI_n _ _ _ _ (by omega)]; exact g7 i hi
theorem m_child {μ : gm_M} (h : MI μ) {a b : Int32} : gwI (f_X12_child 65 a b μ) (fun y m => (m = μ ∧ y = -1 ∧ (a.toInt < 0 ∨ 6 < a.toInt)) ∨ (m = μ ∧ y = -2 ∧ (0 ≤ a.toInt ∧ a.toInt ≤ 6) ∧ (b.toInt < 0 ∨ 9 < b.toInt)) ∨ (m = μ ∧ y = -4 ∧ (0 ≤ a.toInt ∧ a.toInt ≤ 6) ∧ (0 ≤ b.toInt ∧ b.toInt ≤ 9) ∧ 5 ≤ (μ.2.1 66 26).toInt) ∨ ((0 ≤ a.toInt ∧ a.toInt ≤ 6) ∧ (0 ≤ b.toInt ∧ b.toInt ≤ 9) ∧ (μ.2.1 66 26).toInt < 5 ∧ y = μ.2.1 66 26 ∧ MB μ m (μ.2.1 66 26).toInt.toNat a b)) := by
  refine gwI_mono (k_child (S := fun _ => True) h (fun M hM _ => gwI_mono (s_X12_sweetNow hM) (fun _ _ z => ⟨z, trivial⟩))) (fun y m hy => ?_)
  rcases hy with hy | hy | hy | ⟨p1, p2, p3, p4, p5, -⟩
  · exact Or.inl hy
  · exact Or.inr (Or.inl hy)
  · exact Or.inr (Or.inr (Or.inl hy))
  · exact Or.inr (Or.inr (Or.inr ⟨p1, p2, p3, p4, p5⟩))
theorem p_child {μ : gm_M} (h : ALL μ) {a1 a2 : Int32} : gwI (f_X11_child 1 a1 a2 μ) (fun x m => gwI (f_X12_child 65 a1 a2 m) (fun y m2 => y = x ∧ ALL m2)) := by
  have hN := h.n26
  have E26 : μ.2.1 15 1 = μ.2.1 66 26 := h.2.2.2.1.1.2.1
  have b26 := h.1.n26
  refine gwI_mono (c_child h) (fun x m hx => ?_)
  rcases hx with ⟨rfl, hx, q⟩ | ⟨rfl, hx, q1, q2⟩ | ⟨rfl, hx, q1, q2, q3⟩ | ⟨q1, q2, q3, hx, hc⟩
  · refine gwI_mono (m_child h.1) (fun y m2 hy => ?_)
    rcases hy with ⟨rfl, hy, p⟩ | ⟨rfl, hy, p1, p2⟩ | ⟨rfl, hy, p1, p2, p3⟩ | ⟨p1, p2, p3, hy, hm⟩
    · exact ⟨hy.trans hx.symm, h⟩
    all_goals (exfalso; omega)
  · refine gwI_mono (m_child h.1) (fun y m2 hy => ?_)
    rcases hy with ⟨rfl, hy, p⟩ | ⟨rfl, hy, p1, p2⟩ | ⟨rfl, hy, p1, p2, p3⟩ | ⟨p1, p2, p3, hy, hm⟩
    · exfalso; omega
    · exact ⟨hy.trans hx.symm, h⟩
    all_goals (exfalso; omega)
  · refine gwI_mono (m_child h.1) (fun y m2 hy => ?_)
    rcases hy with ⟨rfl, hy, p⟩ | ⟨rfl, hy, p1, p2⟩ | ⟨rfl, hy, p1, p2, p3⟩ | ⟨p1, p2, p3, hy, hm⟩
    · exfalso; omega
    · exfalso; omega
    · exact ⟨hy.trans hx.symm, h⟩
    · exfalso; omega
  · have n5 := hc
    obtain ⟨c1, c2, c3, -⟩ := n5
    have isn : isch (29 + 2 * (μ.2.1 15 1).toInt.toNat) := by unfold isch; omega
    have r66 : m.2.1 66 = μ.2.1 66 := c3 66 (by omega) (by omega) (by omega)
    have hM : MI m := ⟨h.1.1.kd isn c1 c2, by rw [r66]; exact h.1.2⟩
    refine gwI_mono (m_child hM) (fun y m2 hy => ?_)
    rw [r66] at hy
    rcases hy with ⟨rfl, hy, p⟩ | ⟨rfl, hy, p1, p2⟩ | ⟨rfl, hy, p1, p2, p3⟩ | ⟨p1, p2, p3, hy, hm⟩
    · exfalso; omega
    · exfalso; omega
    · exfalso; omega
    · refine ⟨by rw [hy, hx, E26], A_child (n := (μ.2.1 15 1).toInt.toNat) h (by omega) (by omega) q1 hc ?_⟩
      rw [show (μ.2.1 15 1).toInt.toNat = (μ.2.1 66 26).toInt.toNat by omega]
      exact hm
end
section
def cps (i : Nat) (μ m : gm_M) : Prop := m.1 = μ.1 ∧ m.2.2 = μ.2.2 ∧ (∀ r : Nat, r ≠ 15 → ¬ isch r → m.2.1 r = μ.2.1 r) ∧ (∀ j : Nat, j ≠ 0 → m.2.1 15 j = μ.2.1 15 j) ∧ m.2.1 15 0 = itn i (μ.2.1 15 0) ∧ ∀ a : Nat, isch a → ∀ j : Nat, j < 3 → m.2.1 a j = μ.2.1 a j
theorem cps.refl (μ : gm_M) : cps 0 μ μ := ⟨rfl, rfl, fun _ _ _ => rfl, fun _ _ => rfl, rfl, fun _ _ _ _ => rfl⟩
theorem cps.ci {i : Nat} {μ m : gm_M} (g : cps i μ m) (hc : CI μ) : CI m := by
  obtain ⟨g1, g2, g3, g4, g5, g6⟩ := g
  refine hc.int g1 g2 (fun r hr => g3 r (by omega) (by unfold isch; omega)) ?_ ?_ ?_ ?_ ?_
  · rw [g4 1 (by decide), g4 4 (by decide), g4 5 (by decide)]; exact ⟨hc.n1, hc.n4, hc.n5⟩
  · rw [g3 23 (by decide) (by unfold isch; omega), g3 25 (by decide) (by unfold isch; omega), g3 27 (by decide) (by unfold isch; omega)]; exact ⟨hc.n23, hc.n25, hc.n27⟩
  · rw [g3 23 (by decide) (by unfold isch; omega), g3 25 (by decide) (by unfold isch; omega), g3 27 (by decide) (by unfold isch; omega)]; exact ⟨rfl, rfl, rfl⟩
  · rw [g3 24 (by decide) (by unfold isch; omega)]; exact hc.sm
  · rw [g3 3 (by decide) (by unfold isch; omega)]; exact ⟨hc.n3, rfl⟩
theorem cps.ch {i : Nat} {μ m m' : gm_M} {a : Nat} (g : cps i μ m) (ha : isch a) (c : chg a m m') : cps i μ m' := by
  obtain ⟨g1, g2, g3, g4, g5, g6⟩ := g
  obtain ⟨c1, c2, c3, c4⟩ := c
  have a15 : 15 ≠ a := by unfold isch at ha; omega
  refine ⟨c1.trans g1, c2.trans g2, fun r h1 h2 => (c3 r (fun e => h2 (by rw [e]; exact ha))).trans (g3 r h1 h2), fun j hj => by rw [c3 15 a15]; exact g4 j hj, by rw [c3 15 a15]; exact g5, fun b hb j hj => ?_⟩
  by_cases e : b = a
  · subst e; rw [c4 j hj]; exact g6 b hb j hj
  · rw [c3 b e]; exact g6 b hb j hj
theorem cps.mi {i : Nat} {μ m : gm_M} (g : cps i μ m) : cps (i + 1) μ (wI m 15 0 (m.2.1 15 0 + 1)) := by
  obtain ⟨g1, g2, g3, g4, g5, g6⟩ := g
  refine ⟨g1, g2, fun r h1 h2 => by rw [wI_o _ _ _ _ h1]; exact g3 r h1 h2, fun j hj => by rw [wI_n _ _ _ _ hj]; exact g4 j hj, by rw [wI_e, g5]; rfl, fun b hb j hj => by rw [wI_o _ _ _ _ (by unfold isch at hb; omega)]; exact g6 b hb j hj⟩
set_option maxHeartbeats 1000000 in
theorem c_pass {μ : gm_M} (h : CI μ) {a : Int32} : gwI (f_X11_pass 1 a μ) (fun x m => (m = μ ∧ x = -2 ∧ (a.toInt < 0 ∨ 60 < a.toInt)) ∨ (m = μ ∧ x = -3 ∧ (0 ≤ a.toInt ∧ a.toInt ≤ 60) ∧ 9999 < (μ.2.1 15 0 + a).toInt) ∨ ((0 ≤ a.toInt ∧ a.toInt ≤ 60) ∧ (μ.2.1 15 0 + a).toInt ≤ 9999 ∧ x = m.2.1 15 0 ∧ cps a.toInt.toNat μ m)) := by
  refine gwI_of ?_
  unfold f_X11_pass
  have l0 : (0 : Int32).toInt = 0 := rfl
  have l1 : (1 : Int32).toInt = 1 := rfl
  have l60 : (60 : Int32).toInt = 60 := rfl
  have l9 : (9999 : Int32).toInt = 9999 := rfl
  have hg := h.1
  refine gw_bI s_X11_isOutside (fun x2 m2 ⟨z2, f2⟩ => ?_)
  replace z2 := z2.symm
  subst z2
  refine gw_eq (fun g2 => ?_) (fun g2 => gw_some (gq_I (Or.inl ⟨rfl, rfl, by omega⟩)))
  refine gw_gRa 15 (hg.c (r := 1) rfl) (hg.r (by decide)) ?_
  refine gw_gIw (hg.c (r := 15) rfl) ?_
  refine gw_le (fun g4 => ?_) (fun g4 => gw_some (gq_I (Or.inr (Or.inl ⟨rfl, rfl, by omega, by omega⟩))))
  refine gw_loop (fun s => (0 ≤ s.1.toInt ∧ s.1.toInt ≤ a.toInt) ∧ cps s.1.toInt.toNat μ s.2) (fun s => 60 - s.1.toInt) (fun s ⟨q1, q2⟩ => ?_) 5000 ((0 : Int32), μ) ⟨⟨by show 0 ≤ (0 : Int32).toInt; omega, by show (0 : Int32).toInt ≤ a.toInt; omega⟩, cps.refl μ⟩ (by show 60 - (0 : Int32).toInt < ((5000 : Nat) : Int); omega) (by show 0 ≤ 60 - (0 : Int32).toInt; omega)
  have hs := (q2.ci h).1
  refine gw_le (fun g => ?_) (fun g => ?_)
  · refine gw_gRa 15 (hs.c (r := 1) rfl) (hs.r (by decide)) ?_
    refine gw_gIw (hs.c (r := 15) rfl) ?_
    refine gw_some (gs_inr (gq_I (Or.inr (Or.inr ⟨by omega, by omega, rfl, ?_⟩))))
    rw [show a.toInt.toNat = s.1.toInt.toNat by omega]
    exact q2
  · refine gw_loop (fun t => (0 ≤ t.1.toInt ∧ t.1.toInt ≤ 5) ∧ cps s.1.toInt.toNat μ t.2) (fun t => 5 - t.1.toInt) (fun t ⟨p1, p2⟩ => ?_) 5000 ((0 : Int32), s.2) ⟨⟨by show 0 ≤ (0 : Int32).toInt; omega, by show (0 : Int32).toInt ≤ 5; omega⟩, q2⟩ (by show 5 - (0 : Int32).toInt < ((5000 : Nat) : Int); omega) (by show 0 ≤ 5 - (0 : Int32).toInt; omega)
    have ht := p2.ci h
    have htg := ht.1
    have b1 := ht.n1
    refine gw_gRa 15 (htg.c (r := 1) rfl) (htg.r (by decide)) ?_
    refine gw_gIw (htg.c (r := 15) rfl) ?_
    refine gw_le (fun gg => ?_) (fun gg => ?_)
    · refine gw_gRa 15 (htg.c (r := 1) rfl) (htg.r (by decide)) ?_
      refine gw_gIw (htg.c (r := 15) rfl) ?_
      refine gw_pIw (htg.c (r := 15) rfl) ?_
      have n : (s.1 + (1 : Int32)).toInt = s.1.toInt + (1 : Int32).toInt := gx_add (by omega) (by omega)
      refine gw_some (gs_inr (gs_inl ⟨⟨by show 0 ≤ (s.1 + (1 : Int32)).toInt; omega, by show (s.1 + (1 : Int32)).toInt ≤ a.toInt; omega⟩, ?_⟩ (by show 60 - (s.1 + (1 : Int32)).toInt < 60 - s.1.toInt; omega) (by show 0 ≤ 60 - (s.1 + (1 : Int32)).toInt; omega)))
      show cps (s.1 + (1 : Int32)).toInt.toNat μ _
      rw [show (s.1 + (1 : Int32)).toInt.toNat = s.1.toInt.toNat + 1 by omega]
      exact p2.mi
    · refine gw_gRa 15 (htg.c (r := 1) rfl) (htg.r (by decide)) ?_
      refine gw_gRa 16 (htg.c (r := 15) rfl) (htg.r (by decide)) ?_
      refine gw_aR (i := t.1) (htg.t (r := 16) rfl) (htg.l (r := 16) rfl) (by omega) (by omega) (fun v ev => ?_)
      have cv : isch v := by rw [ev]; exact isch.of htg (by omega) (by omega)
      refine gw_gRa 15 (htg.c (r := 1) rfl) (htg.r (by decide)) ?_
      refine gw_gIw (htg.c (r := 15) rfl) ?_
      refine gw_if (isch.t htg cv) ?_
      refine gw_bV (s_X2_passMinute ht (Or.inl cv)) (fun m19 g19 => ?_)
      have n : (t.1 + (1 : Int32)).toInt = t.1.toInt + (1 : Int32).toInt := gx_add (by omega) (by omega)
      exact gw_some (gs_inl ⟨⟨by show 0 ≤ (t.1 + (1 : Int32)).toInt; omega, by show (t.1 + (1 : Int32)).toInt ≤ 5; omega⟩, p2.ch cv g19⟩ (by show 5 - (t.1 + (1 : Int32)).toInt < 5 - t.1.toInt; omega) (by show 0 ≤ 5 - (t.1 + (1 : Int32)).toInt; omega))
theorem m_pass {μ : gm_M} (h : MI μ) {a : Int32} : gwI (f_X12_pass 65 a μ) (fun y m => (m = μ ∧ y = -2 ∧ (a.toInt < 0 ∨ 60 < a.toInt)) ∨ (m = μ ∧ y = -3 ∧ (0 ≤ a.toInt ∧ a.toInt ≤ 60) ∧ 9999 < (μ.2.1 66 0 + a).toInt) ∨ ((0 ≤ a.toInt ∧ a.toInt ≤ 60) ∧ (μ.2.1 66 0 + a).toInt ≤ 9999 ∧ y = m.2.1 66 0 ∧ km A1 μ m ∧ m.2.1 66 0 = itn a.toInt.toNat (μ.2.1 66 0))) := by
  refine gwI_of ?_
  unfold f_X12_pass
  have l0 : (0 : Int32).toInt = 0 := rfl
  have l60 : (60 : Int32).toInt = 60 := rfl
  have l9 : (9999 : Int32).toInt = 9999 := rfl
  have hg := h.1
  refine gw_bI s_X12_in (fun x2 m2 ⟨z2, f2⟩ => ?_)
  replace z2 := z2.symm
  subst z2
  refine gw_ne (fun g2 => ?_) (fun g2 => gw_some (gq_I (Or.inl ⟨rfl, rfl, by omega⟩)))
  refine gw_gRa 66 (hg.c (r := 65) rfl) (hg.r (by decide)) ?_
  refine gw_aIw 0 (hg.t (r := 66) rfl) (hg.l (r := 66) rfl) (by omega) (by omega) ?_
  refine gw_le (fun g4 => ?_) (fun g4 => gw_some (gq_I (Or.inr (Or.inl ⟨rfl, rfl, by omega, by omega⟩))))
  refine gw_if (hg.t (r := 65) rfl) ?_
  refine gw_bV (s_X12_goesOn h (by omega)) (fun m5 ⟨k5, f5⟩ => ?_)
  have h5 := (h.of1 k5).1
  refine gw_gRa 66 (h5.c (r := 65) rfl) (h5.r (by decide)) ?_
  refine gw_aIw 0 (h5.t (r := 66) rfl) (h5.l (r := 66) rfl) (by omega) (by omega) ?_
  exact gw_some (gq_I (Or.inr (Or.inr ⟨by omega, by omega, rfl, k5, f5⟩)))
theorem A_pass {μ m1 m2 : gm_M} (h : ALL μ) {n : Nat} (c : cps n μ m1) (k : km A1 m1 m2) (k0 : m2.2.1 66 0 = itn n (m1.2.1 66 0)) : ALL m2 ∧ m2.2.1 66 0 = m1.2.1 15 0 := by
  have hc1 := c.ci h.2.2.1
  obtain ⟨c1, c2, c3, c4, c5, c6⟩ := c
  obtain ⟨g1, g2, g3, g4, g5, g6, g7⟩ := k
  have row : ∀ r : Nat, (r ≠ 65 ∧ r ≠ 66 ∧ r ≠ 69 ∧ r ≠ 70 ∧ r ≠ 71 ∧ r ≠ 72 ∧ r ≠ 73) → m2.2.1 r = m1.2.1 r := fun r q => g3 r q.1 q.2.1 q.2.2.1 q.2.2.2.1 q.2.2.2.2.1 q.2.2.2.2.2.1 q.2.2.2.2.2.2
  have ro : ∀ r : Nat, (r ≠ 65 ∧ r ≠ 66 ∧ r ≠ 69 ∧ r ≠ 70 ∧ r ≠ 71 ∧ r ≠ 72 ∧ r ≠ 73) → r ≠ 15 → ¬ isch r → m2.2.1 r = μ.2.1 r := fun r q q1 q2 => (row r q).trans (c3 r q1 q2)
  have r66 : m1.2.1 66 = μ.2.1 66 := c3 66 (by omega) (by unfold isch; omega)
  have r65 : m1.2.1 65 = μ.2.1 65 := c3 65 (by omega) (by unfold isch; omega)
  have o6 : ∀ i : Nat, 26 ≤ i → m2.2.1 66 i = μ.2.1 66 i := fun i hi => by rw [g4 i (by unfold A1; omega), r66]
  have E0 : μ.2.1 15 0 = μ.2.1 66 0 := h.2.2.2.1.1.1
  have M0 : m2.2.1 66 0 = m1.2.1 15 0 := by rw [k0, r66, c5, E0]
  refine ⟨?_, M0⟩
  have hc := h.2.2.1
  have hmi : mI (m2.2.1 66) := h.1.2.same (fun i hi => o6 i (by unfold mp at hi; omega))
  refine h.upd (g1.trans c1) (g2.trans c2) (fun r hr => ro r (by omega) (by omega) (by unfold isch; omega)) (by rw [g6, r65]) hmi ?_ ?_ ?_ ?_ ?_ ?_ ?_
  · rw [row 15 (by decide)]; exact ⟨hc1.n1, hc1.n4, hc1.n5⟩
  · rw [row 23 (by decide), row 25 (by decide), row 27 (by decide)]; exact ⟨hc1.n23, hc1.n25, hc1.n27⟩
  · rw [ro 23 (by decide) (by decide) (by unfold isch; omega), ro 25 (by decide) (by decide) (by unfold isch; omega), ro 27 (by decide) (by decide) (by unfold isch; omega)]; exact ⟨rfl, rfl, rfl⟩
  · rw [row 24 (by decide)]; exact hc1.sm
  · rw [ro 3 (by decide) (by decide) (by unfold isch; omega)]; exact ⟨hc.n3, rfl⟩
  · obtain ⟨p, pk⟩ := h.2.2.2.1
    refine ⟨?_, fun k hk => ?_⟩
    · rw [row 15 (by decide), c4 1 (by decide), ro (15 + 8) (by decide) (by decide) (by unfold isch; omega), ro (15 + 10) (by decide) (by decide) (by unfold isch; omega), ro (15 + 12) (by decide) (by decide) (by unfold isch; omega), o6 26 (by decide), o6 28 (by decide), o6 29 (by decide), o6 30 (by decide)]
      exact ⟨M0.symm, p.2⟩
    · obtain ⟨⟨a1, a2, a3⟩, a4⟩ := pk k hk
      have ik : isch (29 + 2 * k) := by unfold isch; omega
      refine ⟨⟨?_, ?_, ?_⟩, fun j hj => ?_⟩
      · rw [row _ (by omega), c6 _ ik 0 (by decide)]; exact a1
      · rw [g2, c2, o6 _ (by omega)]; exact a2
      · rw [row _ (by omega), c6 _ ik 2 (by decide), o6 _ (by omega)]; exact a3
      · rw [ro _ (by omega) (by omega) (by unfold isch; omega), o6 _ (by omega)]; exact a4 j hj
  · unfold LT
    rw [ro 3 (by decide) (by decide) (by unfold isch; omega), g7, r65, ro 4 (by decide) (by decide) (by unfold isch; omega), ro 74 (by decide) (by decide) (by unfold isch; omega)]
    exact h.2.2.2.2.2.2
theorem p_pass {μ : gm_M} (h : ALL μ) {a1 : Int32} : gwI (f_X11_pass 1 a1 μ) (fun x m => gwI (f_X12_pass 65 a1 m) (fun y m2 => y = x ∧ ALL m2)) := by
  have E0 : μ.2.1 15 0 = μ.2.1 66 0 := h.2.2.2.1.1.1
  refine gwI_mono (c_pass h.2.2.1) (fun x m hx => ?_)
  rcases hx with ⟨rfl, hx, q⟩ | ⟨rfl, hx, q1, q2⟩ | ⟨q1, q2, hx, hc⟩
  · refine gwI_mono (m_pass h.1) (fun y m2 hy => ?_)
    rcases hy with ⟨rfl, hy, p⟩ | ⟨rfl, hy, p1, p2⟩ | ⟨p1, p2, hy, hm, hm2⟩
    · exact ⟨hy.trans hx.symm, h⟩
    all_goals (exfalso; omega)
  · refine gwI_mono (m_pass h.1) (fun y m2 hy => ?_)
    rw [← E0] at hy
    rcases hy with ⟨rfl, hy, p⟩ | ⟨rfl, hy, p1, p2⟩ | ⟨p1, p2, hy, hm, hm2⟩
    · exfalso; omega
    · exact ⟨hy.trans hx.symm, h⟩
    · exfalso; omega
  · have r66 : m.2.1 66 = μ.2.1 66 := hc.2.2.1 66 (by omega) (by unfold isch; omega)
    have hM : MI m := ⟨(hc.ci h.2.2.1).1, by rw [r66]; exact h.1.2⟩
    refine gwI_mono (m_pass hM) (fun y m2 hy => ?_)
    rcases hy with ⟨rfl, hy, p⟩ | ⟨rfl, hy, p1, p2⟩ | ⟨p1, p2, hy, hm, hm2⟩
    · exfalso; omega
    · exfalso; rw [r66, ← E0] at p2; omega
    · have A := A_pass h hc hm hm2
      exact ⟨by rw [hy, hx, A.2], A.1⟩
end
section
/-! acts: what they answer, which bodies ran -/
def chS (k : Nat) (c x : Int32) : Int32 × List Int32 := if k = 1 ∨ k = 4 then (x * 3 + c, [11, 1]) else if k = 5 then ((x + c) ^^^ c, [51, 1]) else (x + c, [1])
def blS (k : Nat) (c v x : Int32) : Int32 × List Int32 := if k = 2 ∨ k = 5 then (-((chS k c x).1 - v), 21 :: 2 :: (chS k c x).2) else if k = 6 then ((chS k c x).1 - v + v, 61 :: 2 :: (chS k c x).2) else ((chS k c x).1 - v, 2 :: (chS k c x).2)
def teS (k : Nat) (c v x : Int32) : Int32 × List Int32 := if k = 3 ∨ k = 6 then (((blS k c v x).1 * 2) ^^^ 7, 31 :: 3 :: (blS k c v x).2) else if k = 4 then ((blS k c v (x - 1)).1 * 2 + (chS k c 2).1, 41 :: 3 :: (blS k c v (x - 1)).2 ++ (chS k c 2).2) else ((blS k c v x).1 * 2, 3 :: (blS k c v x).2)
theorem chS_len (k : Nat) (c x : Int32) : (chS k c x).2.length ≤ 2 := by
  unfold chS
  split
  · exact Nat.le_refl 2
  · split
    · exact Nat.le_refl 2
    · exact Nat.le_succ 1
theorem blS_len (k : Nat) (c v x : Int32) : (blS k c v x).2.length ≤ 4 := by
  have := chS_len k c x
  unfold blS
  split
  · simp only [List.length_cons]; omega
  · split
    · simp only [List.length_cons]; omega
    · simp only [List.length_cons]; omega
theorem teS_len (k : Nat) (c v x : Int32) : (teS k c v x).2.length ≤ 8 := by
  have := blS_len k c v x
  have := blS_len k c v (x - 1)
  have := chS_len k c 2
  unfold teS
  split
  · simp only [List.length_cons]; omega
  · split
    · simp only [List.length_cons, List.length_append]; omega
    · simp only [List.length_cons]; omega
def tk (μ : gm_M) (l : List Int32) (m : gm_M) : Prop := (m.1 = μ.1 ∧ m.2.2 = μ.2.2 ∧ (∀ r : Nat, r ≠ 3 → r ≠ 4 → m.2.1 r = μ.2.1 r) ∧ ∀ j : Nat, j ≠ 2 → m.2.1 3 j = μ.2.1 3 j) ∧ (m.2.1 3 2).toInt = l.length ∧ ∀ (i : Nat) (x : Int32), l[i]? = some x → m.2.1 4 (3 * i) = x
theorem tk.s {μ m : gm_M} {l : List Int32} (h : tk μ l m) (hS : gS μ) : gS m := hS.same h.1.1 h.1.2.1
theorem tk.add {μ m : gm_M} {l : List Int32} (h : tk μ l m) (hS : gS μ) (hL : (μ.2.1 3 0).toInt = 20) (hl : l.length ≤ 15) (b : Int32) {c d : Int32} : gwI (f_X7_add 3 b c d m) (fun _ m1 => tk μ (l ++ [b]) m1) := by
  have hs := h.s hS
  obtain ⟨⟨h1, h2, h3, h4⟩, h5, h6⟩ := h
  refine gwI_mono (s_add (r := 3) (n := 60) 20 (hs.t rfl) (hs.t rfl) (hs.l rfl) (hs.r (by decide)) (by rw [h4 0 (by decide)]; exact hL) (by omega) (by omega) (by decide)) (fun x m1 ⟨_, z⟩ => ?_)
  have e : m1 = ad m 3 b c d := by
    rcases z with ⟨-, q⟩ | ⟨q, -⟩
    · exact q
    · exfalso; omega
  subst e
  have hn : (m.2.1 3 2).toInt.toNat = l.length := by omega
  have l1 : (1 : Int32).toInt = 1 := rfl
  have n1 : (m.2.1 3 2 + 1).toInt = (m.2.1 3 2).toInt + (1 : Int32).toInt := gx_add (by omega) (by omega)
  refine ⟨⟨h1, h2, fun r r1 r2 => by rw [ad_o r1 r2]; exact h3 r r1 r2, fun j hj => ?_⟩, ?_, fun i x hx => ?_⟩
  · unfold ad
    rw [wI_n _ _ _ _ hj, wI_o _ _ _ _ (by decide), wI_o _ _ _ _ (by decide), wI_o _ _ _ _ (by decide)]
    exact h4 j hj
  · rw [ad_c, List.length_append]
    show (m.2.1 3 2 + 1).toInt = ((l.length + 1 : Nat) : Int)
    omega
  · unfold ad
    rw [wI_o _ _ _ _ (by decide), hn]
    by_cases e : i < l.length
    · rw [List.getElem?_append_left e] at hx
      rw [wI_n _ _ _ _ (by omega), wI_n _ _ _ _ (by omega), wI_n _ _ _ _ (by omega)]
      exact h6 i x hx
    · have hi : i = l.length := by
        have hlt := (List.getElem?_eq_some_iff.mp hx).1
        rw [List.length_append] at hlt
        have : [b].length = 1 := rfl
        omega
      subst hi
      rw [List.getElem?_append_right (Nat.le_refl _), Nat.sub_self] at hx
      have hb : b = x := Option.some.inj hx
      rw [wI_n _ _ _ _ (by omega), wI_n _ _ _ _ (by omega), wI_e]
      exact hb
section
variable {μ m : gm_M} {l : List Int32} {a : Nat}
theorem tk.f {j : Nat} (h : tk μ l m) (ha : isch a) : m.2.1 a j = μ.2.1 a j := by rw [h.1.2.2.1 a (by unfold isch at ha; omega) (by unfold isch at ha; omega)]
theorem t_X5_chews (h : tk μ l m) (hS : gS μ) (hL : (μ.2.1 3 0).toInt = 20) (hl : l.length ≤ 14) (ha : isch a) {r : Nat} {x : Int32} : gwI (f_X5_chews r 3 a x m) (fun y m1 => y = x + μ.2.1 a 0 ∧ tk μ (l ++ [1]) m1) := by
  refine gwI_of ?_
  unfold f_X5_chews
  refine gw_if ((h.s hS).t (r := 3) rfl) ?_
  refine gw_bI (h.add hS hL (by omega) 1) (fun _ m1 h1 => ?_)
  refine gw_gIw (ict.c (h1.s hS) (Or.inl ha)) ?_
  rw [h1.f ha]
  exact gw_some (gq_I ⟨rfl, h1⟩)
theorem t_X6_chews (h : tk μ l m) (hS : gS μ) (hL : (μ.2.1 3 0).toInt = 20) (hl : l.length ≤ 13) (ha : isch a) {r : Nat} (hr : r = 9 ∨ r = 12) {x : Int32} : gwI (f_X6_chews r 3 a x m) (fun y m1 => y = x * 3 + μ.2.1 a 0 ∧ tk μ (l ++ [11, 1]) m1) := by
  refine gwI_of ?_
  unfold f_X6_chews
  refine gw_if ((h.s hS).t (r := 3) rfl) ?_
  refine gw_bI (h.add hS hL (by omega) 11) (fun _ m1 h1 => ?_)
  refine gw_if (by rcases hr with rfl | rfl <;> rw [(h1.s hS).t rfl] <;> rfl) ?_
  refine gw_bI (t_X5_chews h1 hS hL (by rw [List.length_append]; show l.length + 1 ≤ 14; omega) ha) (fun y m2 ⟨e2, h2⟩ => ?_)
  rw [List.append_assoc] at h2
  exact gw_some (gq_I ⟨e2, h2⟩)
theorem t_X1_chews (h : tk μ l m) (hS : gS μ) (hL : (μ.2.1 3 0).toInt = 20) (hl : l.length ≤ 13) (ha : isch a) {x : Int32} : gwI (f_X1_chews 13 3 a x m) (fun y m1 => y = (x + μ.2.1 a 0) ^^^ μ.2.1 a 0 ∧ tk μ (l ++ [51, 1]) m1) := by
  refine gwI_of ?_
  unfold f_X1_chews
  refine gw_if ((h.s hS).t (r := 3) rfl) ?_
  refine gw_bI (h.add hS hL (by omega) 51) (fun _ m1 h1 => ?_)
  refine gw_if (by rw [(h1.s hS).t (r := 13) rfl]; rfl) ?_
  refine gw_bI (t_X5_chews h1 hS hL (by rw [List.length_append]; show l.length + 1 ≤ 14; omega) ha) (fun y m2 ⟨e2, h2⟩ => ?_)
  rw [List.append_assoc] at h2
  refine gw_gIw (ict.c (h2.s hS) (Or.inl ha)) ?_
  rw [h2.f ha]
  exact gw_some (gq_I ⟨by rw [e2], h2⟩)
theorem t_chews (h : tk μ l m) (hS : gS μ) (hL : (μ.2.1 3 0).toInt = 20) (hl : l.length ≤ 13) (ha : isch a) {k : Nat} (hk : k < 7) {x : Int32} : gwI (fv_chews (8 + k) 3 a x m) (fun y m1 => y = (chS k (μ.2.1 a 0) x).1 ∧ tk μ (l ++ (chS k (μ.2.1 a 0) x).2) m1) := by
  have hs := h.s hS
  obtain rfl | rfl | rfl | rfl | rfl | rfl | rfl : k = 0 ∨ k = 1 ∨ k = 2 ∨ k = 3 ∨ k = 4 ∨ k = 5 ∨ k = 6 := by omega
  · unfold fv_chews; rw [hs.t (r := 8 + 0) rfl, if_pos rfl]
    exact t_X5_chews h hS hL (by omega) ha
  · unfold fv_chews; rw [hs.t (r := 8 + 1) rfl, if_neg (by decide), if_pos rfl]
    exact t_X6_chews h hS hL hl ha (Or.inl rfl)
  · unfold fv_chews; rw [hs.t (r := 8 + 2) rfl, if_neg (by decide), if_neg (by decide), if_pos rfl]
    exact t_X5_chews h hS hL (by omega) ha
  · unfold fv_chews; rw [hs.t (r := 8 + 3) rfl, if_neg (by decide), if_neg (by decide), if_neg (by decide), if_pos rfl]
    exact t_X5_chews h hS hL (by omega) ha
  · unfold fv_chews; rw [hs.t (r := 8 + 4) rfl, if_neg (by decide), if_neg (by decide), if_neg (by decide), if_neg (by decide), if_pos rfl]
    exact t_X6_chews h hS hL hl ha (Or.inr rfl)
  · unfold fv_chews; rw [hs.t (r := 8 + 5) rfl, if_neg (by decide), if_neg (by decide), if_neg (by decide), if_neg (by decide), if_neg (by decide), if_pos rfl]
    exact t_X1_chews h hS hL hl ha
  · unfold fv_chews; rw [hs.t (r := 8 + 6) rfl, if_neg (by decide), if_neg (by decide), if_neg (by decide), if_neg (by decide), if_neg (by decide), if_neg (by decide), if_pos rfl]
    exact t_X5_chews h hS hL (by omega) ha
theorem t_X5_blows (h : tk μ l m) (hS : gS μ) (hL : (μ.2.1 3 0).toInt = 20) (hl : l.length ≤ 12) (ha : isch a) {k : Nat} (hk : k < 7) {x : Int32} : gwI (f_X5_blows (8 + k) 3 a x m) (fun y m1 => y = (chS k (μ.2.1 a 0) x).1 - μ.2.1 a 2 ∧ tk μ (l ++ 2 :: (chS k (μ.2.1 a 0) x).2) m1) := by
  refine gwI_of ?_
  unfold f_X5_blows
  refine gw_if ((h.s hS).t (r := 3) rfl) ?_
  refine gw_bI (h.add hS hL (by omega) 2) (fun _ m1 h1 => ?_)
  refine gw_bI (t_chews h1 hS hL (by rw [List.length_append]; show l.length + 1 ≤ 13; omega) ha hk) (fun y m2 ⟨e2, h2⟩ => ?_)
  rw [List.append_assoc] at h2
  refine gw_gIw (ict.c (h2.s hS) (Or.inl ha)) ?_
  rw [h2.f ha]
  exact gw_some (gq_I ⟨by rw [e2], h2⟩)
theorem t_X9_blows (h : tk μ l m) (hS : gS μ) (hL : (μ.2.1 3 0).toInt = 20) (hl : l.length ≤ 11) (ha : isch a) {k : Nat} (hk : k = 2 ∨ k = 5) {x : Int32} : gwI (f_X9_blows (8 + k) 3 a x m) (fun y m1 => y = -((chS k (μ.2.1 a 0) x).1 - μ.2.1 a 2) ∧ tk μ (l ++ 21 :: 2 :: (chS k (μ.2.1 a 0) x).2) m1) := by
  refine gwI_of ?_
  unfold f_X9_blows
  refine gw_if ((h.s hS).t (r := 3) rfl) ?_
  refine gw_bI (h.add hS hL (by omega) 21) (fun _ m1 h1 => ?_)
  refine gw_if (by rcases hk with rfl | rfl <;> rw [(h1.s hS).t rfl] <;> rfl) ?_
  refine gw_bI (t_X5_blows h1 hS hL (by rw [List.length_append]; show l.length + 1 ≤ 12; omega) ha (by omega)) (fun y m2 ⟨e2, h2⟩ => ?_)
  rw [List.append_assoc] at h2
  exact gw_some (gq_I ⟨by rw [e2], h2⟩)
theorem t_X10_blows (h : tk μ l m) (hS : gS μ) (hL : (μ.2.1 3 0).toInt = 20) (hl : l.length ≤ 11) (ha : isch a) {x : Int32} : gwI (f_X10_blows (8 + 6) 3 a x m) (fun y m1 => y = (chS 6 (μ.2.1 a 0) x).1 - μ.2.1 a 2 + μ.2.1 a 2 ∧ tk μ (l ++ 61 :: 2 :: (chS 6 (μ.2.1 a 0) x).2) m1) := by
  refine gwI_of ?_
  unfold f_X10_blows
  refine gw_if ((h.s hS).t (r := 3) rfl) ?_
  refine gw_bI (h.add hS hL (by omega) 61) (fun _ m1 h1 => ?_)
  refine gw_if (by rw [(h1.s hS).t (r := 8 + 6) rfl]; rfl) ?_
  refine gw_bI (t_X5_blows h1 hS hL (by rw [List.length_append]; show l.length + 1 ≤ 12; omega) ha (k := 6) (by omega)) (fun y m2 ⟨e2, h2⟩ => ?_)
  rw [List.append_assoc] at h2
  refine gw_gIw (ict.c (h2.s hS) (Or.inl ha)) ?_
  rw [h2.f ha]
  exact gw_some (gq_I ⟨by rw [e2], h2⟩)
theorem t_blows (h : tk μ l m) (hS : gS μ) (hL : (μ.2.1 3 0).toInt = 20) (hl : l.length ≤ 11) (ha : isch a) {k : Nat} (hk : k < 7) {x : Int32} : gwI (fv_blows (8 + k) 3 a x m) (fun y m1 => y = (blS k (μ.2.1 a 0) (μ.2.1 a 2) x).1 ∧ tk μ (l ++ (blS k (μ.2.1 a 0) (μ.2.1 a 2) x).2) m1) := by
  have hs := h.s hS
  obtain rfl | rfl | rfl | rfl | rfl | rfl | rfl : k = 0 ∨ k = 1 ∨ k = 2 ∨ k = 3 ∨ k = 4 ∨ k = 5 ∨ k = 6 := by omega
  · unfold fv_blows; rw [hs.t (r := 8 + 0) rfl, if_pos rfl]
    exact t_X5_blows h hS hL (by omega) ha hk
  · unfold fv_blows; rw [hs.t (r := 8 + 1) rfl, if_neg (by decide), if_pos rfl]
    exact t_X5_blows h hS hL (by omega) ha hk
  · unfold fv_blows; rw [hs.t (r := 8 + 2) rfl, if_neg (by decide), if_neg (by decide), if_pos rfl]
    exact t_X9_blows h hS hL hl ha (Or.inl rfl)
  · unfold fv_blows; rw [hs.t (r := 8 + 3) rfl, if_neg (by decide), if_neg (by decide), if_neg (by decide), if_pos rfl]
    exact t_X5_blows h hS hL (by omega) ha hk
  · unfold fv_blows; rw [hs.t (r := 8 + 4) rfl, if_neg (by decide), if_neg (by decide), if_neg (by decide), if_neg (by decide), if_pos rfl]
    exact t_X5_blows h hS hL (by omega) ha hk
  · unfold fv_blows; rw [hs.t (r := 8 + 5) rfl, if_neg (by decide), if_neg (by decide), if_neg (by decide), if_neg (by decide), if_neg (by decide), if_pos rfl]
    exact t_X9_blows h hS hL hl ha (Or.inr rfl)
  · unfold fv_blows; rw [hs.t (r := 8 + 6) rfl, if_neg (by decide), if_neg (by decide), if_neg (by decide), if_neg (by decide), if_neg (by decide), if_neg (by decide), if_pos rfl]
    exact t_X10_blows h hS hL hl ha
theorem t_X5_tells (h : tk μ l m) (hS : gS μ) (hL : (μ.2.1 3 0).toInt = 20) (hl : l.length ≤ 10) (ha : isch a) {k : Nat} (hk : k < 7) {x : Int32} : gwI (f_X5_tells (8 + k) 3 a x m) (fun y m1 => y = (blS k (μ.2.1 a 0) (μ.2.1 a 2) x).1 * 2 ∧ tk μ (l ++ 3 :: (blS k (μ.2.1 a 0) (μ.2.1 a 2) x).2) m1) := by
  refine gwI_of ?_
  unfold f_X5_tells
  refine gw_if ((h.s hS).t (r := 3) rfl) ?_
  refine gw_bI (h.add hS hL (by omega) 3) (fun _ m1 h1 => ?_)
  refine gw_bI (t_blows h1 hS hL (by rw [List.length_append]; show l.length + 1 ≤ 11; omega) ha hk) (fun y m2 ⟨e2, h2⟩ => ?_)
  rw [List.append_assoc] at h2
  exact gw_some (gq_I ⟨by rw [e2], h2⟩)
theorem t_X3_tells (h : tk μ l m) (hS : gS μ) (hL : (μ.2.1 3 0).toInt = 20) (hl : l.length ≤ 9) (ha : isch a) {k : Nat} (hk : k = 3 ∨ k = 6) {x : Int32} : gwI (f_X3_tells (8 + k) 3 a x m) (fun y m1 => y = ((blS k (μ.2.1 a 0) (μ.2.1 a 2) x).1 * 2) ^^^ 7 ∧ tk μ (l ++ 31 :: 3 :: (blS k (μ.2.1 a 0) (μ.2.1 a 2) x).2) m1) := by
  refine gwI_of ?_
  unfold f_X3_tells
  refine gw_if ((h.s hS).t (r := 3) rfl) ?_
  refine gw_bI (h.add hS hL (by omega) 31) (fun _ m1 h1 => ?_)
  refine gw_if (by rcases hk with rfl | rfl <;> rw [(h1.s hS).t rfl] <;> rfl) ?_
  refine gw_bI (t_X5_tells h1 hS hL (by rw [List.length_append]; show l.length + 1 ≤ 10; omega) ha (by omega)) (fun y m2 ⟨e2, h2⟩ => ?_)
  rw [List.append_assoc] at h2
  exact gw_some (gq_I ⟨by rw [e2], h2⟩)
theorem t_X4_tells (h : tk μ l m) (hS : gS μ) (hL : (μ.2.1 3 0).toInt = 20) (hl : l.length ≤ 6) (ha : isch a) {x : Int32} : gwI (f_X4_tells (8 + 4) 3 a x m) (fun y m1 => y = (blS 4 (μ.2.1 a 0) (μ.2.1 a 2) (x - 1)).1 * 2 + (chS 4 (μ.2.1 a 0) 2).1 ∧ tk μ (l ++ (41 :: 3 :: (blS 4 (μ.2.1 a 0) (μ.2.1 a 2) (x - 1)).2 ++ (chS 4 (μ.2.1 a 0) 2).2)) m1) := by
  refine gwI_of ?_
  unfold f_X4_tells
  have b := blS_len 4 (μ.2.1 a 0) (μ.2.1 a 2) (x - 1)
  refine gw_if ((h.s hS).t (r := 3) rfl) ?_
  refine gw_bI (h.add hS hL (by omega) 41) (fun _ m1 h1 => ?_)
  refine gw_if (by rw [(h1.s hS).t (r := 8 + 4) rfl]; rfl) ?_
  refine gw_bI (t_X5_tells h1 hS hL (by rw [List.length_append]; show l.length + 1 ≤ 10; omega) ha (k := 4) (by omega)) (fun y m2 ⟨e2, h2⟩ => ?_)
  rw [List.append_assoc] at h2
  refine gw_if ((h2.s hS).t (r := 8 + 4) rfl) ?_
  refine gw_bI (t_X6_chews h2 hS hL (by simp only [List.length_append, List.length_cons, List.length_nil]; omega) ha (Or.inr rfl)) (fun y3 m3 ⟨e3, h3⟩ => ?_)
  rw [List.append_assoc] at h3
  exact gw_some (gq_I ⟨by rw [e2, e3]; rfl, h3⟩)
theorem t_tells (h : tk μ l m) (hS : gS μ) (hL : (μ.2.1 3 0).toInt = 20) (hl : l.length ≤ 6) (ha : isch a) {k : Nat} (hk : k < 7) {x : Int32} : gwI (fv_tells (8 + k) 3 a x m) (fun y m1 => y = (teS k (μ.2.1 a 0) (μ.2.1 a 2) x).1 ∧ tk μ (l ++ (teS k (μ.2.1 a 0) (μ.2.1 a 2) x).2) m1) := by
  have hs := h.s hS
  obtain rfl | rfl | rfl | rfl | rfl | rfl | rfl : k = 0 ∨ k = 1 ∨ k = 2 ∨ k = 3 ∨ k = 4 ∨ k = 5 ∨ k = 6 := by omega
  · unfold fv_tells; rw [hs.t (r := 8 + 0) rfl, if_pos rfl]
    exact t_X5_tells h hS hL (by omega) ha hk
  · unfold fv_tells; rw [hs.t (r := 8 + 1) rfl, if_neg (by decide), if_pos rfl]
    exact t_X5_tells h hS hL (by omega) ha hk
  · unfold fv_tells; rw [hs.t (r := 8 + 2) rfl, if_neg (by decide), if_neg (by decide), if_pos rfl]
    exact t_X5_tells h hS hL (by omega) ha hk
  · unfold fv_tells; rw [hs.t (r := 8 + 3) rfl, if_neg (by decide), if_neg (by decide), if_neg (by decide), if_pos rfl]
    exact t_X3_tells h hS hL (by omega) ha (Or.inl rfl)
  · unfold fv_tells; rw [hs.t (r := 8 + 4) rfl, if_neg (by decide), if_neg (by decide), if_neg (by decide), if_neg (by decide), if_pos rfl]
    exact t_X4_tells h hS hL hl ha
  · unfold fv_tells; rw [hs.t (r := 8 + 5) rfl, if_neg (by decide), if_neg (by decide), if_neg (by decide), if_neg (by decide), if_neg (by decide), if_pos rfl]
    exact t_X5_tells h hS hL (by omega) ha hk
  · unfold fv_tells; rw [hs.t (r := 8 + 6) rfl, if_neg (by decide), if_neg (by decide), if_neg (by decide), if_neg (by decide), if_neg (by decide), if_neg (by decide), if_pos rfl]
    exact t_X3_tells h hS hL (by omega) ha (Or.inr rfl)
end
end
section
def tm (μ : gm_M) (l : List Int32) (m : gm_M) : Prop := (m.1 = μ.1 ∧ m.2.2 = μ.2.2 ∧ (∀ r : Nat, r ≠ 65 → r ≠ 74 → m.2.1 r = μ.2.1 r) ∧ ∀ j : Nat, j ≠ 19 → m.2.1 65 j = μ.2.1 65 j) ∧ (m.2.1 65 19).toInt = l.length ∧ ∀ (i : Nat) (x : Int32), l[i]? = some x → m.2.1 74 i = x
theorem tm.s {μ m : gm_M} {l : List Int32} (h : tm μ l m) (hS : gS μ) : gS m := hS.same h.1.1 h.1.2.1
theorem tm.add {μ m : gm_M} {l : List Int32} (h : tm μ l m) (hS : gS μ) (hl : l.length ≤ 15) (b : Int32) : gwV (f_X12_ranBody 65 b m) (fun m1 => tm μ (l ++ [b]) m1) := by
  have hs := h.s hS
  obtain ⟨⟨h1, h2, h3, h4⟩, h5, h6⟩ := h
  have l1 : (1 : Int32).toInt = 1 := rfl
  have l20 : (20 : Int32).toInt = 20 := rfl
  have n1 : (m.2.1 65 19 + 1).toInt = (m.2.1 65 19).toInt + (1 : Int32).toInt := gx_add (by omega) (by omega)
  refine gwV_of ?_
  unfold f_X12_ranBody
  refine gw_gIw (hs.c (r := 65) rfl) ?_
  refine gw_ji ?_
  refine gw_le (fun g => ?_) (fun g => ?_)
  · exfalso; omega
  · refine gw_gRa 74 (hs.c (r := 65) rfl) (hs.r (by decide)) ?_
    refine gw_gIw (hs.c (r := 65) rfl) ?_
    refine gw_sIw l.length (hs.t (r := 74) rfl) (hs.l (r := 74) rfl) h5 (by omega) ?_
    refine gw_gIw (hs.c (r := 65) rfl) ?_
    refine gw_pIw (hs.c (r := 65) rfl) ?_
    rw [wI_o _ _ _ _ (by decide)]
    refine gw_some (gq_V ⟨⟨h1, h2, fun r r1 r2 => by rw [wI_o _ _ _ _ r1, wI_o _ _ _ _ r2]; exact h3 r r1 r2, fun j hj => by rw [wI_n _ _ _ _ hj, wI_o _ _ _ _ (by decide)]; exact h4 j hj⟩, ?_, fun i x hx => ?_⟩)
    · rw [wI_e, List.length_append]
      show (m.2.1 65 19 + 1).toInt = ((l.length + 1 : Nat) : Int)
      omega
    · rw [wI_o _ _ _ _ (by decide)]
      by_cases e : i < l.length
      · rw [List.getElem?_append_left e] at hx
        rw [wI_n _ _ _ _ (by omega)]
        exact h6 i x hx
      · have hi : i = l.length := by
          have hlt := (List.getElem?_eq_some_iff.mp hx).1
          rw [List.length_append] at hlt
          have : [b].length = 1 := rfl
          omega
        subst hi
        rw [List.getElem?_append_right (Nat.le_refl _), Nat.sub_self] at hx
        have hb : b = x := Option.some.inj hx
        rw [wI_e]
        exact hb
theorem s_under {μ : gm_M} {a b : Int32} : gwI (f_X12_isUnder a b μ) (fun x m => m = μ ∧ ((x.toInt = 1 ∧ (b.toInt = 0 ∨ b.toInt = a.toInt ∨ (0 < b.toInt ∧ b.toInt < 4 ∧ a.toInt = b.toInt + 3))) ∨ (x.toInt = 0 ∧ ¬ (b.toInt = 0 ∨ b.toInt = a.toInt ∨ (0 < b.toInt ∧ b.toInt < 4 ∧ a.toInt = b.toInt + 3))))) := by
  refine gwI_of ?_
  unfold f_X12_isUnder
  have l0 : (0 : Int32).toInt = 0 := rfl
  have l1 : (1 : Int32).toInt = 1 := rfl
  have l3 : (3 : Int32).toInt = 3 := rfl
  have l4 : (4 : Int32).toInt = 4 := rfl
  refine gw_ji ?_
  refine gw_eq (fun g1 => ?_) (fun g1 => ?_)
  · exact gw_z Iff.rfl (by omega) (gq_I ⟨rfl, by omega⟩)
  · refine gw_eq (fun g2 => ?_) (fun g2 => ?_)
    · exact gw_z Iff.rfl (by omega) (gq_I ⟨rfl, by omega⟩)
    · refine gw_le (fun g3 => ?_) (fun g3 => ?_)
      · exact gw_z Iff.rfl (by omega) (gq_I ⟨rfl, by omega⟩)
      · refine gw_le (fun g4 => ?_) (fun g4 => ?_)
        · exact gw_z Iff.rfl (by omega) (gq_I ⟨rfl, by omega⟩)
        · have n : (b + (3 : Int32)).toInt = b.toInt + (3 : Int32).toInt := gx_add (by omega) (by omega)
          refine gw_ne (fun g5 => ?_) (fun g5 => ?_)
          · exact gw_z Iff.rfl (by omega) (gq_I ⟨rfl, by omega⟩)
          · exact gw_z Iff.rfl (by omega) (gq_I ⟨rfl, by omega⟩)
section
variable {μ m : gm_M} {l : List Int32} {k : Nat}
theorem u_plainChews (h : tm μ l m) (hS : gS μ) (hl : l.length ≤ 14) {x : Int32} : gwI (f_X12_plainChews 65 x m) (fun y m1 => y = x + μ.2.1 65 21 ∧ tm μ (l ++ [1]) m1) := by
  refine gwI_of ?_
  unfold f_X12_plainChews
  refine gw_if ((h.s hS).t (r := 65) rfl) ?_
  refine gw_bV (h.add hS (by omega) 1) (fun m1 h1 => ?_)
  refine gw_gIw ((h1.s hS).c (r := 65) rfl) ?_
  rw [h1.1.2.2.2 21 (by decide)]
  exact gw_some (gq_I ⟨rfl, h1⟩)
theorem u_chews (h : tm μ l m) (hS : gS μ) (hk : (μ.2.1 65 20).toInt = k) (hk7 : k < 7) (hl : l.length ≤ 13) {x : Int32} : gwI (f_X12_chewsActs 65 x m) (fun y m1 => y = (chS k (μ.2.1 65 21) x).1 ∧ tm μ (l ++ (chS k (μ.2.1 65 21) x).2) m1) := by
  refine gwI_of ?_
  unfold f_X12_chewsActs
  have l0 : (0 : Int32).toInt = 0 := rfl
  have l1 : (1 : Int32).toInt = 1 := rfl
  have l5 : (5 : Int32).toInt = 5 := rfl
  have hs := h.s hS
  refine gw_gIw (hs.c (r := 65) rfl) ?_
  have e20 : (m.2.1 65 20).toInt = k := by rw [h.1.2.2.2 20 (by decide)]; exact hk
  refine gw_bI s_under (fun x3 m3 ⟨z3, f3⟩ => ?_)
  replace z3 := z3.symm
  subst z3
  refine gw_eq (fun g => ?_) (fun g => ?_)
  · refine gw_gIw (hs.c (r := 65) rfl) ?_
    refine gw_ne (fun g5 => ?_) (fun g5 => ?_)
    · refine gw_if (hs.t (r := 65) rfl) ?_
      refine gw_bI (u_plainChews h hS (by omega)) (fun y m1 ⟨e1, h1⟩ => ?_)
      have c : chS k (μ.2.1 65 21) x = (x + μ.2.1 65 21, [1]) := by unfold chS; rw [if_neg (by omega), if_neg (by omega)]
      rw [c]
      exact gw_some (gq_I ⟨e1, h1⟩)
    · refine gw_if (hs.t (r := 65) rfl) ?_
      refine gw_bV (h.add hS (by omega) 51) (fun m1 h1 => ?_)
      refine gw_if ((h1.s hS).t (r := 65) rfl) ?_
      refine gw_bI (u_plainChews h1 hS (by rw [List.length_append]; show l.length + 1 ≤ 14; omega)) (fun y m2 ⟨e2, h2⟩ => ?_)
      rw [List.append_assoc] at h2
      refine gw_gIw ((h2.s hS).c (r := 65) rfl) ?_
      rw [h2.1.2.2.2 21 (by decide)]
      have c : chS k (μ.2.1 65 21) x = ((x + μ.2.1 65 21) ^^^ μ.2.1 65 21, [51, 1]) := by unfold chS; rw [if_neg (by omega), if_pos (by omega)]
      rw [c]
      exact gw_some (gq_I ⟨by rw [e2], h2⟩)
  · refine gw_if (hs.t (r := 65) rfl) ?_
    refine gw_bV (h.add hS (by omega) 11) (fun m1 h1 => ?_)
    refine gw_if ((h1.s hS).t (r := 65) rfl) ?_
    refine gw_bI (u_plainChews h1 hS (by rw [List.length_append]; show l.length + 1 ≤ 14; omega)) (fun y m2 ⟨e2, h2⟩ => ?_)
    rw [List.append_assoc] at h2
    have c : chS k (μ.2.1 65 21) x = (x * 3 + μ.2.1 65 21, [11, 1]) := by unfold chS; rw [if_pos (by omega)]
    rw [c]
    exact gw_some (gq_I ⟨e2, h2⟩)
theorem u_plainBlows (h : tm μ l m) (hS : gS μ) (hk : (μ.2.1 65 20).toInt = k) (hk7 : k < 7) (hl : l.length ≤ 12) {x : Int32} : gwI (f_X12_plainBlows 65 x m) (fun y m1 => y = (chS k (μ.2.1 65 21) x).1 - μ.2.1 65 22 ∧ tm μ (l ++ 2 :: (chS k (μ.2.1 65 21) x).2) m1) := by
  refine gwI_of ?_
  unfold f_X12_plainBlows
  refine gw_if ((h.s hS).t (r := 65) rfl) ?_
  refine gw_bV (h.add hS (by omega) 2) (fun m1 h1 => ?_)
  refine gw_if ((h1.s hS).t (r := 65) rfl) ?_
  refine gw_bI (u_chews h1 hS hk hk7 (by rw [List.length_append]; show l.length + 1 ≤ 13; omega)) (fun y m2 ⟨e2, h2⟩ => ?_)
  rw [List.append_assoc] at h2
  refine gw_gIw ((h2.s hS).c (r := 65) rfl) ?_
  rw [h2.1.2.2.2 22 (by decide)]
  exact gw_some (gq_I ⟨by rw [e2], h2⟩)
theorem u_blows (h : tm μ l m) (hS : gS μ) (hk : (μ.2.1 65 20).toInt = k) (hk7 : k < 7) (hl : l.length ≤ 11) {x : Int32} : gwI (f_X12_blowsActs 65 x m) (fun y m1 => y = (blS k (μ.2.1 65 21) (μ.2.1 65 22) x).1 ∧ tm μ (l ++ (blS k (μ.2.1 65 21) (μ.2.1 65 22) x).2) m1) := by
  refine gwI_of ?_
  unfold f_X12_blowsActs
  have l0 : (0 : Int32).toInt = 0 := rfl
  have l2 : (2 : Int32).toInt = 2 := rfl
  have l6 : (6 : Int32).toInt = 6 := rfl
  have hs := h.s hS
  refine gw_gIw (hs.c (r := 65) rfl) ?_
  have e20 : (m.2.1 65 20).toInt = k := by rw [h.1.2.2.2 20 (by decide)]; exact hk
  refine gw_bI s_under (fun x3 m3 ⟨z3, f3⟩ => ?_)
  replace z3 := z3.symm
  subst z3
  refine gw_eq (fun g => ?_) (fun g => ?_)
  · refine gw_gIw (hs.c (r := 65) rfl) ?_
    refine gw_ne (fun g5 => ?_) (fun g5 => ?_)
    · refine gw_if (hs.t (r := 65) rfl) ?_
      refine gw_bI (u_plainBlows h hS hk hk7 (by omega)) (fun y m1 ⟨e1, h1⟩ => ?_)
      have c : blS k (μ.2.1 65 21) (μ.2.1 65 22) x = ((chS k (μ.2.1 65 21) x).1 - μ.2.1 65 22, 2 :: (chS k (μ.2.1 65 21) x).2) := by unfold blS; rw [if_neg (by omega), if_neg (by omega)]
      rw [c]
      exact gw_some (gq_I ⟨e1, h1⟩)
    · refine gw_if (hs.t (r := 65) rfl) ?_
      refine gw_bV (h.add hS (by omega) 61) (fun m1 h1 => ?_)
      refine gw_if ((h1.s hS).t (r := 65) rfl) ?_
      refine gw_bI (u_plainBlows h1 hS hk hk7 (by rw [List.length_append]; show l.length + 1 ≤ 12; omega)) (fun y m2 ⟨e2, h2⟩ => ?_)
      rw [List.append_assoc] at h2
      refine gw_gIw ((h2.s hS).c (r := 65) rfl) ?_
      rw [h2.1.2.2.2 22 (by decide)]
      have c : blS k (μ.2.1 65 21) (μ.2.1 65 22) x = ((chS k (μ.2.1 65 21) x).1 - μ.2.1 65 22 + μ.2.1 65 22, 61 :: 2 :: (chS k (μ.2.1 65 21) x).2) := by unfold blS; rw [if_neg (by omega), if_pos (by omega)]
      rw [c]
      exact gw_some (gq_I ⟨by rw [e2], h2⟩)
  · refine gw_if (hs.t (r := 65) rfl) ?_
    refine gw_bV (h.add hS (by omega) 21) (fun m1 h1 => ?_)
    refine gw_if ((h1.s hS).t (r := 65) rfl) ?_
    refine gw_bI (u_plainBlows h1 hS hk hk7 (by rw [List.length_append]; show l.length + 1 ≤ 12; omega)) (fun y m2 ⟨e2, h2⟩ => ?_)
    rw [List.append_assoc] at h2
    have c : blS k (μ.2.1 65 21) (μ.2.1 65 22) x = (-((chS k (μ.2.1 65 21) x).1 - μ.2.1 65 22), 21 :: 2 :: (chS k (μ.2.1 65 21) x).2) := by unfold blS; rw [if_pos (by omega)]
    rw [c]
    exact gw_some (gq_I ⟨by rw [e2], h2⟩)
theorem u_plainTelling (h : tm μ l m) (hS : gS μ) (hk : (μ.2.1 65 20).toInt = k) (hk7 : k < 7) (hl : l.length ≤ 10) {x : Int32} : gwI (f_X12_plainTelling 65 x m) (fun y m1 => y = (blS k (μ.2.1 65 21) (μ.2.1 65 22) x).1 * 2 ∧ tm μ (l ++ 3 :: (blS k (μ.2.1 65 21) (μ.2.1 65 22) x).2) m1) := by
  refine gwI_of ?_
  unfold f_X12_plainTelling
  refine gw_if ((h.s hS).t (r := 65) rfl) ?_
  refine gw_bV (h.add hS (by omega) 3) (fun m1 h1 => ?_)
  refine gw_if ((h1.s hS).t (r := 65) rfl) ?_
  refine gw_bI (u_blows h1 hS hk hk7 (by rw [List.length_append]; show l.length + 1 ≤ 11; omega)) (fun y m2 ⟨e2, h2⟩ => ?_)
  rw [List.append_assoc] at h2
  exact gw_some (gq_I ⟨by rw [e2], h2⟩)
theorem u_tells (h : tm μ l m) (hS : gS μ) (hk : (μ.2.1 65 20).toInt = k) (hk7 : k < 7) (hl : l.length ≤ 6) {x : Int32} : gwI (f_X12_tellsActs 65 x m) (fun y m1 => y = (teS k (μ.2.1 65 21) (μ.2.1 65 22) x).1 ∧ tm μ (l ++ (teS k (μ.2.1 65 21) (μ.2.1 65 22) x).2) m1) := by
  refine gwI_of ?_
  unfold f_X12_tellsActs
  have l0 : (0 : Int32).toInt = 0 := rfl
  have l3 : (3 : Int32).toInt = 3 := rfl
  have l4 : (4 : Int32).toInt = 4 := rfl
  have hs := h.s hS
  refine gw_gIw (hs.c (r := 65) rfl) ?_
  have e20 : (m.2.1 65 20).toInt = k := by rw [h.1.2.2.2 20 (by decide)]; exact hk
  refine gw_bI s_under (fun x3 m3 ⟨z3, f3⟩ => ?_)
  replace z3 := z3.symm
  subst z3
  refine gw_eq (fun g => ?_) (fun g => ?_)
  · refine gw_gIw (hs.c (r := 65) rfl) ?_
    refine gw_ne (fun g5 => ?_) (fun g5 => ?_)
    · refine gw_if (hs.t (r := 65) rfl) ?_
      refine gw_bI (u_plainTelling h hS hk hk7 (by omega)) (fun y m1 ⟨e1, h1⟩ => ?_)
      have c : teS k (μ.2.1 65 21) (μ.2.1 65 22) x = ((blS k (μ.2.1 65 21) (μ.2.1 65 22) x).1 * 2, 3 :: (blS k (μ.2.1 65 21) (μ.2.1 65 22) x).2) := by unfold teS; rw [if_neg (by omega), if_neg (by omega)]
      rw [c]
      exact gw_some (gq_I ⟨e1, h1⟩)
    · refine gw_if (hs.t (r := 65) rfl) ?_
      refine gw_bV (h.add hS (by omega) 41) (fun m1 h1 => ?_)
      refine gw_if ((h1.s hS).t (r := 65) rfl) ?_
      have b := blS_len k (μ.2.1 65 21) (μ.2.1 65 22) (x - 1)
      refine gw_bI (u_plainTelling h1 hS hk hk7 (by rw [List.length_append]; show l.length + 1 ≤ 10; omega)) (fun y m2 ⟨e2, h2⟩ => ?_)
      rw [List.append_assoc] at h2
      refine gw_if ((h2.s hS).t (r := 65) rfl) ?_
      refine gw_bI (u_chews h2 hS hk hk7 (by simp only [List.length_append, List.length_cons, List.length_nil]; omega)) (fun y3 m3 ⟨e3, h3⟩ => ?_)
      rw [List.append_assoc] at h3
      have c : teS k (μ.2.1 65 21) (μ.2.1 65 22) x = ((blS k (μ.2.1 65 21) (μ.2.1 65 22) (x - 1)).1 * 2 + (chS k (μ.2.1 65 21) 2).1, 41 :: 3 :: (blS k (μ.2.1 65 21) (μ.2.1 65 22) (x - 1)).2 ++ (chS k (μ.2.1 65 21) 2).2) := by unfold teS; rw [if_neg (by omega), if_pos (by omega)]
      rw [c]
      exact gw_some (gq_I ⟨by rw [e2, e3], h3⟩)
  · refine gw_if (hs.t (r := 65) rfl) ?_
    refine gw_bV (h.add hS (by omega) 31) (fun m1 h1 => ?_)
    refine gw_if ((h1.s hS).t (r := 65) rfl) ?_
    refine gw_bI (u_plainTelling h1 hS hk hk7 (by rw [List.length_append]; show l.length + 1 ≤ 10; omega)) (fun y m2 ⟨e2, h2⟩ => ?_)
    rw [List.append_assoc] at h2
    have c : teS k (μ.2.1 65 21) (μ.2.1 65 22) x = (((blS k (μ.2.1 65 21) (μ.2.1 65 22) x).1 * 2) ^^^ 7, 31 :: 3 :: (blS k (μ.2.1 65 21) (μ.2.1 65 22) x).2) := by unfold teS; rw [if_pos (by omega)]
    rw [c]
    exact gw_some (gq_I ⟨by rw [e2], h2⟩)
end
end
section
def inR (c n : Int32) : Prop := 0 ≤ c.toInt ∧ c.toInt < n.toInt
theorem gx_of {c : Int32} (h : 0 ≤ c.toInt) : Int32.ofNat c.toInt.toNat = c := by
  apply Int32.toInt_inj.mp
  have h2 := gx_hi c
  rw [Int32.toInt_ofNat_of_lt (by omega)]
  omega
/-- what an act answers, and the bodies that ran -/
def acS (a : Int32) (k : Nat) (c v x : Int32) : Int32 × List Int32 := if a.toInt = 0 then chS k c x else if a.toInt = 1 then blS k c v x else if a.toInt = 2 then teS k c v x else (0, [])
theorem c_act {μ : gm_M} (h : ALL μ) {c a x : Int32} : gwI (f_X11_act 1 c a x μ) (fun y m => (¬ inR c (μ.2.1 15 1) ∧ y = 0 ∧ tk μ [] m) ∨ (inR c (μ.2.1 15 1) ∧ y = (acS a (μ.2.1 66 (33 + c.toInt.toNat)).toInt.toNat c (μ.2.1 66 (38 + c.toInt.toNat)) x).1 ∧ tk μ (acS a (μ.2.1 66 (33 + c.toInt.toNat)).toInt.toNat c (μ.2.1 66 (38 + c.toInt.toNat)) x).2 m)) := by
  refine gwI_of ?_
  unfold f_X11_act
  have l0 : (0 : Int32).toInt = 0 := rfl
  have l1 : (1 : Int32).toInt = 1 := rfl
  have l2 : (2 : Int32).toInt = 2 := rfl
  have hc := h.2.2.1
  have hg := hc.1
  have hL := hc.l3
  refine gw_gRa 3 (hg.c (r := 1) rfl) (hg.r (by decide)) ?_
  refine gw_if (hg.t (r := 3) rfl) ?_
  refine gw_bI (s_clear (r := 3) (hg.t rfl)) (fun x3 m2 ⟨_, e2⟩ => ?_)
  have T : tk μ [] m2 := by
    rw [e2]
    exact ⟨⟨rfl, rfl, fun r r1 _ => wI_o _ _ _ _ r1, fun j hj => wI_n _ _ _ _ hj⟩, by rw [wI_e]; rfl, fun i z hz => by cases hz⟩
  have hs := T.s hg
  have hci : CI m2 := by
    rw [e2]
    refine hc.int rfl rfl (fun r hr => wI_o _ _ _ _ (by omega)) ?_ ?_ ?_ ?_ ?_
    · rw [wI_o _ _ _ _ (by decide)]; exact ⟨hc.n1, hc.n4, hc.n5⟩
    · rw [wI_o _ _ _ _ (by decide), wI_o _ _ _ _ (by decide), wI_o _ _ _ _ (by decide)]; exact ⟨hc.n23, hc.n25, hc.n27⟩
    · rw [wI_o _ _ _ _ (by decide), wI_o _ _ _ _ (by decide), wI_o _ _ _ _ (by decide)]; exact ⟨rfl, rfl, rfl⟩
    · rw [wI_o _ _ _ _ (by decide)]; exact hc.sm
    · rw [wI_e, wI_n _ _ _ _ (by decide)]; exact ⟨by decide, rfl⟩
  have e15 : m2.2.1 15 = μ.2.1 15 := T.1.2.2.1 15 (by decide) (by decide)
  refine gw_if (hs.t (r := 1) rfl) ?_
  refine gw_bI (s_X11_isNobody hci) (fun x5 m4 ⟨z5, f5⟩ => ?_)
  replace z5 := z5.symm
  subst z5
  rw [e15] at f5
  refine gw_eq (fun g => ?_) (fun g => ?_)
  · have hc0 : 0 ≤ c.toInt ∧ c.toInt < 5 := by omega
    have hin : inR c (μ.2.1 15 1) := by unfold inR; omega
    refine gw_gRa 15 (hs.c (r := 1) rfl) (hs.r (by decide)) ?_
    refine gw_gRa 16 (hs.c (r := 15) rfl) (hs.r (by decide)) ?_
    refine gw_aR (i := c) (hs.t (r := 16) rfl) (hs.l (r := 16) rfl) (by omega) (by omega) (fun v ev => ?_)
    have hv : v = 29 + 2 * c.toInt.toNat := by rw [ev]; exact isch.at hs (by omega)
    have iv : isch v := by rw [hv]; unfold isch; omega
    have kd := h.kd c.toInt.toNat (by omega)
    have kk := hc.kd (a := v) (Or.inl iv)
    rw [hv] at kk
    unfold kid at kk
    have k7 : (μ.2.1 66 (33 + c.toInt.toNat)).toInt.toNat < 7 := by omega
    have kr : m2.2.2 v 1 = 8 + (μ.2.1 66 (33 + c.toInt.toNat)).toInt.toNat := by rw [T.1.2.1, hv]; omega
    have n0 : μ.2.1 v 0 = c := by rw [hv, h.no _ (by omega)]; exact gx_of hc0.1
    have n2 : μ.2.1 v 2 = μ.2.1 66 (38 + c.toInt.toNat) := by rw [hv]; exact h.vv _ (by omega)
    refine gw_eq (fun ga => ?_) (fun ga => ?_)
    · refine gw_gRa _ (ict.c hs (Or.inl iv)) kr ?_
      refine gw_gRa 3 (hs.c (r := 1) rfl) (hs.r (by decide)) ?_
      refine gw_bI (t_chews T hg hL (Nat.zero_le _) iv k7) (fun y m1 ⟨e1, h1⟩ => ?_)
      rw [n0] at e1 h1
      have q : acS a (μ.2.1 66 (33 + c.toInt.toNat)).toInt.toNat c (μ.2.1 66 (38 + c.toInt.toNat)) x = chS (μ.2.1 66 (33 + c.toInt.toNat)).toInt.toNat c x := by unfold acS; rw [if_pos (by omega)]
      rw [q]
      exact gw_some (gq_I (Or.inr ⟨hin, e1, h1⟩))
    · refine gw_eq (fun gb => ?_) (fun gb => ?_)
      · refine gw_gRa _ (ict.c hs (Or.inl iv)) kr ?_
        refine gw_gRa 3 (hs.c (r := 1) rfl) (hs.r (by decide)) ?_
        refine gw_bI (t_blows T hg hL (Nat.zero_le _) iv k7) (fun y m1 ⟨e1, h1⟩ => ?_)
        rw [n0, n2] at e1 h1
        have q : acS a (μ.2.1 66 (33 + c.toInt.toNat)).toInt.toNat c (μ.2.1 66 (38 + c.toInt.toNat)) x = blS (μ.2.1 66 (33 + c.toInt.toNat)).toInt.toNat c (μ.2.1 66 (38 + c.toInt.toNat)) x := by unfold acS; rw [if_neg (by omega), if_pos (by omega)]
        rw [q]
        exact gw_some (gq_I (Or.inr ⟨hin, e1, h1⟩))
      · refine gw_eq (fun gc => ?_) (fun gc => ?_)
        · refine gw_gRa _ (ict.c hs (Or.inl iv)) kr ?_
          refine gw_gRa 3 (hs.c (r := 1) rfl) (hs.r (by decide)) ?_
          refine gw_bI (t_tells T hg hL (Nat.zero_le _) iv k7) (fun y m1 ⟨e1, h1⟩ => ?_)
          rw [n0, n2] at e1 h1
          have q : acS a (μ.2.1 66 (33 + c.toInt.toNat)).toInt.toNat c (μ.2.1 66 (38 + c.toInt.toNat)) x = teS (μ.2.1 66 (33 + c.toInt.toNat)).toInt.toNat c (μ.2.1 66 (38 + c.toInt.toNat)) x := by unfold acS; rw [if_neg (by omega), if_neg (by omega), if_pos (by omega)]
          rw [q]
          exact gw_some (gq_I (Or.inr ⟨hin, e1, h1⟩))
        · have q : acS a (μ.2.1 66 (33 + c.toInt.toNat)).toInt.toNat c (μ.2.1 66 (38 + c.toInt.toNat)) x = (0, []) := by unfold acS; rw [if_neg (by omega), if_neg (by omega), if_neg (by omega)]
          rw [q]
          exact gw_some (gq_I (Or.inr ⟨hin, rfl, T⟩))
  · exact gw_some (gq_I (Or.inl ⟨by unfold inR; omega, rfl, T⟩))
def ft (μ : gm_M) (l : List Int32) (m : gm_M) : Prop := (m.1 = μ.1 ∧ m.2.2 = μ.2.2 ∧ (∀ r : Nat, r ≠ 65 → r ≠ 74 → m.2.1 r = μ.2.1 r) ∧ m.2.1 65 0 = μ.2.1 65 0 ∧ m.2.1 65 4 = μ.2.1 65 4) ∧ (m.2.1 65 19).toInt = l.length ∧ ∀ (i : Nat) (x : Int32), l[i]? = some x → m.2.1 74 i = x
theorem m_act {μ : gm_M} (h : MI μ) {c a x : Int32} (hk : ∀ i : Nat, i < 5 → 0 ≤ (μ.2.1 66 (33 + i)).toInt ∧ (μ.2.1 66 (33 + i)).toInt < 7) : gwI (f_X12_act 65 c a x μ) (fun y m => (¬ inR c (μ.2.1 66 26) ∧ y = 0 ∧ ft μ [] m) ∨ (inR c (μ.2.1 66 26) ∧ y = (acS a (μ.2.1 66 (33 + c.toInt.toNat)).toInt.toNat c (μ.2.1 66 (38 + c.toInt.toNat)) x).1 ∧ ft μ (acS a (μ.2.1 66 (33 + c.toInt.toNat)).toInt.toNat c (μ.2.1 66 (38 + c.toInt.toNat)) x).2 m)) := by
  refine gwI_of ?_
  unfold f_X12_act
  have l0 : (0 : Int32).toInt = 0 := rfl
  have l1 : (1 : Int32).toInt = 1 := rfl
  have l2 : (2 : Int32).toInt = 2 := rfl
  have l33 : (33 : Int32).toInt = 33 := rfl
  have l38 : (38 : Int32).toInt = 38 := rfl
  have hg := h.1
  refine gw_pIw (hg.c (r := 65) rfl) ?_
  have F0 : ft μ [] (wI μ 65 19 0) := ⟨⟨rfl, rfl, fun r r1 _ => wI_o _ _ _ _ r1, wI_n _ _ _ _ (by decide), wI_n _ _ _ _ (by decide)⟩, by rw [wI_e]; rfl, fun i z hz => by cases hz⟩
  have h1 : MI (wI μ 65 19 0) := ⟨hg, by rw [wI_o _ _ _ _ (by decide)]; exact h.2⟩
  refine gw_if (hg.t (r := 65) rfl) ?_
  refine gw_bI (s_X12_isChild h1) (fun x3 m2 ⟨z3, f3⟩ => ?_)
  replace z3 := z3.symm
  subst z3
  rw [wI_o _ _ _ _ (by decide)] at f3
  refine gw_eq (fun g => gw_some (gq_I (Or.inl ⟨by unfold inR; omega, rfl, F0⟩))) (fun g => ?_)
  have hin : inR c (μ.2.1 66 26) := by unfold inR; omega
  refine gw_bI s_X12_in (fun x5 m4 ⟨z5, f5⟩ => ?_)
  replace z5 := z5.symm
  subst z5
  refine gw_ne (fun g2 => ?_) (fun g2 => ?_)
  · have n33 : ((33 : Int32) + c).toInt = (33 : Int32).toInt + c.toInt := gx_add (by omega) (by omega)
    have n38 : ((38 : Int32) + c).toInt = (38 : Int32).toInt + c.toInt := gx_add (by omega) (by omega)
    refine gw_gRa 66 (hg.c (r := 65) rfl) (hg.r (by decide)) ?_
    refine gw_aIw (33 + c.toInt.toNat) (hg.t (r := 66) rfl) (hg.l (r := 66) rfl) (by omega) (by omega) ?_
    refine gw_pIw (hg.c (r := 65) rfl) ?_
    refine gw_pIw (hg.c (r := 65) rfl) ?_
    refine gw_gRa 66 (hg.c (r := 65) rfl) (hg.r (by decide)) ?_
    refine gw_aIw (38 + c.toInt.toNat) (hg.t (r := 66) rfl) (hg.l (r := 66) rfl) (by omega) (by omega) ?_
    refine gw_pIw (hg.c (r := 65) rfl) ?_
    simp only [wI_o _ _ _ _ (show (66 : Nat) ≠ 65 by decide)]
    generalize hK : μ.2.1 66 (33 + c.toInt.toNat) = K
    generalize hV : μ.2.1 66 (38 + c.toInt.toNat) = V
    generalize hB : wI (wI (wI (wI μ 65 19 0) 65 20 K) 65 21 c) 65 22 V = B
    have T : tm B [] B := ⟨⟨rfl, rfl, fun _ _ _ => rfl, fun _ _ => rfl⟩, by rw [← hB, wI_n _ _ _ _ (by decide), wI_n _ _ _ _ (by decide), wI_n _ _ _ _ (by decide), wI_e]; rfl, fun i z hz => by cases hz⟩
    have B20 : B.2.1 65 20 = K := by rw [← hB, wI_n _ _ _ _ (by decide), wI_n _ _ _ _ (by decide), wI_e]
    have B21 : B.2.1 65 21 = c := by rw [← hB, wI_n _ _ _ _ (by decide), wI_e]
    have B22 : B.2.1 65 22 = V := by rw [← hB, wI_e]
    have hS : gS B := by rw [← hB]; exact hg
    have F : ∀ (l : List Int32) (m : gm_M), tm B l m → ft μ l m := fun l m hm => by
      obtain ⟨⟨b1, b2, b3, b4⟩, b5, b6⟩ := hm
      refine ⟨⟨b1.trans (by rw [← hB]; rfl), b2.trans (by rw [← hB]; rfl), fun r r1 r2 => by rw [b3 r r1 r2, ← hB, wI_o _ _ _ _ r1, wI_o _ _ _ _ r1, wI_o _ _ _ _ r1, wI_o _ _ _ _ r1], ?_, ?_⟩, b5, b6⟩
      · rw [b4 0 (by decide), ← hB, wI_n _ _ _ _ (by decide), wI_n _ _ _ _ (by decide), wI_n _ _ _ _ (by decide), wI_n _ _ _ _ (by decide)]
      · rw [b4 4 (by decide), ← hB, wI_n _ _ _ _ (by decide), wI_n _ _ _ _ (by decide), wI_n _ _ _ _ (by decide), wI_n _ _ _ _ (by decide)]
    have hk0 := hk c.toInt.toNat (by omega)
    rw [hK] at hk0
    have hkk : (B.2.1 65 20).toInt = (K.toInt.toNat : Int) := by rw [B20]; omega
    clear hB
    refine gw_ne (fun ga => ?_) (fun ga => ?_)
    · refine gw_ne (fun gb => ?_) (fun gb => ?_)
      · refine gw_if (hS.t (r := 65) rfl) ?_
        refine gw_bI (u_tells T hS hkk (by omega) (Nat.zero_le _)) (fun y m1 ⟨e1, t1⟩ => ?_)
        rw [B21, B22] at e1 t1
        have q : acS a K.toInt.toNat c V x = teS K.toInt.toNat c V x := by unfold acS; rw [if_neg (by omega), if_neg (by omega), if_pos (by omega)]
        rw [q]
        exact gw_some (gq_I (Or.inr ⟨hin, e1, F _ _ t1⟩))
      · refine gw_if (hS.t (r := 65) rfl) ?_
        refine gw_bI (u_blows T hS hkk (by omega) (Nat.zero_le _)) (fun y m1 ⟨e1, t1⟩ => ?_)
        rw [B21, B22] at e1 t1
        have q : acS a K.toInt.toNat c V x = blS K.toInt.toNat c V x := by unfold acS; rw [if_neg (by omega), if_pos (by omega)]
        rw [q]
        exact gw_some (gq_I (Or.inr ⟨hin, e1, F _ _ t1⟩))
    · refine gw_if (hS.t (r := 65) rfl) ?_
      refine gw_bI (u_chews T hS hkk (by omega) (Nat.zero_le _)) (fun y m1 ⟨e1, t1⟩ => ?_)
      rw [B21] at e1 t1
      have q : acS a K.toInt.toNat c V x = chS K.toInt.toNat c x := by unfold acS; rw [if_pos (by omega)]
      rw [q]
      exact gw_some (gq_I (Or.inr ⟨hin, e1, F _ _ t1⟩))
  · have q : acS a (μ.2.1 66 (33 + c.toInt.toNat)).toInt.toNat c (μ.2.1 66 (38 + c.toInt.toNat)) x = (0, []) := by unfold acS; rw [if_neg (by omega), if_neg (by omega), if_neg (by omega)]
    rw [q]
    exact gw_some (gq_I (Or.inr ⟨hin, rfl, F0⟩))
theorem A_act {μ m1 m2 : gm_M} (h : ALL μ) {l : List Int32} (hl : l.length ≤ 20) (t : tk μ l m1) (f : ft m1 l m2) : ALL m2 := by
  obtain ⟨⟨t1, t2, t3, t4⟩, t5, t6⟩ := t
  obtain ⟨⟨f1, f2, f3, f4, f4b⟩, f5, f6⟩ := f
  have ro : ∀ r : Nat, r ≠ 3 → r ≠ 4 → r ≠ 65 → r ≠ 74 → m2.2.1 r = μ.2.1 r := fun r r1 r2 r3 r4 => by rw [f3 r r3 r4, t3 r r1 r2]
  have hc := h.2.2.1
  have e3 : m2.2.1 3 = m1.2.1 3 := f3 3 (by decide) (by decide)
  refine h.upd (f1.trans t1) (f2.trans t2) (fun r hr => ro r (by omega) (by omega) (by omega) (by omega)) (by rw [f4b, t3 65 (by decide) (by decide)]) (by rw [ro 66 (by decide) (by decide) (by decide) (by decide)]; exact h.1.2) ?_ ?_ ?_ ?_ ?_ ?_ ?_
  · rw [ro 15 (by decide) (by decide) (by decide) (by decide)]; exact ⟨hc.n1, hc.n4, hc.n5⟩
  · rw [ro 23 (by decide) (by decide) (by decide) (by decide), ro 25 (by decide) (by decide) (by decide) (by decide), ro 27 (by decide) (by decide) (by decide) (by decide)]; exact ⟨hc.n23, hc.n25, hc.n27⟩
  · rw [ro 23 (by decide) (by decide) (by decide) (by decide), ro 25 (by decide) (by decide) (by decide) (by decide), ro 27 (by decide) (by decide) (by decide) (by decide)]; exact ⟨rfl, rfl, rfl⟩
  · rw [ro 24 (by decide) (by decide) (by decide) (by decide)]; exact hc.sm
  · rw [e3, t4 0 (by decide)]; exact ⟨by omega, rfl⟩
  · exact h.2.2.2.1.fr (by rw [ro 15 (by decide) (by decide) (by decide) (by decide)]) (by rw [ro 15 (by decide) (by decide) (by decide) (by decide)]) ⟨by rw [ro (15 + 8) (by decide) (by decide) (by decide) (by decide)], by rw [ro (15 + 10) (by decide) (by decide) (by decide) (by decide)], by rw [ro (15 + 12) (by decide) (by decide) (by decide) (by decide)]⟩ (fun k hk => ⟨by rw [ro _ (by omega) (by omega) (by omega) (by omega)], by rw [ro _ (by omega) (by omega) (by omega) (by omega)], by rw [f2, t2], fun j _ => by rw [ro _ (by omega) (by omega) (by omega) (by omega)]⟩) (fun i _ => by rw [ro 66 (by decide) (by decide) (by decide) (by decide)])
  · refine ⟨Int32.toInt_inj.mp (by rw [e3, t5, f5]), fun i hi hi2 => ?_⟩
    rw [e3, t5] at hi2
    have hlt : i < l.length := by omega
    rw [f3 4 (by decide) (by decide), t6 i _ (List.getElem?_eq_getElem hlt), f6 i _ (List.getElem?_eq_getElem hlt)]
theorem acS_len (a : Int32) (k : Nat) (c v x : Int32) : (acS a k c v x).2.length ≤ 20 := by
  unfold acS
  have b1 := chS_len k c x
  have b2 := blS_len k c v x
  have b3 := teS_len k c v x
  split
  · omega
  · split
    · omega
    · split
      · omega
      · exact Nat.zero_le _
theorem p_act {μ : gm_M} (h : ALL μ) {a1 a2 a3 : Int32} : gwI (f_X11_act 1 a1 a2 a3 μ) (fun x m => gwI (f_X12_act 65 a1 a2 a3 m) (fun y m2 => y = x ∧ ALL m2)) := by
  have E26 : μ.2.1 15 1 = μ.2.1 66 26 := h.2.2.2.1.1.2.1
  have hk : ∀ i : Nat, i < 5 → 0 ≤ (μ.2.1 66 (33 + i)).toInt ∧ (μ.2.1 66 (33 + i)).toInt < 7 := fun i hi => by
    have kd := h.kd i hi
    have kk := h.2.2.1.kd (a := 29 + 2 * i) (Or.inl (by unfold isch; omega))
    unfold kid at kk
    omega
  refine gwI_mono (c_act h) (fun x m hx => ?_)
  have H : ∀ l, tk μ l m → MI m ∧ m.2.1 66 = μ.2.1 66 := fun l t => by
    have r66 : m.2.1 66 = μ.2.1 66 := t.1.2.2.1 66 (by decide) (by decide)
    exact ⟨⟨t.s h.1.1, by rw [r66]; exact h.1.2⟩, r66⟩
  rcases hx with ⟨hi, hx, t⟩ | ⟨hi, hx, t⟩
  · obtain ⟨hM, r66⟩ := H _ t
    refine gwI_mono (m_act hM (by rw [r66]; exact hk)) (fun y m2 hy => ?_)
    rw [r66, ← E26] at hy
    rcases hy with ⟨gi, hy, f⟩ | ⟨gi, hy, f⟩
    · exact ⟨hy.trans hx.symm, A_act h (Nat.zero_le _) t f⟩
    · exact absurd gi hi
  · obtain ⟨hM, r66⟩ := H _ t
    refine gwI_mono (m_act hM (by rw [r66]; exact hk)) (fun y m2 hy => ?_)
    rw [r66, ← E26] at hy
    rcases hy with ⟨gi, hy, f⟩ | ⟨gi, hy, f⟩
    · exact absurd hi gi
    · exact ⟨hy.trans hx.symm, A_act h (acS_len _ _ _ _ _) t f⟩
end
section
theorem s_kept {μ : gm_M} (hS : gS μ) (h0 : 0 ≤ (μ.2.1 3 2).toInt) (hL : (μ.2.1 3 0).toInt = 20) {i : Int32} : gwI (f_X7_isKept 3 i μ) (fun x m => m = μ ∧ ((x.toInt = 1 ∧ 0 ≤ i.toInt ∧ i.toInt < (μ.2.1 3 2).toInt ∧ i.toInt < 20) ∨ (x.toInt = 0 ∧ ¬ (0 ≤ i.toInt ∧ i.toInt < (μ.2.1 3 2).toInt ∧ i.toInt < 20)))) := by
  refine gwI_of ?_
  unfold f_X7_isKept
  have l0 : (0 : Int32).toInt = 0 := rfl
  have l1 : (1 : Int32).toInt = 1 := rfl
  refine gw_lt (fun g => gw_z Iff.rfl (by omega) (gq_I ⟨rfl, by omega⟩)) (fun g => ?_)
  refine gw_gIw (hS.c (r := 3) rfl) ?_
  refine gw_le (fun g => gw_z Iff.rfl (by omega) (gq_I ⟨rfl, by omega⟩)) (fun g => ?_)
  refine gw_gIw (hS.c (r := 3) rfl) ?_
  refine gw_le (fun g => gw_z Iff.rfl (by omega) (gq_I ⟨rfl, by omega⟩)) (fun g => ?_)
  exact gw_z Iff.rfl (by omega) (gq_I ⟨rfl, by omega⟩)
theorem p_trace {μ : gm_M} (h : ALL μ) {a1 : Int32} : gwI (f_X11_trace 1 a1 μ) (fun x m => gwI (f_X12_trace 65 a1 m) (fun y m2 => y = x ∧ ALL m2)) := by
  have hc := h.2.2.1
  have hg := hc.1
  have n3 := hc.n3
  have l3 := hc.l3
  obtain ⟨t1, t2⟩ := h.2.2.2.2.2.2
  have l0 : (0 : Int32).toInt = 0 := rfl
  have l1 : (1 : Int32).toInt = 1 := rfl
  have lk : (3 : Int32).toInt = 3 := rfl
  have l20 : (20 : Int32).toInt = 20 := rfl
  have M : (0 ≤ a1.toInt ∧ a1.toInt < (μ.2.1 3 2).toInt ∧ a1.toInt < 20 → gwI (f_X12_trace 65 a1 μ) (fun y m2 => y = μ.2.1 74 a1.toInt.toNat ∧ ALL m2)) ∧ (¬ (0 ≤ a1.toInt ∧ a1.toInt < (μ.2.1 3 2).toInt ∧ a1.toInt < 20) → gwI (f_X12_trace 65 a1 μ) (fun y m2 => y = -1 ∧ ALL m2)) := by
    rw [t1] at n3 ⊢
    have body : ∀ (R : Int32 → gm_M → Prop), (0 ≤ a1.toInt ∧ a1.toInt < (μ.2.1 65 19).toInt ∧ a1.toInt < 20 → R (μ.2.1 74 a1.toInt.toNat) μ) → (¬ (0 ≤ a1.toInt ∧ a1.toInt < (μ.2.1 65 19).toInt ∧ a1.toInt < 20) → R (-1) μ) → gwI (f_X12_trace 65 a1 μ) R := by
      intro R r1 r2
      refine gwI_of ?_
      unfold f_X12_trace
      refine gw_gIw (hg.c (r := 65) rfl) ?_
      refine gw_j (fun s => (s.toInt = 20 ∧ 20 ≤ (μ.2.1 65 19).toInt) ∨ (s.toInt = (μ.2.1 65 19).toInt ∧ (μ.2.1 65 19).toInt < 20)) (fun s hs => ?_) (fun j hj => ?_)
      · have n : (s - (1 : Int32)).toInt = s.toInt - (1 : Int32).toInt := gx_sub (by omega) (by omega)
        refine gw_bI s_X12_in (fun x m ⟨z, f⟩ => ?_)
        replace z := z.symm
        subst z
        refine gw_eq (fun g => gw_some (gq_I (r2 (by omega)))) (fun g => ?_)
        refine gw_gRa 74 (hg.c (r := 65) rfl) (hg.r (by decide)) ?_
        refine gw_aIw a1.toInt.toNat (hg.t (r := 74) rfl) (hg.l (r := 74) rfl) (by omega) (by omega) ?_
        exact gw_some (gq_I (r1 (by omega)))
      · refine gw_le (fun g => hj _ (Or.inl ⟨l20, by omega⟩)) (fun g => ?_)
        refine gw_gIw (hg.c (r := 65) rfl) ?_
        exact hj _ (Or.inr ⟨rfl, by omega⟩)
    exact ⟨fun q => body _ (fun _ => ⟨rfl, h⟩) (fun q2 => absurd q q2), fun q => body _ (fun q2 => absurd q2 q) (fun _ => ⟨rfl, h⟩)⟩
  refine gwI_of ?_
  unfold f_X11_trace
  refine gw_gRa 3 (hg.c (r := 1) rfl) (hg.r (by decide)) ?_
  refine gw_if (hg.t (r := 3) rfl) ?_
  refine gw_bI (s_kept hg n3.1 l3) (fun x m ⟨z, f⟩ => ?_)
  replace z := z.symm
  subst z
  refine gw_eq (fun g => gw_some (gq_I (M.2 (by omega)))) (fun g => ?_)
  refine gw_gRa 3 (hg.c (r := 1) rfl) (hg.r (by decide)) ?_
  refine gw_if (hg.t (r := 3) rfl) ?_
  have hin : 0 ≤ a1.toInt ∧ a1.toInt < (μ.2.1 3 2).toInt ∧ a1.toInt < 20 := by omega
  have C : gwI (f_X7_cell 3 a1 0 μ) (fun x m => m = μ ∧ x = μ.2.1 4 (3 * a1.toInt.toNat)) := by
    refine gwI_of ?_
    unfold f_X7_cell
    refine gw_if (hg.t (r := 3) rfl) ?_
    refine gw_bI (s_kept hg n3.1 l3) (fun x m ⟨z, f2⟩ => ?_)
    replace z := z.symm
    subst z
    refine gw_eq (fun g => ?_) (fun g => ?_)
    · exfalso; omega
    refine gw_lt (fun g => ?_) (fun g => ?_)
    · exfalso; omega
    refine gw_lt (fun g => ?_) (fun g => ?_)
    · refine gw_gRa 4 (hg.c (r := 3) rfl) (hg.r (by decide)) ?_
      have n1 : (a1 * (3 : Int32)).toInt = 3 * a1.toInt := gx_mulr 3 rfl (by omega) (by omega)
      have n2 : (a1 * (3 : Int32) + (0 : Int32)).toInt = (a1 * (3 : Int32)).toInt + (0 : Int32).toInt := gx_add (by omega) (by omega)
      refine gw_aIw (3 * a1.toInt.toNat) (hg.t (r := 4) rfl) (hg.l (r := 4) rfl) (by omega) (by omega) ?_
      exact gw_some (gq_I ⟨rfl, rfl⟩)
    · exfalso; omega
  refine gw_bI C (fun x6 m5 ⟨z, e⟩ => ?_)
  replace z := z.symm
  subst z
  refine gw_some (gq_I ?_)
  rw [e, t2 a1.toInt.toNat (by omega) (by omega)]
  exact M.1 hin
/-- who is under which kind -/
theorem s_und {μ : gm_M} (hS : gS μ) {k : Nat} (hk : k < 7) {b : Int32} (hb : 0 ≤ b.toInt ∧ b.toInt ≤ 6) : gwI (f_X11_isUnder (8 + k) b μ) (fun x m => m = μ ∧ ((x.toInt = 1 ∧ (b.toInt = 0 ∨ b.toInt = k ∨ (0 < b.toInt ∧ b.toInt < 4 ∧ (k : Int) = b.toInt + 3))) ∨ (x.toInt = 0 ∧ ¬ (b.toInt = 0 ∨ b.toInt = k ∨ (0 < b.toInt ∧ b.toInt < 4 ∧ (k : Int) = b.toInt + 3))))) := by
  refine gwI_of ?_
  unfold f_X11_isUnder
  have l0 : (0 : Int32).toInt = 0 := rfl
  have l1 : (1 : Int32).toInt = 1 := rfl
  have l2 : (2 : Int32).toInt = 2 := rfl
  have l3 : (3 : Int32).toInt = 3 := rfl
  have l4 : (4 : Int32).toInt = 4 := rfl
  have l5 : (5 : Int32).toInt = 5 := rfl
  have l6 : (6 : Int32).toInt = 6 := rfl
  have fin : ∀ (ys ns : List Nat) (Q : Option Value × gm_M → Prop) (t : Nat), gm_tag μ (8 + k) = t → (ys.contains t = true ∨ ns.contains t = true) → (ys.contains t = true → Q (some (.int 1), μ)) → (¬ ys.contains t = true → Q (some (.int 0), μ)) → gw (gm_io μ ys ns (8 + k) (fun v1 => if v1 = 0 ∨ v1 = 1 then some (some (.int v1), μ) else none)) Q := by
    intro ys ns Q t ht hy q1 q0
    unfold gm_io
    rw [ht]
    by_cases e : ys.contains t = true
    · rw [if_pos e]; exact gw_if (P := (1 : Int32) = 0 ∨ (1 : Int32) = 1) (Or.inr rfl) (gw_some (q1 e))
    · rw [if_neg e, if_pos (hy.resolve_left e)]; exact gw_if (P := (0 : Int32) = 0 ∨ (0 : Int32) = 1) (Or.inl rfl) (gw_some (q0 e))
  refine gw_eq (fun g => gw_z Iff.rfl (by omega) (gq_I ⟨rfl, by omega⟩)) (fun g0 => ?_)
  obtain rfl | rfl | rfl | rfl | rfl | rfl | rfl : k = 0 ∨ k = 1 ∨ k = 2 ∨ k = 3 ∨ k = 4 ∨ k = 5 ∨ k = 6 := by omega
  all_goals (
    refine gw_eq (fun g => ?_) (fun g1 => ?_)
    · exact fin _ _ _ _ (hS.t rfl) (by decide) (fun q => gq_I ⟨rfl, by revert q; simp; try omega⟩) (fun q => gq_I ⟨rfl, by revert q; simp; try omega⟩)
    refine gw_eq (fun g => ?_) (fun g2 => ?_)
    · exact fin _ _ _ _ (hS.t rfl) (by decide) (fun q => gq_I ⟨rfl, by revert q; simp; try omega⟩) (fun q => gq_I ⟨rfl, by revert q; simp; try omega⟩)
    refine gw_eq (fun g => ?_) (fun g3 => ?_)
    · exact fin _ _ _ _ (hS.t rfl) (by decide) (fun q => gq_I ⟨rfl, by revert q; simp; try omega⟩) (fun q => gq_I ⟨rfl, by revert q; simp; try omega⟩)
    refine gw_eq (fun g => ?_) (fun g4 => ?_)
    · exact fin _ _ _ _ (hS.t rfl) (by decide) (fun q => gq_I ⟨rfl, by revert q; simp; try omega⟩) (fun q => gq_I ⟨rfl, by revert q; simp; try omega⟩)
    refine gw_eq (fun g => ?_) (fun g5 => ?_)
    · exact fin _ _ _ _ (hS.t rfl) (by decide) (fun q => gq_I ⟨rfl, by revert q; simp; try omega⟩) (fun q => gq_I ⟨rfl, by revert q; simp; try omega⟩)
    refine gw_eq (fun g => ?_) (fun g6 => ?_)
    · exact fin _ _ _ _ (hS.t rfl) (by decide) (fun q => gq_I ⟨rfl, by revert q; simp; try omega⟩) (fun q => gq_I ⟨rfl, by revert q; simp; try omega⟩)
    exfalso; omega)
theorem p_as {μ : gm_M} (h : ALL μ) {a1 a2 : Int32} : gwI (f_X11_as 1 a1 a2 μ) (fun x m => gwI (f_X12_as 65 a1 a2 m) (fun y m2 => y = x ∧ ALL m2)) := by
  have hc := h.2.2.1
  have hg := hc.1
  have hM := h.1
  have L26 := h.n26
  have b26 := hM.n26
  have l0 : (0 : Int32).toInt = 0 := rfl
  have l1 : (1 : Int32).toInt = 1 := rfl
  have l6 : (6 : Int32).toInt = 6 := rfl
  have l33 : (33 : Int32).toInt = 33 := rfl
  have l38 : (38 : Int32).toInt = 38 := rfl
  refine gwI_of ?_
  unfold f_X11_as
  refine gw_if (hg.t (r := 1) rfl) ?_
  refine gw_bI (s_X11_isNobody hc) (fun x2 m ⟨z, f2⟩ => ?_)
  replace z := z.symm
  subst z
  have MM : ∀ R : Int32 → gm_M → Prop, (¬ (0 ≤ a1.toInt ∧ a1.toInt < (μ.2.1 66 26).toInt ∧ 0 ≤ a2.toInt ∧ a2.toInt ≤ 6) → R (-1) μ) → (∀ k : Nat, (μ.2.1 66 (33 + a1.toInt.toNat)).toInt = k → (0 ≤ a1.toInt ∧ a1.toInt < (μ.2.1 66 26).toInt ∧ 0 ≤ a2.toInt ∧ a2.toInt ≤ 6) → ((a2.toInt = 0 ∨ a2.toInt = k ∨ (0 < a2.toInt ∧ a2.toInt < 4 ∧ (k : Int) = a2.toInt + 3)) → R (μ.2.1 66 (38 + a1.toInt.toNat)) μ) ∧ (¬ (a2.toInt = 0 ∨ a2.toInt = k ∨ (0 < a2.toInt ∧ a2.toInt < 4 ∧ (k : Int) = a2.toInt + 3)) → R (-6) μ)) → gwI (f_X12_as 65 a1 a2 μ) R := by
    intro R r1 r2
    refine gwI_of ?_
    unfold f_X12_as
    refine gw_if (hg.t (r := 65) rfl) ?_
    refine gw_bI (s_X12_isChild hM) (fun y2 m ⟨z, f3⟩ => ?_)
    replace z := z.symm
    subst z
    refine gw_eq (fun g => gw_some (gq_I (r1 (by omega)))) (fun g => ?_)
    refine gw_bI s_X12_in (fun y3 m ⟨z, f4⟩ => ?_)
    replace z := z.symm
    subst z
    refine gw_ne (fun g2 => ?_) (fun g2 => gw_some (gq_I (r1 (by omega))))
    have kd := h.kd a1.toInt.toNat (by omega)
    have kk := hc.kd (a := 29 + 2 * a1.toInt.toNat) (Or.inl (by unfold isch; omega))
    unfold kid at kk
    obtain ⟨k, hk⟩ : ∃ k : Nat, (μ.2.1 66 (33 + a1.toInt.toNat)).toInt = k := ⟨(μ.2.1 66 (33 + a1.toInt.toNat)).toInt.toNat, by omega⟩
    have rr := r2 k hk (by omega)
    have n33 : ((33 : Int32) + a1).toInt = (33 : Int32).toInt + a1.toInt := gx_add (by omega) (by omega)
    have n38 : ((38 : Int32) + a1).toInt = (38 : Int32).toInt + a1.toInt := gx_add (by omega) (by omega)
    refine gw_gRa 66 (hg.c (r := 65) rfl) (hg.r (by decide)) ?_
    refine gw_aIw (33 + a1.toInt.toNat) (hg.t (r := 66) rfl) (hg.l (r := 66) rfl) (by omega) (by omega) ?_
    refine gw_bI s_under (fun y4 m ⟨z, f5⟩ => ?_)
    replace z := z.symm
    subst z
    rw [hk] at f5
    refine gw_eq (fun g3 => gw_some (gq_I (rr.2 (by omega)))) (fun g3 => ?_)
    refine gw_gRa 66 (hg.c (r := 65) rfl) (hg.r (by decide)) ?_
    refine gw_aIw (38 + a1.toInt.toNat) (hg.t (r := 66) rfl) (hg.l (r := 66) rfl) (by omega) (by omega) ?_
    exact gw_some (gq_I (rr.1 (by omega)))
  refine gw_ne (fun g => gw_some (gq_I (MM _ (fun _ => ⟨rfl, h⟩) (fun k _ q => absurd q (by omega))))) (fun g => ?_)
  refine gw_bI s_X11_isOutside (fun x4 m ⟨z, f4⟩ => ?_)
  replace z := z.symm
  subst z
  refine gw_eq (fun g2 => ?_) (fun g2 => gw_some (gq_I (MM _ (fun _ => ⟨rfl, h⟩) (fun k _ q => absurd q (by omega)))))
  refine gw_gRa 15 (hg.c (r := 1) rfl) (hg.r (by decide)) ?_
  refine gw_gRa 16 (hg.c (r := 15) rfl) (hg.r (by decide)) ?_
  refine gw_aR (i := a1) (hg.t (r := 16) rfl) (hg.l (r := 16) rfl) (by omega) (by omega) (fun v ev => ?_)
  have hv : v = 29 + 2 * a1.toInt.toNat := by rw [ev]; exact isch.at hg (by omega)
  have iv : isch v := by rw [hv]; unfold isch; omega
  have kd := h.kd a1.toInt.toNat (by omega)
  have kk := hc.kd (a := v) (Or.inl iv)
  rw [hv] at kk
  unfold kid at kk
  have kr : μ.2.2 v 1 = 8 + (μ.2.1 66 (33 + a1.toInt.toNat)).toInt.toNat := by rw [hv]; omega
  refine gw_gRa _ (ict.c hg (Or.inl iv)) kr ?_
  refine gw_bI (s_und hg (by omega) (by omega)) (fun x10 m ⟨z, f5⟩ => ?_)
  replace z := z.symm
  subst z
  refine gw_eq (fun g3 => gw_some (gq_I (MM _ (fun q => absurd (by omega) q) (fun k hk q => ⟨fun q2 => absurd q2 (by omega), fun _ => ⟨rfl, h⟩⟩)))) (fun g3 => ?_)
  refine gw_gIw (ict.c hg (Or.inl iv)) ?_
  refine gw_some (gq_I (MM _ (fun q => absurd (by omega) q) (fun k hk q => ⟨fun _ => ⟨by rw [hv]; exact (h.vv _ (by omega)).symm, h⟩, fun q2 => absurd q2 (by omega)⟩)))
end
section
def wR (μ : gm_M) (r j : Nat) (x : Nat) : gm_M := (μ.1, μ.2.1, gm_u μ.2.2 r j x)
theorem gw_pRw {β : Type} {μ : gm_M} {ks : List Nat} {r j y : Nat} {Q : β → Prop} {f : gm_M → Option β} (h : ks.contains (gm_tag μ r) = true) (k : gw (f (wR μ r j y)) Q) : gw (gm_pR μ ks r j y f) Q := gw_pR h (fun m e => by rw [e]; exact k)
theorem icl.t {μ : gm_M} (h : gS μ) {a : Nat} (p : icl a) : gm_tag μ a = 7 := by
  rcases p with p | rfl | rfl | rfl | rfl | rfl
  · exact p.t h
  all_goals exact h.t rfl
theorem icl.c {μ : gm_M} (h : gS μ) {a : Nat} (p : icl a) : [7].contains (gm_tag μ a) = true := by rw [p.t h]; rfl
theorem icl.row {μ : gm_M} (h : gS μ) {a : Nat} (p : icl a) : μ.2.2 a 8 = a + 1 := by
  rcases p with p | rfl | rfl | rfl | rfl | rfl
  · exact p.row h
  all_goals exact h.r (by decide)
theorem icl.rt {μ : gm_M} (h : gS μ) {a : Nat} (p : icl a) : gm_tag μ (a + 1) = 1 := by
  rcases p with p | rfl | rfl | rfl | rfl | rfl
  · exact p.rt h
  all_goals exact h.t rfl
theorem icl.rl {μ : gm_M} (h : gS μ) {a : Nat} (p : icl a) : gm_len μ (a + 1) = 4 := by
  rcases p with p | rfl | rfl | rfl | rfl | rfl
  · exact p.rl h
  all_goals exact h.l rfl
theorem icl.odd {a : Nat} (p : icl a) : a % 2 = 1 ∧ 29 ≤ a ∧ a ≤ 63 := by unfold icl ict isch at p; omega
theorem gS.kd2 {μ m : gm_M} (h : gS μ) {a kd : Nat} (ha : icl a) (e1 : m.1 = μ.1) (e2 : m.2.2 = gm_u μ.2.2 a 1 kd) : gS m := by
  refine ⟨fun r q e => by rw [e1]; exact h.1 r q e, fun q hq => ?_⟩
  rw [e2]
  have : ∀ q ∈ gRl, ¬ ((q.1 = 29 ∨ q.1 = 31 ∨ q.1 = 33 ∨ q.1 = 35 ∨ q.1 = 37 ∨ q.1 = 53 ∨ q.1 = 55 ∨ q.1 = 57 ∨ q.1 = 59 ∨ q.1 = 61 ∨ q.1 = 63) ∧ q.2.1 = 1) := by decide
  have hn := this q hq
  by_cases e : q.1 = a
  · rw [e, gu_ne (fun e3 => hn ⟨by rw [e]; unfold icl ict isch at ha; omega, e3⟩), ← e]; exact h.2 q hq
  · rw [gu_row e]; exact h.2 q hq
/-- a child is copied -/
def ccp (a b : Nat) (μ m : gm_M) : Prop := m.1 = μ.1 ∧ m.2.2 = gm_u μ.2.2 a 1 (μ.2.2 b 1) ∧ (∀ r : Nat, r ≠ a → r ≠ a + 1 → m.2.1 r = μ.2.1 r) ∧ (∀ j : Nat, j < 8 → j ≠ 1 → m.2.1 a j = μ.2.1 b j) ∧ ∀ j : Nat, j < 4 → m.2.1 (a + 1) j = μ.2.1 (b + 1) j
theorem s_ccopy {μ : gm_M} (h : gS μ) {a b : Nat} (ha : icl a) (hb : icl b) (hab : a ≠ b) : gwV (f_X2_copy a b μ) (fun m => ccp a b μ m) := by
  have oa := ha.odd
  have ob := hb.odd
  refine gwV_of ?_
  unfold f_X2_copy
  have ta := ha.c h
  have tb := hb.c h
  have nb : b ≠ a := fun e => hab e.symm
  refine gw_gIw tb ?_
  refine gw_pIw ta ?_
  refine gw_gRa _ tb rfl ?_
  refine gw_pRw ta ?_
  refine gw_gIw tb ?_
  refine gw_pIw ta ?_
  refine gw_gIw tb ?_
  refine gw_pIw ta ?_
  refine gw_gIw tb ?_
  refine gw_pIw ta ?_
  refine gw_gIw tb ?_
  refine gw_pIw ta ?_
  refine gw_gIw tb ?_
  refine gw_pIw ta ?_
  refine gw_gIw tb ?_
  refine gw_pIw ta ?_
  generalize hM : wI (wI (wI (wI (wI (wI (wR (wI μ a 0 _) a 1 _) a 2 _) a 3 _) a 4 _) a 5 _) a 6 _) a 7 _ = M
  have M1 : M.1 = μ.1 := by rw [← hM]; rfl
  have M2 : M.2.2 = gm_u μ.2.2 a 1 (μ.2.2 b 1) := by rw [← hM]; rfl
  have Rd : ∀ (q r j : Nat) (x : Nat) (ν : gm_M), (wR ν r j x).2.1 q = ν.2.1 q := fun _ _ _ _ _ => rfl
  have Mo : ∀ r : Nat, r ≠ a → M.2.1 r = μ.2.1 r := fun r hr => by
    rw [← hM, wI_o _ _ _ _ hr, wI_o _ _ _ _ hr, wI_o _ _ _ _ hr, wI_o _ _ _ _ hr, wI_o _ _ _ _ hr, wI_o _ _ _ _ hr, Rd, wI_o _ _ _ _ hr]
  have Ma : ∀ j : Nat, j < 8 → j ≠ 1 → M.2.1 a j = μ.2.1 b j := fun j hj h1 => by
    rw [← hM]
    obtain rfl | rfl | rfl | rfl | rfl | rfl | rfl : j = 0 ∨ j = 2 ∨ j = 3 ∨ j = 4 ∨ j = 5 ∨ j = 6 ∨ j = 7 := by omega
    all_goals simp only [wI_g, Rd, nb, and_true, true_and, if_false, if_true, false_and, and_false, show ((0 : Nat) = 7) = False from by simp, show ((0 : Nat) = 6) = False from by simp, show ((0 : Nat) = 5) = False from by simp, show ((0 : Nat) = 4) = False from by simp, show ((0 : Nat) = 3) = False from by simp, show ((0 : Nat) = 2) = False from by simp, show ((2 : Nat) = 7) = False from by simp, show ((2 : Nat) = 6) = False from by simp, show ((2 : Nat) = 5) = False from by simp, show ((2 : Nat) = 4) = False from by simp, show ((2 : Nat) = 3) = False from by simp, show ((3 : Nat) = 7) = False from by simp, show ((3 : Nat) = 6) = False from by simp, show ((3 : Nat) = 5) = False from by simp, show ((3 : Nat) = 4) = False from by simp, show ((4 : Nat) = 7) = False from by simp, show ((4 : Nat) = 6) = False from by simp, show ((4 : Nat) = 5) = False from by simp, show ((5 : Nat) = 7) = False from by simp, show ((5 : Nat) = 6) = False from by simp, show ((6 : Nat) = 7) = False from by simp]
  clear hM
  have hs : gS M := h.kd2 ha M1 M2
  refine gw_gRa (b + 1) (hb.c hs) (hb.row hs) ?_
  refine gw_gRa (a + 1) (ha.c hs) (ha.row hs) ?_
  refine gw_gRa (a + 1) (ha.c hs) (ha.row hs) ?_
  refine gw_al (ha.rt hs) (ha.rl hs) ?_
  have l0 : (0 : Int32).toInt = 0 := rfl
  have lo : (Int32.ofNat 4).toInt = 4 := rfl
  refine gx_cp (by omega) (hb.rt hs) (ha.rt hs) (hb.rl hs) (ha.rl hs) (by omega) (by omega) (by omega) (by omega) (by omega) (fun m e1 e2 e3 e4 => ?_)
  refine gw_some (gq_V ⟨e1.trans M1, e2.trans M2, fun r r1 r2 => by rw [e3 r r2]; exact Mo r r1, fun j hj h1 => by rw [e3 a (by omega)]; exact Ma j hj h1, fun j hj => ?_⟩)
  rw [e4 j]
  unfold va_cpy
  rw [if_pos ⟨by omega, by omega⟩, Mo (b + 1) (by omega)]
  exact congrArg _ (by omega)
/-- rows are copied -/
def rcp (r q : Nat) (n : Nat) (μ m : gm_M) : Prop := m.1 = μ.1 ∧ m.2.2 = μ.2.2 ∧ (∀ k : Nat, k ≠ r → k ≠ r + 1 → m.2.1 k = μ.2.1 k) ∧ (∀ j : Nat, j ≠ 2 → m.2.1 r j = μ.2.1 r j) ∧ m.2.1 r 2 = μ.2.1 q 2 ∧ ∀ j : Nat, j < n → m.2.1 (r + 1) j = μ.2.1 (q + 1) j
theorem s_rcopy {μ : gm_M} {r q n : Nat} (hrq : r ≠ q) (h1 : r ≠ q + 1) (h2 : q ≠ r + 1) (tr : gm_tag μ r = 12) (tq : gm_tag μ q = 12) (er : μ.2.2 r 1 = r + 1) (eq : μ.2.2 q 1 = q + 1) (t1 : gm_tag μ (r + 1) = 1) (t2 : gm_tag μ (q + 1) = 1) (l1 : gm_len μ (r + 1) = n) (l2 : gm_len μ (q + 1) = n) (hn : n < 1000) : gwV (f_X7_copy r q μ) (fun m => rcp r q n μ m) := by
  refine gwV_of ?_
  unfold f_X7_copy
  have c12 : ∀ x : Nat, x = 12 → [12].contains x = true := fun x e => by rw [e]; rfl
  have lo : (Int32.ofNat n).toInt = n := Int32.toInt_ofNat_of_lt (by omega)
  have l0 : (0 : Int32).toInt = 0 := rfl
  refine gw_gRa (q + 1) (c12 _ tq) eq ?_
  refine gw_gRa (r + 1) (c12 _ tr) er ?_
  refine gw_gRa (r + 1) (c12 _ tr) er ?_
  refine gw_al t1 l1 ?_
  refine gw_gRa (q + 1) (c12 _ tq) eq ?_
  refine gw_al t2 l2 ?_
  have hmin : (if Int32.ofNat n < Int32.ofNat n then Int32.ofNat n else Int32.ofNat n) = Int32.ofNat n := by split <;> rfl
  rw [hmin]
  refine gx_cp (by omega) t2 t1 l2 l1 (by omega) (by omega) (by omega) (by omega) (by omega) (fun m e1 e2 e3 e4 => ?_)
  have t : ∀ x : Nat, gm_tag m x = gm_tag μ x := fun x => by unfold gm_tag; rw [e1]
  refine gw_gIw (c12 _ ((t q).trans tq)) ?_
  refine gw_pIw (c12 _ ((t r).trans tr)) ?_
  refine gw_some (gq_V ⟨e1, e2, fun k k1 k2 => by rw [wI_o _ _ _ _ k1]; exact e3 k k2, fun j hj => by rw [wI_n _ _ _ _ hj, e3 r (by omega)], by rw [wI_e, e3 q h2], fun j hj => ?_⟩)
  rw [wI_o _ _ _ _ (by omega), e4 j]
  unfold va_cpy
  rw [if_pos ⟨by omega, by omega⟩]
  exact congrArg _ (by omega)
end
section
def SF (μ : gm_M) (s c : Nat) : Prop := (gm_tag μ s = 13 ∧ μ.2.2 s 2 = s + 1 ∧ μ.2.2 s 3 = s + 2 ∧ μ.2.2 s 7 = s + 8 ∧ μ.2.2 s 8 = s + 10 ∧ μ.2.2 s 9 = s + 12) ∧ (gm_tag μ (s + 1) = 4 ∧ gm_len μ (s + 1) = 5 ∧ ∀ k : Nat, k < 5 → μ.2.2 (s + 1) k = c + 2 * k) ∧ (gm_tag μ (s + 2) = 1 ∧ gm_len μ (s + 2) = 100) ∧ (gm_tag μ (s + 8) = 12 ∧ μ.2.2 (s + 8) 1 = s + 9 ∧ gm_tag μ (s + 9) = 1 ∧ gm_len μ (s + 9) = 15) ∧ (gm_tag μ (s + 10) = 12 ∧ μ.2.2 (s + 10) 1 = s + 11 ∧ gm_tag μ (s + 11) = 1 ∧ gm_len μ (s + 11) = 24) ∧ (gm_tag μ (s + 12) = 12 ∧ μ.2.2 (s + 12) 1 = s + 13 ∧ gm_tag μ (s + 13) = 1 ∧ gm_len μ (s + 13) = 24)
def Sc (s c : Nat) : Prop := (s = 15 ∧ c = 29) ∨ (s = 39 ∧ c = 53)
theorem Sc.f {s c : Nat} (H : Sc s c) {μ : gm_M} (h : gS μ) : SF μ s c := by
  rcases H with ⟨rfl, rfl⟩ | ⟨rfl, rfl⟩
  · exact ⟨⟨h.t rfl, h.r (by decide), h.r (by decide), h.r (by decide), h.r (by decide), h.r (by decide)⟩, ⟨h.t rfl, h.l rfl, fun k hk => isch.at h hk⟩, ⟨h.t rfl, h.l rfl⟩, ⟨h.t rfl, h.r (by decide), h.t rfl, h.l rfl⟩, ⟨h.t rfl, h.r (by decide), h.t rfl, h.l rfl⟩, ⟨h.t rfl, h.r (by decide), h.t rfl, h.l rfl⟩⟩
  · refine ⟨⟨h.t rfl, h.r (by decide), h.r (by decide), h.r (by decide), h.r (by decide), h.r (by decide)⟩, ⟨h.t rfl, h.l rfl, fun k hk => ?_⟩, ⟨h.t rfl, h.l rfl⟩, ⟨h.t rfl, h.r (by decide), h.t rfl, h.l rfl⟩, ⟨h.t rfl, h.r (by decide), h.t rfl, h.l rfl⟩, ⟨h.t rfl, h.r (by decide), h.t rfl, h.l rfl⟩⟩
    have e : k = 0 ∨ k = 1 ∨ k = 2 ∨ k = 3 ∨ k = 4 := by omega
    rcases e with rfl | rfl | rfl | rfl | rfl <;> exact h.r (by decide)
theorem gS.w6 {μ m : gm_M} (h : gS μ) {s v : Nat} (hs : s = 15 ∨ s = 39) (e1 : m.1 = μ.1) (e2 : m.2.2 = gm_u μ.2.2 s 6 v) : gS m := by
  refine ⟨fun r q e => by rw [e1]; exact h.1 r q e, fun q hq => ?_⟩
  rw [e2]
  have : ∀ q ∈ gRl, ¬ ((q.1 = 15 ∨ q.1 = 39) ∧ q.2.1 = 6) := by decide
  have hn := this q hq
  by_cases e : q.1 = s
  · rw [e, gu_ne (fun e3 => hn ⟨by omega, e3⟩), ← e]; exact h.2 q hq
  · rw [gu_row e]; exact h.2 q hq
/-- the first i children of a scene are copied -/
def pcp (c d i : Nat) (μ m : gm_M) : Prop := m.1 = μ.1 ∧ (∀ r j : Nat, (∀ k : Nat, k < i → ¬ (r = c + 2 * k ∧ j = 1)) → m.2.2 r j = μ.2.2 r j) ∧ (∀ r : Nat, (∀ k : Nat, k < i → r ≠ c + 2 * k ∧ r ≠ c + 2 * k + 1) → m.2.1 r = μ.2.1 r) ∧ ∀ k : Nat, k < i → m.2.2 (c + 2 * k) 1 = μ.2.2 (d + 2 * k) 1 ∧ (∀ j : Nat, j < 8 → j ≠ 1 → m.2.1 (c + 2 * k) j = μ.2.1 (d + 2 * k) j) ∧ ∀ j : Nat, j < 4 → m.2.1 (c + 2 * k + 1) j = μ.2.1 (d + 2 * k + 1) j
theorem pcp.zero (c d : Nat) (μ : gm_M) : pcp c d 0 μ μ := ⟨rfl, fun _ _ _ => rfl, fun _ _ => rfl, fun k hk => absurd hk (Nat.not_lt_zero k)⟩
theorem pcp.succ {c d i : Nat} {μ m m' : gm_M} (H : (c = 29 ∧ d = 53) ∨ (c = 53 ∧ d = 29)) (hi : i < 5) (p : pcp c d i μ m) (g : ccp (c + 2 * i) (d + 2 * i) m m') : pcp c d (i + 1) μ m' := by
  obtain ⟨p1, p2, p3, p4⟩ := p
  obtain ⟨g1, g2, g3, g4, g5⟩ := g
  refine ⟨g1.trans p1, fun r j hr => ?_, fun r hr => ?_, fun k hk => ?_⟩
  · rw [g2]
    by_cases e : r = c + 2 * i
    · rw [e, gu_ne (fun q => hr i (by omega) ⟨e, q⟩), ← e]
      exact p2 r j (fun k hk => hr k (by omega))
    · rw [gu_row e]; exact p2 r j (fun k hk => hr k (by omega))
  · rw [g3 r (hr i (by omega)).1 (hr i (by omega)).2]
    exact p3 r (fun k hk => hr k (by omega))
  · by_cases e : k = i
    · subst e
      refine ⟨?_, fun j hj h1 => ?_, fun j hj => ?_⟩
      · rw [g2, gu_eq]; exact p2 _ _ (fun q hq => by omega)
      · rw [g4 j hj h1, p3 _ (fun q hq => by omega)]
      · rw [g5 j hj, p3 _ (fun q hq => by omega)]
    · obtain ⟨q1, q2, q3⟩ := p4 k (by omega)
      refine ⟨?_, fun j hj h1 => ?_, fun j hj => ?_⟩
      · rw [g2, gu_row (by omega)]; exact q1
      · rw [g3 _ (by omega) (by omega)]; exact q2 j hj h1
      · rw [g3 _ (by omega) (by omega)]; exact q3 j hj
/-- a scene is copied -/
def scp (s t c d : Nat) (μ m : gm_M) : Prop := m.1 = μ.1 ∧ (m.2.2 s 6 = μ.2.2 t 6 ∧ ∀ r j : Nat, ¬ (r = s ∧ j = 6) → (∀ k : Nat, k < 5 → ¬ (r = c + 2 * k ∧ j = 1)) → m.2.2 r j = μ.2.2 r j) ∧ (∀ r : Nat, r ≠ s → r ≠ s + 2 → (r < s + 8 ∨ s + 13 < r) → (∀ k : Nat, k < 5 → r ≠ c + 2 * k ∧ r ≠ c + 2 * k + 1) → m.2.1 r = μ.2.1 r) ∧ (m.2.1 s 0 = μ.2.1 t 0 ∧ m.2.1 s 1 = μ.2.1 t 1 ∧ m.2.1 s 4 = μ.2.1 t 4 ∧ m.2.1 s 5 = μ.2.1 t 5) ∧ (∀ j : Nat, j < 100 → m.2.1 (s + 2) j = μ.2.1 (t + 2) j) ∧ (∀ r : Nat, (r = 8 ∨ r = 10 ∨ r = 12) → m.2.1 (s + r) 2 = μ.2.1 (t + r) 2 ∧ (∀ j : Nat, j ≠ 2 → m.2.1 (s + r) j = μ.2.1 (s + r) j) ∧ ∀ j : Nat, (j < 15 ∨ (r ≠ 8 ∧ j < 24)) → m.2.1 (s + r + 1) j = μ.2.1 (t + r + 1) j) ∧ ∀ k : Nat, k < 5 → m.2.2 (c + 2 * k) 1 = μ.2.2 (d + 2 * k) 1 ∧ (∀ j : Nat, j < 8 → j ≠ 1 → m.2.1 (c + 2 * k) j = μ.2.1 (d + 2 * k) j) ∧ ∀ j : Nat, j < 4 → m.2.1 (c + 2 * k + 1) j = μ.2.1 (d + 2 * k + 1) j
theorem gS.pc {c d i : Nat} {μ m : gm_M} (h : gS μ) (hc : c = 29 ∨ c = 53) (hi : i ≤ 5) (p : pcp c d i μ m) : gS m := by
  refine ⟨fun r q e => by rw [p.1]; exact h.1 r q e, fun q hq => ?_⟩
  have : ∀ q ∈ gRl, ¬ ((q.1 = 29 ∨ q.1 = 31 ∨ q.1 = 33 ∨ q.1 = 35 ∨ q.1 = 37 ∨ q.1 = 53 ∨ q.1 = 55 ∨ q.1 = 57 ∨ q.1 = 59 ∨ q.1 = 61) ∧ q.2.1 = 1) := by decide
  have hn := this q hq
  rw [p.2.1 q.1 q.2.1 (fun k hk e => hn ⟨by omega, e.2⟩)]
  exact h.2 q hq
set_option maxHeartbeats 2000000 in
theorem s_scopy {μ : gm_M} (h : gS μ) {s t c d : Nat} (H : (s = 15 ∧ t = 39 ∧ c = 29 ∧ d = 53) ∨ (s = 39 ∧ t = 15 ∧ c = 53 ∧ d = 29)) : gwV (f_X8_copy s t μ) (fun m => scp s t c d μ m) := by
  refine gwV_of ?_
  unfold f_X8_copy
  have l0 : (0 : Int32).toInt = 0 := rfl
  have l1 : (1 : Int32).toInt = 1 := rfl
  have l5 : (5 : Int32).toInt = 5 := rfl
  have Hs : Sc s c := by unfold Sc; omega
  have Ht : Sc t d := by unfold Sc; omega
  have c13 : ∀ x : Nat, x = 13 → [13].contains x = true := fun x e => by rw [e]; rfl
  have fs := Hs.f h
  have ft := Ht.f h
  refine gw_gIw (c13 _ ft.1.1) ?_
  refine gw_pIw (c13 _ fs.1.1) ?_
  refine gw_gIw (c13 _ ft.1.1) ?_
  refine gw_pIw (c13 _ fs.1.1) ?_
  rw [wI_o _ _ _ _ (show t ≠ s by omega)]
  generalize hB : wI (wI μ s 0 (μ.2.1 t 0)) s 1 (μ.2.1 t 1) = B
  have hSB : gS B := by rw [← hB]; exact h
  have B1 : B.1 = μ.1 := by rw [← hB]; rfl
  have B2 : B.2.2 = μ.2.2 := by rw [← hB]; rfl
  have Bo : ∀ r : Nat, r ≠ s → B.2.1 r = μ.2.1 r := fun r hr => by rw [← hB, wI_o _ _ _ _ hr, wI_o _ _ _ _ hr]
  have Bs0 : B.2.1 s 0 = μ.2.1 t 0 := by rw [← hB, wI_n _ _ _ _ (by decide), wI_e]
  have Bs1 : B.2.1 s 1 = μ.2.1 t 1 := by rw [← hB, wI_e]
  clear hB
  refine gw_loop (fun q => (0 ≤ q.1.toInt ∧ q.1.toInt ≤ 5) ∧ pcp c d q.1.toInt.toNat B q.2) (fun q => 5 - q.1.toInt) (fun q ⟨q1, q2⟩ => ?_) 5000 ((0 : Int32), B) ⟨⟨by show 0 ≤ (0 : Int32).toInt; omega, by show (0 : Int32).toInt ≤ 5; omega⟩, pcp.zero c d B⟩ (by show 5 - (0 : Int32).toInt < ((5000 : Nat) : Int); omega) (by show 0 ≤ 5 - (0 : Int32).toInt; omega)
  have hq := hSB.pc (by omega) (by omega) q2
  have gs := Hs.f hq
  have gt := Ht.f hq
  refine gw_le (fun g => ?_) (fun g => ?_)
  · rw [show q.1.toInt.toNat = 5 by omega] at q2
    obtain ⟨p1, p2, p3, p4⟩ := q2
    generalize q.2 = D at *
    refine gw_gIw (c13 _ gt.1.1) ?_
    refine gw_pIw (c13 _ gs.1.1) ?_
    refine gw_gRa _ (c13 _ gt.1.1) rfl ?_
    refine gw_pRw (c13 _ gs.1.1) ?_
    generalize hE : wR (wI D s 5 (D.2.1 t 5)) s 6 ((wI D s 5 (D.2.1 t 5)).2.2 t 6) = E
    have E1 : E.1 = D.1 := by rw [← hE]; rfl
    have E2 : E.2.2 = gm_u D.2.2 s 6 (D.2.2 t 6) := by rw [← hE]; rfl
    have Eo : ∀ r : Nat, r ≠ s → E.2.1 r = D.2.1 r := fun r hr => by rw [← hE]; exact wI_o _ _ _ _ hr
    have En : ∀ j : Nat, j ≠ 5 → E.2.1 s j = D.2.1 s j := fun j hj => by rw [← hE]; exact wI_n _ _ _ _ hj
    have E5 : E.2.1 s 5 = D.2.1 t 5 := by rw [← hE]; exact wI_e _ _ _ _
    clear hE
    have hE : gS E := hq.w6 (by omega) E1 E2
    have es := Hs.f hE
    have et := Ht.f hE
    refine gw_gRa _ (c13 _ et.1.1) et.1.2.2.1 ?_
    refine gw_gRa _ (c13 _ es.1.1) es.1.2.2.1 ?_
    refine gw_gRa _ (c13 _ es.1.1) es.1.2.2.1 ?_
    refine gw_al es.2.2.1.1 es.2.2.1.2 ?_
    have lo : (Int32.ofNat 100).toInt = 100 := rfl
    refine gx_cp (by omega) et.2.2.1.1 es.2.2.1.1 et.2.2.1.2 es.2.2.1.2 (by omega) (by omega) (by omega) (by omega) (by omega) (fun F f1 f2 f3 f4 => ?_)
    have hF : gS F := hE.same f1 f2
    have Ft : ∀ j : Nat, j < 100 → F.2.1 (s + 2) j = E.2.1 (t + 2) j := fun j hj => by
      rw [f4 j]; unfold va_cpy; rw [if_pos ⟨by omega, by omega⟩]; exact congrArg _ (by omega)
    have fs2 := Hs.f hF
    have ft2 := Ht.f hF
    refine gw_gIw (c13 _ ft2.1.1) ?_
    refine gw_pIw (c13 _ fs2.1.1) ?_
    generalize hG : wI F s 4 (F.2.1 t 4) = G
    have G1 : G.1 = F.1 := by rw [← hG]; rfl
    have G2 : G.2.2 = F.2.2 := by rw [← hG]; rfl
    have Go : ∀ r : Nat, r ≠ s → G.2.1 r = F.2.1 r := fun r hr => by rw [← hG]; exact wI_o _ _ _ _ hr
    have Gn : ∀ j : Nat, j ≠ 4 → G.2.1 s j = F.2.1 s j := fun j hj => by rw [← hG]; exact wI_n _ _ _ _ hj
    have G4 : G.2.1 s 4 = F.2.1 t 4 := by rw [← hG]; exact wI_e _ _ _ _
    clear hG
    have hG : gS G := hF.same G1 G2
    have us := Hs.f hG
    have ut := Ht.f hG
    refine gw_gRa _ (c13 _ us.1.1) us.1.2.2.2.1 ?_
    refine gw_gRa _ (c13 _ ut.1.1) ut.1.2.2.2.1 ?_
    refine gw_if us.2.2.2.1.1 ?_
    refine gw_bV (s_rcopy (by omega) (by omega) (by omega) us.2.2.2.1.1 ut.2.2.2.1.1 us.2.2.2.1.2.1 ut.2.2.2.1.2.1 us.2.2.2.1.2.2.1 ut.2.2.2.1.2.2.1 us.2.2.2.1.2.2.2 ut.2.2.2.1.2.2.2 (by decide)) (fun K ⟨a1, a2, a3, a4, a5, a6⟩ => ?_)
    have hK : gS K := hG.same a1 a2
    have vs := Hs.f hK
    have vt := Ht.f hK
    refine gw_gRa _ (c13 _ vs.1.1) vs.1.2.2.2.2.1 ?_
    refine gw_gRa _ (c13 _ vt.1.1) vt.1.2.2.2.2.1 ?_
    refine gw_if vs.2.2.2.2.1.1 ?_
    refine gw_bV (s_rcopy (by omega) (by omega) (by omega) vs.2.2.2.2.1.1 vt.2.2.2.2.1.1 vs.2.2.2.2.1.2.1 vt.2.2.2.2.1.2.1 vs.2.2.2.2.1.2.2.1 vt.2.2.2.2.1.2.2.1 vs.2.2.2.2.1.2.2.2 vt.2.2.2.2.1.2.2.2 (by decide)) (fun N ⟨b1, b2, b3, b4, b5, b6⟩ => ?_)
    have hN : gS N := hK.same b1 b2
    have ws := Hs.f hN
    have wt := Ht.f hN
    refine gw_gRa _ (c13 _ ws.1.1) ws.1.2.2.2.2.2 ?_
    refine gw_gRa _ (c13 _ wt.1.1) wt.1.2.2.2.2.2 ?_
    refine gw_if ws.2.2.2.2.2.1 ?_
    refine gw_bV (s_rcopy (by omega) (by omega) (by omega) ws.2.2.2.2.2.1 wt.2.2.2.2.2.1 ws.2.2.2.2.2.2.1 wt.2.2.2.2.2.2.1 ws.2.2.2.2.2.2.2.1 wt.2.2.2.2.2.2.2.1 ws.2.2.2.2.2.2.2.2 wt.2.2.2.2.2.2.2.2 (by decide)) (fun O ⟨o1, o2, o3, o4, o5, o6⟩ => ?_)
    -- what stands in the end
    have R : O.2.2 = gm_u D.2.2 s 6 (D.2.2 t 6) := by rw [o2, b2, a2, G2, f2, E2]
    have Row : ∀ r : Nat, r ≠ s → r ≠ s + 2 → (r < s + 8 ∨ s + 13 < r) → O.2.1 r = D.2.1 r := fun r r1 r2 r3 => by
      rw [o3 r (by omega) (by omega), b3 r (by omega) (by omega), a3 r (by omega) (by omega), Go r r1, f3 r r2, Eo r r1]
    have Rs : ∀ j : Nat, O.2.1 s j = G.2.1 s j := fun j => by rw [o3 s (by omega) (by omega), b3 s (by omega) (by omega), a3 s (by omega) (by omega)]
    have Rt : ∀ r : Nat, r ≠ s → r ≠ s + 2 → (∀ k : Nat, k < 5 → r ≠ c + 2 * k ∧ r ≠ c + 2 * k + 1) → G.2.1 r = μ.2.1 r := fun r r1 r2 r3 => by rw [Go r r1, f3 r r2, Eo r r1, p3 r r3, Bo r r1]
    refine gw_some (gs_inr (gq_V ⟨by rw [o1, b1, a1, G1, f1, E1, p1, B1], ⟨?_, fun r j r1 r2 => ?_⟩, fun r r1 r2 r3 r4 => ?_, ⟨?_, ?_, ?_, ?_⟩, fun j hj => ?_, fun r hr => ?_, fun k hk => ?_⟩))
    · rw [R, gu_eq, p2 t 6 (fun k hk => by omega), B2]
    · rw [R]
      by_cases e : r = s
      · rw [e, gu_ne (fun z => r1 ⟨e, z⟩), ← e, p2 r j r2, B2]
      · rw [gu_row e, p2 r j r2, B2]
    · rw [Row r r1 r2 r3, p3 r r4, Bo r r1]
    · rw [Rs, Gn 0 (by decide), f3 s (by omega), En 0 (by decide), p3 s (fun k hk => by omega), Bs0]
    · rw [Rs, Gn 1 (by decide), f3 s (by omega), En 1 (by decide), p3 s (fun k hk => by omega), Bs1]
    · rw [Rs, G4, f3 t (by omega), Eo t (by omega), p3 t (fun k hk => by omega), Bo t (by omega)]
    · rw [Rs, Gn 5 (by decide), f3 s (by omega), E5, p3 t (fun k hk => by omega), Bo t (by omega)]
    · rw [o3 (s + 2) (by omega) (by omega), b3 (s + 2) (by omega) (by omega), a3 (s + 2) (by omega) (by omega), Go (s + 2) (by omega), Ft j hj, Eo (t + 2) (by omega), p3 (t + 2) (fun k hk => by omega), Bo (t + 2) (by omega)]
    · rcases hr with rfl | rfl | rfl
      · refine ⟨?_, fun j hj => ?_, fun j hj => ?_⟩
        · rw [o3 (s + 8) (by omega) (by omega), b3 (s + 8) (by omega) (by omega), a5, Rt (t + 8) (by omega) (by omega) (fun k hk => by omega)]
        · rw [o3 (s + 8) (by omega) (by omega), b3 (s + 8) (by omega) (by omega), a4 j hj, Rt (s + 8) (by omega) (by omega) (fun k hk => by omega)]
        · rw [o3 (s + 8 + 1) (by omega) (by omega), b3 (s + 8 + 1) (by omega) (by omega), a6 j (by omega), Rt (t + 8 + 1) (by omega) (by omega) (fun k hk => by omega)]
      · refine ⟨?_, fun j hj => ?_, fun j hj => ?_⟩
        · rw [o3 (s + 10) (by omega) (by omega), b5, a3 (t + 10) (by omega) (by omega), Rt (t + 10) (by omega) (by omega) (fun k hk => by omega)]
        · rw [o3 (s + 10) (by omega) (by omega), b4 j hj, a3 (s + 10) (by omega) (by omega), Rt (s + 10) (by omega) (by omega) (fun k hk => by omega)]
        · rw [o3 (s + 10 + 1) (by omega) (by omega), b6 j (by omega), a3 (t + 10 + 1) (by omega) (by omega), Rt (t + 10 + 1) (by omega) (by omega) (fun k hk => by omega)]
      · refine ⟨?_, fun j hj => ?_, fun j hj => ?_⟩
        · rw [o5, b3 (t + 12) (by omega) (by omega), a3 (t + 12) (by omega) (by omega), Rt (t + 12) (by omega) (by omega) (fun k hk => by omega)]
        · rw [o4 j hj, b3 (s + 12) (by omega) (by omega), a3 (s + 12) (by omega) (by omega), Rt (s + 12) (by omega) (by omega) (fun k hk => by omega)]
        · rw [o6 j (by omega), b3 (t + 12 + 1) (by omega) (by omega), a3 (t + 12 + 1) (by omega) (by omega), Rt (t + 12 + 1) (by omega) (by omega) (fun k hk => by omega)]
    · obtain ⟨k1, k2, k3⟩ := p4 k hk
      refine ⟨?_, fun j hj h1 => ?_, fun j hj => ?_⟩
      · rw [R, gu_row (by omega), k1, B2]
      · rw [Row _ (by omega) (by omega) (by omega), k2 j hj h1, Bo _ (by omega)]
      · rw [Row _ (by omega) (by omega) (by omega), k3 j hj, Bo _ (by omega)]
  · refine gw_gRa _ (c13 _ gs.1.1) gs.1.2.1 ?_
    refine gw_aR (i := q.1) gs.2.1.1 gs.2.1.2.1 (by omega) (by omega) (fun v ev => ?_)
    rw [gs.2.1.2.2 _ (by omega)] at ev
    subst ev
    refine gw_gRa _ (c13 _ gt.1.1) gt.1.2.1 ?_
    refine gw_aR (i := q.1) gt.2.1.1 gt.2.1.2.1 (by omega) (by omega) (fun w ew => ?_)
    rw [gt.2.1.2.2 _ (by omega)] at ew
    subst ew
    have ia : icl (c + 2 * q.1.toInt.toNat) := by unfold icl ict isch; omega
    have ib : icl (d + 2 * q.1.toInt.toNat) := by unfold icl ict isch; omega
    refine gw_if (ia.t hq) ?_
    refine gw_bV (s_ccopy hq ia ib (by omega)) (fun m' hm' => ?_)
    have n : (q.1 + (1 : Int32)).toInt = q.1.toInt + (1 : Int32).toInt := gx_add (by omega) (by omega)
    refine gw_some (gs_inl ⟨⟨by show 0 ≤ (q.1 + (1 : Int32)).toInt; omega, by show (q.1 + (1 : Int32)).toInt ≤ 5; omega⟩, ?_⟩ (by show 5 - (q.1 + (1 : Int32)).toInt < 5 - q.1.toInt; omega) (by show 0 ≤ 5 - (q.1 + (1 : Int32)).toInt; omega))
    show pcp c d (q.1 + (1 : Int32)).toInt.toNat B m'
    rw [show (q.1 + (1 : Int32)).toInt.toNat = q.1.toInt.toNat + 1 by omega]
    exact q2.succ (by omega) (by omega) hm'
end
section
theorem scp.af {s t c d : Nat} {μ m : gm_M} (H : (s = 15 ∧ t = 39 ∧ c = 29 ∧ d = 53) ∨ (s = 39 ∧ t = 15 ∧ c = 53 ∧ d = 29)) (g : scp s t c d μ m) {q : Nat} (p : AfW μ q) : AfW m q := by
  have p0 := p.1
  obtain ⟨g1, g2, g3, -⟩ := g
  exact p.same (fun r z e => by rw [g1]; exact e) (funext fun j => g2.2 q j (by omega) (fun k hk => by omega)) (g3 _ (by omega) (by omega) (by omega) (fun k hk => by omega)) (g3 _ (by omega) (by omega) (by omega) (fun k hk => by omega))
theorem scp.sc {s t c d : Nat} {μ m : gm_M} (H : (s = 15 ∧ t = 39 ∧ c = 29 ∧ d = 53) ∨ (s = 39 ∧ t = 15 ∧ c = 53 ∧ d = 29)) (g : scp s t c d μ m) (ht : scI μ t) (hs : scI μ s) : scI m s := by
  have A := fun q => scp.af H g (q := q)
  obtain ⟨g1, g2, g3, ⟨a0, a1, a4, a5⟩, g5, g6, g7⟩ := g
  obtain ⟨p1, p2, p3, p4, p5, p6, p7, p8, p9, p10, p11⟩ := ht
  obtain ⟨q1, q2, q3, q4, q5, q6, q7, q8, q9, q10, q11⟩ := hs
  have r8 := g6 8 (by omega)
  have r10 := g6 10 (by omega)
  have r12 := g6 12 (by omega)
  unfold scI
  rw [a1, a4, a5, g2.1, r8.1, r10.1, r12.1, r8.2.1 0 (by decide), r10.2.1 0 (by decide), r12.2.1 0 (by decide)]
  refine ⟨p1, p2, p3, A _ p4, p5, p6, p7, q8, q9, q10, fun k hk => ?_⟩
  rw [show s + 9 = s + 8 + 1 by omega, r8.2.2 _ (Or.inl (by omega))]
  exact p11 k hk
theorem scp.nm {s t c d : Nat} {μ m : gm_M} {σ τ : Nat → Int32} (H : (s = 15 ∧ t = 39 ∧ c = 29 ∧ d = 53) ∨ (s = 39 ∧ t = 15 ∧ c = 53 ∧ d = 29)) (g : scp s t c d μ m) (h : nm μ t d τ) (e : ∀ i : Nat, lp i → σ i = τ i) : nm m s c σ := by
  obtain ⟨g1, g2, g3, ⟨a0, a1, a4, a5⟩, g5, g6, g7⟩ := g
  obtain ⟨⟨p0, p1, p2, p3, p4⟩, pk⟩ := h
  refine ⟨⟨?_, ?_, ?_, ?_, ?_⟩, fun k hk => ?_⟩
  · rw [a0, e 0 (by unfold lp; omega)]; exact p0
  · rw [a1, e 26 (by unfold lp; omega)]; exact p1
  · rw [(g6 8 (by omega)).1, e 28 (by unfold lp; omega)]; exact p2
  · rw [(g6 10 (by omega)).1, e 29 (by unfold lp; omega)]; exact p3
  · rw [(g6 12 (by omega)).1, e 30 (by unfold lp; omega)]; exact p4
  · obtain ⟨⟨b1, b2, b3⟩, b4⟩ := pk k hk
    obtain ⟨k1, k2, k3⟩ := g7 k hk
    refine ⟨⟨?_, ?_, ?_⟩, fun j hj => ?_⟩
    · rw [k2 0 (by decide) (by decide)]; exact b1
    · rw [k1, e _ (by unfold lp; omega)]; exact b2
    · rw [k2 2 (by decide) (by decide), e _ (by unfold lp; omega)]; exact b3
    · rw [k3 j hj, e _ (by unfold lp; omega)]; exact b4 j hj
theorem scp.gS {s t c d : Nat} {μ m : gm_M} (H : (s = 15 ∧ t = 39 ∧ c = 29 ∧ d = 53) ∨ (s = 39 ∧ t = 15 ∧ c = 53 ∧ d = 29)) (h : gS μ) (g : scp s t c d μ m) : gS m := by
  refine ⟨fun r q e => by rw [g.1]; exact h.1 r q e, fun q hq => ?_⟩
  have : ∀ q ∈ gRl, ¬ ((q.1 = 29 ∨ q.1 = 31 ∨ q.1 = 33 ∨ q.1 = 35 ∨ q.1 = 37 ∨ q.1 = 53 ∨ q.1 = 55 ∨ q.1 = 57 ∨ q.1 = 59 ∨ q.1 = 61) ∧ q.2.1 = 1) ∧ ¬ ((q.1 = 15 ∨ q.1 = 39) ∧ q.2.1 = 6) := by decide
  have hn := this q hq
  rw [g.2.1.2 q.1 q.2.1 (fun e => hn.2 ⟨by omega, e.2⟩) (fun k hk e => hn.1 ⟨by omega, e.2⟩)]
  exact h.2 q hq
/-- both sides' scene comes from the other one: rows of the reference p (to), q (from) -/
theorem A_scp {s t c d p q : Nat} {μ m1 m2 : gm_M} (H : (s = 15 ∧ t = 39 ∧ c = 29 ∧ d = 53 ∧ p = 66 ∧ q = 67) ∨ (s = 39 ∧ t = 15 ∧ c = 53 ∧ d = 29 ∧ p = 67 ∧ q = 66)) (h : ALL μ) {x : Int32} (hx : (x = 0 ∨ x = 1)) (g : scp s t c d μ m1) (e1 : m2.1 = m1.1) (e2 : m2.2.2 = m1.2.2) (er : ∀ r : Nat, r ≠ p → r ≠ 1 → r ≠ 65 → m2.2.1 r = m1.2.1 r) (e13 : m2.2.1 1 3 = x) (e65 : m2.2.1 65 4 = x) (e19 : m2.2.1 65 19 = m1.2.1 65 19) (ep : ∀ k : Nat, k < 925 → m2.2.1 p k = m1.2.1 q k) : ALL m2 := by
  have H0 : (s = 15 ∧ t = 39 ∧ c = 29 ∧ d = 53) ∨ (s = 39 ∧ t = 15 ∧ c = 53 ∧ d = 29) := by omega
  have hs1 : gS m1 := scp.gS H0 h.1.1 g
  have hs2 : gS m2 := hs1.same e1 e2
  have A1 : ∀ z, AfW μ z → AfW m1 z := fun z => scp.af H0 g
  have A2 : ∀ z, AfW m1 z → AfW m2 z := fun z w => by
    have w0 := w.1
    exact w.same (fun r y e => by rw [e1]; exact e) (by rw [e2]) (er _ (by omega) (by omega) (by omega)) (er _ (by omega) (by omega) (by omega))
  have o : ∀ r : Nat, r ≠ s → r ≠ s + 2 → (r < s + 8 ∨ s + 13 < r) → (∀ k : Nat, k < 5 → r ≠ c + 2 * k ∧ r ≠ c + 2 * k + 1) → m1.2.1 r = μ.2.1 r := g.2.2.1
  obtain ⟨⟨-, h1⟩, h2, ⟨-, s15, s39, kd, tr⟩, n15, n39, fl, lt⟩ := h
  have r66 : m1.2.1 66 = μ.2.1 66 := o 66 (by omega) (by omega) (by omega) (fun k hk => by omega)
  have r67 : m1.2.1 67 = μ.2.1 67 := o 67 (by omega) (by omega) (by omega) (fun k hk => by omega)
  -- class
  have sc1 : scI m1 15 ∧ scI m1 39 := by
    rcases H0 with ⟨rfl, rfl, rfl, rfl⟩ | ⟨rfl, rfl, rfl, rfl⟩
    · refine ⟨scp.sc (Or.inl ⟨rfl, rfl, rfl, rfl⟩) g s39 s15, s39.same (fun r z e => by rw [g.1]; exact e) (fun j _ => by rw [o 39 (by omega) (by omega) (by omega) (fun k hk => by omega)]) (g.2.1.2 39 6 (by omega) (fun k hk => by omega)) (fun r hr => o r (by omega) (by omega) (by omega) (fun k hk => by omega)) (A1 _)⟩
    · refine ⟨s15.same (fun r z e => by rw [g.1]; exact e) (fun j _ => by rw [o 15 (by omega) (by omega) (by omega) (fun k hk => by omega)]) (g.2.1.2 15 6 (by omega) (fun k hk => by omega)) (fun r hr => o r (by omega) (by omega) (by omega) (fun k hk => by omega)) (A1 _), scp.sc (Or.inr ⟨rfl, rfl, rfl, rfl⟩) g s15 s39⟩
  have kd1 : ∀ a : Nat, icl a → kid (m1.2.2 a 1) := fun a ha => by
    by_cases e : ∃ k : Nat, k < 5 ∧ a = c + 2 * k
    · obtain ⟨k, hk, rfl⟩ := e
      rw [(g.2.2.2.2.2.2 k hk).1]
      exact kd _ (by unfold icl ict isch; omega)
    · rw [g.2.1.2 a 1 (by omega) (fun k hk q => e ⟨k, hk, q.1⟩)]
      exact kd a ha
  have o3 : m1.2.1 3 = μ.2.1 3 := o 3 (by omega) (by omega) (by omega) (fun k hk => by omega)
  have c2 : CI m2 := by
    refine ⟨hs2, sc1.1.same (fun r z e => by rw [e1]; exact e) (fun j _ => by rw [er 15 (by omega) (by omega) (by omega)]) (by rw [e2]) (fun r hr => er r (by omega) (by omega) (by omega)) (A2 _), sc1.2.same (fun r z e => by rw [e1]; exact e) (fun j _ => by rw [er 39 (by omega) (by omega) (by omega)]) (by rw [e2]) (fun r hr => er r (by omega) (by omega) (by omega)) (A2 _), fun a ha => by rw [e2]; exact kd1 a ha, by rw [er 3 (by omega) (by omega) (by omega), o3]; exact tr⟩
  -- the relation
  have nmk : ∀ {s' c' : Nat} {σ τ : Nat → Int32}, ((s' = 15 ∧ c' = 29) ∨ (s' = 39 ∧ c' = 53)) → nm m1 s' c' σ → (∀ i, lp i → τ i = σ i) → nm m2 s' c' τ := fun {s' c' σ τ} hz w ew => by
    refine w.fr (by rw [er s' (by omega) (by omega) (by omega)]) (by rw [er s' (by omega) (by omega) (by omega)]) ⟨by rw [er _ (by omega) (by omega) (by omega)], by rw [er _ (by omega) (by omega) (by omega)], by rw [er _ (by omega) (by omega) (by omega)]⟩ (fun k hk => ⟨by rw [er _ (by omega) (by omega) (by omega)], by rw [er _ (by omega) (by omega) (by omega)], by rw [e2], fun j _ => by rw [er _ (by omega) (by omega) (by omega)]⟩) ew
  have lt2 : LT m2 := by
    unfold LT
    rw [er 3 (by omega) (by omega) (by omega), o3, e19, o 65 (by omega) (by omega) (by omega) (fun k hk => by omega), er 4 (by omega) (by omega) (by omega), o 4 (by omega) (by omega) (by omega) (fun k hk => by omega), er 74 (by omega) (by omega) (by omega), o 74 (by omega) (by omega) (by omega) (fun k hk => by omega)]
    exact lt
  have fl2 : m2.2.1 1 3 = m2.2.1 65 4 ∧ (m2.2.1 1 3 = 0 ∨ m2.2.1 1 3 = 1) := ⟨by rw [e13, e65], by rw [e13]; exact hx⟩
  rcases H with ⟨rfl, rfl, rfl, rfl, rfl, rfl⟩ | ⟨rfl, rfl, rfl, rfl, rfl, rfl⟩
  · have e67 : m2.2.1 67 = μ.2.1 67 := by rw [er 67 (by decide) (by decide) (by decide), r67]
    refine ⟨⟨hs2, h2.same (fun k hk => by rw [ep k (by unfold mp at hk; omega), r67])⟩, by rw [e67]; exact h2, c2, ?_, ?_, fl2, lt2⟩
    · exact nmk (Or.inl ⟨rfl, rfl⟩) (scp.nm (Or.inl ⟨rfl, rfl, rfl, rfl⟩) g n39 (fun i _ => rfl)) (fun i hi => by rw [ep i (by unfold lp at hi; omega), r67])
    · rw [e67]
      refine nmk (Or.inr ⟨rfl, rfl⟩) (n39.fr ?_ ?_ ?_ (fun k hk => ⟨?_, ?_, ?_, fun j _ => ?_⟩) (fun i _ => rfl)) (fun i _ => rfl)
      · rw [o 39 (by omega) (by omega) (by omega) (fun k hk => by omega)]
      · rw [o 39 (by omega) (by omega) (by omega) (fun k hk => by omega)]
      · rw [o (39 + 8) (by omega) (by omega) (by omega) (fun k hk => by omega), o (39 + 10) (by omega) (by omega) (by omega) (fun k hk => by omega), o (39 + 12) (by omega) (by omega) (by omega) (fun k hk => by omega)]; exact ⟨rfl, rfl, rfl⟩
      · rw [o _ (by omega) (by omega) (by omega) (fun k hk => by omega)]
      · rw [o _ (by omega) (by omega) (by omega) (fun k hk => by omega)]
      · exact g.2.1.2 _ 1 (by omega) (fun k hk => by omega)
      · rw [o _ (by omega) (by omega) (by omega) (fun k hk => by omega)]
  · have e66 : m2.2.1 66 = μ.2.1 66 := by rw [er 66 (by decide) (by decide) (by decide), r66]
    refine ⟨⟨hs2, by rw [e66]; exact h1⟩, h1.same (fun k hk => by rw [ep k (by unfold mp at hk; omega), r66]), c2, ?_, ?_, fl2, lt2⟩
    · rw [e66]
      refine nmk (Or.inl ⟨rfl, rfl⟩) (n15.fr ?_ ?_ ?_ (fun k hk => ⟨?_, ?_, ?_, fun j _ => ?_⟩) (fun i _ => rfl)) (fun i _ => rfl)
      · rw [o 15 (by omega) (by omega) (by omega) (fun k hk => by omega)]
      · rw [o 15 (by omega) (by omega) (by omega) (fun k hk => by omega)]
      · rw [o (15 + 8) (by omega) (by omega) (by omega) (fun k hk => by omega), o (15 + 10) (by omega) (by omega) (by omega) (fun k hk => by omega), o (15 + 12) (by omega) (by omega) (by omega) (fun k hk => by omega)]; exact ⟨rfl, rfl, rfl⟩
      · rw [o _ (by omega) (by omega) (by omega) (fun k hk => by omega)]
      · rw [o _ (by omega) (by omega) (by omega) (fun k hk => by omega)]
      · exact g.2.1.2 _ 1 (by omega) (fun k hk => by omega)
      · rw [o _ (by omega) (by omega) (by omega) (fun k hk => by omega)]
    · exact nmk (Or.inr ⟨rfl, rfl⟩) (scp.nm (Or.inr ⟨rfl, rfl, rfl, rfl⟩) g n15 (fun i _ => rfl)) (fun i hi => by rw [ep i (by unfold lp at hi; omega), r66])
theorem c_image {μ : gm_M} (h : CI μ) : gwI (f_X11_image 1 μ) (fun x m => ∃ m0 : gm_M, scp 39 15 53 29 μ m0 ∧ m = wI m0 1 3 1 ∧ x = μ.2.1 15 1) := by
  refine gwI_of ?_
  unfold f_X11_image
  have l1 : (1 : Int32).toInt = 1 := rfl
  have hg := h.1
  refine gw_gRa 39 (hg.c (r := 1) rfl) (hg.r (by decide)) ?_
  refine gw_gRa 15 (hg.c (r := 1) rfl) (hg.r (by decide)) ?_
  refine gw_if (hg.t (r := 39) rfl) ?_
  have HH : ((39 : Nat) = 15 ∧ (15 : Nat) = 39 ∧ (53 : Nat) = 29 ∧ (29 : Nat) = 53) ∨ ((39 : Nat) = 39 ∧ (15 : Nat) = 15 ∧ (53 : Nat) = 53 ∧ (29 : Nat) = 29) := Or.inr ⟨rfl, rfl, rfl, rfl⟩
  refine gw_bV (s_scopy hg HH) (fun m0 g => ?_)
  have hs := scp.gS HH hg g
  refine gw_pZw (hs.c (r := 1) rfl) (by omega) ?_
  refine gw_gRa 15 (hs.c (r := 1) rfl) (hs.r (by decide)) ?_
  refine gw_gIw (hs.c (r := 15) rfl) ?_
  exact gw_some (gq_I ⟨m0, g, rfl, by rw [wI_o _ _ _ _ (by decide), g.2.2.1 15 (by omega) (by omega) (by omega) (fun k hk => by omega)]⟩)
theorem m_image {μ : gm_M} (h : MI μ) : gwI (f_X12_image 65 μ) (fun y m => y = μ.2.1 66 26 ∧ m.1 = μ.1 ∧ m.2.2 = μ.2.2 ∧ (∀ r : Nat, r ≠ 67 → r ≠ 65 → m.2.1 r = μ.2.1 r) ∧ m.2.1 65 4 = 1 ∧ m.2.1 65 19 = μ.2.1 65 19 ∧ ∀ k : Nat, k < 925 → m.2.1 67 k = μ.2.1 66 k) := by
  refine gwI_of ?_
  unfold f_X12_image
  have l0 : (0 : Int32).toInt = 0 := rfl
  have l1 : (1 : Int32).toInt = 1 := rfl
  have l26 : (26 : Int32).toInt = 26 := rfl
  have l9 : (925 : Int32).toInt = 925 := rfl
  refine gw_loop (fun s => (0 ≤ s.1.toInt ∧ s.1.toInt ≤ 925) ∧ s.2.1 = μ.1 ∧ s.2.2.2 = μ.2.2 ∧ (∀ r : Nat, r ≠ 67 → s.2.2.1 r = μ.2.1 r) ∧ ∀ k : Nat, (k : Int) < s.1.toInt → s.2.2.1 67 k = μ.2.1 66 k) (fun s => 925 - s.1.toInt) (fun s ⟨h1, h2, h3, h4, h5⟩ => ?_) 5000 ((0 : Int32), μ) ⟨⟨by show 0 ≤ (0 : Int32).toInt; omega, by show (0 : Int32).toInt ≤ 925; omega⟩, rfl, rfl, fun _ _ => rfl, fun k hk => by have : (k : Int) < (0 : Int32).toInt := hk; omega⟩ (by show 925 - (0 : Int32).toInt < ((5000 : Nat) : Int); omega) (by show 0 ≤ 925 - (0 : Int32).toInt; omega)
  have hS : gS s.2 := h.1.same h2 h3
  refine gw_le (fun g => ?_) (fun g => ?_)
  · refine gw_pZw (hS.c (r := 65) rfl) (by omega) ?_
    refine gw_gRa 66 (hS.c (r := 65) rfl) (hS.r (by decide)) ?_
    refine gw_aIw 26 (hS.t (r := 66) rfl) (hS.l (r := 66) rfl) (by omega) (by omega) ?_
    rw [wI_o _ _ _ _ (by decide)]
    refine gw_some (gs_inr (gq_I ⟨by rw [h4 66 (by decide)], h2, h3, fun r r1 r2 => by rw [wI_o _ _ _ _ r2]; exact h4 r r1, wI_e _ _ _ _, by rw [wI_n _ _ _ _ (by decide), h4 65 (by decide)], fun k hk => by rw [wI_o _ _ _ _ (by decide)]; exact h5 k (by omega)⟩))
  · refine gw_gRa 67 (hS.c (r := 65) rfl) (hS.r (by decide)) ?_
    refine gw_gRa 66 (hS.c (r := 65) rfl) (hS.r (by decide)) ?_
    refine gw_aIw s.1.toInt.toNat (hS.t (r := 66) rfl) (hS.l (r := 66) rfl) (by omega) (by omega) ?_
    refine gw_sIw s.1.toInt.toNat (hS.t (r := 67) rfl) (hS.l (r := 67) rfl) (by omega) (by omega) ?_
    have n : (s.1 + (1 : Int32)).toInt = s.1.toInt + (1 : Int32).toInt := gx_add (by omega) (by omega)
    refine gw_some (gs_inl ⟨⟨by show 0 ≤ (s.1 + (1 : Int32)).toInt; omega, by show (s.1 + (1 : Int32)).toInt ≤ 925; omega⟩, h2, h3, fun r hr => (wI_o _ _ _ _ hr).trans (h4 r hr), fun k hk => ?_⟩ (by show 925 - (s.1 + (1 : Int32)).toInt < 925 - s.1.toInt; omega) (by show 0 ≤ 925 - (s.1 + (1 : Int32)).toInt; omega))
    have hk : (k : Int) < (s.1 + (1 : Int32)).toInt := hk
    show (wI s.2 67 s.1.toInt.toNat _).2.1 67 k = _
    by_cases e : k = s.1.toInt.toNat
    · subst e; rw [wI_e, h4 66 (by decide)]
    · rw [wI_n _ _ _ _ e]; exact h5 k (by omega)
theorem p_image {μ : gm_M} (h : ALL μ) : gwI (f_X11_image 1 μ) (fun x m => gwI (f_X12_image 65 m) (fun y m2 => y = x ∧ ALL m2)) := by
  have E26 : μ.2.1 15 1 = μ.2.1 66 26 := h.2.2.2.1.1.2.1
  refine gwI_mono (c_image h.2.2.1) (fun x m ⟨m0, g, em, hx⟩ => ?_)
  have HH : ((39 : Nat) = 15 ∧ (15 : Nat) = 39 ∧ (53 : Nat) = 29 ∧ (29 : Nat) = 53) ∨ ((39 : Nat) = 39 ∧ (15 : Nat) = 15 ∧ (53 : Nat) = 53 ∧ (29 : Nat) = 29) := Or.inr ⟨rfl, rfl, rfl, rfl⟩
  have hs := scp.gS HH h.1.1 g
  have r66 : m0.2.1 66 = μ.2.1 66 := g.2.2.1 66 (by omega) (by omega) (by omega) (fun k hk => by omega)
  subst em
  have hM : MI (wI m0 1 3 1) := ⟨hs, by rw [wI_o _ _ _ _ (by decide), r66]; exact h.1.2⟩
  refine gwI_mono (m_image hM) (fun y m2 ⟨hy, e1, e2, er, e4, e19, ek⟩ => ?_)
  refine ⟨by rw [hy, hx, wI_o _ _ _ _ (by decide), r66, E26], A_scp (s := 39) (t := 15) (c := 53) (d := 29) (p := 67) (q := 66) (x := 1) (Or.inr ⟨rfl, rfl, rfl, rfl, rfl, rfl⟩) h (Or.inr rfl) g e1 e2 (fun r r1 r2 r3 => by rw [er r r1 r3, wI_o _ _ _ _ r2]) ?_ e4 ?_ (fun k hk => by rw [ek k hk, wI_o _ _ _ _ (by decide)])⟩
  · rw [er 1 (by decide) (by decide), wI_e]
  · rw [e19, wI_o _ _ _ _ (by decide)]
theorem m_undo {μ : gm_M} (h : gS μ) (h1 : ¬ μ.2.1 65 4 = 0) : gwI (f_X12_undo 65 μ) (fun y m => y = μ.2.1 67 26 ∧ m.1 = μ.1 ∧ m.2.2 = μ.2.2 ∧ (∀ r : Nat, r ≠ 66 → m.2.1 r = μ.2.1 r) ∧ ∀ k : Nat, k < 925 → m.2.1 66 k = μ.2.1 67 k) := by
  refine gwI_of ?_
  unfold f_X12_undo
  have l0 : (0 : Int32).toInt = 0 := rfl
  have l1 : (1 : Int32).toInt = 1 := rfl
  have l26 : (26 : Int32).toInt = 26 := rfl
  have l9 : (925 : Int32).toInt = 925 := rfl
  refine gw_gIw (h.c (r := 65) rfl) ?_
  refine gw_if h1 ?_
  refine gw_loop (fun s => (0 ≤ s.1.toInt ∧ s.1.toInt ≤ 925) ∧ s.2.1 = μ.1 ∧ s.2.2.2 = μ.2.2 ∧ (∀ r : Nat, r ≠ 66 → s.2.2.1 r = μ.2.1 r) ∧ ∀ k : Nat, (k : Int) < s.1.toInt → s.2.2.1 66 k = μ.2.1 67 k) (fun s => 925 - s.1.toInt) (fun s ⟨h1, h2, h3, h4, h5⟩ => ?_) 5000 ((0 : Int32), μ) ⟨⟨by show 0 ≤ (0 : Int32).toInt; omega, by show (0 : Int32).toInt ≤ 925; omega⟩, rfl, rfl, fun _ _ => rfl, fun k hk => by have : (k : Int) < (0 : Int32).toInt := hk; omega⟩ (by show 925 - (0 : Int32).toInt < ((5000 : Nat) : Int); omega) (by show 0 ≤ 925 - (0 : Int32).toInt; omega)
  have hS : gS s.2 := h.same h2 h3
  refine gw_le (fun g => ?_) (fun g => ?_)
  · refine gw_gRa 66 (hS.c (r := 65) rfl) (hS.r (by decide)) ?_
    refine gw_aIw 26 (hS.t (r := 66) rfl) (hS.l (r := 66) rfl) (by omega) (by omega) ?_
    exact gw_some (gs_inr (gq_I ⟨h5 26 (by omega), h2, h3, h4, fun k hk => h5 k (by omega)⟩))
  · refine gw_gRa 66 (hS.c (r := 65) rfl) (hS.r (by decide)) ?_
    refine gw_gRa 67 (hS.c (r := 65) rfl) (hS.r (by decide)) ?_
    refine gw_aIw s.1.toInt.toNat (hS.t (r := 67) rfl) (hS.l (r := 67) rfl) (by omega) (by omega) ?_
    refine gw_sIw s.1.toInt.toNat (hS.t (r := 66) rfl) (hS.l (r := 66) rfl) (by omega) (by omega) ?_
    have n : (s.1 + (1 : Int32)).toInt = s.1.toInt + (1 : Int32).toInt := gx_add (by omega) (by omega)
    refine gw_some (gs_inl ⟨⟨by show 0 ≤ (s.1 + (1 : Int32)).toInt; omega, by show (s.1 + (1 : Int32)).toInt ≤ 925; omega⟩, h2, h3, fun r hr => (wI_o _ _ _ _ hr).trans (h4 r hr), fun k hk => ?_⟩ (by show 925 - (s.1 + (1 : Int32)).toInt < 925 - s.1.toInt; omega) (by show 0 ≤ 925 - (s.1 + (1 : Int32)).toInt; omega))
    have hk : (k : Int) < (s.1 + (1 : Int32)).toInt := hk
    show (wI s.2 66 s.1.toInt.toNat _).2.1 66 k = _
    by_cases e : k = s.1.toInt.toNat
    · subst e; rw [wI_e, h4 67 (by decide)]
    · rw [wI_n _ _ _ _ e]; exact h5 k (by omega)
theorem p_undo {μ : gm_M} (h : ALL μ) : gwI (f_X11_undo 1 μ) (fun x m => gwI (f_X12_undo 65 m) (fun y m2 => y = x ∧ ALL m2)) := by
  have hg := h.1.1
  have fl := h.2.2.2.2.2.1
  have N39 : μ.2.1 39 1 = μ.2.1 67 26 := h.2.2.2.2.1.1.2.1
  refine gwI_of ?_
  unfold f_X11_undo
  refine gw_gIw (hg.c (r := 1) rfl) ?_
  refine gw_ite (fun g => ?_) (fun g => ?_)
  · refine gw_gRa 15 (hg.c (r := 1) rfl) (hg.r (by decide)) ?_
    refine gw_gRa 39 (hg.c (r := 1) rfl) (hg.r (by decide)) ?_
    refine gw_if (hg.t (r := 15) rfl) ?_
    have HH : ((15 : Nat) = 15 ∧ (39 : Nat) = 39 ∧ (29 : Nat) = 29 ∧ (53 : Nat) = 53) ∨ ((15 : Nat) = 39 ∧ (39 : Nat) = 15 ∧ (29 : Nat) = 53 ∧ (53 : Nat) = 29) := Or.inl ⟨rfl, rfl, rfl, rfl⟩
    refine gw_bV (s_scopy hg HH) (fun m0 s => ?_)
    have hs := scp.gS HH hg s
    have r67 : m0.2.1 67 = μ.2.1 67 := s.2.2.1 67 (by omega) (by omega) (by omega) (fun k hk => by omega)
    have r65 : m0.2.1 65 = μ.2.1 65 := s.2.2.1 65 (by omega) (by omega) (by omega) (fun k hk => by omega)
    have r1 : m0.2.1 1 = μ.2.1 1 := s.2.2.1 1 (by omega) (by omega) (by omega) (fun k hk => by omega)
    refine gw_gRa 15 (hs.c (r := 1) rfl) (hs.r (by decide)) ?_
    refine gw_gIw (hs.c (r := 15) rfl) ?_
    refine gw_some (gq_I ?_)
    refine gwI_mono (m_undo hs (by rw [r65, ← fl.1]; exact g)) (fun y m2 ⟨hy, e1, e2, er, ek⟩ => ?_)
    refine ⟨by rw [hy, r67, s.2.2.2.1.2.1, N39], A_scp (s := 15) (t := 39) (c := 29) (d := 53) (p := 66) (q := 67) (x := μ.2.1 1 3) (Or.inl ⟨rfl, rfl, rfl, rfl, rfl, rfl⟩) h fl.2 s e1 e2 (fun r r1 _ _ => er r r1) (by rw [er 1 (by decide), r1]) (by rw [er 65 (by decide), r65, fl.1]) (by rw [er 65 (by decide)]) ek⟩
  · have g0 : μ.2.1 1 3 = 0 := Classical.byContradiction (fun q => g q)
    refine gw_some (gq_I ?_)
    refine gwI_of ?_
    unfold f_X12_undo
    refine gw_gIw (hg.c (r := 65) rfl) ?_
    rw [← fl.1, if_neg (fun q => q g0)]
    exact gw_some (gq_I ⟨rfl, h⟩)
end
