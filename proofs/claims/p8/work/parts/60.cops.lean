/-! the class's changes, place by place -/
def wI (μ : gm_M) (r j : Nat) (x : Int32) : gm_M := (μ.1, gm_u μ.2.1 r j x, μ.2.2)
theorem wI_1 (μ : gm_M) (r j : Nat) (x : Int32) : (wI μ r j x).1 = μ.1 := rfl
theorem wI_2 (μ : gm_M) (r j : Nat) (x : Int32) : (wI μ r j x).2.2 = μ.2.2 := rfl
theorem wI_o (μ : gm_M) (r j : Nat) (x : Int32) {q : Nat} (h : q ≠ r) : (wI μ r j x).2.1 q = μ.2.1 q := gu_row h
theorem wI_n (μ : gm_M) (r j : Nat) (x : Int32) {k : Nat} (h : k ≠ j) : (wI μ r j x).2.1 r k = μ.2.1 r k := gu_ne h
theorem wI_e (μ : gm_M) (r j : Nat) (x : Int32) : (wI μ r j x).2.1 r j = x := gu_eq
theorem wI_t (μ : gm_M) (r j : Nat) (x : Int32) (q : Nat) : gm_tag (wI μ r j x) q = gm_tag μ q := rfl
theorem wI_l (μ : gm_M) (r j : Nat) (x : Int32) (q : Nat) : gm_len (wI μ r j x) q = gm_len μ q := rfl
theorem gS.wI {μ : gm_M} (h : gS μ) (r j : Nat) (x : Int32) : gS (wI μ r j x) := h
theorem gw_pIw {β : Type} {μ : gm_M} {ks : List Nat} {r j : Nat} {x : Int32} {Q : β → Prop} {f : gm_M → Option β} (h : ks.contains (gm_tag μ r) = true) (k : gw (f (wI μ r j x)) Q) : gw (gm_pI μ ks r j x f) Q := gw_pI h (fun m e => by rw [e]; exact k)
theorem gw_pZw {β : Type} {μ : gm_M} {ks : List Nat} {r j : Nat} {x : Int32} {Q : β → Prop} {f : gm_M → Option β} (h : ks.contains (gm_tag μ r) = true) (hx : x.toInt = 0 ∨ x.toInt = 1) (k : gw (f (wI μ r j x)) Q) : gw (gm_pZ μ ks r j x f) Q := gw_pZ h hx (fun m e => by rw [e]; exact k)
theorem gw_sIw {β : Type} {μ : gm_M} {r n : Nat} {i x : Int32} {Q : β → Prop} {f : gm_M → Option β} (j : Nat) (t : gm_tag μ r = 1) (l : gm_len μ r = n) (hj : i.toInt = j) (h1 : j < n) (k : gw (f (wI μ r j x)) Q) : gw (gm_sI μ r i x f) Q :=
  gw_sI t l (by omega) (by omega) (fun m e => by
    have : i.toInt.toNat = j := by omega
    rw [this] at e
    rw [e]; exact k)
theorem gw_aIw {β : Type} {μ : gm_M} {r n : Nat} {i : Int32} {Q : β → Prop} {f : Int32 → Option β} (j : Nat) (t : gm_tag μ r = 1) (l : gm_len μ r = n) (hj : i.toInt = j) (h1 : j < n) (k : gw (f (μ.2.1 r j)) Q) : gw (gm_aI μ r i f) Q :=
  gw_aI t l (by omega) (by omega) (fun v e => by
    have : i.toInt.toNat = j := by omega
    rw [this] at e
    rw [e]; exact k)
theorem gw_gIw {β : Type} {μ : gm_M} {ks : List Nat} {r j : Nat} {Q : β → Prop} {f : Int32 → Option β} (h : ks.contains (gm_tag μ r) = true) (k : gw (f (μ.2.1 r j)) Q) : gw (gm_gI μ ks r j f) Q := gw_gI h (fun v e => by rw [e]; exact k)
/-- a row is added -/
def ad (μ : gm_M) (r : Nat) (a b c : Int32) : gm_M := wI (wI (wI (wI μ (r + 1) (3 * (μ.2.1 r 2).toInt.toNat) a) (r + 1) (3 * (μ.2.1 r 2).toInt.toNat + 1) b) (r + 1) (3 * (μ.2.1 r 2).toInt.toNat + 2) c) r 2 (μ.2.1 r 2 + 1)
theorem s_add {μ : gm_M} {r n : Nat} (L : Int) (ht : gm_tag μ r = 12) (hc : gm_tag μ (r + 1) = 1) (hl : gm_len μ (r + 1) = n) (hr : μ.2.2 r 1 = r + 1) (hL : (μ.2.1 r 0).toInt = L) (h0 : 0 ≤ (μ.2.1 r 2).toInt) (h1 : (μ.2.1 r 2).toInt ≤ 100000) (hn : 3 * L ≤ n) {a b c : Int32} : gwI (f_X7_add r a b c μ) (fun x m => x = μ.2.1 r 2 + 1 ∧ (((μ.2.1 r 2).toInt < L ∧ m = ad μ r a b c) ∨ (L ≤ (μ.2.1 r 2).toInt ∧ m = wI μ r 2 (μ.2.1 r 2 + 1)))) := by
  refine gwI_of ?_
  unfold f_X7_add
  have l1 : (1 : Int32).toInt = 1 := rfl
  have l2 : (2 : Int32).toInt = 2 := rfl
  have l3 : (3 : Int32).toInt = 3 := rfl
  have c12 : ∀ q : Nat, q = 12 → [12].contains q = true := fun q e => by rw [e]; rfl
  refine gw_gIw (c12 _ ht) ?_
  refine gw_gIw (c12 _ ht) ?_
  refine gw_ji ?_
  have fin : ∀ m : gm_M, m.1 = μ.1 → m.2.1 r 2 = μ.2.1 r 2 → (((μ.2.1 r 2).toInt < L ∧ wI m r 2 (μ.2.1 r 2 + 1) = ad μ r a b c) ∨ (L ≤ (μ.2.1 r 2).toInt ∧ wI m r 2 (μ.2.1 r 2 + 1) = wI μ r 2 (μ.2.1 r 2 + 1))) → gw (gm_gI m [12] r 2 (fun v5 => gm_pI m [12] r 2 (v5 + (1 : Int32)) (fun m6 => gm_gI m6 [12] r 2 (fun v7 => some (some (.int v7), m6))))) (gqI (fun x m => x = μ.2.1 r 2 + 1 ∧ (((μ.2.1 r 2).toInt < L ∧ m = ad μ r a b c) ∨ (L ≤ (μ.2.1 r 2).toInt ∧ m = wI μ r 2 (μ.2.1 r 2 + 1))))) := by
    intro m e1 e2 hd
    have t : gm_tag m r = 12 := by unfold gm_tag; rw [e1]; exact ht
    refine gw_gIw (c12 _ t) ?_
    refine gw_pIw (c12 _ t) ?_
    refine gw_gIw (c12 _ t) ?_
    rw [wI_e, e2]
    exact gw_some (gq_I ⟨rfl, hd⟩)
  refine gw_le (fun g => ?_) (fun g => ?_)
  · exact fin μ rfl rfl (Or.inr ⟨by omega, rfl⟩)
  · have hne : r ≠ r + 1 := by omega
    have nm : (μ.2.1 r 2 * (3 : Int32)).toInt = 3 * (μ.2.1 r 2).toInt := gx_mulr 3 rfl (by omega) (by omega)
    have n1 : (μ.2.1 r 2 * (3 : Int32) + (1 : Int32)).toInt = (μ.2.1 r 2 * (3 : Int32)).toInt + (1 : Int32).toInt := gx_add (by omega) (by omega)
    have n2 : (μ.2.1 r 2 * (3 : Int32) + (2 : Int32)).toInt = (μ.2.1 r 2 * (3 : Int32)).toInt + (2 : Int32).toInt := gx_add (by omega) (by omega)
    refine gw_gRa (r + 1) (c12 _ ht) hr ?_
    refine gw_gIw (c12 _ ht) ?_
    refine gw_sIw (3 * (μ.2.1 r 2).toInt.toNat) hc hl (by omega) (by omega) ?_
    refine gw_gRa (r + 1) (c12 _ ht) hr ?_
    refine gw_gIw (c12 _ ht) ?_
    rw [wI_o _ _ _ _ hne]
    refine gw_sIw (3 * (μ.2.1 r 2).toInt.toNat + 1) hc hl (by omega) (by omega) ?_
    refine gw_gRa (r + 1) (c12 _ ht) hr ?_
    refine gw_gIw (c12 _ ht) ?_
    rw [wI_o _ _ _ _ hne, wI_o _ _ _ _ hne]
    refine gw_sIw (3 * (μ.2.1 r 2).toInt.toNat + 2) hc hl (by omega) (by omega) ?_
    refine fin _ rfl ?_ (Or.inl ⟨by omega, rfl⟩)
    rw [wI_o _ _ _ _ hne, wI_o _ _ _ _ hne, wI_o _ _ _ _ hne]
theorem s_clear {μ : gm_M} {r : Nat} (ht : gm_tag μ r = 12) : gwI (f_X7_clear r μ) (fun x m => x = 0 ∧ m = wI μ r 2 0) := by
  refine gwI_of ?_
  unfold f_X7_clear
  refine gw_pIw (by rw [ht]; rfl) ?_
  exact gw_some (gq_I ⟨rfl, rfl⟩)
theorem s_isFull {μ : gm_M} {r : Nat} (ht : gm_tag μ r = 12) : gwI (f_X7_isFull r μ) (fun x m => m = μ ∧ ((x.toInt = 0 ∧ (μ.2.1 r 2).toInt < (μ.2.1 r 0).toInt) ∨ (x.toInt = 1 ∧ (μ.2.1 r 0).toInt ≤ (μ.2.1 r 2).toInt))) := by
  refine gwI_of ?_
  unfold f_X7_isFull
  have l0 : (0 : Int32).toInt = 0 := rfl
  have l1 : (1 : Int32).toInt = 1 := rfl
  refine gw_gIw (by rw [ht]; rfl) ?_
  refine gw_gIw (by rw [ht]; rfl) ?_
  refine gw_lt (fun g => ?_) (fun g => ?_)
  · exact gw_z Iff.rfl (by omega) (gq_I ⟨rfl, by omega⟩)
  · exact gw_z Iff.rfl (by omega) (gq_I ⟨rfl, by omega⟩)
/-- a child begins -/
theorem s_begin {μ : gm_M} (h : gS μ) {a kd : Nat} {v sw : Int32} (ha : isch a) : gwV (f_X2_begin a kd v sw μ) (fun m => m.1 = μ.1 ∧ m.2.2 = gm_u μ.2.2 a 1 kd ∧ (∀ r : Nat, r ≠ a → r ≠ a + 1 → m.2.1 r = μ.2.1 r) ∧ m.2.1 a 0 = μ.2.1 a 0 ∧ m.2.1 a 2 = v ∧ m.2.1 a 3 = 1 ∧ m.2.1 a 4 = sw ∧ m.2.1 a 5 = 0 ∧ m.2.1 a 6 = 0 ∧ m.2.1 a 7 = 0 ∧ ∀ j : Nat, j < 4 → m.2.1 (a + 1) j = 0) := by
  refine gwV_of ?_
  unfold f_X2_begin
  have l0 : (0 : Int32).toInt = 0 := rfl
  have l1 : (1 : Int32).toInt = 1 := rfl
  have ht : [7].contains (gm_tag μ a) = true := ict.c h (Or.inl ha)
  have htr : gm_tag μ (a + 1) = 1 := ict.rt h (Or.inl ha)
  have hlr : gm_len μ (a + 1) = 4 := ict.rl h (Or.inl ha)
  have hr8 : μ.2.2 a 8 = a + 1 := ict.row h (Or.inl ha)
  refine gw_pR ht (fun m1 e1 => ?_)
  subst e1
  refine gw_pIw ht ?_
  refine gw_pIw ht ?_
  refine gw_pIw ht ?_
  refine gw_pIw ht ?_
  refine gw_pIw ht ?_
  refine gw_pIw ht ?_
  generalize hM : wI (wI (wI (wI (wI (wI (μ.1, μ.2.1, gm_u μ.2.2 a 1 kd) a 2 v) a 3 1) a 4 sw) a 5 0) a 6 0) a 7 0 = M
  have M1 : M.1 = μ.1 := by rw [← hM]; rfl
  have M2 : M.2.2 = gm_u μ.2.2 a 1 kd := by rw [← hM]; rfl
  have Mo : ∀ r : Nat, r ≠ a → M.2.1 r = μ.2.1 r := fun r hr => by
    rw [← hM, wI_o _ _ _ _ hr, wI_o _ _ _ _ hr, wI_o _ _ _ _ hr, wI_o _ _ _ _ hr, wI_o _ _ _ _ hr, wI_o _ _ _ _ hr]
  have Mn : M.2.1 a 0 = μ.2.1 a 0 := by
    rw [← hM, wI_n _ _ _ _ (by decide), wI_n _ _ _ _ (by decide), wI_n _ _ _ _ (by decide), wI_n _ _ _ _ (by decide), wI_n _ _ _ _ (by decide), wI_n _ _ _ _ (by decide)]
  have M7 : M.2.1 a 7 = 0 := by rw [← hM, wI_e]
  have M6 : M.2.1 a 6 = 0 := by rw [← hM, wI_n _ _ _ _ (by decide), wI_e]
  have M5 : M.2.1 a 5 = 0 := by rw [← hM, wI_n _ _ _ _ (by decide), wI_n _ _ _ _ (by decide), wI_e]
  have M4 : M.2.1 a 4 = sw := by rw [← hM, wI_n _ _ _ _ (by decide), wI_n _ _ _ _ (by decide), wI_n _ _ _ _ (by decide), wI_e]
  have M3 : M.2.1 a 3 = 1 := by rw [← hM, wI_n _ _ _ _ (by decide), wI_n _ _ _ _ (by decide), wI_n _ _ _ _ (by decide), wI_n _ _ _ _ (by decide), wI_e]
  have Mv : M.2.1 a 2 = v := by rw [← hM, wI_n _ _ _ _ (by decide), wI_n _ _ _ _ (by decide), wI_n _ _ _ _ (by decide), wI_n _ _ _ _ (by decide), wI_n _ _ _ _ (by decide), wI_e]
  clear hM
  refine gw_loop (fun s => (0 ≤ s.1.toInt ∧ s.1.toInt ≤ 4) ∧ s.2.1 = M.1 ∧ s.2.2.2 = M.2.2 ∧ (∀ r : Nat, r ≠ a + 1 → s.2.2.1 r = M.2.1 r) ∧ ∀ j : Nat, (j : Int) < s.1.toInt → s.2.2.1 (a + 1) j = 0) (fun s => 4 - s.1.toInt) (fun s ⟨g1, g2, g3, g4, g5⟩ => ?_) 5000 ((0 : Int32), M) ⟨⟨by show 0 ≤ (0 : Int32).toInt; omega, by show (0 : Int32).toInt ≤ 4; omega⟩, rfl, rfl, fun _ _ => rfl, fun j hj => by have : (j : Int) < (0 : Int32).toInt := hj; omega⟩ (by show 4 - (0 : Int32).toInt < ((5000 : Nat) : Int); omega) (by show 0 ≤ 4 - (0 : Int32).toInt; omega)
  have t7 : [7].contains (gm_tag s.2 a) = true := by unfold gm_tag; rw [g2, M1]; exact ht
  have t1 : gm_tag s.2 (a + 1) = 1 := by unfold gm_tag; rw [g2, M1]; exact htr
  have tl : gm_len s.2 (a + 1) = 4 := by unfold gm_len; rw [g2, M1]; exact hlr
  have t8 : s.2.2.2 a 8 = a + 1 := by rw [g3, M2, gu_ne (by decide)]; exact hr8
  refine gw_gRa (a + 1) t7 t8 ?_
  refine gw_al t1 tl ?_
  have lo : (Int32.ofNat 4).toInt = 4 := rfl
  refine gw_le (fun g => ?_) (fun g => ?_)
  · refine gw_some (gs_inr (gq_V ⟨g2.trans M1, g3.trans M2, fun r r1 r2 => (g4 r r2).trans (Mo r r1), ?_, ?_, ?_, ?_, ?_, ?_, ?_, fun j hj => g5 j (by omega)⟩))
    · rw [g4 a (by omega)]; exact Mn
    · rw [g4 a (by omega)]; exact Mv
    · rw [g4 a (by omega)]; exact M3
    · rw [g4 a (by omega)]; exact M4
    · rw [g4 a (by omega)]; exact M5
    · rw [g4 a (by omega)]; exact M6
    · rw [g4 a (by omega)]; exact M7
  · refine gw_gRa (a + 1) t7 t8 ?_
    refine gw_sIw s.1.toInt.toNat t1 tl (by omega) (by omega) ?_
    have n : (s.1 + (1 : Int32)).toInt = s.1.toInt + (1 : Int32).toInt := gx_add (by omega) (by omega)
    refine gw_some (gs_inl ⟨⟨by show 0 ≤ (s.1 + (1 : Int32)).toInt; omega, by show (s.1 + (1 : Int32)).toInt ≤ 4; omega⟩, g2, g3, fun r hr => (wI_o _ _ _ _ hr).trans (g4 r hr), fun j hj => ?_⟩ (by show 4 - (s.1 + (1 : Int32)).toInt < 4 - s.1.toInt; omega) (by show 0 ≤ 4 - (s.1 + (1 : Int32)).toInt; omega))
    have hj : (j : Int) < (s.1 + (1 : Int32)).toInt := hj
    show (wI s.2 (a + 1) s.1.toInt.toNat 0).2.1 (a + 1) j = 0
    by_cases e : j = s.1.toInt.toNat
    · subst e; rw [wI_e]
    · rw [wI_n _ _ _ _ e]; exact g5 j (by omega)
