/-! the class's reader: all that it writes -/
def BS (A n : Nat) (tx : Nat → Int32) (μ : gm_M) : Prop := gS μ ∧ 75 ≤ A ∧ (μ.1[A]? = some (5, 10) ∧ μ.1[A + 1]? = some (1, 10) ∧ μ.1[A + 2]? = some (1, 10) ∧ μ.1[A + 3]? = some (1, 100)) ∧ (μ.2.2 A 3 = A + 1 ∧ μ.2.2 A 4 = A + 2 ∧ μ.2.2 A 5 = A + 3 ∧ μ.2.2 A 7 = 17) ∧ n ≤ 100 ∧ μ.2.1 A 8 = Int32.ofNat n ∧ (∀ i : Nat, i < n → μ.2.1 17 i = tx i) ∧ ∀ i : Nat, 0 ≤ (tx i).toInt ∧ (tx i).toInt ≤ 127
/-- step of the reference to step of the class -/
def cv (s : Int32) : Int32 := if s.toInt < 0 then s else 1000 * (s % 8) + 100 * (s / 8 % 4) + s / 32
def cst (A n : Nat) (μ : gm_M) (p : Nat) (C : List Int32) (m : gm_M) : Prop := (m.1 = μ.1 ∧ m.2.2 = μ.2.2 ∧ (∀ r : Nat, r ≠ A → r ≠ A + 3 → m.2.1 r = μ.2.1 r) ∧ ∀ j : Nat, j ≠ 6 → j ≠ 9 → m.2.1 A j = μ.2.1 A j) ∧ p ≤ n ∧ m.2.1 A 9 = Int32.ofNat p ∧ C.length ≤ 100 ∧ m.2.1 A 6 = Int32.ofNat C.length ∧ ∀ i : Nat, i < C.length → C[i]? = some (m.2.1 (A + 3) i)
theorem ofn {k : Nat} (h : k ≤ 1000000) : (Int32.ofNat k).toInt = k := Int32.toInt_ofNat_of_lt (by omega)
theorem ofn1 {k : Nat} (h : k ≤ 1000000) : Int32.ofNat k + 1 = Int32.ofNat (k + 1) := by
  apply Int32.toInt_inj.mp
  have l1 : (1 : Int32).toInt = 1 := rfl
  have a := ofn h
  rw [gx_add (by omega) (by omega), a, show (Int32.ofNat (k + 1)).toInt = ((k + 1 : Nat) : Int) from Int32.toInt_ofNat_of_lt (by omega), l1]
  rfl
section
variable {A n p : Nat} {tx : Nat → Int32} {μ m : gm_M} {C : List Int32}
theorem cst.S (b : BS A n tx μ) (c : cst A n μ p C m) : gS m := b.1.same c.1.1 c.1.2.1
theorem cst.t (b : BS A n tx μ) (c : cst A n μ p C m) : gm_tag m A = 5 := by unfold gm_tag; rw [c.1.1, b.2.2.1.1]
theorem cst.tc (b : BS A n tx μ) (c : cst A n μ p C m) : [5].contains (gm_tag m A) = true := by rw [cst.t b c]; rfl
theorem cst.r7 (b : BS A n tx μ) (c : cst A n μ p C m) : m.2.2 A 7 = 17 := by rw [c.1.2.1]; exact b.2.2.2.1.2.2.2
theorem cst.r5 (b : BS A n tx μ) (c : cst A n μ p C m) : m.2.2 A 5 = A + 3 := by rw [c.1.2.1]; exact b.2.2.2.1.2.2.1
theorem cst.t3 (b : BS A n tx μ) (c : cst A n μ p C m) : gm_tag m (A + 3) = 1 := by unfold gm_tag; rw [c.1.1, b.2.2.1.2.2.2]
theorem cst.l3 (b : BS A n tx μ) (c : cst A n μ p C m) : gm_len m (A + 3) = 100 := by unfold gm_len; rw [c.1.1, b.2.2.1.2.2.2]
theorem cst.e8 (b : BS A n tx μ) (c : cst A n μ p C m) : m.2.1 A 8 = Int32.ofNat n := by rw [c.1.2.2.2 8 (by decide) (by decide)]; exact b.2.2.2.2.2.1
theorem cst.e9 (c : cst A n μ p C m) : m.2.1 A 9 = Int32.ofNat p := c.2.2.1
theorem cst.e6 (c : cst A n μ p C m) : m.2.1 A 6 = Int32.ofNat C.length := c.2.2.2.2.1
theorem cst.txt (b : BS A n tx μ) (c : cst A n μ p C m) {i : Nat} (h : i < n) : m.2.1 17 i = tx i := by
  have := b.2.1
  rw [c.1.2.2.1 17 (by omega) (by omega)]; exact b.2.2.2.2.2.2.1 i h
theorem cst.refl (h : p ≤ n) (h9 : μ.2.1 A 9 = Int32.ofNat p) (hC : C.length ≤ 100) (h6 : μ.2.1 A 6 = Int32.ofNat C.length) (hc : ∀ i : Nat, i < C.length → C[i]? = some (μ.2.1 (A + 3) i)) : cst A n μ p C μ := ⟨⟨rfl, rfl, fun _ _ _ => rfl, fun _ _ _ => rfl⟩, h, h9, hC, h6, hc⟩
theorem cst.at (c : cst A n μ p C m) {q : Nat} (h : q ≤ n) : cst A n μ q C (wI m A 9 (Int32.ofNat q)) := by
  obtain ⟨⟨c1, c2, c3, c4⟩, c5, c6, c7, c8, c9⟩ := c
  exact ⟨⟨c1, c2, fun r r1 r2 => (wI_o _ _ _ _ r1).trans (c3 r r1 r2), fun j j1 j2 => (wI_n _ _ _ _ j2).trans (c4 j j1 j2)⟩, h, wI_e _ _ _ _, c7, (wI_n _ _ _ _ (by decide)).trans c8, fun i hi => by rw [wI_o _ _ _ _ (by omega)]; exact c9 i hi⟩
theorem cst.push (c : cst A n μ p C m) (h : C.length < 100) (x : Int32) : cst A n μ p (C ++ [x]) (wI (wI m (A + 3) C.length x) A 6 (Int32.ofNat (C.length + 1))) := by
  obtain ⟨⟨c1, c2, c3, c4⟩, c5, c6, c7, c8, c9⟩ := c
  refine ⟨⟨c1, c2, fun r r1 r2 => ?_, fun j j1 j2 => ?_⟩, c5, ?_, by rw [List.length_append, List.length_singleton]; omega, ?_, fun i hi => ?_⟩
  · rw [wI_o _ _ _ _ r1, wI_o _ _ _ _ r2]; exact c3 r r1 r2
  · rw [wI_n _ _ _ _ j1, wI_o _ _ _ _ (by omega)]; exact c4 j j1 j2
  · rw [wI_n _ _ _ _ (by decide), wI_o _ _ _ _ (by omega)]; exact c6
  · rw [wI_e, List.length_append, List.length_singleton]
  · rw [List.length_append, List.length_singleton] at hi
    rw [wI_o _ _ _ _ (by omega)]
    by_cases e : i = C.length
    · subst e
      rw [wI_e, List.getElem?_append_right (Nat.le_refl _), Nat.sub_self]; rfl
    · rw [wI_n _ _ _ _ e, List.getElem?_append_left (by omega)]
      exact c9 i (by omega)
theorem v_next (b : BS A n tx μ) (c : cst A n μ p C m) : gwI (f_X0_next A m) (fun x m' => x = pd tx n p ∧ m' = m) := by
  refine gwI_of ?_
  unfold f_X0_next
  have hp := c.2.1
  have hn := b.2.2.2.2.1
  have l0 : (0 : Int32).toInt = 0 := rfl
  have op : (Int32.ofNat p).toInt = p := ofn (by omega)
  have on : (Int32.ofNat n).toInt = n := ofn (by omega)
  refine gw_gIw (c.tc b) ?_
  rw [c.e9]
  refine gw_lt (fun g => by omega) (fun _ => ?_)
  refine gw_gIw (c.tc b) ?_
  refine gw_gIw (c.tc b) ?_
  rw [c.e9, c.e8 b]
  refine gw_le (fun g => gw_some (gq_I ⟨?_, rfl⟩)) (fun g => ?_)
  · unfold pd; rw [if_neg (by omega)]
  · refine gw_gRa 17 (c.tc b) (c.r7 b) ?_
    refine gw_gIw (c.tc b) ?_
    rw [c.e9]
    refine gw_aIw p ((c.S b).t (r := 17) rfl) ((c.S b).l (r := 17) rfl) op (by omega) ?_
    refine gw_some (gq_I ⟨?_, rfl⟩)
    unfold pd
    rw [if_pos (by omega)]
    exact c.txt b (by omega)
theorem v_take (b : BS A n tx μ) (c : cst A n μ p C m) {a : Int32} (ha : a ≠ -1) : gwI (f_X0_take A a m) (fun x m' => (x = 1 ∧ pd tx n p = a ∧ cst A n μ (p + 1) C m') ∨ (x = 0 ∧ pd tx n p ≠ a ∧ m' = m)) := by
  refine gwI_of ?_
  unfold f_X0_take
  have hn := b.2.2.2.2.1
  have hp := c.2.1
  refine gw_if (c.t b) ?_
  refine gw_bI (v_next b c) (fun x m' ⟨ex, em⟩ => ?_)
  subst em
  refine gw_ite (fun g => ?_) (fun g => ?_)
  · have q : p < n := pd_lt (tx := tx) (by rw [← ex, g]; exact ha)
    refine gw_gIw (c.tc b) ?_
    refine gw_pIw (c.tc b) ?_
    rw [c.e9, ofn1 (by omega)]
    exact gw_z Iff.rfl (Or.inr rfl) (gq_I (Or.inl ⟨rfl, by rw [← ex, g], c.at (by omega)⟩))
  · exact gw_z Iff.rfl (Or.inl rfl) (gq_I (Or.inr ⟨rfl, by rw [← ex]; exact g, rfl⟩))
theorem v_number (b : BS A n tx μ) (c : cst A n μ p C m) : gwI (f_X0_readNumber A m) (fun x m' => x = (if (pN tx n p).1 = true then (pN tx n p).2.2 else -1) ∧ cst A n μ (pN tx n p).2.1 C m') := by
  refine gwI_of ?_
  unfold f_X0_readNumber
  have hn := b.2.2.2.2.1
  have hp := c.2.1
  have gN := pN_g (tx := tx) c.2.1
  have l48 : (48 : Int32).toInt = 48 := rfl
  have l57 : (57 : Int32).toInt = 57 := rfl
  have lm : (-1 : Int32).toInt = -1 := rfl
  have dn : ∀ x : Int32, 48 ≤ x.toInt → x.toInt ≤ 57 → dg x = true := fun x h1 h2 => decide_eq_true ⟨h1, h2⟩
  have dz : ∀ x : Int32, (x.toInt < 48 ∨ 57 < x.toInt) → dg x = false := fun x h1 => decide_eq_false (by omega)
  refine gw_if (c.t b) ?_
  refine gw_bI (v_next b c) (fun x m' ⟨ex, em⟩ => ?_)
  subst em
  refine gw_lt (fun g => ?_) (fun g => ?_)
  · have e : pN tx n p = (false, p, -1) := by unfold pN; rw [if_neg (by rw [← ex, dz x (Or.inl g)]; decide)]
    rw [e]
    exact gw_some (gq_I ⟨rfl, c⟩)
  · refine gw_le (fun g2 => ?_) (fun g2 => ?_)
    · have d1 : dg (pd tx n p) = true := by rw [← ex]; exact dn x g g2
      have q : p < n := pd_lt (tx := tx) (fun e => by rw [← ex] at e; rw [e] at g; omega)
      refine gw_gIw (c.tc b) ?_
      refine gw_pIw (c.tc b) ?_
      rw [c.e9, ofn1 (by omega)]
      have c1 := c.at (q := p + 1) (by omega)
      generalize wI m' A 9 (Int32.ofNat (p + 1)) = m1 at *
      refine gw_if (c1.t b) ?_
      refine gw_bI (v_next b c1) (fun y m2 ⟨ey, em⟩ => ?_)
      subst em
      have fin : (x = 48 ∨ y.toInt < 48 ∨ 57 < y.toInt) → gw (some (some (.int (x - (48 : Int32))), m2)) (gqI (fun x m' => x = (if (pN tx n p).1 = true then (pN tx n p).2.2 else -1) ∧ cst A n μ (pN tx n p).2.1 C m')) := fun hc => by
        have e : pN tx n p = (true, p + 1, pd tx n p - 48) := by
          unfold pN
          rw [if_pos d1, if_pos]
          rcases hc with h | h
          · exact Or.inl (by rw [← ex]; exact h)
          · exact Or.inr (by rw [← ey]; exact dz y h)
        rw [e, ← ex]
        exact gw_some (gq_I ⟨rfl, c1⟩)
      refine gw_ji ?_
      refine gw_ite (fun g3 => fin (Or.inl g3)) (fun g3 => ?_)
      refine gw_lt (fun g4 => fin (Or.inr (Or.inl g4))) (fun g4 => ?_)
      refine gw_le (fun g5 => ?_) (fun g5 => fin (Or.inr (Or.inr g5)))
      have q2 : p + 1 < n := pd_lt (tx := tx) (fun e => by rw [← ey] at e; rw [e] at g4; omega)
      refine gw_gIw (c1.tc b) ?_
      refine gw_pIw (c1.tc b) ?_
      rw [c1.e9, ofn1 (by omega)]
      have e : pN tx n p = (true, p + 2, 10 * (pd tx n p - 48) + pd tx n (p + 1) - 48) := by
        unfold pN
        rw [if_pos d1, if_neg]
        intro h
        rcases h with h | h
        · exact g3 (by rw [ex]; exact h)
        · rw [← ey, dn y g4 g5] at h; cases h
      rw [e, ← ex, ← ey]
      exact gw_some (gq_I ⟨rfl, c1.at (q := p + 2) (by omega)⟩)
    · have e : pN tx n p = (false, p, -1) := by unfold pN; rw [if_neg (by rw [← ex, dz x (Or.inr g2)]; decide)]
      rw [e]
      exact gw_some (gq_I ⟨rfl, c⟩)
theorem v_put (b : BS A n tx μ) (c : cst A n μ p C m) (h : C.length < 100) (x : Int32) : gwV (f_X0_put A x m) (fun m' => cst A n μ p (C ++ [x]) m') := by
  refine gwV_of ?_
  unfold f_X0_put
  have l100 : (100 : Int32).toInt = 100 := rfl
  have oC : (Int32.ofNat C.length).toInt = C.length := ofn (by omega)
  refine gw_gIw (c.tc b) ?_
  rw [c.e6]
  refine gw_lt (fun _ => ?_) (fun g => by omega)
  refine gw_gRa (A + 3) (c.tc b) (c.r5 b) ?_
  refine gw_gIw (c.tc b) ?_
  rw [c.e6]
  refine gw_sIw C.length (c.t3 b) (c.l3 b) oC h ?_
  have tc2 : [5].contains (gm_tag (wI m (A + 3) C.length x) A) = true := (show [5].contains (gm_tag m A) = true from c.tc b)
  refine gw_gIw tc2 ?_
  refine gw_pIw tc2 ?_
  rw [wI_o _ _ _ _ (by omega), c.e6, ofn1 (by omega)]
  exact gw_some (gq_V (c.push h x))
end
