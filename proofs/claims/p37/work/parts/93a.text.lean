section
/-! the text's reader as a function of the text: tx its signs, n how many; an answer: goes it on, the place, the steps -/
def pd (tx : Nat → Int32) (n p : Nat) : Int32 := if p < n then tx p else -1
abbrev pA : Type := Bool × Nat × List Int32
def pW (tx : Nat → Int32) (n : Nat) (u : UInt32) : Nat → Nat → Bool × Nat
  | 0, p => (true, p)
  | k + 1, p => if pd tx n p = gm_bb (u + 6) (gm_bn (u + 6) - (k + 1)) then pW tx n u k (p + 1) else (false, p)
def dg (x : Int32) : Bool := decide (48 ≤ x.toInt ∧ x.toInt ≤ 57)
def pN (tx : Nat → Int32) (n p : Nat) : Bool × Nat × Int32 :=
  if dg (pd tx n p) = true then
    if pd tx n p = 48 ∨ dg (pd tx n (p + 1)) = false then (true, p + 1, pd tx n p - 48)
    else (true, p + 2, 10 * (pd tx n p - 48) + pd tx n (p + 1) - 48)
  else (false, p, -1)
def pOi (u : UInt32) (x : Int32) : Nat → Nat → Int32
  | 0, _ => -1
  | k + 1, i => if x = gm_bb (u + 6) i then Int32.ofNat i else pOi u x k (i + 1)
def pO (u : UInt32) (x : Int32) : Int32 := pOi u x (gm_bn (u + 6)) 0
def pT (tx : Nat → Int32) (n p : Nat) : pA :=
  if pO 5 (pd tx n p) = -1 then (false, p, [])
  else if pO 6 (pd tx n (p + 1)) = -1 then (false, p + 1, [])
  else if (pN tx n (p + 2)).1 = true then (true, (pN tx n (p + 2)).2.1, [(pO 5 (pd tx n p) + 8 * pO 6 (pd tx n (p + 1))) + 32 * (pN tx n (p + 2)).2.2])
  else (false, (pN tx n (p + 2)).2.1, [])
/-- signs & and |, a factor behind each -/
def pS (tx : Nat → Int32) (n : Nat) (F : Nat → pA) : Nat → Nat → Bool × Nat × List (Bool × List Int32)
  | 0, p => (true, p, [])
  | fu + 1, p =>
    if pd tx n p = 38 ∨ pd tx n p = 124 then
      if (F (p + 1)).1 = true then
        ((pS tx n F fu (F (p + 1)).2.1).1, (pS tx n F fu (F (p + 1)).2.1).2.1, (decide (pd tx n p = 124), (F (p + 1)).2.2) :: (pS tx n F fu (F (p + 1)).2.1).2.2)
      else (false, (F (p + 1)).2.1, [])
    else (true, p, [])
/-- the steps in their order; w: an OR is wanting -/
def pC : Bool → List (Bool × List Int32) → List Int32
  | w, [] => if w = true then [-3] else []
  | w, (b, L) :: S => if b = true then (if w = true then [-3] else []) ++ (L ++ pC true S) else L ++ (-2 :: pC w S)
def pE (tx : Nat → Int32) (n : Nat) (F : Nat → pA) (p : Nat) : pA :=
  if (F p).1 = true then
    ((pS tx n F (101 - (F p).2.1) (F p).2.1).1, (pS tx n F (101 - (F p).2.1) (F p).2.1).2.1, (F p).2.2 ++ pC false (pS tx n F (101 - (F p).2.1) (F p).2.1).2.2)
  else (false, (F p).2.1, [])
def pF (tx : Nat → Int32) (n : Nat) : Nat → Nat → pA
  | 0 => fun p => if pd tx n p = 33 ∨ pd tx n p = 40 then (false, p, []) else pT tx n p
  | d + 1 => fun p =>
    if pd tx n p = 40 then
      if (pE tx n (pF tx n d) (p + 1)).1 = true then
        if pd tx n (pE tx n (pF tx n d) (p + 1)).2.1 = 41 then (true, (pE tx n (pF tx n d) (p + 1)).2.1 + 1, (pE tx n (pF tx n d) (p + 1)).2.2) else (false, (pE tx n (pF tx n d) (p + 1)).2.1, [])
      else (false, (pE tx n (pF tx n d) (p + 1)).2.1, [])
    else if pd tx n p = 33 then
      if (pF tx n d (p + 1)).1 = true then (true, (pF tx n d (p + 1)).2.1, (pF tx n d (p + 1)).2.2 ++ [-1]) else (false, (pF tx n d (p + 1)).2.1, [])
    else pT tx n p
/-! how far, how many -/
def pG (n p : Nat) (r : pA) : Prop := p ≤ r.2.1 ∧ r.2.1 ≤ n ∧ (r.1 = true → p < r.2.1 ∧ p + r.2.2.length ≤ r.2.1)
theorem pd_lt {tx : Nat → Int32} {n p : Nat} (h : pd tx n p ≠ -1) : p < n := by
  by_cases q : p < n
  · exact q
  · exfalso; apply h; unfold pd; rw [if_neg q]
theorem pN_g {tx : Nat → Int32} {n p : Nat} (h : p ≤ n) : p ≤ (pN tx n p).2.1 ∧ (pN tx n p).2.1 ≤ n ∧ ((pN tx n p).1 = true → p < (pN tx n p).2.1 ∧ 0 ≤ (pN tx n p).2.2.toInt ∧ (pN tx n p).2.2.toInt ≤ 99) := by
  have dn : ∀ q : Nat, dg (pd tx n q) = true → q < n ∧ (48 ≤ (pd tx n q).toInt ∧ (pd tx n q).toInt ≤ 57) := fun q hq => by
    have b := of_decide_eq_true hq
    refine ⟨pd_lt (tx := tx) (fun e => ?_), b⟩
    rw [e] at b
    exact absurd b (by decide)
  have l48 : (48 : Int32).toInt = 48 := rfl
  unfold pN
  by_cases h1 : dg (pd tx n p) = true
  · rw [if_pos h1]
    have a := dn p h1
    have s1 : (pd tx n p - 48).toInt = (pd tx n p).toInt - (48 : Int32).toInt := gx_sub (by omega) (by omega)
    by_cases h2 : pd tx n p = 48 ∨ dg (pd tx n (p + 1)) = false
    · rw [if_pos h2]
      exact ⟨by show p ≤ p + 1; omega, by show p + 1 ≤ n; omega, fun _ => ⟨by show p < p + 1; omega, by show 0 ≤ (pd tx n p - 48).toInt; omega, by show (pd tx n p - 48).toInt ≤ 99; omega⟩⟩
    · rw [if_neg h2]
      have h3 : dg (pd tx n (p + 1)) = true := by
        cases e : dg (pd tx n (p + 1)) with
        | true => rfl
        | false => exact absurd (Or.inr e) h2
      have b := dn (p + 1) h3
      have s2 : ((10 : Int32) * (pd tx n p - 48)).toInt = 10 * (pd tx n p - 48).toInt := gx_mul 10 rfl (by omega) (by omega)
      have s3 : ((10 : Int32) * (pd tx n p - 48) + pd tx n (p + 1)).toInt = ((10 : Int32) * (pd tx n p - 48)).toInt + (pd tx n (p + 1)).toInt := gx_add (by omega) (by omega)
      have s4 : ((10 : Int32) * (pd tx n p - 48) + pd tx n (p + 1) - 48).toInt = ((10 : Int32) * (pd tx n p - 48) + pd tx n (p + 1)).toInt - (48 : Int32).toInt := gx_sub (by omega) (by omega)
      exact ⟨by show p ≤ p + 2; omega, by show p + 2 ≤ n; omega, fun _ => ⟨by show p < p + 2; omega, by show 0 ≤ ((10 : Int32) * (pd tx n p - 48) + pd tx n (p + 1) - 48).toInt; omega, by show ((10 : Int32) * (pd tx n p - 48) + pd tx n (p + 1) - 48).toInt ≤ 99; omega⟩⟩
  · rw [if_neg h1]
    exact ⟨Nat.le_refl _, h, fun q => by cases q⟩
theorem pO_b5 {x : Int32} (h : pO 5 x ≠ -1) : 0 ≤ (pO 5 x).toInt ∧ (pO 5 x).toInt < 6 ∧ x ≠ -1 := by
  unfold pO at h ⊢
  rw [show gm_bn ((5 : UInt32) + 6) = 6 by decide] at h ⊢
  simp only [pOi] at h ⊢
  repeat' split
  all_goals first | (rename_i e; exact ⟨by decide, by decide, fun q => by rw [q] at e; exact absurd e (by decide)⟩) | (rename_i e1 e2 e3 e4 e5 e6; simp only [if_neg e1, if_neg e2, if_neg e3, if_neg e4, if_neg e5, if_neg e6] at h; exact absurd trivial (by simpa using h))
theorem pO_b6 {x : Int32} (h : pO 6 x ≠ -1) : 0 ≤ (pO 6 x).toInt ∧ (pO 6 x).toInt < 3 ∧ x ≠ -1 := by
  unfold pO at h ⊢
  rw [show gm_bn ((6 : UInt32) + 6) = 3 by decide] at h ⊢
  simp only [pOi] at h ⊢
  repeat' split
  all_goals first | (rename_i e; exact ⟨by decide, by decide, fun q => by rw [q] at e; exact absurd e (by decide)⟩) | (rename_i e1 e2 e3; simp only [if_neg e1, if_neg e2, if_neg e3] at h; exact absurd trivial (by simpa using h))
theorem pT_g {tx : Nat → Int32} {n p : Nat} (h : p ≤ n) : pG n p (pT tx n p) := by
  unfold pT pG
  by_cases h1 : pO 5 (pd tx n p) = -1
  · rw [if_pos h1]; exact ⟨Nat.le_refl _, h, fun q => by cases q⟩
  · rw [if_neg h1]
    have a := pd_lt (pO_b5 h1).2.2
    by_cases h2 : pO 6 (pd tx n (p + 1)) = -1
    · rw [if_pos h2]; exact ⟨Nat.le_add_right _ _, a, fun q => by cases q⟩
    · rw [if_neg h2]
      have b := pd_lt (pO_b6 h2).2.2
      have c := pN_g (tx := tx) (n := n) (p := p + 2) (by omega)
      by_cases h3 : (pN tx n (p + 2)).1 = true
      · rw [if_pos h3]
        have c3 := c.2.2 h3
        exact ⟨by show p ≤ (pN tx n (p + 2)).2.1; omega, c.2.1, fun _ => ⟨by show p < (pN tx n (p + 2)).2.1; omega, by show p + 1 ≤ (pN tx n (p + 2)).2.1; omega⟩⟩
      · rw [if_neg h3]
        exact ⟨by show p ≤ (pN tx n (p + 2)).2.1; omega, c.2.1, fun q => by cases q⟩
/-- what a row of factors brings: one step a sign, and the factors' -/
def pQ : List (Bool × List Int32) → Nat
  | [] => 0
  | (_, L) :: S => L.length + 1 + pQ S
theorem pC_len : ∀ (w : Bool) (S : List (Bool × List Int32)), (pC w S).length = pQ S + (if w = true then 1 else 0)
  | true, [] => rfl
  | false, [] => rfl
  | true, (true, L) :: S => by
    show ([-3] ++ (L ++ pC true S)).length = L.length + 1 + pQ S + 1
    rw [List.length_append, List.length_append, pC_len true S, if_pos rfl, List.length_singleton]; omega
  | false, (true, L) :: S => by
    show (([] : List Int32) ++ (L ++ pC true S)).length = L.length + 1 + pQ S + 0
    rw [List.nil_append, List.length_append, pC_len true S, if_pos rfl]; omega
  | true, (false, L) :: S => by
    show (L ++ ((-2 : Int32) :: pC true S)).length = L.length + 1 + pQ S + 1
    rw [List.length_append, List.length_cons, pC_len true S, if_pos rfl]; omega
  | false, (false, L) :: S => by
    show (L ++ ((-2 : Int32) :: pC false S)).length = L.length + 1 + pQ S + 0
    rw [List.length_append, List.length_cons, pC_len false S, if_neg (by decide)]; omega
theorem pS_g {tx : Nat → Int32} {n : Nat} {F : Nat → pA} (hF : ∀ p, p ≤ n → pG n p (F p)) : ∀ (fu p : Nat), p ≤ n → p ≤ (pS tx n F fu p).2.1 ∧ (pS tx n F fu p).2.1 ≤ n ∧ ((pS tx n F fu p).1 = true → p + pQ (pS tx n F fu p).2.2 ≤ (pS tx n F fu p).2.1)
  | 0, p, h => ⟨Nat.le_refl _, h, fun _ => Nat.le_refl _⟩
  | fu + 1, p, h => by
    unfold pS
    by_cases h1 : pd tx n p = 38 ∨ pd tx n p = 124
    · rw [if_pos h1]
      have a : p < n := pd_lt (tx := tx) (fun e => by rw [e] at h1; exact absurd h1 (by decide))
      obtain ⟨f1, f2, f3⟩ := hF (p + 1) a
      by_cases h2 : (F (p + 1)).1 = true
      · rw [if_pos h2]
        obtain ⟨g1, g2⟩ := f3 h2
        obtain ⟨s1, s2, s3⟩ := pS_g hF fu (F (p + 1)).2.1 f2
        refine ⟨by show p ≤ (pS tx n F fu (F (p + 1)).2.1).2.1; omega, s2, fun q => ?_⟩
        have := s3 q
        show p + ((F (p + 1)).2.2.length + 1 + pQ (pS tx n F fu (F (p + 1)).2.1).2.2) ≤ (pS tx n F fu (F (p + 1)).2.1).2.1
        omega
      · rw [if_neg h2]
        exact ⟨by show p ≤ (F (p + 1)).2.1; omega, f2, fun q => by cases q⟩
    · rw [if_neg h1]
      exact ⟨Nat.le_refl _, h, fun _ => Nat.le_refl _⟩
theorem pE_g {tx : Nat → Int32} {n : Nat} {F : Nat → pA} (hF : ∀ p, p ≤ n → pG n p (F p)) {p : Nat} (h : p ≤ n) : pG n p (pE tx n F p) := by
  obtain ⟨f1, f2, f3⟩ := hF p h
  unfold pE
  by_cases h2 : (F p).1 = true
  · rw [if_pos h2]
    obtain ⟨g1, g2⟩ := f3 h2
    obtain ⟨s1, s2, s3⟩ := pS_g (tx := tx) hF (101 - (F p).2.1) (F p).2.1 f2
    refine ⟨by show p ≤ (pS tx n F (101 - (F p).2.1) (F p).2.1).2.1; omega, s2, fun q => ?_⟩
    have := s3 q
    refine ⟨by show p < (pS tx n F (101 - (F p).2.1) (F p).2.1).2.1; omega, ?_⟩
    show p + ((F p).2.2 ++ pC false (pS tx n F (101 - (F p).2.1) (F p).2.1).2.2).length ≤ (pS tx n F (101 - (F p).2.1) (F p).2.1).2.1
    rw [List.length_append, pC_len, if_neg (by decide)]
    omega
  · rw [if_neg h2]
    exact ⟨f1, f2, fun q => by cases q⟩
theorem pF_g {tx : Nat → Int32} {n : Nat} : ∀ (d p : Nat), p ≤ n → pG n p (pF tx n d p)
  | 0, p, h => by
    unfold pF
    show pG n p (if pd tx n p = 33 ∨ pd tx n p = 40 then (false, p, []) else pT tx n p)
    split
    · exact ⟨Nat.le_refl _, h, fun q => by cases q⟩
    · exact pT_g h
  | d + 1, p, h => by
    unfold pF
    have hE : p + 1 ≤ n → pG n (p + 1) (pE tx n (pF tx n d) (p + 1)) := fun h => pE_g (fun p => pF_g d p) h
    have hF : p + 1 ≤ n → pG n (p + 1) (pF tx n d (p + 1)) := fun h => pF_g d (p + 1) h
    generalize pE tx n (pF tx n d) (p + 1) = e at *
    generalize pF tx n d (p + 1) = f at *
    show pG n p (if pd tx n p = 40 then (if e.1 = true then (if pd tx n e.2.1 = 41 then (true, e.2.1 + 1, e.2.2) else (false, e.2.1, [])) else (false, e.2.1, [])) else if pd tx n p = 33 then (if f.1 = true then (true, f.2.1, f.2.2 ++ [-1]) else (false, f.2.1, [])) else pT tx n p)
    by_cases h1 : pd tx n p = 40
    · rw [if_pos h1]
      have a : p < n := pd_lt (tx := tx) (fun q => by rw [q] at h1; exact absurd h1 (by decide))
      obtain ⟨e1, e2, e3⟩ := hE a
      by_cases h2 : e.1 = true
      · rw [if_pos h2]
        have g := e3 h2
        by_cases h3 : pd tx n e.2.1 = 41
        · rw [if_pos h3]
          have b : e.2.1 < n := pd_lt (tx := tx) (fun q => by rw [q] at h3; exact absurd h3 (by decide))
          exact ⟨by show p ≤ e.2.1 + 1; omega, b, fun _ => ⟨by show p < e.2.1 + 1; omega, by show p + e.2.2.length ≤ e.2.1 + 1; omega⟩⟩
        · rw [if_neg h3]
          exact ⟨by show p ≤ e.2.1; omega, e2, fun q => by cases q⟩
      · rw [if_neg h2]
        exact ⟨by show p ≤ e.2.1; omega, e2, fun q => by cases q⟩
    · rw [if_neg h1]
      by_cases h2 : pd tx n p = 33
      · rw [if_pos h2]
        have a : p < n := pd_lt (tx := tx) (fun q => by rw [q] at h2; exact absurd h2 (by decide))
        obtain ⟨e1, e2, e3⟩ := hF a
        by_cases h3 : f.1 = true
        · rw [if_pos h3]
          have g := e3 h3
          exact ⟨by show p ≤ f.2.1; omega, e2, fun _ => ⟨by show p < f.2.1; omega, by show p + (f.2.2 ++ [-1]).length ≤ f.2.1; rw [List.length_append, List.length_singleton]; omega⟩⟩
        · rw [if_neg h3]
          exact ⟨by show p ≤ f.2.1; omega, e2, fun q => by cases q⟩
      · rw [if_neg h2]; exact pT_g h
end
section
/-! the class's reader: all that it writes -/
def BS (A n : Nat) (tx : Nat → Int32) (μ : gm_M) : Prop := gS μ ∧ 75 ≤ A ∧ (μ.1[A]? = some (5, 10) ∧ μ.1[A + 1]? = some (1, 10) ∧ μ.1[A + 2]? = some (1, 10) ∧ μ.1[A + 3]? = some (1, 100)) ∧ (μ.2.2 A 3 = A + 1 ∧ μ.2.2 A 4 = A + 2 ∧ μ.2.2 A 5 = A + 3 ∧ μ.2.2 A 7 = 17) ∧ n ≤ 100 ∧ μ.2.1 A 8 = Int32.ofNat n ∧ (∀ i : Nat, i < n → μ.2.1 17 i = tx i) ∧ ∀ i : Nat, 0 ≤ (tx i).toInt ∧ (tx i).toInt ≤ 127
/-- step of the reference to step of the class -/
def cv (s : Int32) : Int32 := if s.toInt < 0 then s else 1000 * (s % 8) + 100 * (s / 8 % 4) + s / 32
def cst (A n : Nat) (μ : gm_M) (p : Nat) (C : List Int32) (m : gm_M) : Prop := (m.1 = μ.1 ∧ m.2.2 = μ.2.2 ∧ (∀ r : Nat, r ≠ A → r ≠ A + 3 → m.2.1 r = μ.2.1 r) ∧ ∀ j : Nat, j ≠ 6 → j ≠ 9 → m.2.1 A j = μ.2.1 A j) ∧ p ≤ n ∧ m.2.1 A 9 = Int32.ofNat p ∧ C.length ≤ 100 ∧ m.2.1 A 6 = Int32.ofNat C.length ∧ ∀ i : Nat, i < C.length → C[i]? = some (m.2.1 (A + 3) i)
theorem ofn {k : Nat} (h : k ≤ 1000000) : (Int32.ofNat k).toInt = k := Int32.toInt_ofNat_of_lt (by omega)
theorem ofn1 {k : Nat} (h : k ≤ 1000000) : Int32.ofNat k + 1 = Int32.ofNat (k + 1) := by
  apply Int32.toInt_inj.mp
  have l1 : (1 : Int32).toInt = 1 := rfl
  have a := ofn h
  rw [gx_add (by omega) (by omega), a, show (Int32.ofNat (k + 1)).toInt = ((k + 1 : Nat) : Int) from Int32.toInt_ofNat_of_lt (by omega), l1]
  rfl
section
variable {A n p : Nat} {tx : Nat → Int32} {μ m : gm_M} {C : List Int32}
theorem cst.S (b : BS A n tx μ) (c : cst A n μ p C m) : gS m := b.1.same c.1.1 c.1.2.1
theorem cst.t (b : BS A n tx μ) (c : cst A n μ p C m) : gm_tag m A = 5 := by unfold gm_tag; rw [c.1.1, b.2.2.1.1]
theorem cst.tc (b : BS A n tx μ) (c : cst A n μ p C m) : [5].contains (gm_tag m A) = true := by rw [cst.t b c]; rfl
theorem cst.r7 (b : BS A n tx μ) (c : cst A n μ p C m) : m.2.2 A 7 = 17 := by rw [c.1.2.1]; exact b.2.2.2.1.2.2.2
theorem cst.r5 (b : BS A n tx μ) (c : cst A n μ p C m) : m.2.2 A 5 = A + 3 := by rw [c.1.2.1]; exact b.2.2.2.1.2.2.1
theorem cst.t3 (b : BS A n tx μ) (c : cst A n μ p C m) : gm_tag m (A + 3) = 1 := by unfold gm_tag; rw [c.1.1, b.2.2.1.2.2.2]
theorem cst.l3 (b : BS A n tx μ) (c : cst A n μ p C m) : gm_len m (A + 3) = 100 := by unfold gm_len; rw [c.1.1, b.2.2.1.2.2.2]
theorem cst.e8 (b : BS A n tx μ) (c : cst A n μ p C m) : m.2.1 A 8 = Int32.ofNat n := by rw [c.1.2.2.2 8 (by decide) (by decide)]; exact b.2.2.2.2.2.1
theorem cst.e9 (c : cst A n μ p C m) : m.2.1 A 9 = Int32.ofNat p := c.2.2.1
theorem cst.e6 (c : cst A n μ p C m) : m.2.1 A 6 = Int32.ofNat C.length := c.2.2.2.2.1
theorem cst.txt (b : BS A n tx μ) (c : cst A n μ p C m) {i : Nat} (h : i < n) : m.2.1 17 i = tx i := by
  have := b.2.1
  rw [c.1.2.2.1 17 (by omega) (by omega)]; exact b.2.2.2.2.2.2.1 i h
theorem cst.refl (h : p ≤ n) (h9 : μ.2.1 A 9 = Int32.ofNat p) (hC : C.length ≤ 100) (h6 : μ.2.1 A 6 = Int32.ofNat C.length) (hc : ∀ i : Nat, i < C.length → C[i]? = some (μ.2.1 (A + 3) i)) : cst A n μ p C μ := ⟨⟨rfl, rfl, fun _ _ _ => rfl, fun _ _ _ => rfl⟩, h, h9, hC, h6, hc⟩
theorem cst.at (c : cst A n μ p C m) {q : Nat} (h : q ≤ n) : cst A n μ q C (wI m A 9 (Int32.ofNat q)) := by
  obtain ⟨⟨c1, c2, c3, c4⟩, c5, c6, c7, c8, c9⟩ := c
  exact ⟨⟨c1, c2, fun r r1 r2 => (wI_o _ _ _ _ r1).trans (c3 r r1 r2), fun j j1 j2 => (wI_n _ _ _ _ j2).trans (c4 j j1 j2)⟩, h, wI_e _ _ _ _, c7, (wI_n _ _ _ _ (by decide)).trans c8, fun i hi => by rw [wI_o _ _ _ _ (by omega)]; exact c9 i hi⟩
theorem cst.push (c : cst A n μ p C m) (h : C.length < 100) (x : Int32) : cst A n μ p (C ++ [x]) (wI (wI m (A + 3) C.length x) A 6 (Int32.ofNat (C.length + 1))) := by
  obtain ⟨⟨c1, c2, c3, c4⟩, c5, c6, c7, c8, c9⟩ := c
  refine ⟨⟨c1, c2, fun r r1 r2 => ?_, fun j j1 j2 => ?_⟩, c5, ?_, by rw [List.length_append, List.length_singleton]; omega, ?_, fun i hi => ?_⟩
  · rw [wI_o _ _ _ _ r1, wI_o _ _ _ _ r2]; exact c3 r r1 r2
  · rw [wI_n _ _ _ _ j1, wI_o _ _ _ _ (by omega)]; exact c4 j j1 j2
  · rw [wI_n _ _ _ _ (by decide), wI_o _ _ _ _ (by omega)]; exact c6
  · rw [wI_e, List.length_append, List.length_singleton]
  · rw [List.length_append, List.length_singleton] at hi
    rw [wI_o _ _ _ _ (by omega)]
    by_cases e : i = C.length
    · subst e
      rw [wI_e, List.getElem?_append_right (Nat.le_refl _), Nat.sub_self]; rfl
    · rw [wI_n _ _ _ _ e, List.getElem?_append_left (by omega)]
      exact c9 i (by omega)
theorem v_next (b : BS A n tx μ) (c : cst A n μ p C m) : gwI (f_X0_next A m) (fun x m' => x = pd tx n p ∧ m' = m) := by
  refine gwI_of ?_
  unfold f_X0_next
  have hp := c.2.1
  have hn := b.2.2.2.2.1
  have l0 : (0 : Int32).toInt = 0 := rfl
  have op : (Int32.ofNat p).toInt = p := ofn (by omega)
  have on : (Int32.ofNat n).toInt = n := ofn (by omega)
  refine gw_gIw (c.tc b) ?_
  rw [c.e9]
  refine gw_lt (fun g => by omega) (fun _ => ?_)
  refine gw_gIw (c.tc b) ?_
  refine gw_gIw (c.tc b) ?_
  rw [c.e9, c.e8 b]
  refine gw_le (fun g => gw_some (gq_I ⟨?_, rfl⟩)) (fun g => ?_)
  · unfold pd; rw [if_neg (by omega)]
  · refine gw_gRa 17 (c.tc b) (c.r7 b) ?_
    refine gw_gIw (c.tc b) ?_
    rw [c.e9]
    refine gw_aIw p ((c.S b).t (r := 17) rfl) ((c.S b).l (r := 17) rfl) op (by omega) ?_
    refine gw_some (gq_I ⟨?_, rfl⟩)
    unfold pd
    rw [if_pos (by omega)]
    exact c.txt b (by omega)
theorem v_take (b : BS A n tx μ) (c : cst A n μ p C m) {a : Int32} (ha : a ≠ -1) : gwI (f_X0_take A a m) (fun x m' => (x = 1 ∧ pd tx n p = a ∧ cst A n μ (p + 1) C m') ∨ (x = 0 ∧ pd tx n p ≠ a ∧ m' = m)) := by
  refine gwI_of ?_
  unfold f_X0_take
  have hn := b.2.2.2.2.1
  have hp := c.2.1
  refine gw_if (c.t b) ?_
  refine gw_bI (v_next b c) (fun x m' ⟨ex, em⟩ => ?_)
  subst em
  refine gw_ite (fun g => ?_) (fun g => ?_)
  · have q : p < n := pd_lt (tx := tx) (by rw [← ex, g]; exact ha)
    refine gw_gIw (c.tc b) ?_
    refine gw_pIw (c.tc b) ?_
    rw [c.e9, ofn1 (by omega)]
    exact gw_z Iff.rfl (Or.inr rfl) (gq_I (Or.inl ⟨rfl, by rw [← ex, g], c.at (by omega)⟩))
  · exact gw_z Iff.rfl (Or.inl rfl) (gq_I (Or.inr ⟨rfl, by rw [← ex]; exact g, rfl⟩))
theorem v_number (b : BS A n tx μ) (c : cst A n μ p C m) : gwI (f_X0_readNumber A m) (fun x m' => x = (if (pN tx n p).1 = true then (pN tx n p).2.2 else -1) ∧ cst A n μ (pN tx n p).2.1 C m') := by
  refine gwI_of ?_
  unfold f_X0_readNumber
  have hn := b.2.2.2.2.1
  have hp := c.2.1
  have gN := pN_g (tx := tx) c.2.1
  have l48 : (48 : Int32).toInt = 48 := rfl
  have l57 : (57 : Int32).toInt = 57 := rfl
  have lm : (-1 : Int32).toInt = -1 := rfl
  have dn : ∀ x : Int32, 48 ≤ x.toInt → x.toInt ≤ 57 → dg x = true := fun x h1 h2 => decide_eq_true ⟨h1, h2⟩
  have dz : ∀ x : Int32, (x.toInt < 48 ∨ 57 < x.toInt) → dg x = false := fun x h1 => decide_eq_false (by omega)
  refine gw_if (c.t b) ?_
  refine gw_bI (v_next b c) (fun x m' ⟨ex, em⟩ => ?_)
  subst em
  refine gw_lt (fun g => ?_) (fun g => ?_)
  · have e : pN tx n p = (false, p, -1) := by unfold pN; rw [if_neg (by rw [← ex, dz x (Or.inl g)]; decide)]
    rw [e]
    exact gw_some (gq_I ⟨rfl, c⟩)
  · refine gw_le (fun g2 => ?_) (fun g2 => ?_)
    · have d1 : dg (pd tx n p) = true := by rw [← ex]; exact dn x g g2
      have q : p < n := pd_lt (tx := tx) (fun e => by rw [← ex] at e; rw [e] at g; omega)
      refine gw_gIw (c.tc b) ?_
      refine gw_pIw (c.tc b) ?_
      rw [c.e9, ofn1 (by omega)]
      have c1 := c.at (q := p + 1) (by omega)
      generalize wI m' A 9 (Int32.ofNat (p + 1)) = m1 at *
      refine gw_if (c1.t b) ?_
      refine gw_bI (v_next b c1) (fun y m2 ⟨ey, em⟩ => ?_)
      subst em
      have fin : (x = 48 ∨ y.toInt < 48 ∨ 57 < y.toInt) → gw (some (some (.int (x - (48 : Int32))), m2)) (gqI (fun x m' => x = (if (pN tx n p).1 = true then (pN tx n p).2.2 else -1) ∧ cst A n μ (pN tx n p).2.1 C m')) := fun hc => by
        have e : pN tx n p = (true, p + 1, pd tx n p - 48) := by
          unfold pN
          rw [if_pos d1, if_pos]
          rcases hc with h | h
          · exact Or.inl (by rw [← ex]; exact h)
          · exact Or.inr (by rw [← ey]; exact dz y h)
        rw [e, ← ex]
        exact gw_some (gq_I ⟨rfl, c1⟩)
      refine gw_ji ?_
      refine gw_ite (fun g3 => fin (Or.inl g3)) (fun g3 => ?_)
      refine gw_lt (fun g4 => fin (Or.inr (Or.inl g4))) (fun g4 => ?_)
      refine gw_le (fun g5 => ?_) (fun g5 => fin (Or.inr (Or.inr g5)))
      have q2 : p + 1 < n := pd_lt (tx := tx) (fun e => by rw [← ey] at e; rw [e] at g4; omega)
      refine gw_gIw (c1.tc b) ?_
      refine gw_pIw (c1.tc b) ?_
      rw [c1.e9, ofn1 (by omega)]
      have e : pN tx n p = (true, p + 2, 10 * (pd tx n p - 48) + pd tx n (p + 1) - 48) := by
        unfold pN
        rw [if_pos d1, if_neg]
        intro h
        rcases h with h | h
        · exact g3 (by rw [ex]; exact h)
        · rw [← ey, dn y g4 g5] at h; cases h
      rw [e, ← ex, ← ey]
      exact gw_some (gq_I ⟨rfl, c1.at (q := p + 2) (by omega)⟩)
    · have e : pN tx n p = (false, p, -1) := by unfold pN; rw [if_neg (by rw [← ex, dz x (Or.inr g2)]; decide)]
      rw [e]
      exact gw_some (gq_I ⟨rfl, c⟩)
theorem v_put (b : BS A n tx μ) (c : cst A n μ p C m) (h : C.length < 100) (x : Int32) : gwV (f_X0_put A x m) (fun m' => cst A n μ p (C ++ [x]) m') := by
  refine gwV_of ?_
  unfold f_X0_put
  have l100 : (100 : Int32).toInt = 100 := rfl
  have oC : (Int32.ofNat C.length).toInt = C.length := ofn (by omega)
  refine gw_gIw (c.tc b) ?_
  rw [c.e6]
  refine gw_lt (fun _ => ?_) (fun g => by omega)
  refine gw_gRa (A + 3) (c.tc b) (c.r5 b) ?_
  refine gw_gIw (c.tc b) ?_
  rw [c.e6]
  refine gw_sIw C.length (c.t3 b) (c.l3 b) oC h ?_
  have tc2 : [5].contains (gm_tag (wI m (A + 3) C.length x) A) = true := (show [5].contains (gm_tag m A) = true from c.tc b)
  refine gw_gIw tc2 ?_
  refine gw_pIw tc2 ?_
  rw [wI_o _ _ _ _ (by omega), c.e6, ofn1 (by omega)]
  exact gw_some (gq_V (c.push h x))
end
end
section
theorem ch_id {c : Int32} (h0 : 0 ≤ c.toInt) (h1 : c.toInt ≤ 127) : UInt32.toInt32 (Int32.toUInt32 c % 65536) = c ∧ Int8.toInt32 (Int32.toInt8 c) = c := by
  have k : ∀ k : Fin 128, UInt32.toInt32 (Int32.toUInt32 (Int32.ofNat k.val) % 65536) = Int32.ofNat k.val ∧ Int8.toInt32 (Int32.toInt8 (Int32.ofNat k.val)) = Int32.ofNat k.val := by decide +kernel
  have := k ⟨c.toInt.toNat, by omega⟩
  rw [show Int32.ofNat (⟨c.toInt.toNat, by omega⟩ : Fin 128).val = c from gx_of h0] at this
  exact this
theorem pOi_rng (u : UInt32) (x : Int32) : ∀ k i : Nat, i + k ≤ 100 → pOi u x k i = -1 ∨ 0 ≤ (pOi u x k i).toInt
  | 0, _, _ => Or.inl rfl
  | k + 1, i, h => by
    unfold pOi
    split
    · right; rw [ofn (by omega)]; omega
    · exact pOi_rng u x k (i + 1) (by omega)
theorem pO_rng {u : UInt32} (hu : gm_isS u) (x : Int32) : pO u x = -1 ∨ 0 ≤ (pO u x).toInt := pOi_rng u x _ _ (by have := (tx_len (μ := gi0) hu).2; omega)
theorem tx_pO {μ : gm_M} {u : UInt32} (hu : gm_isS u) {c : Int32} (h0 : 0 ≤ c.toInt) (h1 : c.toInt ≤ 127) : gwI (f_J0_indexOf_0f7a4 u c μ) (fun x m => x = pO u c ∧ m = μ) := by
  have hl := tx_len (μ := μ) hu
  have hb : gm_isB (u + 6) := by
    obtain ⟨h1, h2⟩ := hu
    have e : (u + 6).toNat = u.toNat + 6 := by
      rw [UInt32.toNat_add, show (6 : UInt32).toNat = 6 from rfl]
      omega
    constructor <;> omega
  have l0 : (0 : Int32).toInt = 0 := rfl
  have l1 : (1 : Int32).toInt = 1 := rfl
  have l255 : (255 : Int32).toInt = 255 := rfl
  have ln : (Int32.ofNat (gm_bn (u + 6))).toInt = gm_bn (u + 6) := Int32.toInt_ofNat_of_lt (by omega)
  have c8 := (ch_id h0 h1).2
  have C : gwI (f_J1_indexOfChar_4cfef (u + 6) c 0 (Int32.ofNat (gm_bn (u + 6))) μ) (fun x m => x = pO u c ∧ m = μ) := by
    refine gwI_of ?_
    unfold f_J1_indexOfChar_4cfef
    refine gw_loop (fun s => ∃ i : Nat, s = Int32.ofNat i ∧ i ≤ gm_bn (u + 6) ∧ pOi u c (gm_bn (u + 6) - i) i = pO u c) (fun s => 6 - s.toInt) (fun s ⟨i, es, hi, hp⟩ => ?_) 5000 (0 : Int32) ⟨0, rfl, Nat.zero_le _, rfl⟩ (by omega) (by omega)
    subst es
    have oi := ofn (k := i) (by omega)
    refine gw_le (fun g => gw_some (gs_inr (gq_I ⟨?_, rfl⟩))) (fun g => ?_)
    · rw [← hp, show gm_bn (u + 6) - i = 0 by omega]; rfl
    unfold gm_bl
    rw [if_pos ⟨hb, (gw_ix (i := Int32.ofNat i) (n := gm_bn (u + 6)) (by omega) (by omega)).1, (gw_ix (i := Int32.ofNat i) (n := gm_bn (u + 6)) (by omega) (by omega)).2⟩, c8]
    have ei : (Int32.ofNat i).toNatClampNeg = i := by show (Int32.ofNat i).toInt.toNat = i; omega
    rw [ei]
    rw [show gm_bn (u + 6) - i = (gm_bn (u + 6) - (i + 1)) + 1 by omega] at hp
    unfold pOi at hp
    refine gw_ite (fun g2 => gw_some (gs_inl ⟨i + 1, ofn1 (by omega), by omega, ?_⟩ (by rw [ofn1 (by omega), ofn (k := i + 1) (by omega)]; omega) (by rw [ofn1 (by omega), ofn (k := i + 1) (by omega)]; omega))) (fun g2 => gw_some (gs_inr (gq_I ⟨?_, rfl⟩)))
    · rw [if_neg (fun e => g2 e.symm)] at hp; exact hp
    · rw [if_pos (Decidable.not_not.mp g2).symm] at hp; exact hp
  have D : gwI (f_J1_indexOf_4cfef (u + 6) c 0 (Int32.ofNat (gm_bn (u + 6))) μ) (fun x m => x = pO u c ∧ m = μ) := by
    refine gwI_of ?_
    unfold f_J1_indexOf_4cfef
    have E : gwI (f_J1_canEncode_9a6ad c μ) (fun x m => m = μ ∧ x = 1) := by
      refine gwI_of ?_
      unfold f_J1_canEncode_9a6ad
      exact gw_lt (fun _ => by omega) (fun _ => gw_lt (fun _ => by omega) (fun _ => gw_z Iff.rfl (Or.inr rfl) (gq_I ⟨rfl, rfl⟩)))
    refine gw_bI E (fun x m ⟨z, ex⟩ => ?_)
    subst z
    subst ex
    refine gw_if (by decide) ?_
    refine gw_if hb ?_
    have q1 : (if (0 : Int32) < (0 : Int32) then (0 : Int32) else 0) = 0 := by split <;> rfl
    have q2 : (if Int32.ofNat (gm_bn (u + 6)) < Int32.ofNat (gm_bn (u + 6)) then Int32.ofNat (gm_bn (u + 6)) else Int32.ofNat (gm_bn (u + 6))) = Int32.ofNat (gm_bn (u + 6)) := by split <;> rfl
    rw [q1, q2]
    refine gw_lt (fun _ => ?_) (fun g => ?_)
    · refine gw_bI C (fun x m ⟨z, b⟩ => ?_)
      exact gw_some (gq_I ⟨z, b⟩)
    · refine gw_some (gq_I ⟨?_, rfl⟩)
      unfold pO
      rw [show gm_bn (u + 6) = 0 by omega]; rfl
  refine gwI_of ?_
  unfold f_J0_indexOf_0f7a4
  refine gw_if hu ?_
  have F : gwI (f_J0_indexOf_7cf53 u c 0 μ) (fun x m => x = pO u c ∧ m = μ) := by
    refine gwI_of ?_
    unfold f_J0_indexOf_7cf53
    refine gw_if hu ?_
    have L : f_J0_isLatin1_aae02 u μ = some (some (.int 1), μ) := by
      unfold f_J0_isLatin1_aae02
      rw [if_neg (by decide), if_pos hu, if_neg (by decide), if_pos (by decide)]
    refine gw_bI (R := fun x m => m = μ ∧ x = 1) ⟨1, μ, L, rfl, rfl⟩ (fun x m ⟨z, ex⟩ => ?_)
    subst z
    subst ex
    refine gw_eq (fun g => absurd g (by decide)) (fun _ => ?_)
    refine gw_if hu ?_
    refine gw_if hu ?_
    refine gw_bI (R := fun x m' => m' = m ∧ x = Int32.ofNat (gm_bn (u + 6))) ⟨_, m, hl.1, rfl, rfl⟩ (fun x m' ⟨z, ex⟩ => ?_)
    subst z
    subst ex
    refine gw_bI D (fun x m ⟨z, b⟩ => ?_)
    exact gw_some (gq_I ⟨z, b⟩)
  refine gw_bI F (fun x m ⟨z, b⟩ => ?_)
  exact gw_some (gq_I ⟨z, b⟩)
theorem cv_neg {s : Int32} (h : s.toInt < 0) : cv s = s := by unfold cv; rw [if_pos h]
theorem cv_test {a b v : Int32} (ha : 0 ≤ a.toInt ∧ a.toInt < 6) (hb : 0 ≤ b.toInt ∧ b.toInt < 3) (hv : 0 ≤ v.toInt ∧ v.toInt ≤ 99) : cv ((a + 8 * b) + 32 * v) = (1000 * a + 100 * b) + v := by
  have k : ∀ a : Fin 6, ∀ b : Fin 3, ∀ v : Fin 100, cv ((Int32.ofNat a.val + 8 * Int32.ofNat b.val) + 32 * Int32.ofNat v.val) = (1000 * Int32.ofNat a.val + 100 * Int32.ofNat b.val) + Int32.ofNat v.val := by decide +kernel
  have := k ⟨a.toInt.toNat, by omega⟩ ⟨b.toInt.toNat, by omega⟩ ⟨v.toInt.toNat, by omega⟩
  rw [show Int32.ofNat (⟨a.toInt.toNat, by omega⟩ : Fin 6).val = a from gx_of ha.1, show Int32.ofNat (⟨b.toInt.toNat, by omega⟩ : Fin 3).val = b from gx_of hb.1, show Int32.ofNat (⟨v.toInt.toNat, by omega⟩ : Fin 100).val = v from gx_of hv.1] at this
  exact this
/-- how a piece of reading ends -/
def vo (A n : Nat) (μ : gm_M) (C : List Int32) (r : pA) (x : Int32) (m : gm_M) : Prop := (x = 1 ∧ r.1 = true ∧ cst A n μ r.2.1 (C ++ r.2.2.map cv) m) ∨ (x = 0 ∧ r.1 = false ∧ ∃ C' : List Int32, cst A n μ r.2.1 C' m)
theorem vo.p1 {A n : Nat} {μ : gm_M} {C : List Int32} {r : pA} {x : Int32} {m : gm_M} (h : vo A n μ C r x m) : x = 0 ∨ x = 1 := h.elim (fun h => Or.inr h.1) (fun h => Or.inl h.1)
section
variable {A n p : Nat} {tx : Nat → Int32} {μ m : gm_M} {C : List Int32}
theorem v_one (b : BS A n tx μ) (c : cst A n μ p C m) {u : UInt32} (hu : gm_isS u) (h5 : pO u (-1) = -1) : gwI (f_X0_readOneOf A u m) (fun x m' => x = pO u (pd tx n p) ∧ cst A n μ (if pO u (pd tx n p) = -1 then p else p + 1) C m') := by
  refine gwI_of ?_
  unfold f_X0_readOneOf
  have hn := b.2.2.2.2.1
  have hp := c.2.1
  have op : (Int32.ofNat p).toInt = p := ofn (by omega)
  have on : (Int32.ofNat n).toInt = n := ofn (by omega)
  have l0 : (0 : Int32).toInt = 0 := rfl
  refine gw_gIw (c.tc b) ?_
  refine gw_gIw (c.tc b) ?_
  rw [c.e9, c.e8 b]
  refine gw_lt (fun g => ?_) (fun g => ?_)
  · refine gw_gRa 17 (c.tc b) (c.r7 b) ?_
    refine gw_gIw (c.tc b) ?_
    rw [c.e9]
    refine gw_aIw p ((c.S b).t (r := 17) rfl) ((c.S b).l (r := 17) rfl) op (by omega) ?_
    rw [c.txt b (show p < n by omega)]
    have e : pd tx n p = tx p := by unfold pd; rw [if_pos (by omega)]
    have hx := b.2.2.2.2.2.2.2 p
    rw [(ch_id hx.1 hx.2).1, e]
    refine gw_if hu ?_
    refine gw_bI (tx_pO hu hx.1 hx.2) (fun x m' ⟨ex, em⟩ => ?_)
    subst em
    subst ex
    refine gw_lt (fun g2 => ?_) (fun g2 => ?_)
    · have e1 : pO u (tx p) = -1 := (pO_rng hu (tx p)).elim id (fun h => by omega)
      rw [e1, if_pos rfl]
      exact gw_some (gq_I ⟨rfl, c⟩)
    · have e1 : pO u (tx p) ≠ -1 := fun h => by rw [h] at g2; exact absurd g2 (by decide)
      rw [if_neg e1]
      refine gw_gIw (c.tc b) ?_
      refine gw_pIw (c.tc b) ?_
      rw [c.e9, ofn1 (by omega)]
      exact gw_some (gq_I ⟨rfl, c.at (by omega)⟩)
  · have e : pd tx n p = -1 := by unfold pd; rw [if_neg (by omega)]
    rw [e, h5, if_pos rfl]
    exact gw_some (gq_I ⟨rfl, c⟩)
theorem v_test (b : BS A n tx μ) (c : cst A n μ p C m) (hC : C.length ≤ p) : gwI (f_X0_readTest A m) (fun x m' => vo A n μ C (pT tx n p) x m') := by
  refine gwI_of ?_
  unfold f_X0_readTest
  have hn := b.2.2.2.2.1
  have l0 : (0 : Int32).toInt = 0 := rfl
  have gT := pT_g (tx := tx) c.2.1
  refine gw_if (c.t b) ?_
  refine gw_bI (v_one b c (u := 5) (by decide) (by decide)) (fun x1 m1 ⟨e1, c1⟩ => ?_)
  refine gw_le (fun g1 => ?_) (fun g1 => ?_)
  · have n1 : pO 5 (pd tx n p) ≠ -1 := fun h => by rw [e1, h] at g1; exact absurd g1 (by decide)
    rw [if_neg n1] at c1
    refine gw_if (c1.t b) ?_
    refine gw_bI (v_one b c1 (u := 6) (by decide) (by decide)) (fun x2 m2 ⟨e2, c2⟩ => ?_)
    refine gw_le (fun g2 => ?_) (fun g2 => ?_)
    · have n2 : pO 6 (pd tx n (p + 1)) ≠ -1 := fun h => by rw [e2, h] at g2; exact absurd g2 (by decide)
      rw [if_neg n2] at c2
      refine gw_if (c2.t b) ?_
      refine gw_bI (v_number b c2) (fun x3 m3 ⟨e3, c3⟩ => ?_)
      have gN := pN_g (tx := tx) c2.2.1
      have c3' : cst A n μ (pN tx n (p + 2)).2.1 C m3 := c3
      refine gw_le (fun g3 => ?_) (fun g3 => ?_)
      · have n3 : (pN tx n (p + 2)).1 = true := by
          cases h : (pN tx n (p + 2)).1 with
          | true => rfl
          | false => rw [show (pN tx n (p + 1 + 1)).1 = false from h, if_neg (by decide)] at e3; rw [e3] at g3; exact absurd g3 (by decide)
        rw [show (pN tx n (p + 1 + 1)).1 = true from n3, if_pos rfl] at e3
        have eT : pT tx n p = (true, (pN tx n (p + 2)).2.1, [(pO 5 (pd tx n p) + 8 * pO 6 (pd tx n (p + 1))) + 32 * (pN tx n (p + 2)).2.2]) := by
          unfold pT; rw [if_neg n1, if_neg n2, if_pos n3]
        rw [eT] at gT
        have gT2 := gT.2.2 rfl
        have r5 := pO_b5 n1
        have r6 := pO_b6 n2
        have rN := gN.2.2 n3
        have gT1 : (pN tx n (p + 2)).2.1 ≤ n := gT.2.1
        have gT3 : p < (pN tx n (p + 2)).2.1 := gT2.1
        refine gw_if (c3.t b) ?_
        refine gw_bV (v_put b c3 (by omega) _) (fun m4 c4 => ?_)
        refine gw_z Iff.rfl (Or.inr rfl) (gq_I (Or.inl ⟨rfl, by rw [eT], ?_⟩))
        rw [eT]
        show cst A n μ (pN tx n (p + 2)).2.1 (C ++ [cv ((pO 5 (pd tx n p) + 8 * pO 6 (pd tx n (p + 1))) + 32 * (pN tx n (p + 2)).2.2)]) m4
        rw [cv_test ⟨r5.1, r5.2.1⟩ ⟨r6.1, r6.2.1⟩ rN.2, ← e1, ← e2, ← show x3 = (pN tx n (p + 2)).2.2 from e3]
        exact c4
      · have n3 : (pN tx n (p + 2)).1 = false := by
          cases h : (pN tx n (p + 2)).1 with
          | false => rfl
          | true => rw [show (pN tx n (p + 1 + 1)).1 = true from h, if_pos rfl] at e3; have := (gN.2.2 h).2.1; rw [← show x3 = (pN tx n (p + 1 + 1)).2.2 from e3] at this; omega
        have eT : pT tx n p = (false, (pN tx n (p + 2)).2.1, []) := by
          unfold pT; rw [if_neg n1, if_neg n2, if_neg (by rw [n3]; decide)]
        exact gw_z Iff.rfl (Or.inl rfl) (gq_I (Or.inr ⟨rfl, by rw [eT], C, by rw [eT]; exact c3'⟩))
    · have n2 : pO 6 (pd tx n (p + 1)) = -1 := (pO_rng (u := 6) (by decide) _).elim id (fun h => by rw [← e2] at h; omega)
      rw [if_pos n2] at c2
      have eT : pT tx n p = (false, p + 1, []) := by unfold pT; rw [if_neg n1, if_pos n2]
      exact gw_z Iff.rfl (Or.inl rfl) (gq_I (Or.inr ⟨rfl, by rw [eT], C, by rw [eT]; exact c2⟩))
  · have n1 : pO 5 (pd tx n p) = -1 := (pO_rng (u := 5) (by decide) _).elim id (fun h => by rw [← e1] at h; omega)
    rw [if_pos n1] at c1
    have eT : pT tx n p = (false, p, []) := by unfold pT; rw [if_pos n1]
    exact gw_z Iff.rfl (Or.inl rfl) (gq_I (Or.inr ⟨rfl, by rw [eT], C, by rw [eT]; exact c1⟩))
end
end
section
def pWN (tx : Nat → Int32) (n : Nat) (u : UInt32) (p : Nat) : Bool × Nat × Int32 := if (pW tx n u (gm_bn (u + 6)) p).1 = true then pN tx n (pW tx n u (gm_bn (u + 6)) p).2 else (false, (pW tx n u (gm_bn (u + 6)) p).2, -1)
theorem pW_g {tx : Nat → Int32} {n : Nat} {u : UInt32} (hu : gm_isS u) : ∀ k p : Nat, p ≤ n → k ≤ gm_bn (u + 6) → p ≤ (pW tx n u k p).2 ∧ (pW tx n u k p).2 ≤ n ∧ ((pW tx n u k p).1 = true → p + k ≤ (pW tx n u k p).2)
  | 0, p, h, _ => ⟨Nat.le_refl _, h, fun _ => Nat.le_refl _⟩
  | k + 1, p, h, hk => by
    unfold pW
    have six := (tx_len (μ := gi0) hu).2
    have tc := tx_char (μ := gi0) hu (i := Int32.ofNat (gm_bn (u + 6) - (k + 1))) (by rw [ofn (by omega)]; omega) (by rw [ofn (by omega)]; omega)
    by_cases e : pd tx n p = gm_bb (u + 6) (gm_bn (u + 6) - (k + 1))
    · rw [if_pos e]
      have a : p < n := pd_lt (tx := tx) (fun q => by
        have t2 := tc.2
        rw [ofn (by omega), Int.toNat_natCast, ← e, q] at t2
        exact absurd t2 (by decide))
      obtain ⟨h1, h2, h3⟩ := pW_g hu k (p + 1) a (by omega)
      exact ⟨by omega, h2, fun q => by have := h3 q; omega⟩
    · rw [if_neg e]
      exact ⟨Nat.le_refl _, h, fun q => by cases q⟩
theorem pWN_g {tx : Nat → Int32} {n : Nat} {u : UInt32} (hu : gm_isS u) {p : Nat} (h : p ≤ n) : p ≤ (pWN tx n u p).2.1 ∧ (pWN tx n u p).2.1 ≤ n ∧ ((pWN tx n u p).1 = true → p + gm_bn (u + 6) < (pWN tx n u p).2.1 ∧ 0 ≤ (pWN tx n u p).2.2.toInt ∧ (pWN tx n u p).2.2.toInt ≤ 99) := by
  obtain ⟨h1, h2, h3⟩ := pW_g (tx := tx) hu (gm_bn (u + 6)) p h (Nat.le_refl _)
  unfold pWN
  by_cases e : (pW tx n u (gm_bn (u + 6)) p).1 = true
  · rw [if_pos e]
    obtain ⟨g1, g2, g3⟩ := pN_g (tx := tx) h2
    exact ⟨by omega, g2, fun q => by have := g3 q; have := h3 e; omega⟩
  · rw [if_neg e]
    exact ⟨h1, h2, fun q => by cases q⟩
theorem pS_end {tx : Nat → Int32} {n : Nat} {F : Nat → pA} {p : Nat} (h1 : pd tx n p ≠ 38) (h2 : pd tx n p ≠ 124) : ∀ fu : Nat, pS tx n F fu p = (true, p, [])
  | 0 => rfl
  | fu + 1 => by unfold pS; rw [if_neg (fun h => h.elim h1 h2)]
theorem pS_ok {tx : Nat → Int32} {n : Nat} {F : Nat → pA} {p fu : Nat} (h1 : pd tx n p = 38 ∨ pd tx n p = 124) (h2 : (F (p + 1)).1 = true) : pS tx n F (fu + 1) p = ((pS tx n F fu (F (p + 1)).2.1).1, (pS tx n F fu (F (p + 1)).2.1).2.1, (decide (pd tx n p = 124), (F (p + 1)).2.2) :: (pS tx n F fu (F (p + 1)).2.1).2.2) := by
  rw [pS, if_pos h1, if_pos h2]
theorem pS_no {tx : Nat → Int32} {n : Nat} {F : Nat → pA} {p fu : Nat} (h1 : pd tx n p = 38 ∨ pd tx n p = 124) (h2 : (F (p + 1)).1 = false) : pS tx n F (fu + 1) p = (false, (F (p + 1)).2.1, []) := by
  rw [pS, if_pos h1, if_neg (by rw [h2]; decide)]
section
variable {A n p : Nat} {tx : Nat → Int32} {μ m : gm_M} {C : List Int32}
theorem v_word (b : BS A n tx μ) (c : cst A n μ p C m) {u : UInt32} (hu : gm_isS u) : gwI (f_X0_readWordAndNumber A u m) (fun x m' => x = (if (pWN tx n u p).1 = true then (pWN tx n u p).2.2 else -1) ∧ cst A n μ (pWN tx n u p).2.1 C m') := by
  refine gwI_of ?_
  unfold f_X0_readWordAndNumber
  have l0 : (0 : Int32).toInt = 0 := rfl
  have l1 : (1 : Int32).toInt = 1 := rfl
  have six := (tx_len (μ := μ) hu).2
  have oL := ofn (k := gm_bn (u + 6)) (by omega)
  refine gw_loop (fun s => ∃ k p' : Nat, s.1 = Int32.ofNat k ∧ k ≤ gm_bn (u + 6) ∧ cst A n μ p' C s.2 ∧ pW tx n u (gm_bn (u + 6) - k) p' = pW tx n u (gm_bn (u + 6)) p) (fun s => 6 - s.1.toInt) (fun s hs => ?_) 5000 ((0 : Int32), m) ⟨0, p, rfl, Nat.zero_le _, c, rfl⟩ (by show 6 - (0 : Int32).toInt < ((5000 : Nat) : Int); omega) (by show 0 ≤ 6 - (0 : Int32).toInt; omega)
  obtain ⟨s1, s2⟩ := s
  obtain ⟨k, p', es, hk, c', hw⟩ := hs
  replace es : s1 = Int32.ofNat k := es
  subst es
  replace c' : cst A n μ p' C s2 := c'
  have ok := ofn (k := k) (by omega)
  refine gw_if hu ?_
  refine gw_bI (R := fun x m' => m' = s2 ∧ x = Int32.ofNat (gm_bn (u + 6))) ⟨_, _, (tx_len hu).1, rfl, rfl⟩ (fun x m' ⟨z, ex⟩ => ?_)
  subst z
  subst ex
  refine gw_le (fun g => ?_) (fun g => ?_)
  · replace g : (Int32.ofNat (gm_bn (u + 6))).toInt ≤ (Int32.ofNat k).toInt := g
    rw [show gm_bn (u + 6) - k = 0 by omega] at hw
    have eW : pWN tx n u p = pN tx n p' := by
      unfold pWN; rw [← hw]; exact if_pos rfl
    refine gw_if (c'.t b) ?_
    refine gw_bI (v_number b c') (fun x m2 ⟨e1, c2⟩ => ?_)
    rw [eW]
    exact gw_some (gs_inr (gq_I ⟨e1, c2⟩))
  · replace g : (Int32.ofNat k).toInt < (Int32.ofNat (gm_bn (u + 6))).toInt := g
    refine gw_if hu ?_
    have tc := tx_char (μ := m') hu (i := Int32.ofNat k) (by omega) (by omega)
    rw [ok, Int.toNat_natCast] at tc
    refine gw_bI (R := fun x m2 => m2 = m' ∧ x = gm_bb (u + 6) k) ⟨_, _, tc.1, rfl, rfl⟩ (fun x m2 ⟨z, ex⟩ => ?_)
    subst z
    subst ex
    refine gw_if (c'.t b) ?_
    rw [show gm_bn (u + 6) - k = (gm_bn (u + 6) - (k + 1)) + 1 by omega] at hw
    rw [pW] at hw
    rw [show gm_bn (u + 6) - (gm_bn (u + 6) - (k + 1) + 1) = k by omega] at hw
    refine gw_bI (v_take b c' (a := gm_bb (u + 6) k) (fun q => by have t2 := tc.2; rw [q] at t2; exact absurd t2 (by decide))) (fun x m3 h3 => ?_)
    rcases h3 with ⟨ex, ep, c3⟩ | ⟨ex, ep, em⟩
    · rw [if_pos ep] at hw
      subst ex
      refine gw_if (by decide) ?_
      refine gw_some (gs_inl ⟨k + 1, p' + 1, ofn1 (by omega), by omega, c3, ?_⟩ ?_ ?_)
      · exact hw
      · show 6 - (Int32.ofNat k + 1).toInt < 6 - (Int32.ofNat k).toInt
        rw [ofn1 (by omega), ofn (k := k + 1) (by omega)]; omega
      · show 0 ≤ 6 - (Int32.ofNat k + 1).toInt
        rw [ofn1 (by omega), ofn (k := k + 1) (by omega)]; omega
    · rw [if_neg ep] at hw
      subst ex
      subst em
      rw [if_neg (by decide)]
      have eW : pWN tx n u p = (false, p', -1) := by
        unfold pWN; rw [← hw]; exact if_neg Bool.false_ne_true
      rw [eW]
      exact gw_some (gs_inr (gq_I ⟨rfl, c'⟩))
def VF (A n : Nat) (μ : gm_M) (G : Nat → Int32 → gm_M → Option (Option Value × gm_M)) (a : Int32) (F : Nat → pA) : Prop := ∀ {p : Nat} {C : List Int32} {m : gm_M}, cst A n μ p C m → C.length ≤ p → gwI (G A a m) (fun x m' => vo A n μ C (F p) x m')
theorem v_either (b : BS A n tx μ) {R0 R1 : Nat → Int32 → gm_M → Option (Option Value × gm_M)} {a : Int32} {F : Nat → pA} (hR : VF A n μ R1 a F) (hF : ∀ p, p ≤ n → pG n p (F p)) : VF A n μ (b_X0_readEither R0 R1) a (pE tx n F) := by
  intro p C m c hC
  refine gwI_of ?_
  unfold b_X0_readEither
  have hn := b.2.2.2.2.1
  have on : (Int32.ofNat n).toInt = n := ofn (by omega)
  have F0 := hF p c.2.1
  refine gw_if (c.t b) ?_
  refine gw_bI (hR c hC) (fun x1 m1 h1 => ?_)
  rcases h1 with ⟨ex, f1, c1⟩ | ⟨ex, f1, C', c1⟩
  · subst ex
    obtain ⟨F1, F2, F3⟩ := F0
    obtain ⟨F4, F5⟩ := F3 f1
    have eE : pE tx n F p = ((pS tx n F (101 - (F p).2.1) (F p).2.1).1, (pS tx n F (101 - (F p).2.1) (F p).2.1).2.1, (F p).2.2 ++ pC false (pS tx n F (101 - (F p).2.1) (F p).2.1).2.2) := by unfold pE; rw [if_pos f1]
    refine gw_if (by decide) ?_
    refine gw_gIw (c1.tc b) ?_
    rw [c1.e9]
    generalize hI : (fun s : Int32 × Int32 × gm_M => ∃ (w : Bool) (q : Nat) (D : List Int32) (fu i : Nat), s.1 = (if w = true then 1 else 0) ∧ s.2.1 = Int32.ofNat i ∧ i ≤ q ∧ 101 ≤ fu + q ∧ cst A n μ q D s.2.2 ∧ D.length + (if w = true then 1 else 0) ≤ q ∧ (pE tx n F p).1 = (pS tx n F fu q).1 ∧ (pE tx n F p).2.1 = (pS tx n F fu q).2.1 ∧ C ++ (pE tx n F p).2.2.map cv = D ++ (pC w (pS tx n F fu q).2.2).map cv) = I
    have iI : ∀ (x y : Int32) (M : gm_M) (w : Bool) (q : Nat) (D : List Int32) (fu i : Nat), x = (if w = true then 1 else 0) → y = Int32.ofNat i → i ≤ q → 101 ≤ fu + q → cst A n μ q D M → D.length + (if w = true then 1 else 0) ≤ q → (pE tx n F p).1 = (pS tx n F fu q).1 → (pE tx n F p).2.1 = (pS tx n F fu q).2.1 → C ++ (pE tx n F p).2.2.map cv = D ++ (pC w (pS tx n F fu q).2.2).map cv → I (x, y, M) := fun x y M w q D fu i h1 h2 h3 h4 h5 h6 h7 h8 h9 => by rw [← hI]; exact ⟨w, q, D, fu, i, h1, h2, h3, h4, h5, h6, h7, h8, h9⟩
    refine gw_loop I (fun s => 200 - s.2.1.toInt) (fun s hs => ?_) 5000 ((0 : Int32), Int32.ofNat (F p).2.1, m1) ?_ ?_ ?_
    · obtain ⟨s1, s2, s3⟩ := s
      rw [← hI] at hs
      obtain ⟨w, q, D, fu, i, h1, h2, h3, h4, h5, h6, h7, h8, h9⟩ := hs
      replace h1 : s1 = (if w = true then 1 else 0) := h1
      replace h2 : s2 = Int32.ofNat i := h2
      replace h5 : cst A n μ q D s3 := h5
      subst h2
      have hq := h5.2.1
      have oi := ofn (k := i) (by omega)
      refine gw_gIw (h5.tc b) ?_
      rw [h5.e8 b]
      refine gw_j (fun M => cst A n μ q D M ∧ pS tx n F fu q = (true, q, [])) (fun M ⟨k1, k2⟩ => ?_) (fun j7 hj7 => ?_)
      · rw [k2] at h7 h8 h9
        refine gw_ite (fun g => ?_) (fun g => ?_)
        · have ew : w = false := by
            cases w with
            | false => rfl
            | true => exact absurd (h1.symm.trans g) (by decide)
          subst ew
          refine gw_z Iff.rfl (Or.inr rfl) (gs_inr (gq_I (Or.inl ⟨rfl, h7, ?_⟩)))
          rw [h8, h9]
          show cst A n μ q (D ++ ([] : List Int32)) M
          rw [List.append_nil]; exact k1
        · have ew : w = true := by
            cases w with
            | true => rfl
            | false => exact absurd h1 g
          subst ew
          replace h6 : D.length + 1 ≤ q := h6
          refine gw_if (k1.t b) ?_
          refine gw_bV (v_put b k1 (by omega) (-3)) (fun M2 k3 => ?_)
          refine gw_z Iff.rfl (Or.inr rfl) (gs_inr (gq_I (Or.inl ⟨rfl, h7, ?_⟩)))
          rw [h8, h9]
          exact k3
      · refine gw_le (fun g => ?_) (fun g => ?_)
        · replace g : (Int32.ofNat n).toInt ≤ (Int32.ofNat i).toInt := g
          have e : pd tx n q = -1 := by unfold pd; rw [if_neg (by omega)]
          exact hj7 _ ⟨h5, pS_end (by rw [e]; decide) (by rw [e]; decide) fu⟩
        · refine gw_if (h5.t b) ?_
          refine gw_bI (v_take b h5 (a := 38) (by decide)) (fun x10 m10 h10 => ?_)
          refine gw_j (fun t : Int32 × gm_M => I (t.1, Int32.ofNat i + 1, t.2)) (fun t ht => ?_) (fun j13 hj13 => ?_)
          · replace g : (Int32.ofNat i).toInt < (Int32.ofNat n).toInt := g
            refine gw_some (gs_inl ht ?_ ?_)
            · show 200 - (Int32.ofNat i + 1).toInt < 200 - (Int32.ofNat i).toInt
              rw [ofn1 (by omega), ofn (k := i + 1) (by omega)]; omega
            · show 0 ≤ 200 - (Int32.ofNat i + 1).toInt
              rw [ofn1 (by omega), ofn (k := i + 1) (by omega)]; omega
          · rcases h10 with ⟨ex, ep, c10⟩ | ⟨ex, ep, em⟩
            · -- &
              subst ex
              rw [if_neg (by decide)]
              have hq1 := c10.2.1
              have G := hF (q + 1) hq1
              obtain ⟨fv, rfl⟩ : ∃ fv, fu = fv + 1 := ⟨fu - 1, by omega⟩
              refine gw_if (c10.t b) ?_
              refine gw_bI (hR c10 (by split at h6 <;> omega)) (fun x22 m22 h22 => ?_)
              rcases h22 with ⟨ex, f2, c22⟩ | ⟨ex, f2, C2, c22⟩
              · subst ex
                refine gw_if (by decide) ?_
                have e1 := pS_ok (tx := tx) (fu := fv) (Or.inl ep) f2
                rw [show decide (pd tx n q = 124) = false from decide_eq_false (by rw [ep]; decide)] at e1
                rw [e1] at h7 h8 h9
                obtain ⟨G1, G2, G3⟩ := G
                obtain ⟨G4, G5⟩ := G3 f2
                have len : (D ++ (F (q + 1)).2.2.map cv).length = D.length + (F (q + 1)).2.2.length := by rw [List.length_append, List.length_map]
                refine gw_if (c22.t b) ?_
                refine gw_bV (v_put b c22 (by rw [len]; split at h6 <;> omega) (-2)) (fun m24 c24 => ?_)
                refine hj13 _ (iI _ _ _ w (F (q + 1)).2.1 _ fv (i + 1) h1 (ofn1 (by omega)) (by omega) (by omega) c24 ?_ h7 h8 ?_)
                · rw [List.length_append, len, List.length_singleton]; split <;> split at h6 <;> omega
                · rw [h9]
                  show D ++ ((F (q + 1)).2.2 ++ ((-2 : Int32) :: pC w (pS tx n F fv (F (q + 1)).2.1).2.2)).map cv = D ++ (F (q + 1)).2.2.map cv ++ [-2] ++ (pC w (pS tx n F fv (F (q + 1)).2.1).2.2).map cv
                  rw [List.map_append, List.map_cons, cv_neg (by decide), List.append_assoc, List.append_assoc]; rfl
              · subst ex
                rw [if_neg (by decide)]
                have e1 := pS_no (tx := tx) (fu := fv) (Or.inl ep) f2
                rw [e1] at h7 h8
                exact gw_z Iff.rfl (Or.inl rfl) (gs_inr (gq_I (Or.inr ⟨rfl, h7, C2, by rw [h8]; exact c22⟩)))
            · subst ex
              subst em
              rw [if_pos rfl]
              refine gw_if (h5.t b) ?_
              refine gw_bI (v_take b h5 (a := 124) (by decide)) (fun x15 m14 h14 => ?_)
              rcases h14 with ⟨ex, ep2, c14⟩ | ⟨ex, ep2, em⟩
              · -- |
                subst ex
                rw [if_neg (by decide)]
                have hq1 := c14.2.1
                have G := hF (q + 1) hq1
                obtain ⟨fv, rfl⟩ : ∃ fv, fu = fv + 1 := ⟨fu - 1, by omega⟩
                refine gw_j (fun M => cst A n μ (q + 1) (D ++ (if w = true then [-3] else [])) M) (fun M k1 => ?_) (fun j17 hj17 => ?_)
                · have len0 : (D ++ (if w = true then [-3] else []) : List Int32).length ≤ q := by
                    rw [List.length_append]
                    cases w with
                    | true => exact h6
                    | false => exact h6
                  refine gw_if (k1.t b) ?_
                  refine gw_bI (hR k1 (by omega)) (fun x19 m18 h18 => ?_)
                  rcases h18 with ⟨ex, f2, c18⟩ | ⟨ex, f2, C2, c18⟩
                  · subst ex
                    refine gw_if (by decide) ?_
                    have e1 := pS_ok (tx := tx) (fu := fv) (Or.inr ep2) f2
                    rw [show decide (pd tx n q = 124) = true from decide_eq_true ep2] at e1
                    rw [e1] at h7 h8 h9
                    obtain ⟨G1, G2, G3⟩ := G
                    obtain ⟨G4, G5⟩ := G3 f2
                    refine hj13 _ (iI _ _ _ true (F (q + 1)).2.1 _ fv (i + 1) rfl (ofn1 (by omega)) (by omega) (by omega) c18 ?_ h7 h8 ?_)
                    · rw [List.length_append, List.length_map, if_pos rfl]; omega
                    · rw [h9]
                      show D ++ ((if w = true then [-3] else []) ++ ((F (q + 1)).2.2 ++ pC true (pS tx n F fv (F (q + 1)).2.1).2.2)).map cv = D ++ (if w = true then [-3] else []) ++ (F (q + 1)).2.2.map cv ++ (pC true (pS tx n F fv (F (q + 1)).2.1).2.2).map cv
                      have ew : (if w = true then [-3] else [] : List Int32).map cv = (if w = true then [-3] else []) := by cases w <;> rfl
                      rw [List.map_append, List.map_append, ew, List.append_assoc, List.append_assoc]
                  · subst ex
                    rw [if_neg (by decide)]
                    have e1 := pS_no (tx := tx) (fu := fv) (Or.inr ep2) f2
                    rw [e1] at h7 h8
                    exact gw_z Iff.rfl (Or.inl rfl) (gs_inr (gq_I (Or.inr ⟨rfl, h7, C2, by rw [h8]; exact c18⟩)))
                · refine gw_ite (fun g => ?_) (fun g => ?_)
                  · have ew : w = false := by
                      cases w with
                      | false => rfl
                      | true => exact absurd (h1.symm.trans g) (by decide)
                    subst ew
                    exact hj17 _ (by rw [if_neg (by decide), List.append_nil]; exact c14)
                  · have ew : w = true := by
                      cases w with
                      | true => rfl
                      | false => exact absurd h1 g
                    subst ew
                    replace h6 : D.length + 1 ≤ q := h6
                    refine gw_if (c14.t b) ?_
                    exact gw_bV (v_put b c14 (by omega) (-3)) (fun M2 k3 => hj17 _ k3)
              · subst ex
                subst em
                rw [if_pos rfl]
                exact hj7 _ ⟨h5, pS_end ep ep2 fu⟩
    · refine iI _ _ _ false (F p).2.1 _ (101 - (F p).2.1) (F p).2.1 rfl rfl (Nat.le_refl _) (by omega) c1 ?_ (by rw [eE]) (by rw [eE]) ?_
      · rw [List.length_append, List.length_map, if_neg (by decide)]; omega
      · rw [eE]
        show C ++ ((F p).2.2 ++ pC false _).map cv = C ++ (F p).2.2.map cv ++ (pC false _).map cv
        rw [List.map_append, List.append_assoc]
    · show 200 - (Int32.ofNat (F p).2.1).toInt < ((5000 : Nat) : Int)
      rw [ofn (k := (F p).2.1) (by omega)]; omega
    · show 0 ≤ 200 - (Int32.ofNat (F p).2.1).toInt
      rw [ofn (k := (F p).2.1) (by omega)]; omega
  · subst ex
    rw [if_neg (by decide)]
    have eE : pE tx n F p = (false, (F p).2.1, []) := by unfold pE; rw [if_neg (by rw [f1]; decide)]
    exact gw_z Iff.rfl (Or.inl rfl) (gq_I (Or.inr ⟨rfl, by rw [eE], C', by rw [eE]; exact c1⟩))
theorem v_factor (b : BS A n tx μ) {R0 R1 : Nat → Int32 → gm_M → Option (Option Value × gm_M)} {e : Nat} (he : e ≤ 5) (h0 : ∀ e', e = e' + 1 → VF A n μ R0 (Int32.ofNat (5 - e')) (pE tx n (pF tx n e'))) (h1 : ∀ e', e = e' + 1 → VF A n μ R1 (Int32.ofNat (5 - e')) (pF tx n e')) : VF A n μ (b_X0_readFactor R0 R1) (Int32.ofNat (5 - e)) (pF tx n e) := by
  intro p C m c hC
  refine gwI_of ?_
  unfold b_X0_readFactor
  have hn := b.2.2.2.2.1
  have hp := c.2.1
  have l5 : (5 : Int32).toInt = 5 := rfl
  have oe := ofn (k := 5 - e) (by omega)
  refine gw_if (c.t b) ?_
  refine gw_bI (v_next b c) (fun x m' ⟨ex, em⟩ => ?_)
  subst em
  refine gw_j (fun _ => x = 33 ∨ x = 40) (fun _ hx => ?_) (fun j hj => ?_)
  · have q : p < n := pd_lt (tx := tx) (by rw [← ex]; intro h; rw [h] at hx; exact absurd hx (by decide))
    refine gw_lt (fun g => ?_) (fun g => ?_)
    · obtain ⟨d, rfl⟩ : ∃ d, e = d + 1 := ⟨e - 1, by omega⟩
      have h0' : VF A n μ R0 (Int32.ofNat (5 - d)) (pE tx n (pF tx n d)) := h0 d rfl
      have h1' : VF A n μ R1 (Int32.ofNat (5 - d)) (pF tx n d) := h1 d rfl
      have ea : Int32.ofNat (5 - (d + 1)) + 1 = Int32.ofNat (5 - d) := by rw [ofn1 (by omega), show 5 - (d + 1) + 1 = 5 - d by omega]
      refine gw_gIw (c.tc b) ?_
      refine gw_pIw (c.tc b) ?_
      rw [c.e9, ofn1 (by omega), ea]
      have c1 := c.at (q := p + 1) (by omega)
      generalize wI m' A 9 (Int32.ofNat (p + 1)) = M at *
      refine gw_ite (fun g2 => ?_) (fun g2 => ?_)
      · -- !
        have e33 : pd tx n p = 33 := by rw [← ex]; exact hx.elim id (fun h => absurd h g2)
        have G := pF_g (tx := tx) d (p + 1) q
        have eF : pF tx n (d + 1) p = (if (pF tx n d (p + 1)).1 = true then (true, (pF tx n d (p + 1)).2.1, (pF tx n d (p + 1)).2.2 ++ [-1]) else (false, (pF tx n d (p + 1)).2.1, [])) := by
          rw [pF]
          show (if pd tx n p = 40 then _ else if pd tx n p = 33 then _ else _) = _
          rw [if_neg (by rw [e33]; decide), if_pos e33]
        refine gw_if (c1.t b) ?_
        refine gw_bI (h1' c1 (by omega)) (fun x8 m7 h7 => ?_)
        rcases h7 with ⟨ex8, f1, c7⟩ | ⟨ex8, f1, C', c7⟩
        · subst ex8
          refine gw_if (by decide) ?_
          obtain ⟨G1, G2, G3⟩ := G
          obtain ⟨G4, G5⟩ := G3 f1
          rw [if_pos f1] at eF
          refine gw_if (c7.t b) ?_
          refine gw_bV (v_put b c7 (by rw [List.length_append, List.length_map]; omega) (-1)) (fun m9 c9 => ?_)
          refine gw_z Iff.rfl (Or.inr rfl) (gq_I (Or.inl ⟨rfl, by rw [eF], ?_⟩))
          rw [eF]
          show cst A n μ _ (C ++ ((pF tx n d (p + 1)).2.2 ++ [-1]).map cv) m9
          rw [List.map_append, ← List.append_assoc]
          exact c9
        · subst ex8
          rw [if_neg (by decide)]
          rw [if_neg (by rw [f1]; decide)] at eF
          exact gw_z Iff.rfl (Or.inl rfl) (gq_I (Or.inr ⟨rfl, by rw [eF], C', by rw [eF]; exact c7⟩))
      · -- (
        have e40 : pd tx n p = 40 := by rw [← ex]; exact Decidable.not_not.mp g2
        have eF : pF tx n (d + 1) p = (if (pE tx n (pF tx n d) (p + 1)).1 = true then (if pd tx n (pE tx n (pF tx n d) (p + 1)).2.1 = 41 then (true, (pE tx n (pF tx n d) (p + 1)).2.1 + 1, (pE tx n (pF tx n d) (p + 1)).2.2) else (false, (pE tx n (pF tx n d) (p + 1)).2.1, [])) else (false, (pE tx n (pF tx n d) (p + 1)).2.1, [])) := by
          rw [pF]
          show (if pd tx n p = 40 then _ else _) = _
          rw [if_pos e40]
        have hB := h0' c1 (by omega)
        generalize pE tx n (pF tx n d) (p + 1) = r at *
        refine gw_if (c1.t b) ?_
        refine gw_bI hB (fun x12 m11 h11 => ?_)
        rcases h11 with ⟨ex12, f1, c11⟩ | ⟨ex12, f1, C', c11⟩
        · subst ex12
          rw [if_pos f1] at eF
          rw [if_neg (by decide)]
          refine gw_if (c11.t b) ?_
          refine gw_bI (v_take b c11 (a := 41) (by decide)) (fun x14 m13 h13 => ?_)
          rcases h13 with ⟨e14, ep, c13⟩ | ⟨e14, ep, em⟩
          · subst e14
            rw [if_pos ep] at eF
            rw [if_neg (by decide)]
            exact gw_z Iff.rfl (Or.inr rfl) (gq_I (Or.inl ⟨rfl, by rw [eF], by rw [eF]; exact c13⟩))
          · subst e14
            subst em
            rw [if_neg ep] at eF
            rw [if_pos rfl]
            exact gw_z Iff.rfl (Or.inl rfl) (gq_I (Or.inr ⟨rfl, by rw [eF], _, by rw [eF]; exact c11⟩))
        · subst ex12
          rw [if_neg (by rw [f1]; decide)] at eF
          rw [if_pos rfl]
          exact gw_z Iff.rfl (Or.inl rfl) (gq_I (Or.inr ⟨rfl, by rw [eF], C', by rw [eF]; exact c11⟩))
    · have e0 : e = 0 := by omega
      subst e0
      have eF : pF tx n 0 p = (false, p, []) := by
        rw [pF]
        exact if_pos (by rw [← ex]; exact hx)
      exact gw_z Iff.rfl (Or.inl rfl) (gq_I (Or.inr ⟨rfl, by rw [eF], C, by rw [eF]; exact c⟩))
  · refine gw_ite (fun g => hj _ (Or.inl g)) (fun g => ?_)
    refine gw_ite (fun g2 => hj _ (Or.inr g2)) (fun g2 => ?_)
    have eF : pF tx n e p = pT tx n p := by
      rw [ex] at g g2
      cases e with
      | zero => rw [pF]; exact if_neg (fun h => h.elim g g2)
      | succ d =>
        rw [pF]
        show (if pd tx n p = 40 then _ else if pd tx n p = 33 then _ else _) = _
        rw [if_neg g2, if_neg g]
    refine gw_if (c.t b) ?_
    refine gw_bI (v_test b c hC) (fun x16 m15 h => ?_)
    exact gw_z Iff.rfl (h.p1.imp (fun e => by rw [e]; rfl) (fun e => by rw [e]; rfl)) (gq_I (by rw [eF]; exact h))
theorem vr_read (b : BS A n tx μ) : ∀ (fu e : Nat), e ≤ 5 → (2 * e + 2 ≤ fu → VF A n μ (r_X0_readEither fu).1 (Int32.ofNat (5 - e)) (pE tx n (pF tx n e))) ∧ (2 * e + 1 ≤ fu → VF A n μ (r_X0_readEither fu).2 (Int32.ofNat (5 - e)) (pF tx n e))
  | 0, e, _ => ⟨fun h => by omega, fun h => by omega⟩
  | fu + 1, e, he => ⟨fun h => v_either b (R0 := (r_X0_readEither fu).1) ((vr_read b fu e he).2 (by omega)) (fun p => pF_g e p), fun h => v_factor b he (fun e' q => (vr_read b fu e' (by omega)).1 (by omega)) (fun e' q => (vr_read b fu e' (by omega)).2 (by omega))⟩
end
end
section
/-! clauses: wind, sweet, the steps; a change is a step -10 or less -/
def cds (L : List Int32) : List Int32 := (L.filter (fun s => decide (-10 < s.toInt))).map cv
def amt (s : Int32) : Int32 := if -200 < s.toInt then -10 - s else s + 200
def chs : List Int32 → Nat → List (Int32 × Nat)
  | [], _ => []
  | s :: L, k => if -10 < s.toInt then chs L (k + 1) else (amt s, k) :: chs L k
theorem cds_app (L T : List Int32) : cds (L ++ T) = cds L ++ cds T := by unfold cds; rw [List.filter_append, List.map_append]
theorem cds_len (L : List Int32) : (cds L).length ≤ L.length := by unfold cds; rw [List.length_map]; exact List.length_filter_le _ _
theorem cds_all {T : List Int32} (h : ∀ s ∈ T, -10 < s.toInt) : cds T = T.map cv := by
  unfold cds; rw [List.filter_eq_self.mpr (fun s hs => decide_eq_true (h s hs))]
theorem chs_app : ∀ (L T : List Int32) (k : Nat), chs (L ++ T) k = chs L k ++ chs T (k + (cds L).length)
  | [], T, k => rfl
  | s :: L, T, k => by
    show chs (s :: (L ++ T)) k = chs (s :: L) k ++ chs T (k + (cds (s :: L)).length)
    rw [show chs (s :: (L ++ T)) k = if -10 < s.toInt then chs (L ++ T) (k + 1) else (amt s, k) :: chs (L ++ T) k from rfl, show chs (s :: L) k = if -10 < s.toInt then chs L (k + 1) else (amt s, k) :: chs L k from rfl]
    by_cases h : -10 < s.toInt
    · have e : (cds (s :: L)).length = (cds L).length + 1 := by
        unfold cds; rw [List.filter_cons_of_pos (by exact decide_eq_true h)]; rfl
      rw [if_pos h, if_pos h, chs_app L T (k + 1), e, show k + ((cds L).length + 1) = k + 1 + (cds L).length by omega]
    · have e : (cds (s :: L)).length = (cds L).length := by
        unfold cds; rw [List.filter_cons_of_neg (by rw [decide_eq_true_eq]; exact h)]
      rw [if_neg h, if_neg h, chs_app L T k, e]
      rfl
theorem chs_all : ∀ {T : List Int32} (_ : ∀ s ∈ T, -10 < s.toInt) (k : Nat), chs T k = []
  | [], _, _ => rfl
  | s :: T, h, k => by
    unfold chs
    rw [if_pos (h s List.mem_cons_self)]
    exact chs_all (fun q hq => h q (List.mem_cons_of_mem _ hq)) (k + 1)
theorem amt_k {x : Int32} (h : 0 ≤ x.toInt ∧ x.toInt ≤ 99) : (amt (-10 - x) = x ∧ (-10 - x).toInt ≤ -10) ∧ (amt (-200 - x) = -x ∧ (-200 - x).toInt ≤ -10) := by
  have k : ∀ k : Fin 100, (amt (-10 - Int32.ofNat k.val) = Int32.ofNat k.val ∧ (-10 - Int32.ofNat k.val).toInt ≤ -10) ∧ (amt (-200 - Int32.ofNat k.val) = -Int32.ofNat k.val ∧ (-200 - Int32.ofNat k.val).toInt ≤ -10) := by decide +kernel
  have := k ⟨x.toInt.toNat, by omega⟩
  rw [show Int32.ofNat (⟨x.toInt.toNat, by omega⟩ : Fin 100).val = x from gx_of h.1] at this
  exact this
/-! steps of E are no changes -/
def tkn (T : List Int32) : Prop := ∀ s ∈ T, -10 < s.toInt
theorem tk_app {S T : List Int32} (h : tkn S) (g : tkn T) : tkn (S ++ T) := fun s hs => (List.mem_append.mp hs).elim (h s) (g s)
theorem tk_one {s : Int32} (h : -10 < s.toInt) : tkn [s] := fun q hq => by rw [List.mem_singleton.mp hq]; exact h
theorem tk_nil : tkn [] := fun _ h => absurd h List.not_mem_nil
theorem pC_tk : ∀ (w : Bool) (S : List (Bool × List Int32)), (∀ q ∈ S, tkn q.2) → tkn (pC w S)
  | true, [], _ => tk_one (by decide)
  | false, [], _ => tk_nil
  | w, (true, L) :: S, h => by
    show tkn ((if w = true then [-3] else []) ++ (L ++ pC true S))
    refine tk_app ?_ (tk_app (h (true, L) List.mem_cons_self) (pC_tk true S (fun q hq => h q (List.mem_cons_of_mem _ hq))))
    cases w
    · exact tk_nil
    · exact tk_one (by decide)
  | w, (false, L) :: S, h => by
    show tkn (L ++ ((-2 : Int32) :: pC w S))
    exact tk_app (h (false, L) List.mem_cons_self) (tk_app (S := [-2]) (tk_one (by decide)) (pC_tk w S (fun q hq => h q (List.mem_cons_of_mem _ hq))))
theorem pS_tk {tx : Nat → Int32} {n : Nat} {F : Nat → pA} (hF : ∀ p, tkn (F p).2.2) : ∀ (fu p : Nat), ∀ q ∈ (pS tx n F fu p).2.2, tkn q.2
  | 0, p => fun q hq => absurd hq List.not_mem_nil
  | fu + 1, p => by
    unfold pS
    split
    · split
      · intro q hq
        rcases List.mem_cons.mp hq with h | h
        · rw [h]; exact hF _
        · exact pS_tk hF fu _ q h
      · exact fun q hq => absurd hq List.not_mem_nil
    · exact fun q hq => absurd hq List.not_mem_nil
theorem pE_tk {tx : Nat → Int32} {n : Nat} {F : Nat → pA} (hF : ∀ p, tkn (F p).2.2) (p : Nat) : tkn (pE tx n F p).2.2 := by
  unfold pE
  split
  · exact tk_app (hF p) (pC_tk false _ (pS_tk hF _ _))
  · exact tk_nil
theorem pT_tk {tx : Nat → Int32} {n p : Nat} (h : p ≤ n) : tkn (pT tx n p).2.2 := by
  unfold pT
  split
  · exact tk_nil
  · rename_i h1
    split
    · exact tk_nil
    · rename_i h2
      split
      · rename_i h3
        have a := pO_b5 h1
        have b := pO_b6 h2
        have a1 := pd_lt a.2.2
        have b1 := pd_lt b.2.2
        have c := (pN_g (tx := tx) (n := n) (p := p + 2) (by omega)).2.2 h3
        have n1 : ((8 : Int32) * pO 6 (pd tx n (p + 1))).toInt = 8 * (pO 6 (pd tx n (p + 1))).toInt := gx_mul 8 rfl (by omega) (by omega)
        have n2 : ((32 : Int32) * (pN tx n (p + 2)).2.2).toInt = 32 * (pN tx n (p + 2)).2.2.toInt := gx_mul 32 rfl (by omega) (by omega)
        have n3 : (pO 5 (pd tx n p) + (8 : Int32) * pO 6 (pd tx n (p + 1))).toInt = (pO 5 (pd tx n p)).toInt + ((8 : Int32) * pO 6 (pd tx n (p + 1))).toInt := gx_add (by omega) (by omega)
        have n4 : ((pO 5 (pd tx n p) + (8 : Int32) * pO 6 (pd tx n (p + 1))) + (32 : Int32) * (pN tx n (p + 2)).2.2).toInt = (pO 5 (pd tx n p) + (8 : Int32) * pO 6 (pd tx n (p + 1))).toInt + ((32 : Int32) * (pN tx n (p + 2)).2.2).toInt := gx_add (by omega) (by omega)
        exact tk_one (by omega)
      · exact tk_nil
theorem pT_over {tx : Nat → Int32} {n p : Nat} (h : n < p) : pT tx n p = (false, p, []) := by
  unfold pT
  rw [if_pos]
  have : pd tx n p = -1 := by unfold pd; rw [if_neg (by omega)]
  rw [this]; decide
theorem pF_tk {tx : Nat → Int32} {n : Nat} : ∀ (d p : Nat), tkn (pF tx n d p).2.2
  | 0, p => by
    rw [pF]
    show tkn (if pd tx n p = 33 ∨ pd tx n p = 40 then (false, p, []) else pT tx n p).2.2
    split
    · exact tk_nil
    · by_cases h : p ≤ n
      · exact pT_tk h
      · rw [pT_over (by omega)]; exact tk_nil
  | d + 1, p => by
    rw [pF]
    have hE : tkn (pE tx n (pF tx n d) (p + 1)).2.2 := pE_tk (fun p => pF_tk d p) (p + 1)
    have hF : tkn (pF tx n d (p + 1)).2.2 := pF_tk d (p + 1)
    show tkn (if pd tx n p = 40 then (if (pE tx n (pF tx n d) (p + 1)).1 = true then (if pd tx n (pE tx n (pF tx n d) (p + 1)).2.1 = 41 then (true, (pE tx n (pF tx n d) (p + 1)).2.1 + 1, (pE tx n (pF tx n d) (p + 1)).2.2) else (false, (pE tx n (pF tx n d) (p + 1)).2.1, [])) else (false, (pE tx n (pF tx n d) (p + 1)).2.1, [])) else if pd tx n p = 33 then (if (pF tx n d (p + 1)).1 = true then (true, (pF tx n d (p + 1)).2.1, (pF tx n d (p + 1)).2.2 ++ [-1]) else (false, (pF tx n d (p + 1)).2.1, [])) else pT tx n p : pA).2.2
    generalize pE tx n (pF tx n d) (p + 1) = e at *
    generalize pF tx n d (p + 1) = f at *
    split
    · split
      · split
        · exact hE
        · exact tk_nil
      · exact tk_nil
    · split
      · split
        · exact tk_app hF (tk_one (by decide))
        · exact tk_nil
      · by_cases h : p ≤ n
        · exact pT_tk h
        · rw [pT_over (by omega)]; exact tk_nil
abbrev pB : Type := Bool × Nat × Int32 × Int32 × List Int32
/-- a change: the word u from p on, a blank, an E; kd less the number is its step -/
def pM (tx : Nat → Int32) (n : Nat) (u : UInt32) (kd : Int32) (p : Nat) (w sw : Int32) (L : List Int32) : pB :=
  if (pWN tx n u p).1 = true then
    if pd tx n (pWN tx n u p).2.1 = 32 then
      ((pE tx n (pF tx n 5) ((pWN tx n u p).2.1 + 1)).1, (pE tx n (pF tx n 5) ((pWN tx n u p).2.1 + 1)).2.1, w, sw, (L ++ (pE tx n (pF tx n 5) ((pWN tx n u p).2.1 + 1)).2.2) ++ [kd - (pWN tx n u p).2.2])
    else (false, (pWN tx n u p).2.1, w, sw, L)
  else (false, (pWN tx n u p).2.1, w, sw, L)
def pK (tx : Nat → Int32) (n p : Nat) (w sw : Int32) (L : List Int32) : pB :=
  if pd tx n p = 119 then ((pWN tx n 1 p).1, (pWN tx n 1 p).2.1, (pWN tx n 1 p).2.2, sw, L)
  else if pd tx n p = 115 then
    if pd tx n (p + 1) = 119 then ((pWN tx n 2 (p + 1)).1, (pWN tx n 2 (p + 1)).2.1, w, (pWN tx n 2 (p + 1)).2.2, L)
    else if pd tx n (p + 1) = 116 then
      if pd tx n (p + 2) = 114 then pM tx n 3 (-10) (p + 2) w sw L else pM tx n 4 (-200) (p + 2) w sw L
    else (false, p + 1, w, sw, L)
  else (false, p, w, sw, L)
/-- behind a clause: k more may come -/
def pR (tx : Nat → Int32) (n : Nat) : Nat → pB → pB
  | 0, r => if n ≤ r.2.1 then r else (false, r.2)
  | k + 1, r => if n ≤ r.2.1 then r else if pd tx n r.2.1 = 59 then
      (if (pK tx n (r.2.1 + 1) r.2.2.1 r.2.2.2.1 r.2.2.2.2).1 = true then pR tx n k (pK tx n (r.2.1 + 1) r.2.2.1 r.2.2.2.1 r.2.2.2.2) else pK tx n (r.2.1 + 1) r.2.2.1 r.2.2.2.1 r.2.2.2.2)
    else (false, r.2)
def pAft (tx : Nat → Int32) (n : Nat) : pB := if (pK tx n 0 0 20 []).1 = true then pR tx n 9 (pK tx n 0 0 20 []) else pK tx n 0 0 20 []
def dst (A n : Nat) (μ : gm_M) (p : Nat) (w sw : Int32) (L : List Int32) (m : gm_M) : Prop := (m.1 = μ.1 ∧ m.2.2 = μ.2.2 ∧ (∀ r : Nat, r ≠ A → r ≠ A + 1 → r ≠ A + 2 → r ≠ A + 3 → m.2.1 r = μ.2.1 r) ∧ m.2.1 A 8 = μ.2.1 A 8) ∧ (p ≤ n ∧ L.length ≤ p) ∧ (m.2.1 A 0 = w ∧ m.2.1 A 1 = sw ∧ m.2.1 A 9 = Int32.ofNat p) ∧ (m.2.1 A 6 = Int32.ofNat (cds L).length ∧ ∀ i : Nat, i < (cds L).length → (cds L)[i]? = some (m.2.1 (A + 3) i)) ∧ m.2.1 A 2 = Int32.ofNat (chs L 0).length ∧ ∀ (i : Nat) (q : Int32 × Nat), (chs L 0)[i]? = some q → m.2.1 (A + 1) i = q.1 ∧ m.2.1 (A + 2) i = Int32.ofNat q.2
section
variable {A n p : Nat} {tx : Nat → Int32} {μ m : gm_M} {w sw : Int32} {L : List Int32}
theorem dst.b (b : BS A n tx μ) (d : dst A n μ p w sw L m) : BS A n tx m := by
  obtain ⟨b1, b2, b3, b4, b5, b6, b7, b8⟩ := b
  obtain ⟨⟨d1, d2, d3, d4⟩, -⟩ := d
  exact ⟨b1.same d1 d2, b2, by rw [d1]; exact b3, by rw [d2]; exact b4, b5, by rw [d4]; exact b6, by rw [d3 17 (by omega) (by omega) (by omega) (by omega)]; exact b7, b8⟩
theorem dst.c (b : BS A n tx μ) (d : dst A n μ p w sw L m) : cst A n m p (cds L) m := by
  have := cds_len L
  have hn := b.2.2.2.2.1
  obtain ⟨-, d1, d2, d3, -⟩ := d
  exact cst.refl d1.1 d2.2.2 (by omega) d3.1 d3.2
theorem dst.on (d : dst A n μ p w sw L m) {q : Nat} {T : List Int32} {m' : gm_M} (hT : tkn T) (c : cst A n m q (cds L ++ T.map cv) m') (hq : (L ++ T).length ≤ q) : dst A n μ q w sw (L ++ T) m' := by
  obtain ⟨⟨d1, d2, d3, d4⟩, d5, ⟨d6, d7, -⟩, -, d8, d9⟩ := d
  obtain ⟨⟨c1, c2, c3, c4⟩, c5, c6, c7, c8, c9⟩ := c
  have e : cds (L ++ T) = cds L ++ T.map cv := by rw [cds_app, cds_all hT]
  have e2 : chs (L ++ T) 0 = chs L 0 := by rw [chs_app, chs_all hT, List.append_nil]
  refine ⟨⟨c1.trans d1, c2.trans d2, fun r r1 r2 r3 r4 => (c3 r r1 r4).trans (d3 r r1 r2 r3 r4), (c4 8 (by decide) (by decide)).trans d4⟩, ⟨c5, hq⟩, ⟨(c4 0 (by decide) (by decide)).trans d6, (c4 1 (by decide) (by decide)).trans d7, c6⟩, by rw [e]; exact ⟨c8, c9⟩, by rw [e2, c4 2 (by decide) (by decide)]; exact d8, by rw [e2]; exact fun i q hi => by rw [c3 (A + 1) (by omega) (by omega), c3 (A + 2) (by omega) (by omega)]; exact d9 i q hi⟩
theorem dst.e2 (d : dst A n μ p w sw L m) : m.2.1 A 2 = Int32.ofNat (chs L 0).length := d.2.2.2.2.1
theorem dst.e6 (d : dst A n μ p w sw L m) : m.2.1 A 6 = Int32.ofNat (cds L).length := d.2.2.2.1.1
theorem dst.e9 (d : dst A n μ p w sw L m) : m.2.1 A 9 = Int32.ofNat p := d.2.2.1.2.2
theorem v_change (b : BS A n tx μ) (d : dst A n μ p w sw L m) (hc : (chs L 0).length < 10) {s : Int32} (hs : s.toInt ≤ -10) (hL : L.length + 1 ≤ p) : gwV (f_X0_addChange A (amt s) m) (fun m' => dst A n μ p w sw (L ++ [s]) m' ∧ (chs (L ++ [s]) 0).length = (chs L 0).length + 1) := by
  have bm := d.b b
  have hS : gS m := bm.1
  have t : [5].contains (gm_tag m A) = true := by unfold gm_tag; rw [bm.2.2.1.1]; rfl
  have t1 : gm_tag m (A + 1) = 1 := by unfold gm_tag; rw [bm.2.2.1.2.1]
  have l1 : gm_len m (A + 1) = 10 := by unfold gm_len; rw [bm.2.2.1.2.1]
  have t2 : gm_tag m (A + 2) = 1 := by unfold gm_tag; rw [bm.2.2.1.2.2.1]
  have l2 : gm_len m (A + 2) = 10 := by unfold gm_len; rw [bm.2.2.1.2.2.1]
  have l10 : (10 : Int32).toInt = 10 := rfl
  have ok := ofn (k := (chs L 0).length) (by omega)
  have e2 := d.e2
  have e6 := d.e6
  have ec : cds (L ++ [s]) = cds L := by
    rw [cds_app]
    show cds L ++ ([s].filter _).map cv = _
    rw [List.filter_cons_of_neg (by rw [decide_eq_true_eq]; omega)]; exact List.append_nil _
  have eh : chs (L ++ [s]) 0 = chs L 0 ++ [(amt s, (cds L).length)] := by
    rw [chs_app, Nat.zero_add]
    show _ ++ (if -10 < s.toInt then _ else _) = _
    rw [if_neg (by omega)]; rfl
  refine gwV_of ?_
  unfold f_X0_addChange
  refine gw_gIw t ?_
  rw [e2]
  refine gw_lt (fun _ => ?_) (fun g => by omega)
  refine gw_gRa (A + 1) t bm.2.2.2.1.1 ?_
  refine gw_gIw t ?_
  rw [e2]
  refine gw_sIw (chs L 0).length t1 l1 ok hc ?_
  refine gw_gRa (A + 2) t bm.2.2.2.1.2.1 ?_
  refine gw_gIw t ?_
  refine gw_gIw t ?_
  rw [wI_o _ _ _ _ (show A ≠ A + 1 by omega), e2, e6]
  refine gw_sIw (chs L 0).length t2 l2 ok hc ?_
  refine gw_gIw t ?_
  refine gw_pIw t ?_
  rw [wI_o _ _ _ _ (show A ≠ A + 2 by omega), wI_o _ _ _ _ (show A ≠ A + 1 by omega), e2, ofn1 (by omega)]
  obtain ⟨⟨d1, d2, d3, d4⟩, d5, ⟨d6, d7, d8⟩, ⟨d9, d10⟩, d11, d12⟩ := d
  generalize hM : wI (wI (wI m (A + 1) (chs L 0).length (amt s)) (A + 2) (chs L 0).length (Int32.ofNat (cds L).length)) A 2 (Int32.ofNat ((chs L 0).length + 1)) = M
  have M1 : M.1 = m.1 := by rw [← hM]; rfl
  have M2 : M.2.2 = m.2.2 := by rw [← hM]; rfl
  have Mo : ∀ r : Nat, r ≠ A → r ≠ A + 1 → r ≠ A + 2 → M.2.1 r = m.2.1 r := fun r r1 r2 r3 => by rw [← hM, wI_o _ _ _ _ r1, wI_o _ _ _ _ r3, wI_o _ _ _ _ r2]
  have MA : ∀ j : Nat, j ≠ 2 → M.2.1 A j = m.2.1 A j := fun j hj => by rw [← hM, wI_n _ _ _ _ hj, wI_o _ _ _ _ (by omega), wI_o _ _ _ _ (by omega)]
  have MA2 : M.2.1 A 2 = Int32.ofNat ((chs L 0).length + 1) := by rw [← hM, wI_e]
  have M1e : M.2.1 (A + 1) (chs L 0).length = amt s := by rw [← hM, wI_o _ _ _ _ (by omega), wI_o _ _ _ _ (by omega), wI_e]
  have M1n : ∀ j : Nat, j ≠ (chs L 0).length → M.2.1 (A + 1) j = m.2.1 (A + 1) j := fun j hj => by rw [← hM, wI_o _ _ _ _ (by omega), wI_o _ _ _ _ (by omega), wI_n _ _ _ _ hj]
  have M2e : M.2.1 (A + 2) (chs L 0).length = Int32.ofNat (cds L).length := by rw [← hM, wI_o _ _ _ _ (by omega), wI_e]
  have M2n : ∀ j : Nat, j ≠ (chs L 0).length → M.2.1 (A + 2) j = m.2.1 (A + 2) j := fun j hj => by rw [← hM, wI_o _ _ _ _ (by omega), wI_n _ _ _ _ hj, wI_o _ _ _ _ (by omega)]
  clear hM
  have len : (chs (L ++ [s]) 0).length = (chs L 0).length + 1 := by rw [eh, List.length_append, List.length_singleton]
  refine gw_some (gq_V ⟨⟨⟨M1.trans d1, M2.trans d2, fun r r1 r2 r3 r4 => (Mo r r1 r2 r3).trans (d3 r r1 r2 r3 r4), (MA 8 (by decide)).trans d4⟩, ⟨d5.1, by rw [List.length_append, List.length_singleton]; exact hL⟩, ⟨(MA 0 (by decide)).trans d6, (MA 1 (by decide)).trans d7, (MA 9 (by decide)).trans d8⟩, ?_, by rw [MA2, len], fun i q hi => ?_⟩, len⟩)
  · rw [ec, MA 6 (by decide), Mo (A + 3) (by omega) (by omega) (by omega)]; exact ⟨d9, d10⟩
  · rw [eh] at hi
    by_cases e : i = (chs L 0).length
    · subst e
      rw [List.getElem?_append_right (Nat.le_refl _), Nat.sub_self] at hi
      injection hi with hi
      subst hi
      exact ⟨M1e, M2e⟩
    · have hl : i < (chs L 0).length := by
        have := (List.getElem?_eq_some_iff.mp hi).1
        rw [List.length_append, List.length_singleton] at this
        omega
      rw [List.getElem?_append_left hl] at hi
      rw [M1n i e, M2n i e]
      exact d12 i q hi
end
end
section
section
variable {A n p : Nat} {tx : Nat → Int32} {μ m : gm_M} {w sw : Int32} {L : List Int32}
theorem dst.at (d : dst A n μ p w sw L m) {q : Nat} {m' : gm_M} (c : cst A n m q (cds L) m') (hq : p ≤ q) : dst A n μ q w sw L m' := by
  have h := d.on (T := []) tk_nil (by rw [List.map_nil, List.append_nil]; exact c) (by rw [List.append_nil]; have := d.2.1; omega)
  rw [List.append_nil] at h
  exact h
theorem dst.w0 (d : dst A n μ p w sw L m) (x : Int32) : dst A n μ p x sw L (wI m A 0 x) := by
  obtain ⟨⟨d1, d2, d3, d4⟩, d5, ⟨d6, d7, d8⟩, ⟨d9, d10⟩, d11, d12⟩ := d
  exact ⟨⟨d1, d2, fun r r1 r2 r3 r4 => (wI_o _ _ _ _ r1).trans (d3 r r1 r2 r3 r4), (wI_n _ _ _ _ (by decide)).trans d4⟩, d5, ⟨wI_e _ _ _ _, (wI_n _ _ _ _ (by decide)).trans d7, (wI_n _ _ _ _ (by decide)).trans d8⟩, ⟨(wI_n _ _ _ _ (by decide)).trans d9, fun i hi => by rw [wI_o _ _ _ _ (by omega)]; exact d10 i hi⟩, (wI_n _ _ _ _ (by decide)).trans d11, fun i q hi => by rw [wI_o _ _ _ _ (by omega), wI_o _ _ _ _ (by omega)]; exact d12 i q hi⟩
theorem dst.w1 (d : dst A n μ p w sw L m) (x : Int32) : dst A n μ p w x L (wI m A 1 x) := by
  obtain ⟨⟨d1, d2, d3, d4⟩, d5, ⟨d6, d7, d8⟩, ⟨d9, d10⟩, d11, d12⟩ := d
  exact ⟨⟨d1, d2, fun r r1 r2 r3 r4 => (wI_o _ _ _ _ r1).trans (d3 r r1 r2 r3 r4), (wI_n _ _ _ _ (by decide)).trans d4⟩, d5, ⟨(wI_n _ _ _ _ (by decide)).trans d6, wI_e _ _ _ _, (wI_n _ _ _ _ (by decide)).trans d8⟩, ⟨(wI_n _ _ _ _ (by decide)).trans d9, fun i hi => by rw [wI_o _ _ _ _ (by omega)]; exact d10 i hi⟩, (wI_n _ _ _ _ (by decide)).trans d11, fun i q hi => by rw [wI_o _ _ _ _ (by omega), wI_o _ _ _ _ (by omega)]; exact d12 i q hi⟩
/-- how a clause ends; c changes at most -/
def vk (A n : Nat) (μ : gm_M) (c : Nat) (r : pB) (x : Int32) (m : gm_M) : Prop := (x = 1 ∧ r.1 = true ∧ dst A n μ r.2.1 r.2.2.1 r.2.2.2.1 r.2.2.2.2 m ∧ (chs r.2.2.2.2 0).length ≤ c) ∨ (x = 0 ∧ r.1 = false ∧ m.2.1 A 9 = Int32.ofNat r.2.1 ∧ r.2.1 ≤ n ∧ m.1 = μ.1)
set_option maxHeartbeats 2000000 in
theorem v_clause (b : BS A n tx μ) (d : dst A n μ p w sw L m) {c : Nat} (hc : (chs L 0).length ≤ c) (hc9 : c ≤ 9) : gwI (f_X0_readClause A m) (fun x m' => vk A n μ (c + 1) (pK tx n p w sw L) x m') := by
  have bm := d.b b
  have c0 := d.c b
  have hn := b.2.2.2.2.1
  have hLp := d.2.1
  have l0 : (0 : Int32).toInt = 0 := rfl
  refine gwI_of ?_
  unfold f_X0_readClause
  refine gw_if (c0.t bm) ?_
  refine gw_bI (v_next bm c0) (fun x2 m1 ⟨ex, em⟩ => ?_)
  subst em
  refine gw_ite (fun g => ?_) (fun g => ?_)
  · have h119 : pd tx n p ≠ 119 := by rw [← ex]; exact g
    refine gw_if (c0.t bm) ?_
    refine gw_bI (v_take bm c0 (a := 115) (by decide)) (fun x4 m3 h3 => ?_)
    rcases h3 with ⟨e4, ep, c1⟩ | ⟨e4, ep, em⟩
    · subst e4
      have q0 := c1.2.1
      refine gw_if (by decide) ?_
      refine gw_if (c1.t bm) ?_
      refine gw_bI (v_next bm c1) (fun x6 m5 ⟨ex6, em⟩ => ?_)
      subst em
      refine gw_ite (fun g6 => ?_) (fun g6 => ?_)
      · have h119' : pd tx n (p + 1) ≠ 119 := by rw [← ex6]; exact g6
        refine gw_if (c1.t bm) ?_
        refine gw_bI (v_take bm c1 (a := 116) (by decide)) (fun x8 m7 h7 => ?_)
        rcases h7 with ⟨e8, ep8, c2⟩ | ⟨e8, ep8, em⟩
        · subst e8
          replace c2 : cst A n m1 (p + 2) (cds L) m7 := c2
          refine gw_if (by decide) ?_
          refine gw_if (c2.t bm) ?_
          refine gw_bI (v_next bm c2) (fun x10 m9 ⟨ex10, em⟩ => ?_)
          subst em
          refine gw_j (fun s11 => (s11 = 0 ∧ pd tx n (p + 2) ≠ 114) ∨ (s11 = 1 ∧ pd tx n (p + 2) = 114)) (fun s11 h11 => ?_) (fun j12 hj12 => ?_)
          · refine gw_j (fun s13 => (s11 = 0 ∧ s13 = 4) ∨ (s11 = 1 ∧ s13 = 3)) (fun u h13 => ?_) (fun j14 hj14 => ?_)
            · have hu : gm_isS u := by
                rcases h13 with h | h <;> (rw [h.2]; decide)
              obtain ⟨kd, eK, ka⟩ : ∃ kd : Int32, pK tx n p w sw L = pM tx n u kd (p + 2) w sw L ∧ ∀ x : Int32, 0 ≤ x.toInt ∧ x.toInt ≤ 99 → (kd - x).toInt ≤ -10 ∧ amt (kd - x) = (if s11 = 0 then -x else x) := by
                rcases h11 with ⟨h, h'⟩ | ⟨h, h'⟩
                · refine ⟨-200, ?_, fun x hx => ⟨(amt_k hx).2.2, ?_⟩⟩
                  · rcases h13 with ⟨g, g'⟩ | ⟨g, g'⟩
                    · rw [g', pK, if_neg h119, if_pos ep, if_neg h119', if_pos ep8, if_neg h']
                    · rw [h] at g; exact absurd g (by decide)
                  · rw [if_pos h]; exact (amt_k hx).2.1
                · refine ⟨-10, ?_, fun x hx => ⟨(amt_k hx).1.2, ?_⟩⟩
                  · rcases h13 with ⟨g, g'⟩ | ⟨g, g'⟩
                    · rw [h] at g; exact absurd g (by decide)
                    · rw [g', pK, if_neg h119, if_pos ep, if_neg h119', if_pos ep8, if_pos h']
                  · rw [if_neg (by rw [h]; decide)]; exact (amt_k hx).1.1
              rw [eK]
              have gW := pWN_g (tx := tx) hu c2.2.1
              refine gw_if (c2.t bm) ?_
              refine gw_bI (v_word bm c2 hu) (fun x16 m15 ⟨e16, c15⟩ => ?_)
              by_cases hW : (pWN tx n u (p + 2)).1 = true
              · rw [if_pos hW] at e16
                have gW3 := gW.2.2 hW
                rw [← e16] at gW3
                refine gw_lt (fun g => by omega) (fun _ => ?_)
                refine gw_if (c15.t bm) ?_
                refine gw_bI (v_take bm c15 (a := 32) (by decide)) (fun x18 m17 h17 => ?_)
                rcases h17 with ⟨e18, ep18, c17⟩ | ⟨e18, ep18, em⟩
                · subst e18
                  have eM : pM tx n u kd (p + 2) w sw L = ((pE tx n (pF tx n 5) ((pWN tx n u (p + 2)).2.1 + 1)).1, (pE tx n (pF tx n 5) ((pWN tx n u (p + 2)).2.1 + 1)).2.1, w, sw, (L ++ (pE tx n (pF tx n 5) ((pWN tx n u (p + 2)).2.1 + 1)).2.2) ++ [kd - x16]) := by
                    unfold pM; rw [if_pos hW, if_pos ep18, e16]
                  have hE := pE_g (tx := tx) (fun p => pF_g (tx := tx) (n := n) 5 p) c17.2.1
                  have hT : tkn (pE tx n (pF tx n 5) ((pWN tx n u (p + 2)).2.1 + 1)).2.2 := pE_tk (fun p => pF_tk 5 p) _
                  have V := ((vr_read bm 64 5 (by omega)).1 (by omega)) c17 (by have := cds_len L; omega)
                  have eR : f_X0_readEither A 0 m17 = (r_X0_readEither 64).1 A (Int32.ofNat (5 - 5)) m17 := rfl
                  rw [← eR] at V
                  rw [eM]
                  generalize pE tx n (pF tx n 5) ((pWN tx n u (p + 2)).2.1 + 1) = r at *
                  rw [if_neg (by decide)]
                  refine gw_if (c17.t bm) ?_
                  refine gw_bI V (fun x20 m19 h19 => ?_)
                  rcases h19 with ⟨e20, f1, c19⟩ | ⟨e20, f1, C', c19⟩
                  · subst e20
                    obtain ⟨hE1, hE2, hE3⟩ := hE
                    obtain ⟨hE4, hE5⟩ := hE3 f1
                    have hlen : (L ++ r.2.2).length + 1 ≤ r.2.1 := by rw [List.length_append]; omega
                    have d19 := d.on hT c19 (by omega)
                    have ech : chs (L ++ r.2.2) 0 = chs L 0 := by rw [chs_app, chs_all hT, List.append_nil]
                    have ks := ka x16 gW3.2
                    refine gw_if (by decide) ?_
                    refine gw_j (fun s21 => s21 = amt (kd - x16)) (fun s21 e21 => ?_) (fun j22 hj22 => ?_)
                    · subst e21
                      refine gw_if ((d19.c b).t (d19.b b)) ?_
                      refine gw_bV (v_change b d19 (by rw [ech]; omega) ks.1 hlen) (fun m23 ⟨d23, l23⟩ => ?_)
                      refine gw_z Iff.rfl (Or.inr rfl) (gq_I (Or.inl ⟨rfl, f1, d23, ?_⟩))
                      show (chs ((L ++ r.2.2) ++ [kd - x16]) 0).length ≤ c + 1
                      rw [l23, ech]; omega
                    · refine gw_ite (fun g => hj22 _ ?_) (fun g => hj22 _ ?_)
                      · rw [ks.2, if_pos g]
                      · rw [ks.2, if_neg g]
                  · subst e20
                    rw [if_neg (by decide)]
                    exact gw_z Iff.rfl (Or.inl rfl) (gq_I (Or.inr ⟨rfl, f1, c19.e9, c19.2.1, c19.1.1.trans d.1.1⟩))
                · subst e18
                  subst em
                  have eM : pM tx n u kd (p + 2) w sw L = (false, (pWN tx n u (p + 2)).2.1, w, sw, L) := by
                    unfold pM; rw [if_pos hW, if_neg ep18]
                  rw [if_pos rfl, eM]
                  exact gw_z Iff.rfl (Or.inl rfl) (gq_I (Or.inr ⟨rfl, rfl, c15.e9, c15.2.1, c15.1.1.trans d.1.1⟩))
              · rw [if_neg hW] at e16
                subst e16
                have eM : pM tx n u kd (p + 2) w sw L = (false, (pWN tx n u (p + 2)).2.1, w, sw, L) := by
                  unfold pM; rw [if_neg hW]
                refine gw_lt (fun _ => ?_) (fun g => absurd g (by decide))
                rw [eM]
                exact gw_z Iff.rfl (Or.inl rfl) (gq_I (Or.inr ⟨rfl, rfl, c15.e9, c15.2.1, c15.1.1.trans d.1.1⟩))
            · refine gw_ite (fun g => hj14 _ (Or.inl ⟨g, rfl⟩)) (fun g => hj14 _ (Or.inr ⟨?_, rfl⟩))
              rcases h11 with ⟨h, -⟩ | ⟨h, -⟩
              · exact absurd h g
              · exact h
          · refine gw_ite (fun g => hj12 _ (Or.inl ⟨rfl, by rw [← ex10]; exact g⟩)) (fun g => hj12 _ (Or.inr ⟨rfl, by rw [← ex10]; exact Decidable.not_not.mp g⟩))
        · subst e8
          subst em
          rw [if_neg (by decide)]
          have eK : pK tx n p w sw L = (false, p + 1, w, sw, L) := by rw [pK, if_neg h119, if_pos ep, if_neg h119', if_neg ep8]
          rw [eK]
          exact gw_z Iff.rfl (Or.inl rfl) (gq_I (Or.inr ⟨rfl, rfl, c1.e9, c1.2.1, c1.1.1.trans d.1.1⟩))
      · have h119' : pd tx n (p + 1) = 119 := by rw [← ex6]; exact Decidable.not_not.mp g6
        have eK : pK tx n p w sw L = ((pWN tx n 2 (p + 1)).1, (pWN tx n 2 (p + 1)).2.1, w, (pWN tx n 2 (p + 1)).2.2, L) := by rw [pK, if_neg h119, if_pos ep, if_pos h119']
        have gW := pWN_g (tx := tx) (u := 2) (by decide) c1.2.1
        rw [eK]
        refine gw_if (c1.t bm) ?_
        refine gw_bI (v_word bm c1 (u := 2) (by decide)) (fun x m' ⟨e1, c2⟩ => ?_)
        refine gw_pIw (c2.tc bm) ?_
        have c3 : (wI m' A 1 x).2.1 A 9 = Int32.ofNat (pWN tx n 2 (p + 1)).2.1 := (wI_n _ _ _ _ (by decide)).trans c2.e9
        by_cases hW : (pWN tx n 2 (p + 1)).1 = true
        · rw [if_pos hW] at e1
          have gW3 := gW.2.2 hW
          rw [← e1] at gW3
          refine gw_lt (fun g => by omega) (fun _ => ?_)
          refine gw_z Iff.rfl (Or.inr rfl) (gq_I (Or.inl ⟨rfl, hW, ?_, by show (chs L 0).length ≤ c + 1; omega⟩))
          have dd := (d.at c2 (by omega)).w1 x
          show dst A n μ _ w (pWN tx n 2 (p + 1)).2.2 L _
          rw [← e1]; exact dd
        · rw [if_neg hW] at e1
          subst e1
          refine gw_lt (fun _ => ?_) (fun g => absurd g (by decide))
          refine gw_z Iff.rfl (Or.inl rfl) (gq_I (Or.inr ⟨rfl, ?_, c3, c2.2.1, c2.1.1.trans d.1.1⟩))
          cases h : (pWN tx n 2 (p + 1)).1 with
          | false => rfl
          | true => exact absurd h hW
    · subst e4
      subst em
      rw [if_neg (by decide)]
      have eK : pK tx n p w sw L = (false, p, w, sw, L) := by rw [pK, if_neg h119, if_neg ep]
      rw [eK]
      exact gw_z Iff.rfl (Or.inl rfl) (gq_I (Or.inr ⟨rfl, rfl, c0.e9, c0.2.1, d.1.1⟩))
  · have h119 : pd tx n p = 119 := by rw [← ex]; exact Decidable.not_not.mp g
    have eK : pK tx n p w sw L = ((pWN tx n 1 p).1, (pWN tx n 1 p).2.1, (pWN tx n 1 p).2.2, sw, L) := by rw [pK, if_pos h119]
    have gW := pWN_g (tx := tx) (u := 1) (by decide) c0.2.1
    rw [eK]
    refine gw_if (c0.t bm) ?_
    refine gw_bI (v_word bm c0 (u := 1) (by decide)) (fun x m' ⟨e1, c2⟩ => ?_)
    refine gw_pIw (c2.tc bm) ?_
    have c3 : (wI m' A 0 x).2.1 A 9 = Int32.ofNat (pWN tx n 1 p).2.1 := (wI_n _ _ _ _ (by decide)).trans c2.e9
    by_cases hW : (pWN tx n 1 p).1 = true
    · rw [if_pos hW] at e1
      have gW3 := gW.2.2 hW
      rw [← e1] at gW3
      refine gw_lt (fun g => by omega) (fun _ => ?_)
      refine gw_z Iff.rfl (Or.inr rfl) (gq_I (Or.inl ⟨rfl, hW, ?_, by show (chs L 0).length ≤ c + 1; omega⟩))
      have dd := (d.at c2 (by omega)).w0 x
      show dst A n μ _ (pWN tx n 1 p).2.2 sw L _
      rw [← e1]; exact dd
    · rw [if_neg hW] at e1
      subst e1
      refine gw_lt (fun _ => ?_) (fun g => absurd g (by decide))
      refine gw_z Iff.rfl (Or.inl rfl) (gq_I (Or.inr ⟨rfl, ?_, c3, c2.2.1, c2.1.1.trans d.1.1⟩))
      cases h : (pWN tx n 1 p).1 with
      | false => rfl
      | true => exact absurd h hW
end
/-- how the reading ends -/
def vr (A n : Nat) (μ : gm_M) (r : pB) (x : Int32) (m : gm_M) : Prop := (r.1 = true ∧ x = -1 ∧ dst A n μ r.2.1 r.2.2.1 r.2.2.2.1 r.2.2.2.2 m) ∨ (r.1 = false ∧ x = Int32.ofNat r.2.1 ∧ r.2.1 ≤ n)
theorem v_loop {A n : Nat} {tx : Nat → Int32} {μ : gm_M} (b : BS A n tx μ) (d : dst A n μ 0 0 20 [] μ) : gw (gm_loop (fun (s5 : Int32 × gm_M) => if (10 : Int32) ≤ s5.1 then gm_gI s5.2 [5] A 9 (fun v6 => some (Sum.inr (some (.int v6), s5.2))) else gm_j (fun (s7 : gm_M) => if gm_tag s7 A = 5 then gm_bI (f_X0_readClause A s7) (fun x10 m9 => if x10 ≠ 0 then gm_gI m9 [5] A 9 (fun v11 => gm_gI m9 [5] A 8 (fun v12 => if v11 < v12 then some (Sum.inl ((s5.1 + (1 : Int32)), m9)) else some (Sum.inr (some (.int (-1 : Int32)), m9)))) else gm_gI m9 [5] A 9 (fun v13 => some (Sum.inr (some (.int v13), m9)))) else none) (fun j8 => if s5.1 ≤ 0 then j8 s5.2 else if gm_tag s5.2 A = 5 then gm_bI (f_X0_take A (59 : Int32) s5.2) (fun x15 m14 => if x15 ≠ 0 then j8 m14 else gm_gI m14 [5] A 9 (fun v16 => some (Sum.inr (some (.int v16), m14)))) else none)) 5000 ((0 : Int32), μ)) (gqI (fun x m => vr A n μ (pAft tx n) x m)) := by
  have hn := b.2.2.2.2.1
  have on : (Int32.ofNat n).toInt = n := ofn (by omega)
  have l10 : (10 : Int32).toInt = 10 := rfl
  have l0 : (0 : Int32).toInt = 0 := rfl
  generalize hI : (fun s : Int32 × gm_M => ∃ i : Nat, s.1 = Int32.ofNat i ∧ ((i = 0 ∧ s.2 = μ) ∨ (1 ≤ i ∧ i ≤ 10 ∧ ∃ r : pB, r.1 = true ∧ dst A n μ r.2.1 r.2.2.1 r.2.2.2.1 r.2.2.2.2 s.2 ∧ (chs r.2.2.2.2 0).length ≤ i ∧ r.2.1 < n ∧ pAft tx n = pR tx n (10 - i) r))) = I
  have hms : ∀ i : Nat, i ≤ 9 → (10 - (Int32.ofNat i + 1).toInt < 10 - (Int32.ofNat i).toInt) ∧ 0 ≤ 10 - (Int32.ofNat i + 1).toInt := fun i hi => by
    rw [ofn1 (by omega), ofn (k := i + 1) (by omega), ofn (k := i) (by omega)]
    omega
  refine gw_loop I (fun s => 10 - s.1.toInt) (fun s hs => ?_) 5000 ((0 : Int32), μ) (by rw [← hI]; exact ⟨0, rfl, Or.inl ⟨rfl, rfl⟩⟩) (by show 10 - (0 : Int32).toInt < ((5000 : Nat) : Int); omega) (by show 0 ≤ 10 - (0 : Int32).toInt; omega)
  obtain ⟨s1, s2⟩ := s
  rw [← hI] at hs
  obtain ⟨i, es, hi⟩ := hs
  replace es : s1 = Int32.ofNat i := es
  subst es
  have oi : (Int32.ofNat i).toInt = i := ofn (by rcases hi with h | h <;> omega)
  refine gw_le (fun g => ?_) (fun g => ?_)
  · replace g : (10 : Int32).toInt ≤ (Int32.ofNat i).toInt := g
    rcases hi with ⟨h, -⟩ | ⟨-, h10, r, r1, r2, r3, r4, r5⟩
    · omega
    · replace r2 : dst A n μ r.2.1 r.2.2.1 r.2.2.2.1 r.2.2.2.2 s2 := r2
      have c := r2.c b
      rw [show 10 - i = 0 by omega] at r5
      have e : pAft tx n = (false, r.2) := by rw [r5, pR, if_neg (by omega)]
      refine gw_gIw (c.tc (r2.b b)) ?_
      rw [r2.e9]
      exact gw_some (gs_inr (gq_I (Or.inr ⟨by rw [e], by rw [e], by rw [e]; exact r2.2.1.1⟩)))
  · replace g : (Int32.ofNat i).toInt < (10 : Int32).toInt := g
    refine gw_j (fun M => ∃ (p : Nat) (w sw : Int32) (L : List Int32), dst A n μ p w sw L M ∧ (chs L 0).length ≤ i ∧ pAft tx n = (if (pK tx n p w sw L).1 = true then pR tx n (9 - i) (pK tx n p w sw L) else pK tx n p w sw L)) (fun M hM => ?_) (fun j8 hj8 => ?_)
    · obtain ⟨p, w, sw, L, dM, hc, eA⟩ := hM
      have cM := dM.c b
      refine gw_if (cM.t (dM.b b)) ?_
      refine gw_bI (v_clause b dM hc (by omega)) (fun x10 m9 h9 => ?_)
      generalize pK tx n p w sw L = r at *
      rcases h9 with ⟨e10, r1, d9, l9⟩ | ⟨e10, r1, d9, l9, t9⟩
      · subst e10
        rw [if_pos r1] at eA
        have c9 := d9.c b
        have b9 := d9.b b
        refine gw_if (by decide) ?_
        refine gw_gIw (c9.tc b9) ?_
        refine gw_gIw (c9.tc b9) ?_
        rw [d9.e9, c9.e8 b9]
        have orp : (Int32.ofNat r.2.1).toInt = r.2.1 := ofn (by have := d9.2.1; omega)
        refine gw_lt (fun g2 => ?_) (fun g2 => ?_)
        · refine gw_some (gs_inl ?_ (hms i (by omega)).1 (hms i (by omega)).2)
          rw [← hI]
          exact ⟨i + 1, ofn1 (by omega), Or.inr ⟨by omega, by omega, r, r1, d9, l9, by omega, by rw [eA, show 10 - (i + 1) = 9 - i by omega]⟩⟩
        · have e : pAft tx n = r := by
            rw [eA]
            cases 9 - i with
            | zero => rw [pR, if_pos (by omega)]
            | succ k => rw [pR, if_pos (by omega)]
          refine gw_some (gs_inr (gq_I (Or.inl ⟨by rw [e]; exact r1, rfl, by rw [e]; exact d9⟩)))
      · subst e10
        rw [if_neg (by rw [r1]; decide)] at eA
        rw [if_neg (by decide)]
        replace t9 : [5].contains (gm_tag m9 A) = true := by unfold gm_tag; rw [t9, b.2.2.1.1]; rfl
        refine gw_gIw t9 ?_
        rw [d9]
        exact gw_some (gs_inr (gq_I (Or.inr ⟨by rw [eA]; exact r1, by rw [eA], by rw [eA]; exact l9⟩)))
    · refine gw_le (fun g2 => ?_) (fun g2 => ?_)
      · replace g2 : (Int32.ofNat i).toInt ≤ (0 : Int32).toInt := g2
        rcases hi with ⟨h, e⟩ | ⟨h, -⟩
        · subst h
          replace e : s2 = μ := e
          subst e
          exact hj8 _ ⟨0, 0, 20, [], d, Nat.le_refl _, rfl⟩
        · omega
      · replace g2 : (0 : Int32).toInt < (Int32.ofNat i).toInt := g2
        rcases hi with ⟨h, -⟩ | ⟨-, h10, r, r1, r2, r3, r4, r5⟩
        · omega
        · replace r2 : dst A n μ r.2.1 r.2.2.1 r.2.2.2.1 r.2.2.2.2 s2 := r2
          have c := r2.c b
          have bb := r2.b b
          rw [show 10 - i = (9 - i) + 1 by omega, pR, if_neg (by omega)] at r5
          refine gw_if (c.t bb) ?_
          refine gw_bI (v_take bb c (a := 59) (by decide)) (fun x15 m14 h14 => ?_)
          rcases h14 with ⟨ex, ep, c14⟩ | ⟨ex, ep, em⟩
          · subst ex
            rw [if_pos ep] at r5
            refine gw_if (by decide) ?_
            exact hj8 _ ⟨r.2.1 + 1, r.2.2.1, r.2.2.2.1, r.2.2.2.2, r2.at c14 (by omega), r3, r5⟩
          · subst ex
            subst em
            rw [if_neg ep] at r5
            rw [if_neg (by decide)]
            refine gw_gIw (c.tc bb) ?_
            rw [r2.e9]
            exact gw_some (gs_inr (gq_I (Or.inr ⟨by rw [r5], by rw [r5], by rw [r5]; exact r2.2.1.1⟩)))
end
section
/-! the reference's reader: all that it writes -/
def BR (a n : Nat) (tx : Nat → Int32) (μ : gm_M) : Prop := gS μ ∧ a < 5 ∧ μ.2.1 65 5 = Int32.ofNat a ∧ μ.2.1 65 7 = Int32.ofNat n ∧ n ≤ 100 ∧ (∀ i : Nat, i < n → μ.2.1 66 (110 + i) = tx i) ∧ ∀ i : Nat, 0 ≤ (tx i).toInt ∧ (tx i).toInt ≤ 127
def bw (w : Bool) : Int32 := if w = true then 1 else 0
theorem bw_z (v : Bool) : (bw v).toInt = 0 ∨ (bw v).toInt = 1 := by cases v <;> decide
def rst (a n : Nat) (μ : gm_M) (w : Bool) (p o : Nat) (L : List Int32) (m : gm_M) : Prop := (m.1 = μ.1 ∧ m.2.2 = μ.2.2 ∧ (∀ r : Nat, r ≠ 65 → r ≠ 66 → m.2.1 r = μ.2.1 r) ∧ (∀ j : Nat, j ≠ 6 → j ≠ 8 → j ≠ 9 → m.2.1 65 j = μ.2.1 65 j) ∧ ∀ k : Nat, k ≠ 220 + a → ¬ (225 + 140 * a ≤ k ∧ k < 365 + 140 * a) → m.2.1 66 k = μ.2.1 66 k) ∧ (p ≤ n ∧ o ≤ 100 ∧ L.length ≤ p) ∧ m.2.1 65 6 = Int32.ofNat p ∧ m.2.1 65 8 = bw w ∧ m.2.1 65 9 = Int32.ofNat o ∧ m.2.1 66 (220 + a) = Int32.ofNat L.length ∧ ∀ i : Nat, i < L.length → L[i]? = some (m.2.1 66 (225 + 140 * a + i))
section
variable {a n p o : Nat} {tx : Nat → Int32} {μ m : gm_M} {w : Bool} {L : List Int32}
theorem rst.S (b : BR a n tx μ) (c : rst a n μ w p o L m) : gS m := b.1.same c.1.1 c.1.2.1
theorem rst.t (b : BR a n tx μ) (c : rst a n μ w p o L m) : gm_tag m 65 = 17 := (c.S b).t (r := 65) rfl
theorem rst.tc (b : BR a n tx μ) (c : rst a n μ w p o L m) : [17].contains (gm_tag m 65) = true := (c.S b).c (r := 65) rfl
theorem rst.r1 (b : BR a n tx μ) (c : rst a n μ w p o L m) : m.2.2 65 1 = 66 := (c.S b).r (by decide)
theorem rst.e5 (b : BR a n tx μ) (c : rst a n μ w p o L m) : m.2.1 65 5 = Int32.ofNat a := by rw [c.1.2.2.2.1 5 (by decide) (by decide) (by decide)]; exact b.2.2.1
theorem rst.e7 (b : BR a n tx μ) (c : rst a n μ w p o L m) : m.2.1 65 7 = Int32.ofNat n := by rw [c.1.2.2.2.1 7 (by decide) (by decide) (by decide)]; exact b.2.2.2.1
theorem rst.e6 (c : rst a n μ w p o L m) : m.2.1 65 6 = Int32.ofNat p := c.2.2.1
theorem rst.e8 (c : rst a n μ w p o L m) : m.2.1 65 8 = bw w := c.2.2.2.1
theorem rst.e9 (c : rst a n μ w p o L m) : m.2.1 65 9 = Int32.ofNat o := c.2.2.2.2.1
theorem rst.eL (c : rst a n μ w p o L m) : m.2.1 66 (220 + a) = Int32.ofNat L.length := c.2.2.2.2.2.1
theorem rst.txt (b : BR a n tx μ) (c : rst a n μ w p o L m) {i : Nat} (h : i < n) : m.2.1 66 (110 + i) = tx i := by
  have := b.2.2.2.2.1
  rw [c.1.2.2.2.2 (110 + i) (by omega) (by omega)]; exact b.2.2.2.2.2.1 i h
theorem rst.at (c : rst a n μ w p o L m) {q : Nat} (h : q ≤ n) (hL : L.length ≤ q) : rst a n μ w q o L (wI m 65 6 (Int32.ofNat q)) := by
  obtain ⟨⟨c1, c2, c3, c4, c5⟩, c6, c7, c8, c9, c10, c11⟩ := c
  exact ⟨⟨c1, c2, fun r r1 r2 => (wI_o _ _ _ _ r1).trans (c3 r r1 r2), fun j j1 j2 j3 => (wI_n _ _ _ _ j1).trans (c4 j j1 j2 j3), c5⟩, ⟨h, c6.2.1, hL⟩, wI_e _ _ _ _, (wI_n _ _ _ _ (by decide)).trans c8, (wI_n _ _ _ _ (by decide)).trans c9, c10, c11⟩
theorem rst.fl (c : rst a n μ w p o L m) (v : Bool) : rst a n μ v p o L (wI m 65 8 (bw v)) := by
  obtain ⟨⟨c1, c2, c3, c4, c5⟩, c6, c7, c8, c9, c10, c11⟩ := c
  exact ⟨⟨c1, c2, fun r r1 r2 => (wI_o _ _ _ _ r1).trans (c3 r r1 r2), fun j j1 j2 j3 => (wI_n _ _ _ _ j2).trans (c4 j j1 j2 j3), c5⟩, c6, (wI_n _ _ _ _ (by decide)).trans c7, wI_e _ _ _ _, (wI_n _ _ _ _ (by decide)).trans c9, c10, c11⟩
theorem rst.op (c : rst a n μ w p o L m) {q : Nat} (h : q ≤ 100) : rst a n μ w p q L (wI m 65 9 (Int32.ofNat q)) := by
  obtain ⟨⟨c1, c2, c3, c4, c5⟩, c6, c7, c8, c9, c10, c11⟩ := c
  exact ⟨⟨c1, c2, fun r r1 r2 => (wI_o _ _ _ _ r1).trans (c3 r r1 r2), fun j j1 j2 j3 => (wI_n _ _ _ _ j3).trans (c4 j j1 j2 j3), c5⟩, ⟨c6.1, h, c6.2.2⟩, (wI_n _ _ _ _ (by decide)).trans c7, (wI_n _ _ _ _ (by decide)).trans c8, wI_e _ _ _ _, c10, c11⟩
theorem rst.push (c : rst a n μ w p o L m) (h : L.length + 1 ≤ p) (hn : n ≤ 100) (x : Int32) : rst a n μ w p o (L ++ [x]) (wI (wI m 66 (225 + 140 * a + L.length) x) 66 (220 + a) (Int32.ofNat (L.length + 1))) := by
  obtain ⟨⟨c1, c2, c3, c4, c5⟩, c6, c7, c8, c9, c10, c11⟩ := c
  have e65 : (wI (wI m 66 (225 + 140 * a + L.length) x) 66 (220 + a) (Int32.ofNat (L.length + 1))).2.1 65 = m.2.1 65 := by rw [wI_o _ _ _ _ (by decide), wI_o _ _ _ _ (by decide)]
  refine ⟨⟨c1, c2, fun r r1 r2 => ?_, fun j j1 j2 j3 => ?_, fun k k1 k2 => ?_⟩, ⟨c6.1, c6.2.1, by rw [List.length_append, List.length_singleton]; exact h⟩, by rw [e65]; exact c7, by rw [e65]; exact c8, by rw [e65]; exact c9, ?_, fun i hi => ?_⟩
  · rw [wI_o _ _ _ _ r2, wI_o _ _ _ _ r2]; exact c3 r r1 r2
  · rw [e65]; exact c4 j j1 j2 j3
  · rw [wI_n _ _ _ _ k1, wI_n _ _ _ _ (by omega)]; exact c5 k k1 k2
  · rw [wI_e, List.length_append, List.length_singleton]
  · rw [List.length_append, List.length_singleton] at hi
    rw [wI_n _ _ _ _ (show 225 + 140 * a + i ≠ 220 + a by omega)]
    by_cases e : i = L.length
    · subst e
      rw [wI_e, List.getElem?_append_right (Nat.le_refl _), Nat.sub_self]; rfl
    · rw [wI_n _ _ _ _ (by omega), List.getElem?_append_left (by omega)]
      exact c11 i (by omega)
theorem w_here (b : BR a n tx μ) (c : rst a n μ w p o L m) : gwI (f_X12_here 65 m) (fun x m' => x = pd tx n p ∧ m' = m) := by
  refine gwI_of ?_
  unfold f_X12_here
  have hp := c.2.1.1
  have hn := b.2.2.2.2.1
  have op : (Int32.ofNat p).toInt = p := ofn (by omega)
  have on : (Int32.ofNat n).toInt = n := ofn (by omega)
  have l110 : (110 : Int32).toInt = 110 := rfl
  refine gw_gIw (c.tc b) ?_
  refine gw_gIw (c.tc b) ?_
  rw [c.e6, c.e7 b]
  refine gw_le (fun g => gw_some (gq_I ⟨?_, rfl⟩)) (fun g => ?_)
  · unfold pd; rw [if_neg (by omega)]
  · refine gw_gRa 66 (c.tc b) (c.r1 b) ?_
    refine gw_gIw (c.tc b) ?_
    rw [c.e6]
    have nn : ((110 : Int32) + Int32.ofNat p).toInt = (110 : Int32).toInt + (Int32.ofNat p).toInt := gx_add (by omega) (by omega)
    refine gw_aIw (110 + p) ((c.S b).t (r := 66) rfl) ((c.S b).l (r := 66) rfl) (by omega) (by omega) ?_
    rw [c.txt b (by omega)]
    refine gw_some (gq_I ⟨?_, rfl⟩)
    unfold pd
    rw [if_pos (by omega)]
theorem w_must (b : BR a n tx μ) (c : rst a n μ w p o L m) {x : Int32} (hx : x ≠ -1) : gwV (f_X12_must 65 x m) (fun m' => (w = false ∧ pd tx n p = x ∧ rst a n μ false (p + 1) o L m') ∨ (¬ (w = false ∧ pd tx n p = x) ∧ rst a n μ true p o L m')) := by
  refine gwV_of ?_
  unfold f_X12_must
  have hp := c.2.1
  have hn := b.2.2.2.2.1
  refine gw_gIw (c.tc b) ?_
  rw [c.e8]
  refine gw_j (fun s => s.2 = m ∧ ∃ v : Bool, s.1 = bw v ∧ ((v = false ∧ w = false ∧ pd tx n p = x) ∨ (v = true ∧ ¬ (w = false ∧ pd tx n p = x)))) (fun s ⟨es, v, ev, hv⟩ => ?_) (fun j hj => ?_)
  · obtain ⟨s1, s2⟩ := s
    replace es : s2 = m := es
    replace ev : s1 = bw v := ev
    subst es
    subst ev
    have c1 := c.fl v
    refine gw_pZw (c.tc b) (bw_z v) ?_
    refine gw_gIw (c1.tc b) ?_
    refine gw_gIw (c1.tc b) ?_
    show gw (gm_j _ (fun j8 => if (wI s2 65 8 (bw v)).2.1 65 8 = 0 then _ else _)) _
    rw [c1.e6, c1.e8]
    refine gw_ji ?_
    rcases hv with ⟨ev, h1, h2⟩ | ⟨ev, h1⟩
    · subst ev
      have q : p < n := pd_lt (tx := tx) (by rw [h2]; exact hx)
      rw [if_pos (show bw false = 0 from rfl)]
      refine gw_pIw (c1.tc b) ?_
      rw [ofn1 (by omega)]
      exact gw_some (gq_V (Or.inl ⟨h1, h2, c1.at (by omega) (by omega)⟩))
    · subst ev
      rw [if_neg (by decide)]
      refine gw_pIw (c1.tc b) ?_
      rw [Int32.add_zero]
      exact gw_some (gq_V (Or.inr ⟨h1, c1.at hp.1 hp.2.2⟩))
  · refine gw_j (fun M => M = m ∧ ¬ (w = false ∧ pd tx n p = x)) (fun M ⟨e, h⟩ => hj _ ⟨e, true, rfl, Or.inr ⟨rfl, h⟩⟩) (fun j2 hj2 => ?_)
    cases w with
    | true => rw [if_pos (by decide)]; exact hj2 _ ⟨rfl, fun h => by cases h.1⟩
    | false =>
      rw [if_neg (by decide)]
      refine gw_if (c.t b) ?_
      refine gw_bI (w_here b c) (fun y m' ⟨e1, e2⟩ => ?_)
      subst e2
      refine gw_ite (fun g => hj _ ⟨rfl, false, rfl, Or.inl ⟨rfl, rfl, by rw [← e1]; exact g⟩⟩) (fun g => hj2 _ ⟨rfl, fun h => g (by rw [e1]; exact h.2)⟩)
theorem w_emits (b : BR a n tx μ) (c : rst a n μ w p o L m) (x : Int32) (h : w = false → L.length + 1 ≤ p) : gwV (f_X12_emits 65 x m) (fun m' => (w = false ∧ rst a n μ false p o (L ++ [x]) m') ∨ (w = true ∧ m' = m)) := by
  refine gwV_of ?_
  unfold f_X12_emits
  have hn := b.2.2.2.2.1
  have ha := b.2.1
  have hp := c.2.1
  refine gw_gIw (c.tc b) ?_
  rw [c.e8]
  cases w with
  | true => rw [if_pos (by decide)]; exact gw_some (gq_V (Or.inr ⟨rfl, rfl⟩))
  | false =>
    rw [if_neg (by decide)]
    have hl := h rfl
    have l140 : (140 : Int32).toInt = 140 := rfl
    have l220 : (220 : Int32).toInt = 220 := rfl
    have l225 : (225 : Int32).toInt = 225 := rfl
    have oa : (Int32.ofNat a).toInt = a := ofn (by omega)
    have oL : (Int32.ofNat L.length).toInt = L.length := ofn (by omega)
    have n1 : ((220 : Int32) + Int32.ofNat a).toInt = (220 : Int32).toInt + (Int32.ofNat a).toInt := gx_add (by omega) (by omega)
    have n2 : ((140 : Int32) * Int32.ofNat a).toInt = 140 * (Int32.ofNat a).toInt := gx_mul 140 rfl (by omega) (by omega)
    have n3 : ((225 : Int32) + (140 : Int32) * Int32.ofNat a).toInt = (225 : Int32).toInt + ((140 : Int32) * Int32.ofNat a).toInt := gx_add (by omega) (by omega)
    have n4 : ((225 : Int32) + (140 : Int32) * Int32.ofNat a + Int32.ofNat L.length).toInt = ((225 : Int32) + (140 : Int32) * Int32.ofNat a).toInt + (Int32.ofNat L.length).toInt := gx_add (by omega) (by omega)
    have t66 := (c.S b).t (r := 66) rfl
    have l66 := (c.S b).l (r := 66) rfl
    refine gw_gRa 66 (c.tc b) (c.r1 b) ?_
    refine gw_gIw (c.tc b) ?_
    refine gw_gRa 66 (c.tc b) (c.r1 b) ?_
    refine gw_gIw (c.tc b) ?_
    rw [c.e5 b]
    refine gw_aIw (220 + a) t66 l66 (by omega) (by omega) ?_
    rw [c.eL]
    refine gw_sIw (225 + 140 * a + L.length) t66 l66 (by omega) (by omega) ?_
    have tc2 : [17].contains (gm_tag (wI m 66 (225 + 140 * a + L.length) x) 65) = true := (show [17].contains (gm_tag m 65) = true from c.tc b)
    refine gw_gRa 66 tc2 (show m.2.2 65 1 = 66 from c.r1 b) ?_
    refine gw_gIw tc2 ?_
    rw [wI_o _ _ _ _ (by decide), c.e5 b]
    refine gw_aIw (220 + a) t66 l66 (by omega) (by omega) ?_
    rw [wI_n _ _ _ _ (by omega), c.eL, ofn1 (by omega)]
    refine gw_sIw (220 + a) t66 l66 (by omega) (by omega) ?_
    exact gw_some (gq_V (Or.inl ⟨rfl, c.push hl hn x⟩))
theorem w_among (b : BR a n tx μ) (c : rst a n μ w p o L m) {u : UInt32} (hu : gm_isS u) : gwI (f_X12_among 65 u m) (fun x m' => x = pO u (pd tx n p) ∧ rst a n μ w (if pO u (pd tx n p) = -1 then p else p + 1) o L m') := by
  refine gwI_of ?_
  unfold f_X12_among
  have hp := c.2.1
  have hn := b.2.2.2.2.1
  have l0 : (0 : Int32).toInt = 0 := rfl
  have six := (tx_len (μ := μ) hu).2
  have oL := ofn (k := gm_bn (u + 6)) (by omega)
  refine gw_loop (fun s => s.2 = m ∧ ∃ k : Nat, s.1 = Int32.ofNat k ∧ k ≤ gm_bn (u + 6) ∧ pOi u (pd tx n p) (gm_bn (u + 6) - k) k = pO u (pd tx n p)) (fun s => 6 - s.1.toInt) (fun s hs => ?_) 5000 ((0 : Int32), m) ⟨rfl, 0, rfl, Nat.zero_le _, rfl⟩ (by show 6 - (0 : Int32).toInt < ((5000 : Nat) : Int); omega) (by show 0 ≤ 6 - (0 : Int32).toInt; omega)
  obtain ⟨s1, s2⟩ := s
  obtain ⟨es, k, ek, hk, hO⟩ := hs
  replace es : s2 = m := es
  replace ek : s1 = Int32.ofNat k := ek
  subst es
  subst ek
  have ok := ofn (k := k) (by omega)
  refine gw_if hu ?_
  refine gw_bI (R := fun x m' => m' = s2 ∧ x = Int32.ofNat (gm_bn (u + 6))) ⟨_, _, (tx_len hu).1, rfl, rfl⟩ (fun x m' ⟨z, ex⟩ => ?_)
  subst z
  subst ex
  refine gw_le (fun g => ?_) (fun g => ?_)
  · replace g : (Int32.ofNat (gm_bn (u + 6))).toInt ≤ (Int32.ofNat k).toInt := g
    rw [show gm_bn (u + 6) - k = 0 by omega] at hO
    have e : pO u (pd tx n p) = -1 := hO.symm
    rw [e, if_pos rfl]
    exact gw_some (gs_inr (gq_I ⟨rfl, c⟩))
  · replace g : (Int32.ofNat k).toInt < (Int32.ofNat (gm_bn (u + 6))).toInt := g
    refine gw_if (c.t b) ?_
    refine gw_bI (w_here b c) (fun y m2 ⟨ey, z⟩ => ?_)
    subst z
    refine gw_if hu ?_
    have tc := tx_char (μ := m2) hu (i := Int32.ofNat k) (by omega) (by omega)
    rw [ok, Int.toNat_natCast] at tc
    refine gw_bI (R := fun x m3 => m3 = m2 ∧ x = gm_bb (u + 6) k) ⟨_, _, tc.1, rfl, rfl⟩ (fun x m3 ⟨z, ex⟩ => ?_)
    subst z
    subst ex
    rw [show gm_bn (u + 6) - k = (gm_bn (u + 6) - (k + 1)) + 1 by omega] at hO
    unfold pOi at hO
    refine gw_ite (fun g2 => ?_) (fun g2 => ?_)
    · rw [if_neg (by rw [← ey]; exact g2)] at hO
      refine gw_some (gs_inl ⟨rfl, k + 1, ofn1 (by omega), by omega, hO⟩ ?_ ?_)
      · show 6 - (Int32.ofNat k + 1).toInt < 6 - (Int32.ofNat k).toInt
        rw [ofn1 (by omega), ofn (k := k + 1) (by omega)]; omega
      · show 0 ≤ 6 - (Int32.ofNat k + 1).toInt
        rw [ofn1 (by omega), ofn (k := k + 1) (by omega)]; omega
    · have e2 := Decidable.not_not.mp g2
      rw [if_pos (by rw [← ey]; exact e2)] at hO
      have q : p < n := pd_lt (tx := tx) (fun h => by
        have t2 := tc.2
        rw [← e2, ey, h] at t2
        exact absurd t2 (by decide))
      rw [← hO, if_neg (fun h => by rw [h] at ok; have : (-1 : Int32).toInt = -1 := rfl; omega)]
      refine gw_gIw (c.tc b) ?_
      refine gw_pIw (c.tc b) ?_
      rw [c.e6, ofn1 (by omega)]
      exact gw_some (gs_inr (gq_I ⟨rfl, c.at (by omega) (by omega)⟩))
theorem w_spells (b : BR a n tx μ) (c : rst a n μ w p o L m) {u : UInt32} (hu : gm_isS u) : gwV (f_X12_spells 65 u m) (fun m' => (w = false ∧ rst a n μ (!(pW tx n u (gm_bn (u + 6)) p).1) (pW tx n u (gm_bn (u + 6)) p).2 o L m') ∨ (w = true ∧ rst a n μ true p o L m')) := by
  refine gwV_of ?_
  unfold f_X12_spells
  have hp := c.2.1
  have hn := b.2.2.2.2.1
  have l0 : (0 : Int32).toInt = 0 := rfl
  have six := (tx_len (μ := μ) hu).2
  have oL := ofn (k := gm_bn (u + 6)) (by omega)
  refine gw_loop (fun s => ∃ k q : Nat, ∃ v : Bool, s.1 = Int32.ofNat k ∧ k ≤ gm_bn (u + 6) ∧ rst a n μ v q o L s.2 ∧ ((w = true ∧ v = true ∧ q = p) ∨ (w = false ∧ v = false ∧ pW tx n u (gm_bn (u + 6) - k) q = pW tx n u (gm_bn (u + 6)) p) ∨ (w = false ∧ v = true ∧ pW tx n u (gm_bn (u + 6)) p = (false, q)))) (fun s => 6 - s.1.toInt) (fun s hs => ?_) 5000 ((0 : Int32), m) ⟨0, p, w, rfl, Nat.zero_le _, c, by cases w with | true => exact Or.inl ⟨rfl, rfl, rfl⟩ | false => exact Or.inr (Or.inl ⟨rfl, rfl, rfl⟩)⟩ (by show 6 - (0 : Int32).toInt < ((5000 : Nat) : Int); omega) (by show 0 ≤ 6 - (0 : Int32).toInt; omega)
  obtain ⟨s1, s2⟩ := s
  obtain ⟨k, q, v, ek, hk, c', hv⟩ := hs
  replace ek : s1 = Int32.ofNat k := ek
  replace c' : rst a n μ v q o L s2 := c'
  subst ek
  have ok := ofn (k := k) (by omega)
  refine gw_if hu ?_
  refine gw_bI (R := fun x m' => m' = s2 ∧ x = Int32.ofNat (gm_bn (u + 6))) ⟨_, _, (tx_len hu).1, rfl, rfl⟩ (fun x m' ⟨z, ex⟩ => ?_)
  subst z
  subst ex
  refine gw_le (fun g => ?_) (fun g => ?_)
  · replace g : (Int32.ofNat (gm_bn (u + 6))).toInt ≤ (Int32.ofNat k).toInt := g
    refine gw_some (gs_inr (gq_V ?_))
    rcases hv with ⟨h1, h2, h3⟩ | ⟨h1, h2, h3⟩ | ⟨h1, h2, h3⟩
    · subst h2; subst h3; exact Or.inr ⟨h1, c'⟩
    · rw [show gm_bn (u + 6) - k = 0 by omega] at h3
      rw [← h3]
      subst h2
      exact Or.inl ⟨h1, c'⟩
    · rw [h3]
      subst h2
      exact Or.inl ⟨h1, c'⟩
  · replace g : (Int32.ofNat k).toInt < (Int32.ofNat (gm_bn (u + 6))).toInt := g
    refine gw_if hu ?_
    have tc := tx_char (μ := m') hu (i := Int32.ofNat k) (by omega) (by omega)
    rw [ok, Int.toNat_natCast] at tc
    refine gw_bI (R := fun x m3 => m3 = m' ∧ x = gm_bb (u + 6) k) ⟨_, _, tc.1, rfl, rfl⟩ (fun x m3 ⟨z, ex⟩ => ?_)
    subst z
    subst ex
    refine gw_if (c'.t b) ?_
    have hms : (6 - (Int32.ofNat k + 1).toInt < 6 - (Int32.ofNat k).toInt) ∧ 0 ≤ 6 - (Int32.ofNat k + 1).toInt := by
      rw [ofn1 (by omega), ofn (k := k + 1) (by omega)]; omega
    refine gw_bV (w_must b c' (x := gm_bb (u + 6) k) (fun h => by have t2 := tc.2; rw [h] at t2; exact absurd t2 (by decide))) (fun m4 h4 => ?_)
    rcases h4 with ⟨e1, e2, c4⟩ | ⟨e1, c4⟩
    · subst e1
      rcases hv with ⟨h1, h2, h3⟩ | ⟨h1, h2, h3⟩ | ⟨h1, h2, h3⟩
      · cases h2
      · refine gw_some (gs_inl ⟨k + 1, q + 1, false, ofn1 (by omega), by omega, c4, Or.inr (Or.inl ⟨h1, rfl, ?_⟩)⟩ hms.1 hms.2)
        rw [show gm_bn (u + 6) - k = (gm_bn (u + 6) - (k + 1)) + 1 by omega, pW, show gm_bn (u + 6) - (gm_bn (u + 6) - (k + 1) + 1) = k by omega, if_pos e2] at h3
        exact h3
      · cases h2
    · refine gw_some (gs_inl ⟨k + 1, q, true, ofn1 (by omega), by omega, c4, ?_⟩ hms.1 hms.2)
      rcases hv with ⟨h1, h2, h3⟩ | ⟨h1, h2, h3⟩ | ⟨h1, h2, h3⟩
      · exact Or.inl ⟨h1, rfl, h3⟩
      · refine Or.inr (Or.inr ⟨h1, rfl, ?_⟩)
        rw [show gm_bn (u + 6) - k = (gm_bn (u + 6) - (k + 1)) + 1 by omega, pW, show gm_bn (u + 6) - (gm_bn (u + 6) - (k + 1) + 1) = k by omega, if_neg (fun h => e1 ⟨h2, h⟩)] at h3
        exact h3.symm
      · exact Or.inr (Or.inr ⟨h1, rfl, h3⟩)
end
end
section
section
variable {a n p o : Nat} {tx : Nat → Int32} {μ m : gm_M} {w : Bool} {L : List Int32}
theorem dg_in {x r : Int32} (h : (r.toInt = 1 ∧ (48 : Int32).toInt ≤ x.toInt ∧ x.toInt ≤ (57 : Int32).toInt) ∨ (r.toInt = 0 ∧ (x.toInt < (48 : Int32).toInt ∨ (57 : Int32).toInt < x.toInt))) : (r ≠ 0 ∧ dg x = true) ∨ (r = 0 ∧ dg x = false) := by
  have l48 : (48 : Int32).toInt = 48 := rfl
  have l57 : (57 : Int32).toInt = 57 := rfl
  have l0 : (0 : Int32).toInt = 0 := rfl
  rcases h with ⟨h1, h2⟩ | ⟨h1, h2⟩
  · exact Or.inl ⟨fun e => by rw [e] at h1; omega, decide_eq_true (by omega)⟩
  · exact Or.inr ⟨Int32.toInt_inj.mp (by omega), decide_eq_false (by omega)⟩
theorem w_figs (b : BR a n tx μ) (c : rst a n μ w p o L m) : gwI (f_X12_figures 65 m) (fun x m' => (w = false ∧ rst a n μ (!(pN tx n p).1) (pN tx n p).2.1 o L m' ∧ ((pN tx n p).1 = true → x = (pN tx n p).2.2)) ∨ (w = true ∧ rst a n μ true p o L m')) := by
  refine gwI_of ?_
  unfold f_X12_figures
  have hp := c.2.1
  have hn := b.2.2.2.2.1
  have l0 : (0 : Int32).toInt = 0 := rfl
  have l1 : (1 : Int32).toInt = 1 := rfl
  have l2 : (2 : Int32).toInt = 2 := rfl
  refine gw_gIw (c.tc b) ?_
  rw [c.e8]
  refine gw_j (fun s => s.2 = m ∧ ∃ v : Bool, s.1 = bw v ∧ v = (w || !(dg (pd tx n p)))) (fun s ⟨es, v, ev, hv⟩ => ?_) (fun j hj => ?_)
  · obtain ⟨s1, s2⟩ := s
    replace es : s2 = m := es
    replace ev : s1 = bw v := ev
    subst es
    subst ev
    have c1 := c.fl v
    refine gw_pZw (c.tc b) (bw_z v) ?_
    have fin : ∀ (q : Nat) (x : Int32) (M : gm_M), w = false → rst a n μ false q o L M → pN tx n p = (true, q, x) → gw (some (Sum.inr (some (.int x), M)) : Option ((Int32 × Int32 × gm_M) ⊕ (Option Value × gm_M))) (fun b => match b with | .inl _ => False | .inr b => gqI (fun x m' => (w = false ∧ rst a n μ (!(pN tx n p).1) (pN tx n p).2.1 o L m' ∧ ((pN tx n p).1 = true → x = (pN tx n p).2.2)) ∨ (w = true ∧ rst a n μ true p o L m')) b) := fun q x M hw hr e => gw_some (gq_I (Or.inl ⟨hw, by rw [e]; exact hr, fun _ => by rw [e]⟩))
    refine gw_loop (fun t : Int32 × Int32 × gm_M => (t.2.1 = 0 ∧ t.1 = 0 ∧ rst a n μ v p o L t.2.2) ∨ (t.2.1 = 1 ∧ v = false ∧ t.1 = pd tx n p - 48 ∧ rst a n μ false (p + 1) o L t.2.2) ∨ (t.2.1 = 2 ∧ v = false ∧ ∃ q : Nat, pN tx n p = (true, q, t.1) ∧ rst a n μ false q o L t.2.2)) (fun t => 2 - t.2.1.toInt) (fun t ht => ?_) 5000 ((0 : Int32), (0 : Int32), wI s2 65 8 (bw v)) (Or.inl ⟨rfl, rfl, c1⟩) (by show 2 - (0 : Int32).toInt < ((5000 : Nat) : Int); omega) (by show 0 ≤ 2 - (0 : Int32).toInt; omega)
    obtain ⟨t1, t2, t3⟩ := t
    have wf : v = false → w = false ∧ dg (pd tx n p) = true := fun e => by
      rw [e] at hv
      cases w with
      | true => cases hv
      | false =>
        refine ⟨rfl, ?_⟩
        cases h : dg (pd tx n p) with
        | true => rfl
        | false => rw [h] at hv; cases hv
    rcases ht with ⟨h1, h2, h3⟩ | ⟨h1, h2, h3, h4⟩ | ⟨h1, h2, q, h3, h4⟩
    · replace h1 : t2 = 0 := h1
      replace h2 : t1 = 0 := h2
      replace h3 : rst a n μ v p o L t3 := h3
      subst h1
      subst h2
      refine gw_le (fun g => absurd (show (2 : Int32).toInt ≤ (0 : Int32).toInt from g) (by decide)) (fun _ => ?_)
      refine gw_gIw (h3.tc b) ?_
      show gw (if t3.2.1 65 8 ≠ 0 then _ else _) _
      rw [h3.e8]
      cases v with
      | true =>
        rw [if_pos (by decide)]
        refine gw_some (gs_inr (gq_I ?_))
        cases w with
        | true => exact Or.inr ⟨rfl, h3⟩
        | false =>
          have e : dg (pd tx n p) = false := by
            cases h : dg (pd tx n p) with
            | false => rfl
            | true => rw [h] at hv; cases hv
          have eN : pN tx n p = (false, p, -1) := by unfold pN; rw [if_neg (by rw [e]; decide)]
          rw [eN]
          exact Or.inl ⟨rfl, h3, fun q => by cases q⟩
      | false =>
        obtain ⟨hw, hd⟩ := wf rfl
        rw [if_neg (by decide)]
        have q : p < n := pd_lt (tx := tx) (fun e => by rw [e] at hd; exact absurd hd (by decide))
        refine gw_if (h3.t b) ?_
        refine gw_bI (w_here b h3) (fun x m' ⟨e1, e2⟩ => ?_)
        subst e2
        refine gw_bI s_X12_in (fun r m' ⟨z, f⟩ => ?_)
        subst z
        rcases dg_in f with ⟨f1, f2⟩ | ⟨f1, f2⟩
        · rw [if_neg f1]
          refine gw_ji ?_
          rw [if_pos rfl]
          refine gw_if (h3.t b) ?_
          refine gw_bI (w_here b h3) (fun y m'' ⟨e3, e4⟩ => ?_)
          subst e4
          refine gw_gIw (h3.tc b) ?_
          refine gw_pIw (h3.tc b) ?_
          rw [h3.e6, ofn1 (by omega)]
          refine gw_some (gs_inl (Or.inr (Or.inl ⟨rfl, rfl, ?_, h3.at (by omega) (by omega)⟩)) (by show 2 - ((0 : Int32) + 1).toInt < 2 - (0 : Int32).toInt; decide) (by show 0 ≤ 2 - ((0 : Int32) + 1).toInt; decide))
          show (10 * 0 + y) - 48 = pd tx n p - 48
          rw [e3, Int32.mul_zero, Int32.zero_add]
        · rw [← e1, f2] at hd; cases hd
    · replace h1 : t2 = 1 := h1
      replace h3 : t1 = pd tx n p - 48 := h3
      replace h4 : rst a n μ false (p + 1) o L t3 := h4
      subst h1
      obtain ⟨hw, hd⟩ := wf h2
      have d1 := of_decide_eq_true hd
      refine gw_le (fun g => absurd (show (2 : Int32).toInt ≤ (1 : Int32).toInt from g) (by decide)) (fun _ => ?_)
      refine gw_gIw (h4.tc b) ?_
      show gw (if t3.2.1 65 8 ≠ 0 then _ else _) _
      rw [h4.e8, if_neg (by decide)]
      refine gw_if (h4.t b) ?_
      refine gw_bI (w_here b h4) (fun x m' ⟨e1, e2⟩ => ?_)
      subst e2
      refine gw_bI s_X12_in (fun r m' ⟨z, f⟩ => ?_)
      subst z
      have l48 : (48 : Int32).toInt = 48 := rfl
      have s1 : (pd tx n p - 48).toInt = (pd tx n p).toInt - (48 : Int32).toInt := gx_sub (by omega) (by omega)
      have one : (pd tx n p = 48 ∨ dg (pd tx n (p + 1)) = false) → pN tx n p = (true, p + 1, t1) := fun h => by
        unfold pN; rw [if_pos hd, if_pos h, h3]
      rcases dg_in f with ⟨f1, f2⟩ | ⟨f1, f2⟩
      · rw [if_neg f1]
        refine gw_ji ?_
        rw [if_neg (show ¬ (t1, (1 : Int32), m').2.1 = 0 from (by decide : ¬ (1 : Int32) = 0))]
        have q2 : p + 1 < n := pd_lt (tx := tx) (fun e => by rw [← e1] at e; rw [e] at f2; exact absurd f2 (by decide))
        refine gw_le (fun g => ?_) (fun g => ?_)
        · replace g : t1.toInt ≤ (0 : Int32).toInt := g
          have e48 : pd tx n p = 48 := Int32.toInt_inj.mp (by rw [h3] at g; omega)
          have e := one (Or.inl e48)
          exact gw_some (gs_inr (gq_I (Or.inl ⟨hw, by rw [e]; exact h4, fun _ => by rw [e]⟩)))
        · replace g : (0 : Int32).toInt < t1.toInt := g
          refine gw_if (h4.t b) ?_
          refine gw_bI (w_here b h4) (fun y m'' ⟨e3, e4⟩ => ?_)
          subst e4
          refine gw_gIw (h4.tc b) ?_
          refine gw_pIw (h4.tc b) ?_
          rw [h4.e6, ofn1 (by omega)]
          refine gw_some (gs_inl (Or.inr (Or.inr ⟨rfl, h2, p + 2, ?_, h4.at (by omega) (by omega)⟩)) (by show 2 - ((1 : Int32) + 1).toInt < 2 - (1 : Int32).toInt; decide) (by show 0 ≤ 2 - ((1 : Int32) + 1).toInt; decide))
          unfold pN
          rw [if_pos hd, if_neg]
          · show _ = (true, p + 2, (10 * t1 + y) - 48)
            rw [e3, h3]
          · intro h
            rcases h with h | h
            · rw [h3, h] at g; exact absurd g (by decide)
            · rw [← e1, f2] at h; cases h
      · rw [if_pos f1]
        have e := one (Or.inr (by rw [← e1]; exact f2))
        exact gw_some (gs_inr (gq_I (Or.inl ⟨hw, by rw [e]; exact h4, fun _ => by rw [e]⟩)))
    · replace h1 : t2 = 2 := h1
      replace h3 : pN tx n p = (true, q, t1) := h3
      replace h4 : rst a n μ false q o L t3 := h4
      subst h1
      refine gw_le (fun _ => ?_) (fun g => absurd (show (2 : Int32).toInt < (2 : Int32).toInt from g) (by decide))
      exact gw_some (gs_inr (gq_I (Or.inl ⟨(wf h2).1, by rw [h3]; exact h4, fun _ => by rw [h3]⟩)))
  · refine gw_j (fun M => M = m ∧ (w || !(dg (pd tx n p))) = true) (fun M ⟨e, h⟩ => hj _ ⟨e, true, rfl, h.symm⟩) (fun j2 hj2 => ?_)
    cases w with
    | true => rw [if_pos (by decide)]; exact hj2 _ ⟨rfl, rfl⟩
    | false =>
      rw [if_neg (by decide)]
      refine gw_if (c.t b) ?_
      refine gw_bI (w_here b c) (fun x m' ⟨e1, e2⟩ => ?_)
      subst e2
      refine gw_bI s_X12_in (fun r m' ⟨z, f⟩ => ?_)
      subst z
      rcases dg_in f with ⟨f1, f2⟩ | ⟨f1, f2⟩
      · rw [if_pos f1]
        exact hj _ ⟨rfl, false, rfl, by rw [← e1, f2]; rfl⟩
      · rw [if_neg (fun h => h f1)]
        exact hj2 _ ⟨rfl, by rw [← e1, f2]; rfl⟩
/-- how a piece of E ends -/
def ro (a n : Nat) (μ : gm_M) (o : Nat) (L : List Int32) (r : pA) (m : gm_M) : Prop := (r.1 = true ∧ rst a n μ false r.2.1 o (L ++ r.2.2) m) ∨ (r.1 = false ∧ ∃ L' : List Int32, rst a n μ true r.2.1 o L' m)
def WF (a n : Nat) (μ : gm_M) (G : Nat → gm_M → Option (Option Value × gm_M)) (o : Nat) (F : Nat → pA) : Prop := ∀ {p : Nat} {L : List Int32} {m : gm_M}, rst a n μ false p o L m → gwV (G 65 m) (fun m' => ro a n μ o L (F p) m')
def WW (a n : Nat) (μ : gm_M) (G : Nat → gm_M → Option (Option Value × gm_M)) : Prop := ∀ {p o : Nat} {L : List Int32} {m : gm_M}, rst a n μ true p o L m → gwV (G 65 m) (fun m' => rst a n μ true p o L m')
/-- a row of factors, so far -/
def rc (tx : Nat → Int32) (n : Nat) (F : Nat → pA) (fu p : Nat) (L : List Int32) (fu' p' : Nat) (L' : List Int32) : Prop := (pS tx n F fu p).1 = (pS tx n F fu' p').1 ∧ (pS tx n F fu p).2.1 = (pS tx n F fu' p').2.1 ∧ ∀ w : Bool, L ++ pC w (pS tx n F fu p).2.2 = L' ++ pC w (pS tx n F fu' p').2.2
def re (a n : Nat) (tx : Nat → Int32) (μ : gm_M) (o : Nat) (F : Nat → pA) (fu p : Nat) (L : List Int32) (m : gm_M) : Prop := ((pS tx n F fu p).1 = false ∧ ∃ L' : List Int32, rst a n μ true (pS tx n F fu p).2.1 o L' m) ∨ ∃ (fu' p' : Nat) (L' : List Int32), rst a n μ false p' o L' m ∧ 101 ≤ fu' + p' ∧ pd tx n p' ≠ 38 ∧ rc tx n F fu p L fu' p' L' ∧ p ≤ p' ∧ L'.length + p ≤ L.length + p'
def WE (a n : Nat) (tx : Nat → Int32) (μ : gm_M) (G : Nat → gm_M → Option (Option Value × gm_M)) (o : Nat) (F : Nat → pA) : Prop := ∀ {p : Nat} {L : List Int32} {m : gm_M} (fu : Nat), rst a n μ false p o L m → 101 ≤ fu + (F p).2.1 → gwV (G 65 m) (fun m' => ((F p).1 = false ∧ ∃ L' : List Int32, rst a n μ true (F p).2.1 o L' m') ∨ ((F p).1 = true ∧ re a n tx μ o F fu (F p).2.1 (L ++ (F p).2.2) m'))
theorem w_every (b : BR a n tx μ) {R0 R1 R2 : Nat → gm_M → Option (Option Value × gm_M)} {F : Nat → pA} (hR : WF a n μ R1 o F) (hF : ∀ p, p ≤ n → pG n p (F p)) : WE a n tx μ (b_X12_every R0 R1 R2) o F := by
  have hn := b.2.2.2.2.1
  · intro p L m fu c hfu
    refine gwV_of ?_
    unfold b_X12_every
    have F0 := hF p c.2.1.1
    have hL := c.2.1.2.2
    refine gw_if (c.t b) ?_
    refine gw_bV (hR c) (fun m1 h1 => ?_)
    rcases h1 with ⟨f1, c1⟩ | ⟨f1, L', c1⟩
    · generalize hI : (fun s : gm_M => ((pS tx n F fu (F p).2.1).1 = false ∧ ∃ L' : List Int32, rst a n μ true (pS tx n F fu (F p).2.1).2.1 o L' s) ∨ ∃ (fu' p' : Nat) (L' : List Int32), rst a n μ false p' o L' s ∧ 101 ≤ fu' + p' ∧ rc tx n F fu (F p).2.1 (L ++ (F p).2.2) fu' p' L' ∧ (F p).2.1 ≤ p' ∧ L'.length + (F p).2.1 ≤ (L ++ (F p).2.2).length + p') = I
      refine gw_loop I (fun s => 200 - (s.2.1 65 6).toInt + 200 - 200 * (s.2.1 65 8).toInt) (fun s hs => ?_) 5000 m1 ?_ ?_ ?_
      · rw [← hI] at hs
        rcases hs with ⟨k1, L', k2⟩ | ⟨fu', p', L', k1, k2, k3, k4, k5⟩
        · replace k2 : rst a n μ true (pS tx n F fu (F p).2.1).2.1 o L' s := k2
          refine gw_gIw (k2.tc b) ?_
          rw [k2.e8, if_pos (by decide)]
          exact gw_some (gs_inr (gq_V (Or.inr ⟨f1, Or.inl ⟨k1, L', k2⟩⟩)))
        · replace k1 : rst a n μ false p' o L' s := k1
          refine gw_gIw (k1.tc b) ?_
          rw [k1.e8, if_neg (by decide)]
          refine gw_if (k1.t b) ?_
          refine gw_bI (w_here b k1) (fun x m' ⟨e1, e2⟩ => ?_)
          subst e2
          refine gw_ite (fun g => ?_) (fun g => ?_)
          · exact gw_some (gs_inr (gq_V (Or.inr ⟨f1, Or.inr ⟨fu', p', L', k1, k2, by rw [← e1]; exact g, k3, k4, k5⟩⟩)))
          · have e38 : pd tx n p' = 38 := by rw [← e1]; exact Decidable.not_not.mp g
            have q : p' < n := pd_lt (tx := tx) (by rw [e38]; decide)
            have hL' := k1.2.1.2.2
            obtain ⟨fv, rfl⟩ : ∃ fv, fu' = fv + 1 := ⟨fu' - 1, by omega⟩
            refine gw_gIw (k1.tc b) ?_
            refine gw_pIw (k1.tc b) ?_
            rw [k1.e6, ofn1 (by omega)]
            have c2 := k1.at (q := p' + 1) (by omega) (by omega)
            have o6 := k1.e6
            have o8 := k1.e8
            have G := hF (p' + 1) q
            refine gw_if (c2.t b) ?_
            refine gw_bV (hR c2) (fun m9 h9 => ?_)
            rcases h9 with ⟨f2, c9⟩ | ⟨f2, L2, c9⟩
            · obtain ⟨G1, G2, G3⟩ := G
              obtain ⟨G4, G5⟩ := G3 f2
              have e1 := pS_ok (tx := tx) (fu := fv) (Or.inl e38) f2
              rw [show decide (pd tx n p' = 124) = false from decide_eq_false (by rw [e38]; decide)] at e1
              refine gw_if (c9.t b) ?_
              refine gw_bV (w_emits b c9 (-2) (fun _ => by rw [List.length_append]; omega)) (fun m11 h11 => ?_)
              rcases h11 with ⟨-, c11⟩ | ⟨h, -⟩
              · have o6' := c11.e6
                have o8' := c11.e8
                have of1 := ofn (k := p') (by omega)
                have of2 := ofn (k := (F (p' + 1)).2.1) (by omega)
                refine gw_some (gs_inl ?_ ?_ ?_)
                · rw [← hI]
                  refine Or.inr ⟨fv, (F (p' + 1)).2.1, _, c11, by omega, ?_, by omega, by rw [List.length_append, List.length_append, List.length_singleton]; omega⟩
                  obtain ⟨r1, r2, r3⟩ := k3
                  refine ⟨by rw [r1, e1], by rw [r2, e1], fun v => ?_⟩
                  rw [r3 v, e1]
                  show L' ++ ((F (p' + 1)).2.2 ++ ((-2 : Int32) :: pC v (pS tx n F fv (F (p' + 1)).2.1).2.2)) = L' ++ (F (p' + 1)).2.2 ++ [-2] ++ pC v (pS tx n F fv (F (p' + 1)).2.1).2.2
                  rw [List.append_assoc, List.append_assoc]; rfl
                · show 200 - (m11.2.1 65 6).toInt + 200 - 200 * (m11.2.1 65 8).toInt < 200 - (m'.2.1 65 6).toInt + 200 - 200 * (m'.2.1 65 8).toInt
                  rw [o6', o8', o6, o8, of1, of2]; omega
                · show 0 ≤ 200 - (m11.2.1 65 6).toInt + 200 - 200 * (m11.2.1 65 8).toInt
                  rw [o6', o8', of2]
                  have : (bw false).toInt = 0 := rfl
                  omega
              · cases h
            · have e1 := pS_no (tx := tx) (fu := fv) (Or.inl e38) f2
              refine gw_if (c9.t b) ?_
              refine gw_bV (w_emits b c9 (-2) (fun h => by cases h)) (fun m11 h11 => ?_)
              rcases h11 with ⟨h, -⟩ | ⟨-, h⟩
              · cases h
              · subst h
                have o6' := c9.e6
                have o8' := c9.e8
                have of1 := ofn (k := p') (by omega)
                have of2 := ofn (k := (F (p' + 1)).2.1) (by have := c9.2.1.1; omega)
                have b0 : (bw false).toInt = 0 := rfl
                have b1 : (bw true).toInt = 1 := rfl
                have := c9.2.1.1
                refine gw_some (gs_inl ?_ ?_ ?_)
                · rw [← hI]
                  obtain ⟨r1, r2, r3⟩ := k3
                  exact Or.inl ⟨by rw [r1, e1], L2, by rw [r2, e1]; exact c9⟩
                · show 200 - (m11.2.1 65 6).toInt + 200 - 200 * (m11.2.1 65 8).toInt < 200 - (m'.2.1 65 6).toInt + 200 - 200 * (m'.2.1 65 8).toInt
                  rw [o6', o8', o6, o8, of1, of2]; omega
                · show 0 ≤ 200 - (m11.2.1 65 6).toInt + 200 - 200 * (m11.2.1 65 8).toInt
                  rw [o6', o8', of2]; omega
      · rw [← hI]
        exact Or.inr ⟨fu, (F p).2.1, _, c1, hfu, ⟨rfl, rfl, fun _ => rfl⟩, Nat.le_refl _, Nat.le_refl _⟩
      · show 200 - (m1.2.1 65 6).toInt + 200 - 200 * (m1.2.1 65 8).toInt < ((5000 : Nat) : Int)
        have := c1.2.1.1
        have b0 : (bw false).toInt = 0 := rfl
        rw [c1.e6, c1.e8, ofn (k := (F p).2.1) (by omega)]; omega
      · show 0 ≤ 200 - (m1.2.1 65 6).toInt + 200 - 200 * (m1.2.1 65 8).toInt
        have := c1.2.1.1
        have b0 : (bw false).toInt = 0 := rfl
        rw [c1.e6, c1.e8, ofn (k := (F p).2.1) (by omega)]; omega
    · -- wrong at once
      refine gw_loop (fun s => s = m1) (fun _ => 0) (fun s hs => ?_) 5000 m1 rfl (by decide) (by decide)
      subst hs
      refine gw_gIw (c1.tc b) ?_
      rw [c1.e8, if_pos (by decide)]
      exact gw_some (gs_inr (gq_V (Or.inl ⟨f1, L', c1⟩)))
theorem w_every_w (b : BR a n tx μ) {R0 R1 R2 : Nat → gm_M → Option (Option Value × gm_M)} (hW : WW a n μ R1) : WW a n μ (b_X12_every R0 R1 R2) := by
  · intro p o L m c
    refine gwV_of ?_
    unfold b_X12_every
    refine gw_if (c.t b) ?_
    refine gw_bV (hW c) (fun m1 c1 => ?_)
    refine gw_loop (fun s => s = m1) (fun _ => 0) (fun s hs => ?_) 5000 m1 rfl (by decide) (by decide)
    subst hs
    refine gw_gIw (c1.tc b) ?_
    rw [c1.e8, if_pos (by decide)]
    exact gw_some (gs_inr (gq_V c1))
theorem pC_flip {F : Nat → pA} {fu : Nat} (h : pd tx n p ≠ 38) : pC true (pS tx n F fu p).2.2 = -3 :: pC false (pS tx n F fu p).2.2 := by
  cases fu with
  | zero => rfl
  | succ fv =>
    by_cases h2 : pd tx n p = 124
    · cases f : (F (p + 1)).1 with
      | true =>
        rw [pS_ok (Or.inr h2) f, show decide (pd tx n p = 124) = true from decide_eq_true h2]
        rfl
      | false => rw [pS_no (Or.inr h2) f]; rfl
    · rw [pS_end h h2]; rfl
theorem w_some (b : BR a n tx μ) {R0 R1 R2 : Nat → gm_M → Option (Option Value × gm_M)} {F : Nat → pA} (hR : WE a n tx μ R0 o F) (hF : ∀ p, p ≤ n → pG n p (F p)) : WF a n μ (b_X12_some R0 R1 R2) o (pE tx n F) := by
  have hn := b.2.2.2.2.1
  have b0 : (bw false).toInt = 0 := rfl
  have b1 : (bw true).toInt = 1 := rfl
  · intro p L m c
    refine gwV_of ?_
    unfold b_X12_some
    have F0 := hF p c.2.1.1
    have hL := c.2.1.2.2
    refine gw_if (c.t b) ?_
    refine gw_bV (hR (101 - (F p).2.1) c (by omega)) (fun m1 h1 => ?_)
    rcases h1 with ⟨f1, L', c1⟩ | ⟨f1, h1⟩
    · have eE : pE tx n F p = (false, (F p).2.1, []) := by unfold pE; rw [if_neg (by rw [f1]; decide)]
      refine gw_loop (fun s => s = m1) (fun _ => 0) (fun s hs => ?_) 5000 m1 rfl (by decide) (by decide)
      subst hs
      refine gw_gIw (c1.tc b) ?_
      rw [c1.e8, if_pos (by decide)]
      exact gw_some (gs_inr (gq_V (Or.inr ⟨by rw [eE], L', by rw [eE]; exact c1⟩)))
    · have eE : pE tx n F p = ((pS tx n F (101 - (F p).2.1) (F p).2.1).1, (pS tx n F (101 - (F p).2.1) (F p).2.1).2.1, (F p).2.2 ++ pC false (pS tx n F (101 - (F p).2.1) (F p).2.1).2.2) := by unfold pE; rw [if_pos f1]
      -- how it stands ahead of a |
      generalize hI : (fun s : gm_M => ((pE tx n F p).1 = false ∧ ∃ L' : List Int32, rst a n μ true (pE tx n F p).2.1 o L' s) ∨ ∃ (fu' p' : Nat) (L' : List Int32), rst a n μ false p' o L' s ∧ 101 ≤ fu' + p' ∧ pd tx n p' ≠ 38 ∧ (pE tx n F p).1 = (pS tx n F fu' p').1 ∧ (pE tx n F p).2.1 = (pS tx n F fu' p').2.1 ∧ L ++ (pE tx n F p).2.2 = L' ++ pC false (pS tx n F fu' p').2.2) = I
      have h0 : I m1 := by
        rw [← hI]
        rcases h1 with ⟨k1, L', k2⟩ | ⟨fu', p', L', k1, k2, k3, ⟨r1, r2, r3⟩, -, -⟩
        · exact Or.inl ⟨by rw [eE]; exact k1, L', by rw [eE]; exact k2⟩
        · exact Or.inr ⟨fu', p', L', k1, k2, k3, by rw [eE]; exact r1, by rw [eE]; exact r2, by rw [eE, ← r3 false, List.append_assoc]⟩
      have hb : ∀ s, I s → 0 ≤ 200 - (s.2.1 65 6).toInt + 200 - 200 * (s.2.1 65 8).toInt ∧ 200 - (s.2.1 65 6).toInt + 200 - 200 * (s.2.1 65 8).toInt < 5000 := fun s hs => by
        rw [← hI] at hs
        rcases hs with ⟨k1, L', k2⟩ | ⟨fu', p', L', k1, -⟩
        · replace k2 : rst a n μ true (pE tx n F p).2.1 o L' s := k2
          have := k2.2.1.1
          rw [k2.e6, k2.e8, ofn (k := (pE tx n F p).2.1) (by omega)]; omega
        · replace k1 : rst a n μ false p' o L' s := k1
          have := k1.2.1.1
          rw [k1.e6, k1.e8, ofn (k := p') (by omega)]; omega
      refine gw_loop I (fun s => 200 - (s.2.1 65 6).toInt + 200 - 200 * (s.2.1 65 8).toInt) (fun s hs => ?_) 5000 m1 h0 (hb m1 h0).2 (hb m1 h0).1
      have hs' := hs
      rw [← hI] at hs
      rcases hs with ⟨k1, L', k2⟩ | ⟨fu', p', L', k1, k2, k3, r1, r2, r3⟩
      · replace k2 : rst a n μ true (pE tx n F p).2.1 o L' s := k2
        refine gw_gIw (k2.tc b) ?_
        rw [k2.e8, if_pos (by decide)]
        exact gw_some (gs_inr (gq_V (Or.inr ⟨k1, L', k2⟩)))
      · replace k1 : rst a n μ false p' o L' s := k1
        refine gw_gIw (k1.tc b) ?_
        rw [k1.e8, if_neg (by decide)]
        refine gw_if (k1.t b) ?_
        refine gw_bI (w_here b k1) (fun x m' ⟨e1, e2⟩ => ?_)
        subst e2
        refine gw_ite (fun g => ?_) (fun g => ?_)
        · have e := pS_end (F := F) k3 (by rw [← e1]; exact g) fu'
          rw [e] at r1 r2 r3
          refine gw_some (gs_inr (gq_V (Or.inl ⟨r1, ?_⟩)))
          rw [r2, r3]
          show rst a n μ false p' o (L' ++ ([] : List Int32)) m'
          rw [List.append_nil]; exact k1
        · have e124 : pd tx n p' = 124 := by rw [← e1]; exact Decidable.not_not.mp g
          have q : p' < n := pd_lt (tx := tx) (by rw [e124]; decide)
          have hL' := k1.2.1.2.2
          obtain ⟨fv, rfl⟩ : ∃ fv, fu' = fv + 1 := ⟨fu' - 1, by omega⟩
          refine gw_gIw (k1.tc b) ?_
          refine gw_pIw (k1.tc b) ?_
          rw [k1.e6, ofn1 (by omega)]
          have c2 := k1.at (q := p' + 1) (by omega) (by omega)
          have o6 := k1.e6
          have o8 := k1.e8
          obtain ⟨G1, G2, G3⟩ := hF (p' + 1) q
          have of1 := ofn (k := p') (by omega)
          have of2 := ofn (k := (F (p' + 1)).2.1) (by omega)
          refine gw_if (c2.t b) ?_
          refine gw_bV (hR fv c2 (by omega)) (fun m9 h9 => ?_)
          -- ends that are wrong
          have bad : ∀ (q : Nat) (L2 : List Int32), p' ≤ q → (pE tx n F p).1 = false → (pE tx n F p).2.1 = q → rst a n μ true q o L2 m9 → gw (if gm_tag m9 65 = 17 then gm_bV (f_X12_emits 65 (-3 : Int32) m9) (fun m11 => some (Sum.inl m11)) else none) (gs_st I (fun s => 200 - (s.2.1 65 6).toInt + 200 - 200 * (s.2.1 65 8).toInt) m' (gqV (fun m' => ro a n μ o L (pE tx n F p) m'))) := fun q L2 hq z1 z2 z3 => by
            have z4 := z3.2.1.1
            refine gw_if (z3.t b) ?_
            refine gw_bV (w_emits b z3 (-3) (fun h => by cases h)) (fun m11 h11 => ?_)
            rcases h11 with ⟨h, -⟩ | ⟨-, h⟩
            · cases h
            · subst h
              have hh : I m11 := by rw [← hI]; exact Or.inl ⟨z1, L2, by rw [z2]; exact z3⟩
              refine gw_some (gs_inl hh ?_ (hb m11 hh).1)
              show 200 - (m11.2.1 65 6).toInt + 200 - 200 * (m11.2.1 65 8).toInt < 200 - (m'.2.1 65 6).toInt + 200 - 200 * (m'.2.1 65 8).toInt
              rw [z3.e6, z3.e8, o6, o8, of1, ofn (k := q) (by omega)]; omega
          rcases h9 with ⟨f2, L2, c9⟩ | ⟨f2, h9⟩
          · have e1 := pS_no (tx := tx) (fu := fv) (Or.inr e124) f2
            exact bad _ L2 (by omega) (by rw [r1, e1]) (by rw [r2, e1]) c9
          · obtain ⟨G4, G5⟩ := G3 f2
            have e1 := pS_ok (tx := tx) (fu := fv) (Or.inr e124) f2
            rw [show decide (pd tx n p' = 124) = true from decide_eq_true e124] at e1
            rcases h9 with ⟨j1, L2, j2⟩ | ⟨fu2, p2, L2, j1, j2, j3, ⟨q1, q2, q3⟩, j5, j6⟩
            · have := (pS_g (tx := tx) hF fv (F (p' + 1)).2.1 G2).1
              exact bad _ L2 (by omega) (by rw [r1, e1]; exact j1) (by rw [r2, e1]) j2
            · have hlen : L2.length + 1 ≤ p2 ∧ (F (p' + 1)).2.1 ≤ p2 := by
                rw [List.length_append] at j6
                omega
              have j4 := j1.2.1.1
              refine gw_if (j1.t b) ?_
              refine gw_bV (w_emits b j1 (-3) (fun _ => hlen.1)) (fun m11 h11 => ?_)
              rcases h11 with ⟨-, c11⟩ | ⟨h, -⟩
              · have hh : I m11 := by
                  rw [← hI]
                  refine Or.inr ⟨fu2, p2, _, c11, j2, j3, by rw [r1, e1]; exact q1, by rw [r2, e1]; exact q2, ?_⟩
                  rw [r3, e1]
                  show L' ++ ((F (p' + 1)).2.2 ++ pC true (pS tx n F fv (F (p' + 1)).2.1).2.2) = L2 ++ [-3] ++ pC false (pS tx n F fu2 p2).2.2
                  rw [← List.append_assoc, q3 true, pC_flip j3, List.append_assoc]; rfl
                refine gw_some (gs_inl hh ?_ (hb m11 hh).1)
                show 200 - (m11.2.1 65 6).toInt + 200 - 200 * (m11.2.1 65 8).toInt < 200 - (m'.2.1 65 6).toInt + 200 - 200 * (m'.2.1 65 8).toInt
                rw [c11.e6, c11.e8, o6, o8, of1, ofn (k := p2) (by omega)]; omega
              · cases h
theorem w_some_w (b : BR a n tx μ) {R0 R1 R2 : Nat → gm_M → Option (Option Value × gm_M)} (hW : WW a n μ R0) : WW a n μ (b_X12_some R0 R1 R2) := by
  · intro p o L m c
    refine gwV_of ?_
    unfold b_X12_some
    refine gw_if (c.t b) ?_
    refine gw_bV (hW c) (fun m1 c1 => ?_)
    refine gw_loop (fun s => s = m1) (fun _ => 0) (fun s hs => ?_) 5000 m1 rfl (by decide) (by decide)
    subst hs
    refine gw_gIw (c1.tc b) ?_
    rw [c1.e8, if_pos (by decide)]
    exact gw_some (gs_inr (gq_V c1))
end
end
section
section
variable {a n p o : Nat} {tx : Nat → Int32} {μ m : gm_M} {w : Bool} {L : List Int32}
theorem w_test (b : BR a n tx μ) (c : rst a n μ false p o L m) {Q : Option Value × gm_M → Prop} (hQ : ∀ m', ro a n μ o L (pT tx n p) m' → Q (none, m')) : gw (gm_bI (f_X12_among 65 (5 : UInt32) m) (fun x30 m29 => gm_j (fun (s31 : Int32) => gm_pZ m29 [17] 65 8 s31 (fun m33 => gm_gI m33 [17] 65 8 (fun v34 => gm_j (fun (s35 : Int32 × gm_M) => gm_gI s35.2 [17] 65 8 (fun v37 => gm_j (fun (s38 : Int32) => gm_pZ s35.2 [17] 65 8 s38 (fun m40 => if gm_tag m40 65 = 17 then gm_bI (f_X12_figures 65 m40) (fun x42 m41 => if gm_tag m41 65 = 17 then gm_bV (f_X12_emits 65 ((x30 + ((8 : Int32) * s35.1)) + ((32 : Int32) * x42)) m41) (fun m43 => some (none, m43)) else none) else none)) (fun j39 => gm_j (fun (s45 : Unit) => j39 (1 : Int32)) (fun j46 => if v37 ≠ 0 then j46 () else if s35.1 ≠ (-1 : Int32) then j39 (0 : Int32) else j46 ())))) (fun j36 => if v34 = 0 then if gm_tag m33 65 = 17 then gm_bI (f_X12_among 65 (6 : UInt32) m33) (fun x48 m47 => j36 (x48, m47)) else none else j36 ((0 : Int32), m33))))) (fun j32 => if x30 ≠ (-1 : Int32) then j32 (0 : Int32) else j32 (1 : Int32)))) Q := by
  have hn := b.2.2.2.2.1
  have hp := c.2.1
  have gT := pT_g (tx := tx) hp.1
  refine gw_bI (w_among b c (u := 5) (by decide)) (fun x30 m29 ⟨e30, c29⟩ => ?_)
  refine gw_j (fun s => ∃ v : Bool, s = bw v ∧ v = decide (pO 5 (pd tx n p) = -1)) (fun s ⟨v, es, ev⟩ => ?_) (fun j32 hj32 => ?_)
  · subst es
    refine gw_pZw (c29.tc b) (bw_z v) ?_
    have c33 := c29.fl v
    generalize wI m29 65 8 (bw v) = m33 at *
    refine gw_gIw (c33.tc b) ?_
    rw [c33.e8]
    -- behind the sign
    refine gw_j (fun s => (v = true ∧ pT tx n p = (false, p, []) ∧ ∃ q, rst a n μ true q o L s.2 ∧ q = p) ∨ (v = false ∧ pO 5 (pd tx n p) ≠ -1 ∧ s.1 = pO 6 (pd tx n (p + 1)) ∧ rst a n μ false (if pO 6 (pd tx n (p + 1)) = -1 then p + 1 else p + 2) o L s.2)) (fun s hs => ?_) (fun j36 hj36 => ?_)
    · obtain ⟨s1, s2⟩ := s
      obtain ⟨u, q, hu, hq⟩ : ∃ (u : Bool) (q : Nat), rst a n μ u q o L s2 ∧ ((u = true ∧ pT tx n p = (false, q, [])) ∨ (u = false ∧ pO 5 (pd tx n p) ≠ -1 ∧ s1 = pO 6 (pd tx n (p + 1)) ∧ q = (if pO 6 (pd tx n (p + 1)) = -1 then p + 1 else p + 2))) := by
        rcases hs with ⟨-, h2, q, h3, h4⟩ | ⟨-, h2, h3, h4⟩
        · exact ⟨true, p, by rw [← h4]; exact h3, Or.inl ⟨rfl, h2⟩⟩
        · exact ⟨false, _, h4, Or.inr ⟨rfl, h2, h3, rfl⟩⟩
      refine gw_gIw (hu.tc b) ?_
      show gw (gm_j _ (fun j39 => gm_j _ (fun j46 => if s2.2.1 65 8 ≠ 0 then _ else if s1 ≠ (-1 : Int32) then _ else _))) Q
      rw [hu.e8]
      refine gw_j (fun s38 => ∃ v : Bool, s38 = bw v ∧ ((v = true ∧ pT tx n p = (false, q, [])) ∨ (v = false ∧ pO 5 (pd tx n p) ≠ -1 ∧ pO 6 (pd tx n (p + 1)) ≠ -1 ∧ s1 = pO 6 (pd tx n (p + 1)) ∧ q = p + 2))) (fun s38 hs38 => ?_) (fun j39 hj39 => ?_)
      · obtain ⟨v2, es, h2⟩ := hs38
        subst es
        refine gw_pZw (hu.tc b) (bw_z v2) ?_
        have c40 := hu.fl v2
        show gw (if gm_tag (wI s2 65 8 (bw v2)) 65 = 17 then _ else _) Q
        generalize wI s2 65 8 (bw v2) = m40 at *
        refine gw_if (c40.t b) ?_
        refine gw_bI (w_figs b c40) (fun x42 m41 h41 => ?_)
        rcases h2 with ⟨ev, hT⟩ | ⟨ev, h5, h6, e1, eq⟩
        · subst ev
          rcases h41 with ⟨h, -⟩ | ⟨-, c41⟩
          · cases h
          · refine gw_if (c41.t b) ?_
            refine gw_bV (w_emits b c41 _ (fun h => by cases h)) (fun m43 h43 => ?_)
            rcases h43 with ⟨h, -⟩ | ⟨-, h⟩
            · cases h
            · subst h
              exact gw_some (hQ _ (Or.inr ⟨by rw [hT], L, by rw [hT]; exact c41⟩))
        · subst ev
          subst eq
          rcases h41 with ⟨-, c41, f41⟩ | ⟨h, -⟩
          · refine gw_if (c41.t b) ?_
            cases hN : (pN tx n (p + 2)).1 with
            | true =>
              rw [hN] at c41
              have eT : pT tx n p = (true, (pN tx n (p + 2)).2.1, [(pO 5 (pd tx n p) + 8 * pO 6 (pd tx n (p + 1))) + 32 * (pN tx n (p + 2)).2.2]) := by
                unfold pT; rw [if_neg h5, if_neg h6, if_pos hN]
              have gN := (pN_g (tx := tx) hu.2.1.1).2.2 hN
              refine gw_bV (w_emits b c41 _ (fun _ => by omega)) (fun m43 h43 => ?_)
              rcases h43 with ⟨-, c43⟩ | ⟨h, -⟩
              · refine gw_some (hQ _ (Or.inl ⟨by rw [eT], ?_⟩))
                rw [eT]
                show rst a n μ false (pN tx n (p + 2)).2.1 o (L ++ [(pO 5 (pd tx n p) + 8 * pO 6 (pd tx n (p + 1))) + 32 * (pN tx n (p + 2)).2.2]) m43
                rw [← e30, ← f41 hN, ← show s1 = _ from e1]
                exact c43
              · cases h
            | false =>
              rw [hN] at c41
              have eT : pT tx n p = (false, (pN tx n (p + 2)).2.1, []) := by
                unfold pT; rw [if_neg h5, if_neg h6, if_neg (by rw [hN]; decide)]
              refine gw_bV (w_emits b c41 _ (fun h => by cases h)) (fun m43 h43 => ?_)
              rcases h43 with ⟨h, -⟩ | ⟨-, h⟩
              · cases h
              · subst h
                exact gw_some (hQ _ (Or.inr ⟨by rw [eT], L, by rw [eT]; exact c41⟩))
          · cases h
      · refine gw_j (fun _ => pT tx n p = (false, q, [])) (fun _ h => hj39 _ ⟨true, rfl, Or.inl ⟨rfl, h⟩⟩) (fun j46 hj46 => ?_)
        rcases hq with ⟨eu, hT⟩ | ⟨eu, h5, e1, eq⟩
        · subst eu
          rw [if_pos (by decide)]
          exact hj46 _ hT
        · subst eu
          rw [if_neg (by decide)]
          refine gw_ite (fun g => hj39 _ ⟨false, rfl, Or.inr ⟨rfl, h5, by rw [← e1]; exact g, e1, by rw [eq, if_neg (by rw [← e1]; exact g)]⟩⟩) (fun g => hj46 _ ?_)
          have g2 : pO 6 (pd tx n (p + 1)) = -1 := by rw [← e1]; exact Decidable.not_not.mp g
          unfold pT; rw [if_neg h5, if_pos g2, eq, if_pos g2]
    · cases v with
      | true =>
        have h5 := of_decide_eq_true ev.symm
        rw [if_neg (by decide)]
        rw [if_pos h5] at c33
        exact hj36 _ (Or.inl ⟨rfl, by unfold pT; rw [if_pos h5], p, c33, rfl⟩)
      | false =>
        have h5 := of_decide_eq_false ev.symm
        rw [if_pos (show bw false = 0 from rfl)]
        rw [if_neg h5] at c33
        refine gw_if (c33.t b) ?_
        refine gw_bI (w_among b c33 (u := 6) (by decide)) (fun x48 m47 ⟨e48, c47⟩ => ?_)
        exact hj36 _ (Or.inr ⟨rfl, h5, e48, c47⟩)
  · refine gw_ite (fun g => hj32 _ ⟨false, rfl, (decide_eq_false (by rw [← e30]; exact g)).symm⟩) (fun g => hj32 _ ⟨true, rfl, (decide_eq_true (by rw [← e30]; exact Decidable.not_not.mp g)).symm⟩)
set_option maxHeartbeats 2000000 in
theorem w_factor (b : BR a n tx μ) {R0 R1 R2 : Nat → gm_M → Option (Option Value × gm_M)} {e : Nat} (he : e ≤ 5) (hW1 : WW a n μ R1) (hW2 : WW a n μ R2) (h1 : ∀ e', e = e' + 1 → WF a n μ R1 (5 - e') (pF tx n e')) (h2 : ∀ e', e = e' + 1 → WF a n μ R2 (5 - e') (pE tx n (pF tx n e'))) : WF a n μ (b_X12_factor R0 R1 R2) (5 - e) (pF tx n e) := by
  intro p L m c
  have hn := b.2.2.2.2.1
  have hp := c.2.1
  have b0 : bw false = 0 := rfl
  have b1 : bw true = 1 := rfl
  refine gwV_of ?_
  unfold b_X12_factor
  refine gw_gIw (c.tc b) ?_
  rw [c.e8, if_pos (by decide)]
  refine gw_if (c.t b) ?_
  refine gw_bI (w_here b c) (fun x m' ⟨ex, em⟩ => ?_)
  subst em
  refine gw_j (fun _ => x = 33 ∨ x = 40) (fun _ hx => ?_) (fun j hj => ?_)
  · have q : p < n := pd_lt (tx := tx) (by rw [← ex]; intro h; rw [h] at hx; exact absurd hx (by decide))
    refine gw_gIw (c.tc b) ?_
    rw [c.e9]
    refine gw_j (fun s => ∃ v : Bool, s = bw v ∧ v = decide (e = 0)) (fun s ⟨v, es, ev⟩ => ?_) (fun j8 hj8 => ?_)
    · subst es
      refine gw_pZw (c.tc b) (bw_z v) ?_
      have c1 := c.fl v
      generalize wI m' 65 8 (bw v) = m9 at *
      refine gw_gIw (c1.tc b) ?_
      refine gw_pIw (c1.tc b) ?_
      rw [c1.e9, ofn1 (by omega)]
      have c2 := c1.op (q := 5 - e + 1) (by omega)
      generalize wI m9 65 9 (Int32.ofNat (5 - e + 1)) = m11 at *
      refine gw_gIw (c2.tc b) ?_
      refine gw_gIw (c2.tc b) ?_
      rw [c2.e6, c2.e8]
      refine gw_j (fun s => Int32.ofNat p + s = Int32.ofNat (if v = true then p else p + 1)) (fun s hs => ?_) (fun j15 hj15 => ?_)
      · refine gw_pIw (c2.tc b) ?_
        rw [hs]
        have c3 := c2.at (q := if v = true then p else p + 1) (by split <;> omega) (by split <;> omega)
        generalize wI m11 65 6 (Int32.ofNat (if v = true then p else p + 1)) = m16 at *
        -- at the end: one open less
        refine gw_j (fun M => ro a n μ (5 - e + 1) L (pF tx n e p) M) (fun M hM => ?_) (fun j18 hj18 => ?_)
        · have fin : ∀ (u : Bool) (k : Nat) (T : List Int32), rst a n μ u k (5 - e + 1) T M → gw (gm_gI M [17] 65 9 (fun v19 => gm_pI M [17] 65 9 (v19 - (1 : Int32)) (fun m20 => some (none, m20)))) (gqV (fun m' => rst a n μ u k (5 - e) T m')) := fun u k T h => by
            refine gw_gIw (h.tc b) ?_
            refine gw_pIw (h.tc b) ?_
            rw [h.e9, ← ofn1 (by omega), gx_p1]
            exact gw_some (gq_V (h.op (by omega)))
          rcases hM with ⟨k1, k2⟩ | ⟨k1, L', k2⟩
          · exact gw_mono (fin _ _ _ k2) (fun b hb => ⟨hb.1, Or.inl ⟨k1, hb.2⟩⟩)
          · exact gw_mono (fin _ _ _ k2) (fun b hb => ⟨hb.1, Or.inr ⟨k1, L', hb.2⟩⟩)
        · cases v with
          | true =>
            have e0 := of_decide_eq_true ev.symm
            subst e0
            have eF : pF tx n 0 p = (false, p, []) := by
              rw [pF]
              exact if_pos (by rw [← ex]; exact hx)
            replace c3 : rst a n μ true p (5 - 0 + 1) L m16 := c3
            refine gw_ite (fun g3 => ?_) (fun g3 => ?_)
            · refine gw_if (c3.t b) ?_
              refine gw_bV (hW2 c3) (fun m21 c21 => ?_)
              refine gw_if (c21.t b) ?_
              refine gw_bV (w_must b c21 (x := 41) (by decide)) (fun m23 h23 => ?_)
              rcases h23 with ⟨h, -⟩ | ⟨-, c23⟩
              · cases h
              · exact hj18 _ (Or.inr ⟨by rw [eF], L, by rw [eF]; exact c23⟩)
            · refine gw_if (c3.t b) ?_
              refine gw_bV (hW1 c3) (fun m25 c25 => ?_)
              refine gw_if (c25.t b) ?_
              refine gw_bV (w_emits b c25 (-1) (fun h => by cases h)) (fun m27 h27 => ?_)
              rcases h27 with ⟨h, -⟩ | ⟨-, h⟩
              · cases h
              · subst h
                exact hj18 _ (Or.inr ⟨by rw [eF], L, by rw [eF]; exact c25⟩)
          | false =>
            have e0 := of_decide_eq_false ev.symm
            obtain ⟨d, rfl⟩ : ∃ d, e = d + 1 := ⟨e - 1, by omega⟩
            replace c3 : rst a n μ false (p + 1) (5 - (d + 1) + 1) L m16 := c3
            rw [show 5 - (d + 1) + 1 = 5 - d by omega] at c3 hj18
            refine gw_ite (fun g3 => ?_) (fun g3 => ?_)
            · -- (
              have e40 : pd tx n p = 40 := by rw [← ex]; exact hx.elim (fun h => absurd h g3) id
              have eF : pF tx n (d + 1) p = (if (pE tx n (pF tx n d) (p + 1)).1 = true then (if pd tx n (pE tx n (pF tx n d) (p + 1)).2.1 = 41 then (true, (pE tx n (pF tx n d) (p + 1)).2.1 + 1, (pE tx n (pF tx n d) (p + 1)).2.2) else (false, (pE tx n (pF tx n d) (p + 1)).2.1, [])) else (false, (pE tx n (pF tx n d) (p + 1)).2.1, [])) := by
                rw [pF]
                show (if pd tx n p = 40 then _ else _) = _
                rw [if_pos e40]
              have hB := h2 d rfl c3
              generalize pE tx n (pF tx n d) (p + 1) = r at *
              refine gw_if (c3.t b) ?_
              refine gw_bV hB (fun m21 h21 => ?_)
              rcases h21 with ⟨f1, c21⟩ | ⟨f1, L', c21⟩
              · rw [if_pos f1] at eF
                refine gw_if (c21.t b) ?_
                refine gw_bV (w_must b c21 (x := 41) (by decide)) (fun m23 h23 => ?_)
                rcases h23 with ⟨-, h, c23⟩ | ⟨h, c23⟩
                · rw [if_pos h] at eF
                  exact hj18 _ (Or.inl ⟨by rw [eF], by rw [eF]; exact c23⟩)
                · rw [if_neg (fun g => h ⟨rfl, g⟩)] at eF
                  exact hj18 _ (Or.inr ⟨by rw [eF], _, by rw [eF]; exact c23⟩)
              · rw [if_neg (by rw [f1]; decide)] at eF
                refine gw_if (c21.t b) ?_
                refine gw_bV (w_must b c21 (x := 41) (by decide)) (fun m23 h23 => ?_)
                rcases h23 with ⟨h, -⟩ | ⟨-, c23⟩
                · cases h
                · exact hj18 _ (Or.inr ⟨by rw [eF], L', by rw [eF]; exact c23⟩)
            · -- !
              have e33 : pd tx n p = 33 := by rw [← ex]; exact Decidable.not_not.mp g3
              have eF : pF tx n (d + 1) p = (if (pF tx n d (p + 1)).1 = true then (true, (pF tx n d (p + 1)).2.1, (pF tx n d (p + 1)).2.2 ++ [-1]) else (false, (pF tx n d (p + 1)).2.1, [])) := by
                rw [pF]
                show (if pd tx n p = 40 then _ else if pd tx n p = 33 then _ else _) = _
                rw [if_neg (by rw [e33]; decide), if_pos e33]
              have hB := h1 d rfl c3
              have G := pF_g (tx := tx) d (p + 1) q
              generalize pF tx n d (p + 1) = r at *
              refine gw_if (c3.t b) ?_
              refine gw_bV hB (fun m25 h25 => ?_)
              rcases h25 with ⟨f1, c25⟩ | ⟨f1, L', c25⟩
              · rw [if_pos f1] at eF
                obtain ⟨G1, G2, G3⟩ := G
                obtain ⟨G4, G5⟩ := G3 f1
                refine gw_if (c25.t b) ?_
                refine gw_bV (w_emits b c25 (-1) (fun _ => by rw [List.length_append]; omega)) (fun m27 h27 => ?_)
                rcases h27 with ⟨-, c27⟩ | ⟨h, -⟩
                · refine hj18 _ (Or.inl ⟨by rw [eF], ?_⟩)
                  rw [eF]
                  show rst a n μ false r.2.1 (5 - d) (L ++ (r.2.2 ++ [-1])) m27
                  rw [← List.append_assoc]; exact c27
                · cases h
              · rw [if_neg (by rw [f1]; decide)] at eF
                refine gw_if (c25.t b) ?_
                refine gw_bV (w_emits b c25 (-1) (fun h => by cases h)) (fun m27 h27 => ?_)
                rcases h27 with ⟨h, -⟩ | ⟨-, h⟩
                · cases h
                · subst h
                  exact hj18 _ (Or.inr ⟨by rw [eF], L', by rw [eF]; exact c25⟩)
      · cases v with
        | true => rw [if_neg (by decide)]; exact hj15 _ (Int32.add_zero _)
        | false => rw [if_pos (show bw false = 0 from rfl)]; exact hj15 _ (ofn1 (by omega))
    · have oe := ofn (k := 5 - e) (by omega)
      refine gw_ite (fun g => hj8 _ ⟨false, rfl, (decide_eq_false (fun h => g (by rw [h]; rfl))).symm⟩) (fun g => hj8 _ ⟨true, rfl, (decide_eq_true ?_).symm⟩)
      have := Decidable.not_not.mp g
      rw [this] at oe
      have : (5 : Int32).toInt = 5 := rfl
      omega
  · refine gw_ite (fun g => hj _ (Or.inl g)) (fun g => ?_)
    refine gw_ite (fun g2 => ?_) (fun g2 => hj _ (Or.inr (Decidable.not_not.mp g2)))
    have eF : pF tx n e p = pT tx n p := by
      rw [ex] at g g2
      cases e with
      | zero => rw [pF]; exact if_neg (fun h => h.elim g g2)
      | succ d =>
        rw [pF]
        show (if pd tx n p = 40 then _ else if pd tx n p = 33 then _ else _) = _
        rw [if_neg g2, if_neg g]
    refine gw_if (c.t b) ?_
    exact w_test b c (fun m' h => gq_V (by rw [eF]; exact h))
theorem w_factor_w (b : BR a n tx μ) {R0 R1 R2 : Nat → gm_M → Option (Option Value × gm_M)} : WW a n μ (b_X12_factor R0 R1 R2) := by
  intro p o L m c
  refine gwV_of ?_
  unfold b_X12_factor
  refine gw_gIw (c.tc b) ?_
  rw [c.e8, if_neg (by decide)]
  exact gw_some (gq_V c)
theorem wr_ww (b : BR a n tx μ) : ∀ fu : Nat, (2 ≤ fu → WW a n μ (r_X12_every fu).1) ∧ (1 ≤ fu → WW a n μ (r_X12_every fu).2.1) ∧ (3 ≤ fu → WW a n μ (r_X12_every fu).2.2)
  | 0 => ⟨fun h => by omega, fun h => by omega, fun h => by omega⟩
  | fu + 1 => ⟨fun h => w_every_w b (R0 := (r_X12_every fu).1) (R2 := (r_X12_every fu).2.2) ((wr_ww b fu).2.1 (by omega)), fun _ => w_factor_w b (R0 := (r_X12_every fu).1), fun h => w_some_w b (R1 := (r_X12_every fu).2.1) (R2 := (r_X12_every fu).2.2) ((wr_ww b fu).1 (by omega))⟩
theorem wr_read (b : BR a n tx μ) : ∀ (fu e : Nat), e ≤ 5 → (3 * e + 5 ≤ fu → WE a n tx μ (r_X12_every fu).1 (5 - e) (pF tx n e)) ∧ (3 * e + 4 ≤ fu → WF a n μ (r_X12_every fu).2.1 (5 - e) (pF tx n e)) ∧ (3 * e + 6 ≤ fu → WF a n μ (r_X12_every fu).2.2 (5 - e) (pE tx n (pF tx n e)))
  | 0, e, _ => ⟨fun h => by omega, fun h => by omega, fun h => by omega⟩
  | fu + 1, e, he => ⟨fun h => w_every b (R0 := (r_X12_every fu).1) (R2 := (r_X12_every fu).2.2) ((wr_read b fu e he).2.1 (by omega)) (fun p => pF_g e p), fun h => w_factor b (R0 := (r_X12_every fu).1) he ((wr_ww b fu).2.1 (by omega)) ((wr_ww b fu).2.2 (by omega)) (fun e' q => (wr_read b fu e' (by omega)).2.1 (by omega)) (fun e' q => (wr_read b fu e' (by omega)).2.2 (by omega)), fun h => w_some b (R1 := (r_X12_every fu).2.1) (R2 := (r_X12_every fu).2.2) ((wr_read b fu e he).1 (by omega)) (fun p => pF_g e p)⟩
end
end
section
def mst (a n : Nat) (μ : gm_M) (v : Bool) (p : Nat) (w sw : Int32) (L : List Int32) (m : gm_M) : Prop := (m.1 = μ.1 ∧ m.2.2 = μ.2.2 ∧ (∀ r : Nat, r ≠ 65 → r ≠ 66 → m.2.1 r = μ.2.1 r) ∧ (∀ j : Nat, j ≠ 6 → j ≠ 8 → j ≠ 9 → m.2.1 65 j = μ.2.1 65 j) ∧ ∀ k : Nat, k ≠ 210 + a → k ≠ 215 + a → k ≠ 220 + a → ¬ (225 + 140 * a ≤ k ∧ k < 365 + 140 * a) → m.2.1 66 k = μ.2.1 66 k) ∧ (m.2.1 66 (210 + a) = w ∧ m.2.1 66 (215 + a) = sw) ∧ rst a n m v p 0 L m
section
variable {a n p o : Nat} {tx : Nat → Int32} {μ m : gm_M} {w sw : Int32} {v : Bool} {L : List Int32}
theorem mst.b (b : BR a n tx μ) (d : mst a n μ v p w sw L m) : BR a n tx m := by
  obtain ⟨b1, b2, b3, b4, b5, b6, b7⟩ := b
  obtain ⟨⟨d1, d2, d3, d4, d5⟩, -⟩ := d
  exact ⟨b1.same d1 d2, b2, by rw [d4 5 (by decide) (by decide) (by decide)]; exact b3, by rw [d4 7 (by decide) (by decide) (by decide)]; exact b4, b5, fun i hi => by rw [d5 (110 + i) (by omega) (by omega) (by omega) (by omega)]; exact b6 i hi, b7⟩
theorem mst.c (d : mst a n μ v p w sw L m) : rst a n m v p 0 L m := d.2.2
theorem mst.on (d : mst a n μ v p w sw L m) (ha : a < 5) {u : Bool} {q : Nat} {T : List Int32} {m' : gm_M} (c : rst a n m u q 0 T m') : mst a n μ u q w sw T m' := by
  obtain ⟨⟨d1, d2, d3, d4, d5⟩, ⟨d6, d7⟩, -⟩ := d
  have c' := c
  obtain ⟨⟨c1, c2, c3, c4, c5⟩, c6, c7, c8, c9, c10, c11⟩ := c
  exact ⟨⟨c1.trans d1, c2.trans d2, fun r r1 r2 => (c3 r r1 r2).trans (d3 r r1 r2), fun j j1 j2 j3 => (c4 j j1 j2 j3).trans (d4 j j1 j2 j3), fun k k1 k2 k3 k4 => (c5 k k3 k4).trans (d5 k k1 k2 k3 k4)⟩, ⟨(c5 (210 + a) (by omega) (by omega)).trans d6, (c5 (215 + a) (by omega) (by omega)).trans d7⟩, ⟨⟨rfl, rfl, fun _ _ _ => rfl, fun _ _ _ _ => rfl, fun _ _ _ => rfl⟩, c6, c7, c8, c9, c10, c11⟩⟩
theorem mst.wd (d : mst a n μ v p w sw L m) (ha : a < 5) (x : Int32) : mst a n μ v p x sw L (wI m 66 (210 + a) x) := by
  obtain ⟨⟨d1, d2, d3, d4, d5⟩, ⟨d6, d7⟩, ⟨⟨c1, c2, c3, c4, c5⟩, c6, c7, c8, c9, c10, c11⟩⟩ := d
  have e65 : (wI m 66 (210 + a) x).2.1 65 = m.2.1 65 := wI_o _ _ _ _ (by decide)
  refine ⟨⟨d1, d2, fun r r1 r2 => (wI_o _ _ _ _ r2).trans (d3 r r1 r2), fun j j1 j2 j3 => by rw [e65]; exact d4 j j1 j2 j3, fun k k1 k2 k3 k4 => (wI_n _ _ _ _ k1).trans (d5 k k1 k2 k3 k4)⟩, ⟨wI_e _ _ _ _, (wI_n _ _ _ _ (by omega)).trans d7⟩, ⟨⟨rfl, rfl, fun _ _ _ => rfl, fun _ _ _ _ => rfl, fun _ _ _ => rfl⟩, c6, by rw [e65]; exact c7, by rw [e65]; exact c8, by rw [e65]; exact c9, (wI_n _ _ _ _ (by omega)).trans c10, fun i hi => by rw [wI_n _ _ _ _ (by omega)]; exact c11 i hi⟩⟩
theorem mst.sd (d : mst a n μ v p w sw L m) (ha : a < 5) (x : Int32) : mst a n μ v p w x L (wI m 66 (215 + a) x) := by
  obtain ⟨⟨d1, d2, d3, d4, d5⟩, ⟨d6, d7⟩, ⟨⟨c1, c2, c3, c4, c5⟩, c6, c7, c8, c9, c10, c11⟩⟩ := d
  have e65 : (wI m 66 (215 + a) x).2.1 65 = m.2.1 65 := wI_o _ _ _ _ (by decide)
  refine ⟨⟨d1, d2, fun r r1 r2 => (wI_o _ _ _ _ r2).trans (d3 r r1 r2), fun j j1 j2 j3 => by rw [e65]; exact d4 j j1 j2 j3, fun k k1 k2 k3 k4 => (wI_n _ _ _ _ k2).trans (d5 k k1 k2 k3 k4)⟩, ⟨(wI_n _ _ _ _ (by omega)).trans d6, wI_e _ _ _ _⟩, ⟨⟨rfl, rfl, fun _ _ _ => rfl, fun _ _ _ _ => rfl, fun _ _ _ => rfl⟩, c6, by rw [e65]; exact c7, by rw [e65]; exact c8, by rw [e65]; exact c9, (wI_n _ _ _ _ (by omega)).trans c10, fun i hi => by rw [wI_n _ _ _ _ (by omega)]; exact c11 i hi⟩⟩
/-- a word and its number -/
theorem w_wn {β : Type} {Q : β → Prop} (b : BR a n tx μ) (c : rst a n μ v p o L m) {u : UInt32} (hu : gm_isS u) {f : Int32 → gm_M → Option β} (k : ∀ (x : Int32) (m' : gm_M), (v = false ∧ rst a n μ (!(pWN tx n u p).1) (pWN tx n u p).2.1 o L m' ∧ ((pWN tx n u p).1 = true → x = (pWN tx n u p).2.2)) ∨ (v = true ∧ rst a n μ true p o L m') → gw (f x m') Q) : gw (gm_bV (f_X12_spells 65 u m) (fun m1 => if gm_tag m1 65 = 17 then gm_bI (f_X12_figures 65 m1) f else none)) Q := by
  refine gw_bV (w_spells b c hu) (fun m1 h1 => ?_)
  rcases h1 with ⟨ev, c1⟩ | ⟨ev, c1⟩
  · refine gw_if (c1.t b) ?_
    refine gw_bI (w_figs b c1) (fun x m3 h3 => k x m3 (Or.inl ⟨ev, ?_⟩))
    unfold pWN
    cases hW : (pW tx n u (gm_bn (u + 6)) p).1 with
    | true =>
      rw [if_pos rfl]
      rcases h3 with ⟨-, h⟩ | ⟨h, -⟩
      · exact h
      · rw [hW] at h; cases h
    | false =>
      rw [if_neg (by decide)]
      rcases h3 with ⟨h, -⟩ | ⟨-, h⟩
      · rw [hW] at h; cases h
      · exact ⟨h, fun q => by cases q⟩
  · refine gw_if (c1.t b) ?_
    refine gw_bI (w_figs b c1) (fun x m3 h3 => k x m3 (Or.inr ⟨ev, ?_⟩))
    rcases h3 with ⟨h, -⟩ | ⟨-, h⟩
    · cases h
    · exact h
theorem w_much (b : BR a n tx μ) (c : rst a n μ v p 0 L m) {u : UInt32} (hu : gm_isS u) (kd w sw : Int32) : gwV (f_X12_much 65 kd u m) (fun m' => (v = false ∧ (((pM tx n u kd p w sw L).1 = true ∧ rst a n μ false (pM tx n u kd p w sw L).2.1 0 (pM tx n u kd p w sw L).2.2.2.2 m') ∨ ((pM tx n u kd p w sw L).1 = false ∧ ∃ L' : List Int32, rst a n μ true (pM tx n u kd p w sw L).2.1 0 L' m'))) ∨ (v = true ∧ rst a n μ true p 0 L m')) := by
  refine gwV_of ?_
  unfold f_X12_much
  have hn := b.2.2.2.2.1
  have hp := c.2.1
  have gW := pWN_g (tx := tx) hu hp.1
  have WS : WW a n μ (r_X12_every 64).2.2 := (wr_ww b 64).2.2 (by omega)
  have bad : ∀ (q : Nat) (kx : Int32) (M : gm_M) (Q : gm_M → Prop), rst a n μ true q 0 L M → (∀ m', rst a n μ true q 0 L m' → Q m') → gw (if gm_tag M 65 = 17 then gm_bV (f_X12_must 65 (32 : Int32) M) (fun m5 => if gm_tag m5 65 = 17 then gm_bV (f_X12_some 65 m5) (fun m7 => if gm_tag m7 65 = 17 then gm_bV (f_X12_emits 65 (kd - kx) m7) (fun m9 => some (none, m9)) else none) else none) else none) (gqV Q) := fun q kx M Q c1 hQ => by
    refine gw_if (c1.t b) ?_
    refine gw_bV (w_must b c1 (x := 32) (by decide)) (fun m5 h5 => ?_)
    rcases h5 with ⟨h, -⟩ | ⟨-, c5⟩
    · cases h
    · refine gw_if (c5.t b) ?_
      refine gw_bV (show gwV (f_X12_some 65 m5) _ from WS c5) (fun m7 c7 => ?_)
      refine gw_if (c7.t b) ?_
      refine gw_bV (w_emits b c7 (kd - kx) (fun h => by cases h)) (fun m9 h9 => ?_)
      rcases h9 with ⟨h, -⟩ | ⟨-, h⟩
      · cases h
      · subst h; exact gw_some (gq_V (hQ _ c7))
  refine gw_if (c.t b) ?_
  refine w_wn b c hu (fun x m3 h3 => ?_)
  rcases h3 with ⟨ev, c3, ex⟩ | ⟨ev, c3⟩
  · cases hW : (pWN tx n u p).1 with
    | false =>
      rw [hW] at c3
      have eM : pM tx n u kd p w sw L = (false, (pWN tx n u p).2.1, w, sw, L) := by unfold pM; rw [if_neg (by rw [hW]; decide)]
      exact bad _ x m3 _ c3 (fun m' h => Or.inl ⟨ev, Or.inr ⟨by rw [eM], L, by rw [eM]; exact h⟩⟩)
    | true =>
      rw [hW] at c3
      replace c3 : rst a n μ false (pWN tx n u p).2.1 0 L m3 := c3
      have e3 := ex hW
      have gW3 := gW.2.2 hW
      refine gw_if (c3.t b) ?_
      refine gw_bV (w_must b c3 (x := 32) (by decide)) (fun m5 h5 => ?_)
      rcases h5 with ⟨-, ep, c5⟩ | ⟨ep, c5⟩
      · have eM : pM tx n u kd p w sw L = ((pE tx n (pF tx n 5) ((pWN tx n u p).2.1 + 1)).1, (pE tx n (pF tx n 5) ((pWN tx n u p).2.1 + 1)).2.1, w, sw, (L ++ (pE tx n (pF tx n 5) ((pWN tx n u p).2.1 + 1)).2.2) ++ [kd - x]) := by
          unfold pM; rw [if_pos hW, if_pos ep, e3]
        have hE := pE_g (tx := tx) (fun p => pF_g (tx := tx) (n := n) 5 p) c5.2.1.1
        have V := ((wr_read b 64 5 (by omega)).2.2 (by omega)) (show rst a n μ false ((pWN tx n u p).2.1 + 1) (5 - 5) L m5 from c5)
        have eR : f_X12_some 65 m5 = (r_X12_every 64).2.2 65 m5 := rfl
        rw [← eR] at V
        rw [eM]
        generalize pE tx n (pF tx n 5) ((pWN tx n u p).2.1 + 1) = r at *
        refine gw_if (c5.t b) ?_
        refine gw_bV V (fun m7 h7 => ?_)
        rcases h7 with ⟨f1, c7⟩ | ⟨f1, L', c7⟩
        · obtain ⟨hE1, hE2, hE3⟩ := hE
          obtain ⟨hE4, hE5⟩ := hE3 f1
          refine gw_if (c7.t b) ?_
          refine gw_bV (w_emits b c7 (kd - x) (fun _ => by rw [List.length_append]; omega)) (fun m9 h9 => ?_)
          rcases h9 with ⟨-, c9⟩ | ⟨h, -⟩
          · exact gw_some (gq_V (Or.inl ⟨ev, Or.inl ⟨f1, c9⟩⟩))
          · cases h
        · refine gw_if (c7.t b) ?_
          refine gw_bV (w_emits b c7 (kd - x) (fun h => by cases h)) (fun m9 h9 => ?_)
          rcases h9 with ⟨h, -⟩ | ⟨-, h⟩
          · cases h
          · subst h
            exact gw_some (gq_V (Or.inl ⟨ev, Or.inr ⟨f1, L', c7⟩⟩))
      · have eM : pM tx n u kd p w sw L = (false, (pWN tx n u p).2.1, w, sw, L) := by unfold pM; rw [if_pos hW, if_neg (fun h => ep ⟨rfl, h⟩)]
        refine gw_if (c5.t b) ?_
        refine gw_bV (show gwV (f_X12_some 65 m5) _ from WS c5) (fun m7 c7 => ?_)
        refine gw_if (c7.t b) ?_
        refine gw_bV (w_emits b c7 (kd - x) (fun h => by cases h)) (fun m9 h9 => ?_)
        rcases h9 with ⟨h, -⟩ | ⟨-, h⟩
        · cases h
        · subst h
          exact gw_some (gq_V (Or.inl ⟨ev, Or.inr ⟨by rw [eM], L, by rw [eM]; exact c7⟩⟩))
  · exact bad _ x m3 _ c3 (fun m' h => Or.inr ⟨ev, h⟩)
def mk (a n : Nat) (μ : gm_M) (r : pB) (m : gm_M) : Prop := (r.1 = true ∧ mst a n μ false r.2.1 r.2.2.1 r.2.2.2.1 r.2.2.2.2 m) ∨ (r.1 = false ∧ ∃ (w sw : Int32) (L : List Int32), mst a n μ true r.2.1 w sw L m)
theorem m_tell (b : BR a n tx μ) (d : mst a n μ false p w sw L m) {x : Int32} {u : UInt32} (hu : gm_isS u) (hx : x = 210 ∨ x = 215) : gwV (f_X12_tellsHere 65 x u m) (fun m' => mk a n μ ((pWN tx n u p).1, (pWN tx n u p).2.1, (if x = 210 then (pWN tx n u p).2.2 else w), (if x = 210 then sw else (pWN tx n u p).2.2), L) m') := by
  have bm := d.b b
  have c := d.c
  have ha := b.2.1
  refine gwV_of ?_
  unfold f_X12_tellsHere
  refine gw_if (c.t bm) ?_
  refine w_wn bm c hu (fun y m3 h3 => ?_)
  rcases h3 with ⟨-, c3, ey⟩ | ⟨h, -⟩
  · refine gw_gIw (c3.tc bm) ?_
    rw [c3.e8]
    cases hW : (pWN tx n u p).1 with
    | false =>
      rw [hW] at c3
      rw [if_pos (by decide)]
      exact gw_some (gq_V (Or.inr ⟨rfl, w, sw, L, d.on ha c3⟩))
    | true =>
      rw [hW] at c3
      rw [if_neg (by decide)]
      have e := ey hW
      subst e
      have l210 : (210 : Int32).toInt = 210 := rfl
      have l215 : (215 : Int32).toInt = 215 := rfl
      have oa : (Int32.ofNat a).toInt = a := ofn (by omega)
      refine gw_gRa 66 (c3.tc bm) (c3.r1 bm) ?_
      refine gw_gIw (c3.tc bm) ?_
      rw [c3.e5 bm]
      have d3 := d.on ha c3
      rcases hx with rfl | rfl
      · have n1 : ((210 : Int32) + Int32.ofNat a).toInt = (210 : Int32).toInt + (Int32.ofNat a).toInt := gx_add (by omega) (by omega)
        refine gw_sIw (210 + a) ((c3.S bm).t (r := 66) rfl) ((c3.S bm).l (r := 66) rfl) (by omega) (by omega) ?_
        rw [if_pos rfl, if_pos rfl]
        exact gw_some (gq_V (Or.inl ⟨rfl, d3.wd ha _⟩))
      · have n1 : ((215 : Int32) + Int32.ofNat a).toInt = (215 : Int32).toInt + (Int32.ofNat a).toInt := gx_add (by omega) (by omega)
        refine gw_sIw (215 + a) ((c3.S bm).t (r := 66) rfl) ((c3.S bm).l (r := 66) rfl) (by omega) (by omega) ?_
        rw [if_neg (by decide), if_neg (by decide)]
        exact gw_some (gq_V (Or.inl ⟨rfl, d3.sd ha _⟩))
  · cases h
theorem m_clause (b : BR a n tx μ) (d : mst a n μ false p w sw L m) : gwV (f_X12_clauseHere 65 m) (fun m' => mk a n μ (pK tx n p w sw L) m') := by
  have bm := d.b b
  have c := d.c
  have ha := b.2.1
  have hn := b.2.2.2.2.1
  refine gwV_of ?_
  unfold f_X12_clauseHere
  refine gw_if (c.t bm) ?_
  refine gw_bI (w_here bm c) (fun x m' ⟨ex, em⟩ => ?_)
  subst em
  refine gw_ite (fun g => ?_) (fun g => ?_)
  · have e115 : pd tx n p = 115 := by rw [← ex]; exact g
    have n119 : pd tx n p ≠ 119 := by rw [e115]; decide
    have q : p < n := pd_lt (tx := tx) (by rw [e115]; decide)
    refine gw_if (c.t bm) ?_
    have W : gwV (f_X12_wordOfS 65 m') (fun m' => mk a n μ (pK tx n p w sw L) m') := by
      refine gwV_of ?_
      unfold f_X12_wordOfS
      refine gw_if (c.t bm) ?_
      refine gw_bV (w_must bm c (x := 115) (by decide)) (fun m1 h1 => ?_)
      rcases h1 with ⟨-, -, c1⟩ | ⟨h, -⟩
      · refine gw_if (c1.t bm) ?_
        refine gw_bI (w_here bm c1) (fun x4 m3 ⟨e4, em⟩ => ?_)
        subst em
        refine gw_ite (fun g4 => ?_) (fun g4 => ?_)
        · have n119' : pd tx n (p + 1) ≠ 119 := by rw [← e4]; exact g4
          refine gw_if (c1.t bm) ?_
          refine gw_bV (w_must bm c1 (x := 116) (by decide)) (fun m5 h5 => ?_)
          rcases h5 with ⟨-, ep, c5⟩ | ⟨ep, c5⟩
          · replace c5 : rst a n m' false (p + 2) 0 L m5 := c5
            refine gw_if (c5.t bm) ?_
            refine gw_bI (w_here bm c5) (fun x8 m7 ⟨e8, em⟩ => ?_)
            subst em
            refine gw_ite (fun g8 => ?_) (fun g8 => ?_)
            · have eK : pK tx n p w sw L = pM tx n 4 (-200) (p + 2) w sw L := by rw [pK, if_neg n119, if_pos e115, if_neg n119', if_pos ep, if_neg (by rw [← e8]; exact g8)]
              have eW : (pM tx n 4 (-200) (p + 2) w sw L).2.2.1 = w ∧ (pM tx n 4 (-200) (p + 2) w sw L).2.2.2.1 = sw := by
                unfold pM; repeat' split
                all_goals exact ⟨rfl, rfl⟩
              refine gw_if (c5.t bm) ?_
              refine gw_bV (w_much bm c5 (u := 4) (by decide) (-200) w sw) (fun m9 h9 => gw_some (gq_V ?_))
              rw [eK]
              rcases h9 with ⟨-, ⟨f1, c9⟩ | ⟨f1, L', c9⟩⟩ | ⟨h, -⟩
              · exact Or.inl ⟨f1, by rw [eW.1, eW.2]; exact d.on ha c9⟩
              · exact Or.inr ⟨f1, w, sw, L', d.on ha c9⟩
              · cases h
            · have eK : pK tx n p w sw L = pM tx n 3 (-10) (p + 2) w sw L := by rw [pK, if_neg n119, if_pos e115, if_neg n119', if_pos ep, if_pos (by rw [← e8]; exact Decidable.not_not.mp g8)]
              have eW : (pM tx n 3 (-10) (p + 2) w sw L).2.2.1 = w ∧ (pM tx n 3 (-10) (p + 2) w sw L).2.2.2.1 = sw := by
                unfold pM; repeat' split
                all_goals exact ⟨rfl, rfl⟩
              refine gw_if (c5.t bm) ?_
              refine gw_bV (w_much bm c5 (u := 3) (by decide) (-10) w sw) (fun m9 h9 => gw_some (gq_V ?_))
              rw [eK]
              rcases h9 with ⟨-, ⟨f1, c9⟩ | ⟨f1, L', c9⟩⟩ | ⟨h, -⟩
              · exact Or.inl ⟨f1, by rw [eW.1, eW.2]; exact d.on ha c9⟩
              · exact Or.inr ⟨f1, w, sw, L', d.on ha c9⟩
              · cases h
          · have eK : pK tx n p w sw L = (false, p + 1, w, sw, L) := by rw [pK, if_neg n119, if_pos e115, if_neg n119', if_neg (fun h => ep ⟨rfl, h⟩)]
            have bad : ∀ m9, (false = true ∧ True) ∨ True → rst a n m' true (p + 1) 0 L m9 → mk a n μ (pK tx n p w sw L) m9 := fun m9 _ c9 => by rw [eK]; exact Or.inr ⟨rfl, w, sw, L, d.on ha c9⟩
            refine gw_if (c5.t bm) ?_
            refine gw_bI (w_here bm c5) (fun x8 m7 ⟨e8, em⟩ => ?_)
            subst em
            refine gw_ite (fun g8 => ?_) (fun g8 => ?_)
            · refine gw_if (c5.t bm) ?_
              refine gw_bV (w_much bm c5 (u := 4) (by decide) (-200) w sw) (fun m9 h9 => gw_some (gq_V ?_))
              rcases h9 with ⟨h, -⟩ | ⟨-, c9⟩
              · cases h
              · exact bad _ (Or.inr trivial) c9
            · refine gw_if (c5.t bm) ?_
              refine gw_bV (w_much bm c5 (u := 3) (by decide) (-10) w sw) (fun m9 h9 => gw_some (gq_V ?_))
              rcases h9 with ⟨h, -⟩ | ⟨-, c9⟩
              · cases h
              · exact bad _ (Or.inr trivial) c9
        · have e119 : pd tx n (p + 1) = 119 := by rw [← e4]; exact Decidable.not_not.mp g4
          have eK : pK tx n p w sw L = ((pWN tx n 2 (p + 1)).1, (pWN tx n 2 (p + 1)).2.1, w, (pWN tx n 2 (p + 1)).2.2, L) := by rw [pK, if_neg n119, if_pos e115, if_pos e119]
          rw [eK]
          refine gw_if (c1.t bm) ?_
          refine gw_bV (m_tell b (d.on ha c1) (x := 215) (u := 2) (by decide) (Or.inr rfl)) (fun m13 h13 => gw_some (gq_V ?_))
          rw [if_neg (by decide), if_neg (by decide)] at h13
          exact h13
      · exact absurd ⟨rfl, e115⟩ h
    exact gw_bV W (fun m3 h3 => gw_some (gq_V h3))
  · have n115 : pd tx n p ≠ 115 := by rw [← ex]; exact g
    refine gw_ite (fun g2 => ?_) (fun g2 => ?_)
    · have e119 : pd tx n p = 119 := by rw [← ex]; exact g2
      have eK : pK tx n p w sw L = ((pWN tx n 1 p).1, (pWN tx n 1 p).2.1, (pWN tx n 1 p).2.2, sw, L) := by rw [pK, if_pos e119]
      rw [eK]
      refine gw_if (c.t bm) ?_
      refine gw_bV (m_tell b d (x := 210) (u := 1) (by decide) (Or.inl rfl)) (fun m13 h13 => gw_some (gq_V ?_))
      rw [if_pos rfl, if_pos rfl] at h13
      exact h13
    · have n119 : pd tx n p ≠ 119 := by rw [← ex]; exact g2
      have eK : pK tx n p w sw L = (false, p, w, sw, L) := by rw [pK, if_neg n119, if_neg n115]
      rw [eK]
      refine gw_pZw (c.tc bm) (Or.inr rfl) ?_
      exact gw_some (gq_V (Or.inr ⟨rfl, w, sw, L, d.on ha (c.fl true)⟩))
end
end
section
theorem gwV_and {z : Option (Option Value × gm_M)} {R S : gm_M → Prop} (h : gwV z R) (k : gwV z S) : gwV z (fun m => R m ∧ S m) := by
  obtain ⟨m, e, a⟩ := h
  obtain ⟨m2, e2, b⟩ := k
  rw [e] at e2
  injection e2 with e3
  injection e3 with e4 e5
  subst e5
  exact ⟨m, e, a, b⟩
set_option maxHeartbeats 8000000 in
theorem s_ainit2 {μ : gm_M} : gwV (f_X0_init μ.1.length (gm_nw μ 5 10)) (fun m => m.2.1 μ.1.length 0 = 0 ∧ m.2.1 μ.1.length 1 = 20) := by
  refine gwV_of ?_
  unfold f_X0_init
  generalize hA : μ.1.length = A
  have l10 : (10 : Int32).toInt = (10 : Nat) := rfl
  have l100 : (100 : Int32).toInt = (100 : Nat) := rfl
  have l0 : (0 : Int32).toInt = (0 : Nat) := rfl
  have tg : ∀ (m : gm_M) (l : List (Nat × Nat)), m.1 = μ.1 ++ (5, 10) :: l → gm_tag m A = 5 := fun m l e => by
    unfold gm_tag; rw [e, ← hA, List.getElem?_append_right (Nat.le_refl _), Nat.sub_self]; rfl
  have t5 : ∀ (m : gm_M) (l : List (Nat × Nat)), m.1 = μ.1 ++ (5, 10) :: l → [5].contains (gm_tag m A) = true := fun m l e => by rw [tg m l e]; rfl
  have len : ∀ (m : gm_M) (l : List (Nat × Nat)), m.1 = μ.1 ++ l → m.1.length = A + l.length := fun m l e => by rw [e, List.length_append, hA]
  refine gw_if (by rw [tg _ [] rfl]; decide) ?_
  refine gw_pIw (t5 _ [] rfl) ?_
  refine gw_pIw (t5 _ [] rfl) ?_
  generalize h1 : wI (wI (gm_nw μ 5 10) A 0 0) A 1 20 = m1
  have a1 : m1.1 = μ.1 ++ [(5, 10)] := by rw [← h1]; rfl
  have i1 : ∀ r : Nat, r ≠ A → m1.2.1 r = μ.2.1 r := fun r hr => by rw [← h1, wI_o _ _ _ _ hr, wI_o _ _ _ _ hr, nw_i (by omega)]
  have r1 : ∀ r : Nat, r ≠ A → m1.2.2 r = μ.2.2 r := fun r hr => by rw [← h1]; show (gm_nw μ 5 10).2.2 r = _; exact nw_r (by omega)
  have z1 : ∀ j : Nat, j ≠ 0 → j ≠ 1 → m1.2.1 A j = 0 := fun j j0 j1 => by rw [← h1, wI_n _ _ _ _ j1, wI_n _ _ _ _ j0, ← hA]; exact nw_z
  have y1 : m1.2.1 A 0 = 0 ∧ m1.2.1 A 1 = 20 := by
    rw [← h1]
    exact ⟨by rw [wI_n _ _ _ _ (by decide), wI_e], wI_e _ _ _ _⟩
  clear h1
  refine gw_nA l10 (Nat.le_refl _) ?_
  have e1 : m1.1.length = A + 1 := len _ _ a1
  rw [e1]
  refine gw_pRw (t5 _ [(1, 10)] (by rw [nw_1, a1, List.append_assoc]; rfl)) ?_
  generalize h2 : wR (gm_nw m1 1 10) A 3 (A + 1) = m2
  have a2 : m2.1 = μ.1 ++ [(5, 10), (1, 10)] := by rw [← h2]; show (gm_nw m1 1 10).1 = _; rw [nw_1, a1, List.append_assoc]; rfl
  have i2 : ∀ r : Nat, r ≠ A + 1 → m2.2.1 r = m1.2.1 r := fun r hr => by rw [← h2]; show (gm_nw m1 1 10).2.1 r = _; exact nw_i (by omega)
  have r2 : ∀ r : Nat, r ≠ A → r ≠ A + 1 → m2.2.2 r = m1.2.2 r := fun r hr hr2 => by rw [← h2]; show gm_u (gm_nw m1 1 10).2.2 A 3 (A + 1) r = _; rw [gu_row hr]; exact nw_r (by omega)
  have q2 : m2.2.2 A 3 = A + 1 := by rw [← h2]; show gm_u (gm_nw m1 1 10).2.2 A 3 (A + 1) A 3 = _; exact gu_eq
  clear h2
  refine gw_nA l10 (Nat.le_refl _) ?_
  have e2 : m2.1.length = A + 2 := len _ _ a2
  rw [e2]
  refine gw_pRw (t5 _ [(1, 10), (1, 10)] (by rw [nw_1, a2, List.append_assoc]; rfl)) ?_
  generalize h3 : wR (gm_nw m2 1 10) A 4 (A + 2) = m3
  have a3 : m3.1 = μ.1 ++ [(5, 10), (1, 10), (1, 10)] := by rw [← h3]; show (gm_nw m2 1 10).1 = _; rw [nw_1, a2, List.append_assoc]; rfl
  have i3 : ∀ r : Nat, r ≠ A + 2 → m3.2.1 r = m2.2.1 r := fun r hr => by rw [← h3]; show (gm_nw m2 1 10).2.1 r = _; exact nw_i (by omega)
  have z3 : ∀ k : Nat, m3.2.1 (A + 2) k = 0 := fun k => by rw [← h3]; show (gm_nw m2 1 10).2.1 (A + 2) k = 0; rw [← e2]; exact nw_z
  have r3 : ∀ r : Nat, r ≠ A → r ≠ A + 2 → m3.2.2 r = m2.2.2 r := fun r hr hr2 => by rw [← h3]; show gm_u (gm_nw m2 1 10).2.2 A 4 (A + 2) r = _; rw [gu_row hr]; exact nw_r (by omega)
  have q3 : m3.2.2 A 4 = A + 2 ∧ m3.2.2 A 3 = A + 1 := by
    rw [← h3]
    exact ⟨(show gm_u (gm_nw m2 1 10).2.2 A 4 (A + 2) A 4 = _ from gu_eq), by show gm_u (gm_nw m2 1 10).2.2 A 4 (A + 2) A 3 = _; rw [gu_ne (by decide), nw_r (by omega)]; exact q2⟩
  clear h3
  refine gw_nA l100 (Nat.le_refl _) ?_
  have e3 : m3.1.length = A + 3 := len _ _ a3
  rw [e3]
  refine gw_pRw (t5 _ [(1, 10), (1, 10), (1, 100)] (by rw [nw_1, a3, List.append_assoc]; rfl)) ?_
  generalize h4 : wR (gm_nw m3 1 100) A 5 (A + 3) = m4
  have a4 : m4.1 = μ.1 ++ [(5, 10), (1, 10), (1, 10), (1, 100)] := by rw [← h4]; show (gm_nw m3 1 100).1 = _; rw [nw_1, a3, List.append_assoc]; rfl
  have i4 : ∀ r : Nat, r ≠ A + 3 → m4.2.1 r = m3.2.1 r := fun r hr => by rw [← h4]; show (gm_nw m3 1 100).2.1 r = _; exact nw_i (by omega)
  have r4 : ∀ r : Nat, r ≠ A → r ≠ A + 3 → m4.2.2 r = m3.2.2 r := fun r hr hr2 => by rw [← h4]; show gm_u (gm_nw m3 1 100).2.2 A 5 (A + 3) r = _; rw [gu_row hr]; exact nw_r (by omega)
  have q4 : m4.2.2 A 5 = A + 3 ∧ m4.2.2 A 4 = A + 2 ∧ m4.2.2 A 3 = A + 1 := by
    rw [← h4]
    exact ⟨(show gm_u (gm_nw m3 1 100).2.2 A 5 (A + 3) A 5 = _ from gu_eq), by show gm_u (gm_nw m3 1 100).2.2 A 5 (A + 3) A 4 = _; rw [gu_ne (by decide), nw_r (by omega)]; exact q3.1, by show gm_u (gm_nw m3 1 100).2.2 A 5 (A + 3) A 3 = _; rw [gu_ne (by decide), nw_r (by omega)]; exact q3.2⟩
  clear h4
  refine gw_nA l0 (Nat.le_refl _) ?_
  have e4 : m4.1.length = A + 4 := len _ _ a4
  rw [e4]
  refine gw_pRw (t5 _ [(1, 10), (1, 10), (1, 100), (1, 0)] (by rw [nw_1, a4, List.append_assoc]; rfl)) ?_
  generalize h5 : wR (gm_nw m4 1 0) A 7 (A + 4) = m5
  have a5 : m5.1 = μ.1 ++ [(5, 10), (1, 10), (1, 10), (1, 100), (1, 0)] := by rw [← h5]; show (gm_nw m4 1 0).1 = _; rw [nw_1, a4, List.append_assoc]; rfl
  have i5 : ∀ r : Nat, r ≠ A + 4 → m5.2.1 r = m4.2.1 r := fun r hr => by rw [← h5]; show (gm_nw m4 1 0).2.1 r = _; exact nw_i (by omega)
  have r5 : ∀ r : Nat, r ≠ A → r ≠ A + 4 → m5.2.2 r = m4.2.2 r := fun r hr hr2 => by rw [← h5]; show gm_u (gm_nw m4 1 0).2.2 A 7 (A + 4) r = _; rw [gu_row hr]; exact nw_r (by omega)
  have q5 : m5.2.2 A 5 = A + 3 ∧ m5.2.2 A 4 = A + 2 ∧ m5.2.2 A 3 = A + 1 := by
    rw [← h5]
    refine ⟨?_, ?_, ?_⟩
    · show gm_u (gm_nw m4 1 0).2.2 A 7 (A + 4) A 5 = _; rw [gu_ne (by decide), nw_r (by omega)]; exact q4.1
    · show gm_u (gm_nw m4 1 0).2.2 A 7 (A + 4) A 4 = _; rw [gu_ne (by decide), nw_r (by omega)]; exact q4.2.1
    · show gm_u (gm_nw m4 1 0).2.2 A 7 (A + 4) A 3 = _; rw [gu_ne (by decide), nw_r (by omega)]; exact q4.2.2
  clear h5
  refine gw_some (gq_V ?_)
  have zA : m5.2.1 A = m1.2.1 A := by rw [i5 A (by omega), i4 A (by omega), i3 A (by omega), i2 A (by omega)]
  rw [zA]
  exact y1
/-! what an afternoon says, on both sides: w its wind, sw how sweet, L its steps -/
def AFC (m : gm_M) (A : Nat) (w sw : Int32) (L : List Int32) : Prop := (m.2.1 A 0 = w ∧ m.2.1 A 1 = sw) ∧ (m.2.1 A 6 = Int32.ofNat (cds L).length ∧ ∀ i : Nat, i < (cds L).length → (cds L)[i]? = some (m.2.1 (A + 3) i)) ∧ m.2.1 A 2 = Int32.ofNat (chs L 0).length ∧ ∀ (i : Nat) (q : Int32 × Nat), (chs L 0)[i]? = some q → m.2.1 (A + 1) i = q.1 ∧ m.2.1 (A + 2) i = Int32.ofNat q.2
def AFR (σ : Nat → Int32) (a : Nat) (w sw : Int32) (L : List Int32) : Prop := (σ (210 + a) = w ∧ σ (215 + a) = sw) ∧ σ (220 + a) = Int32.ofNat L.length ∧ ∀ i : Nat, i < L.length → L[i]? = some (σ (225 + 140 * a + i))
def CA (μ : gm_M) (r : pB) (x : Int32) (m : gm_M) : Prop := (∀ q : Nat, q < μ.1.length → q ≠ 15 → m.2.1 q = μ.2.1 q) ∧ (∀ j : Nat, j ≠ 4 → j ≠ 5 → m.2.1 15 j = μ.2.1 15 j) ∧ m.2.1 15 4 = 0 ∧ (∀ q j : Nat, q < μ.1.length → ¬ (q = 15 ∧ j = 6) → m.2.2 q j = μ.2.2 q j) ∧ ((r.1 = true ∧ x = μ.2.1 15 5 ∧ m.2.1 15 5 = μ.2.1 15 5 + 1 ∧ m.2.2 15 6 = μ.1.length ∧ AFC m μ.1.length r.2.2.1 r.2.2.2.1 r.2.2.2.2 ∧ r.2.2.2.2.length ≤ 100) ∨ (r.1 = false ∧ x = -10 - Int32.ofNat r.2.1 ∧ m.2.1 15 5 = μ.2.1 15 5 ∧ m.2.2 15 6 = μ.2.2 15 6))
def RA (μ : gm_M) (a : Nat) (r : pB) (x : Int32) (m : gm_M) : Prop := (∀ q : Nat, q ≠ 65 → q ≠ 66 → m.2.1 q = μ.2.1 q) ∧ m.2.2 = μ.2.2 ∧ (∀ k : Nat, k ≠ 27 → k ≠ 31 → k ≠ 32 → k ≠ 210 + a → k ≠ 215 + a → k ≠ 220 + a → ¬ (225 + 140 * a ≤ k ∧ k < 365 + 140 * a) → m.2.1 66 k = μ.2.1 66 k) ∧ m.2.1 66 31 = 0 ∧ ((r.1 = true ∧ x = μ.2.1 66 27 ∧ m.2.1 66 27 = μ.2.1 66 27 + 1 ∧ m.2.1 66 32 = μ.2.1 66 27 ∧ AFR (m.2.1 66) a r.2.2.1 r.2.2.2.1 r.2.2.2.2) ∨ (r.1 = false ∧ x = -10 - Int32.ofNat r.2.1 ∧ m.2.1 66 27 = μ.2.1 66 27 ∧ m.2.1 66 32 = μ.2.1 66 32))
set_option maxHeartbeats 2000000 in
theorem v_afternoon {μ : gm_M} (h : ALL μ) {n : Nat} {tx : Nat → Int32} (hn : n ≤ 100) (en : μ.2.1 15 4 = Int32.ofNat n) (ht : ∀ i : Nat, i < n → μ.2.1 17 i = tx i) (hr : ∀ i : Nat, 0 ≤ (tx i).toInt ∧ (tx i).toInt ≤ 127) : gwI (f_X11_afternoon 1 μ) (fun x m => (5 ≤ (μ.2.1 15 5).toInt ∧ x = -4 ∧ m = μ) ∨ ((μ.2.1 15 5).toInt < 5 ∧ CA μ (pAft tx n) x m)) := by
  have hc := h.2.2.1
  have hg := hc.1
  have hL := hg.len
  have l5 : (5 : Int32).toInt = 5 := rfl
  have l0 : (0 : Int32).toInt = 0 := rfl
  refine gwI_of ?_
  unfold f_X11_afternoon
  refine gw_gRa 15 (hg.c (r := 1) rfl) (hg.r (by decide)) ?_
  refine gw_gIw (hg.c (r := 15) rfl) ?_
  refine gw_lt (fun g5 => ?_) (fun g5 => gw_some (gq_I (Or.inl ⟨by omega, rfl, rfl⟩)))
  show gw (gm_mk μ 5 10 _) _
  unfold gm_mk
  have tq : gm_tag (gm_nw μ 5 10) μ.1.length = 5 := by
    unfold gm_tag; rw [nw_1, List.getElem?_append_right (Nat.le_refl _), Nat.sub_self]; rfl
  refine gw_if (by rw [tq]; decide) ?_
  refine gw_bV (gwV_and s_ainit s_ainit2) (fun m5 ⟨⟨a1, a2, a3, a4, a5, a6⟩, z0, z1⟩ => ?_)
  generalize hA : μ.1.length = A at *
  have up : ∀ (r : Nat) (q : Nat × Nat), μ.1[r]? = some q → m5.1[r]? = some q := fun r q e => by
    rw [a1, List.getElem?_append_left (List.getElem?_eq_some_iff.mp e).1]; exact e
  have lt75 : ∀ q ∈ gRl, q.1 < 75 := by decide
  have hS5 : gS m5 := ⟨fun r q e => up r q (hg.1 r q e), fun q hq => by rw [a3 q.1 (by have := lt75 q hq; omega)]; exact hg.2 q hq⟩
  have hT : m5.1[A]? = some (5, 10) ∧ m5.1[A + 1]? = some (1, 10) ∧ m5.1[A + 2]? = some (1, 10) ∧ m5.1[A + 3]? = some (1, 100) := by
    rw [a1, ← hA]
    refine ⟨?_, ?_, ?_, ?_⟩
    · rw [List.getElem?_append_right (Nat.le_refl _), Nat.sub_self]; rfl
    · rw [List.getElem?_append_right (Nat.le_add_right _ _), Nat.add_sub_cancel_left]; rfl
    · rw [List.getElem?_append_right (Nat.le_add_right _ _), Nat.add_sub_cancel_left]; rfl
    · rw [List.getElem?_append_right (Nat.le_add_right _ _), Nat.add_sub_cancel_left]; rfl
  refine gw_gRa 15 (hS5.c (r := 1) rfl) (hS5.r (by decide)) ?_
  refine gw_gRa 17 (hS5.c (r := 15) rfl) (hS5.r (by decide)) ?_
  refine gw_gRa 15 (hS5.c (r := 1) rfl) (hS5.r (by decide)) ?_
  refine gw_gIw (hS5.c (r := 15) rfl) ?_
  rw [a2 15 (by omega), en]
  have t5 : gm_tag m5 A = 5 := by unfold gm_tag; rw [hT.1]
  have t5c : [5].contains (gm_tag m5 A) = true := by rw [t5]; rfl
  refine gw_if t5 ?_
  have on : (Int32.ofNat n).toInt = n := ofn (by omega)
  have RD : gwI (f_X0_read A 17 (Int32.ofNat n) m5) (fun x m => (m.1 = m5.1 ∧ (∀ r : Nat, r ≠ A → m.2.2 r = m5.2.2 r) ∧ (∀ r : Nat, r ≠ A → r ≠ A + 1 → r ≠ A + 2 → r ≠ A + 3 → m.2.1 r = m5.2.1 r) ∧ RI A m) ∧ (((pAft tx n).1 = true ∧ x = -1 ∧ AFC m A (pAft tx n).2.2.1 (pAft tx n).2.2.2.1 (pAft tx n).2.2.2.2 ∧ (pAft tx n).2.2.2.2.length ≤ 100) ∨ ((pAft tx n).1 = false ∧ x = Int32.ofNat (pAft tx n).2.1 ∧ (pAft tx n).2.1 ≤ n))) := by
    refine gwI_and (s_read hS5 hL hT a4 a5 a6 ⟨by omega, by omega⟩) ?_
    refine gwI_of ?_
    unfold f_X0_read
    refine gw_pRw t5c ?_
    refine gw_al (hS5.t (r := 17) rfl) (hS5.l (r := 17) rfl) ?_
    refine gw_pIw t5c ?_
    have ex : (if Int32.ofNat 100 < Int32.ofNat n then Int32.ofNat 100 else Int32.ofNat n) = Int32.ofNat n := by
      rw [if_neg]
      rw [Int32.lt_iff_toInt_lt, on]
      have : (Int32.ofNat 100).toInt = 100 := rfl
      omega
    rw [ex]
    generalize hB : wI (wR m5 A 7 17) A 8 (Int32.ofNat n) = B
    have B1 : B.1 = m5.1 := by rw [← hB]; rfl
    have B2 : ∀ r : Nat, r ≠ A → B.2.2 r = m5.2.2 r := fun r hr => by rw [← hB]; show gm_u m5.2.2 A 7 17 r = _; exact gu_row hr
    have B2n : ∀ j : Nat, j ≠ 7 → B.2.2 A j = m5.2.2 A j := fun j hj => by rw [← hB]; show gm_u m5.2.2 A 7 17 A j = _; exact gu_ne hj
    have B27 : B.2.2 A 7 = 17 := by rw [← hB]; show gm_u m5.2.2 A 7 17 A 7 = _; exact gu_eq
    have Bo : ∀ r : Nat, r ≠ A → B.2.1 r = m5.2.1 r := fun r hr => by rw [← hB, wI_o _ _ _ _ hr]; rfl
    have Bn : ∀ j : Nat, j ≠ 8 → B.2.1 A j = m5.2.1 A j := fun j hj => by rw [← hB, wI_n _ _ _ _ hj]; rfl
    have B8 : B.2.1 A 8 = Int32.ofNat n := by rw [← hB, wI_e]
    clear hB
    have hSB : gS B := ⟨fun r q e => by rw [B1]; exact hS5.1 r q e, fun q hq => by rw [B2 q.1 (by have := lt75 q hq; omega)]; exact hS5.2 q hq⟩
    have bs : BS A n tx B := ⟨hSB, hL, by rw [B1]; exact hT, ⟨by rw [B2n 3 (by decide)]; exact a4.1, by rw [B2n 4 (by decide)]; exact a4.2.1, by rw [B2n 5 (by decide)]; exact a4.2.2, B27⟩, hn, B8, fun i hi => by rw [Bo 17 (by omega), a2 17 (by omega)]; exact ht i hi, hr⟩
    have ds : dst A n B 0 0 20 [] B := ⟨⟨rfl, rfl, fun _ _ _ _ _ => rfl, rfl⟩, ⟨Nat.zero_le _, Nat.le_refl _⟩, ⟨by rw [Bn 0 (by decide)]; exact z0, by rw [Bn 1 (by decide)]; exact z1, by rw [Bn 9 (by decide)]; exact a5.1⟩, ⟨by rw [Bn 6 (by decide)]; exact a5.2.1, fun i hi => absurd hi (Nat.not_lt_zero i)⟩, by rw [Bn 2 (by decide)]; exact a5.2.2, fun i q hi => by cases hi⟩
    refine gw_mono (v_loop bs ds) (fun b hb => ?_)
    obtain ⟨x, e1, hx⟩ := hb
    refine ⟨x, e1, ?_⟩
    rcases hx with ⟨r1, r2, r3⟩ | ⟨r1, r2, r3⟩
    · obtain ⟨-, d2, d3, d4, d5, d6⟩ := r3
      exact Or.inl ⟨r1, r2, ⟨⟨d3.1, d3.2.1⟩, d4, d5, d6⟩, by omega⟩
    · exact Or.inr ⟨r1, r2, r3⟩
  refine gw_bI RD (fun x m ⟨⟨b1, b2, b3, b4⟩, hx⟩ => ?_)
  have hS := b4.1
  have ir : ∀ r : Nat, r < A → m.2.1 r = μ.2.1 r := fun r hr => by rw [b3 r (by omega) (by omega) (by omega) (by omega), a2 r hr]
  have rr : ∀ r : Nat, r < A → m.2.2 r = μ.2.2 r := fun r hr => by rw [b2 r (by omega), a3 r hr]
  refine gw_gRa 15 (hS.c (r := 1) rfl) (hS.r (by decide)) ?_
  refine gw_pIw (hS.c (r := 15) rfl) ?_
  rcases hx with ⟨r1, r2, r3, r4⟩ | ⟨r1, r2, r3⟩
  · subst r2
    refine gw_lt (fun _ => ?_) (fun g => absurd g (by decide))
    refine gw_gRa 15 (hS.c (r := 1) rfl) (hS.r (by decide)) ?_
    refine gw_pRw (hS.c (r := 15) rfl) ?_
    have hS6 : gS (wR (wI m 15 4 0) 15 6 A) := gS.w6 (μ := wI m 15 4 0) (s := 15) (v := A) hS (Or.inl rfl) rfl rfl
    refine gw_gRa 15 (hS6.c (r := 1) rfl) (hS6.r (by decide)) ?_
    refine gw_gIw (hS6.c (r := 15) rfl) ?_
    refine gw_pIw (hS6.c (r := 15) rfl) ?_
    refine gw_gRa 15 (hS6.c (r := 1) rfl) (hS6.r (r := 1) (j := 1) (a := 15) (by decide)) ?_
    refine gw_gIw (hS6.c (r := 15) rfl) ?_
    have e5 : (wR (wI m 15 4 0) 15 6 A).2.1 15 5 = μ.2.1 15 5 := by
      show (wI m 15 4 0).2.1 15 5 = _
      rw [wI_n _ _ _ _ (by decide), ir 15 (by omega)]
    rw [e5, wI_e]
    have rd : ∀ q : Nat, q ≠ 15 → (wI (wR (wI m 15 4 0) 15 6 A) 15 5 (μ.2.1 15 5 + 1)).2.1 q = m.2.1 q := fun q hq => by rw [wI_o _ _ _ _ hq]; show (wI m 15 4 0).2.1 q = _; exact wI_o _ _ _ _ hq
    refine gw_some (gq_I (Or.inr ⟨by omega, fun q q1 q2 => by rw [rd q q2]; exact ir q (by omega), fun j j4 j5 => by rw [wI_n _ _ _ _ j5]; show (wI m 15 4 0).2.1 15 j = _; rw [wI_n _ _ _ _ j4, ir 15 (by omega)], ?_, fun q j q1 q2 => ?_, Or.inl ⟨r1, gx_p1 _, wI_e _ _ _ _, ?_, ?_, r4⟩⟩))
    · rw [wI_n _ _ _ _ (by decide)]
      show (wI m 15 4 0).2.1 15 4 = 0
      rw [wI_e]
    · show gm_u m.2.2 15 6 A q j = _
      by_cases e : q = 15
      · subst e
        rw [gu_ne (fun z => q2 ⟨rfl, z⟩), rr 15 (by omega)]
      · rw [gu_row e, rr q (by omega)]
    · rw [hA]
      show gm_u m.2.2 15 6 A 15 6 = A
      exact gu_eq
    · rw [hA]
      unfold AFC
      rw [rd A (by omega), rd (A + 1) (by omega), rd (A + 2) (by omega), rd (A + 3) (by omega)]
      exact r3
  · subst r2
    have op := ofn (k := (pAft tx n).2.1) (by omega)
    refine gw_lt (fun g => by omega) (fun _ => ?_)
    refine gw_some (gq_I (Or.inr ⟨by omega, fun q q1 q2 => (wI_o _ _ _ _ q2).trans (ir q (by omega)), fun j j4 _ => (wI_n _ _ _ _ j4).trans (by rw [ir 15 (by omega)]), wI_e _ _ _ _, fun q j q1 q2 => ?_, Or.inr ⟨r1, rfl, (wI_n _ _ _ _ (by decide)).trans (by rw [ir 15 (by omega)]), ?_⟩⟩))
    · show m.2.2 q j = _
      rw [rr q (by omega)]
    · show m.2.2 15 6 = _
      rw [rr 15 (by omega)]
set_option maxHeartbeats 2000000 in
theorem m_aft {μ : gm_M} (h : ALL μ) {n a : Nat} {tx : Nat → Int32} (hn : n ≤ 100) (ha : a ≤ 5) (en : μ.2.1 66 31 = Int32.ofNat n) (ea : μ.2.1 66 27 = Int32.ofNat a) (ht : ∀ i : Nat, i < n → μ.2.1 66 (110 + i) = tx i) (hr : ∀ i : Nat, 0 ≤ (tx i).toInt ∧ (tx i).toInt ≤ 127) : gwI (f_X12_afternoon 65 μ) (fun x m => (5 ≤ (μ.2.1 66 27).toInt ∧ x = -4 ∧ m = μ) ∨ ((μ.2.1 66 27).toInt < 5 ∧ RA μ a (pAft tx n) x m)) := by
  have hM := h.1
  have hg := hM.1
  have n27 := hM.n27
  have l0 : (0 : Int32).toInt = 0 := rfl
  have l1 : (1 : Int32).toInt = 1 := rfl
  have l5 : (5 : Int32).toInt = 5 := rfl
  have l10 : (10 : Int32).toInt = 10 := rfl
  have l27 : (27 : Int32).toInt = 27 := rfl
  have l31 : (31 : Int32).toInt = 31 := rfl
  have l32 : (32 : Int32).toInt = 32 := rfl
  have l210 : (210 : Int32).toInt = 210 := rfl
  have l215 : (215 : Int32).toInt = 215 := rfl
  have l220 : (220 : Int32).toInt = 220 := rfl
  refine gwI_of ?_
  unfold f_X12_afternoon
  refine gw_gRa 66 (hg.c (r := 65) rfl) (hg.r (by decide)) ?_
  refine gw_aIw 27 (hg.t (r := 66) rfl) (hg.l (r := 66) rfl) (by omega) (by omega) ?_
  refine gw_ne (fun g => ?_) (fun g => gw_some (gq_I (Or.inl ⟨by omega, rfl, rfl⟩)))
  have oa : (Int32.ofNat a).toInt = a := ofn (by omega)
  have ha5 : a < 5 := by rw [ea] at n27 g; omega
  refine gw_gRa 66 (hg.c (r := 65) rfl) (hg.r (by decide)) ?_
  refine gw_aIw 27 (hg.t (r := 66) rfl) (hg.l (r := 66) rfl) (by omega) (by omega) ?_
  refine gw_pIw (hg.c (r := 65) rfl) ?_
  refine gw_gRa 66 (hg.c (r := 65) rfl) (hg.r (r := 65) (j := 1) (a := 66) (by decide)) ?_
  refine gw_aIw 31 (hg.t (r := 66) rfl) (hg.l (r := 66) rfl) (by omega) (by omega) ?_
  rw [wI_o _ _ _ _ (show (66 : Nat) ≠ 65 by decide)]
  refine gw_pIw (hg.c (r := 65) rfl) ?_
  refine gw_gRa 66 (hg.c (r := 65) rfl) (hg.r (r := 65) (j := 1) (a := 66) (by decide)) ?_
  refine gw_sIw 31 (hg.t (r := 66) rfl) (hg.l (r := 66) rfl) (by omega) (by omega) ?_
  generalize h1 : wI (wI (wI μ 65 5 (μ.2.1 66 27)) 65 7 (μ.2.1 66 31)) 66 31 0 = m1
  have g1 : gS m1 := by rw [← h1]; exact hg
  have a5 : m1.2.1 65 5 = Int32.ofNat a := by rw [← h1, wI_o _ _ _ _ (by decide), wI_n _ _ _ _ (by decide), wI_e, ea]
  refine gw_gRa 66 (g1.c (r := 65) rfl) (g1.r (by decide)) ?_
  refine gw_gIw (g1.c (r := 65) rfl) ?_
  rw [a5]
  have n210 : ((210 : Int32) + Int32.ofNat a).toInt = (210 : Int32).toInt + (Int32.ofNat a).toInt := gx_add (by omega) (by omega)
  have n215 : ((215 : Int32) + Int32.ofNat a).toInt = (215 : Int32).toInt + (Int32.ofNat a).toInt := gx_add (by omega) (by omega)
  have n220 : ((220 : Int32) + Int32.ofNat a).toInt = (220 : Int32).toInt + (Int32.ofNat a).toInt := gx_add (by omega) (by omega)
  refine gw_sIw (210 + a) (g1.t (r := 66) rfl) (g1.l (r := 66) rfl) (by omega) (by omega) ?_
  refine gw_gRa 66 (g1.c (r := 65) rfl) (g1.r (r := 65) (j := 1) (a := 66) (by decide)) ?_
  refine gw_gIw (g1.c (r := 65) rfl) ?_
  rw [wI_o _ _ _ _ (show (65 : Nat) ≠ 66 by decide), a5]
  refine gw_sIw (215 + a) (g1.t (r := 66) rfl) (g1.l (r := 66) rfl) (by omega) (by omega) ?_
  refine gw_gRa 66 (g1.c (r := 65) rfl) (g1.r (r := 65) (j := 1) (a := 66) (by decide)) ?_
  refine gw_gIw (g1.c (r := 65) rfl) ?_
  rw [wI_o _ _ _ _ (show (65 : Nat) ≠ 66 by decide), wI_o _ _ _ _ (show (65 : Nat) ≠ 66 by decide), a5]
  refine gw_sIw (220 + a) (g1.t (r := 66) rfl) (g1.l (r := 66) rfl) (by omega) (by omega) ?_
  refine gw_pIw (g1.c (r := 65) rfl) ?_
  refine gw_pZw (g1.c (r := 65) rfl) (Or.inl l0) ?_
  refine gw_pIw (g1.c (r := 65) rfl) ?_
  generalize hB : wI (wI (wI (wI (wI (wI m1 66 (210 + a) 0) 66 (215 + a) 20) 66 (220 + a) 0) 65 6 0) 65 8 0) 65 9 0 = B
  have gB : gS B := by rw [← hB]; exact g1
  have B2 : B.2.2 = μ.2.2 := by rw [← hB, ← h1]; rfl
  have Bo : ∀ r : Nat, r ≠ 65 → r ≠ 66 → B.2.1 r = μ.2.1 r := fun r r1 r2 => by
    rw [← hB, wI_o _ _ _ _ r1, wI_o _ _ _ _ r1, wI_o _ _ _ _ r1, wI_o _ _ _ _ r2, wI_o _ _ _ _ r2, wI_o _ _ _ _ r2, ← h1, wI_o _ _ _ _ r2, wI_o _ _ _ _ r1, wI_o _ _ _ _ r1]
  have B65 : ∀ j : Nat, j ≠ 9 → j ≠ 8 → j ≠ 6 → B.2.1 65 j = m1.2.1 65 j := fun j j9 j8 j6 => by
    rw [← hB, wI_n _ _ _ _ j9, wI_n _ _ _ _ j8, wI_n _ _ _ _ j6, wI_o _ _ _ _ (by decide), wI_o _ _ _ _ (by decide), wI_o _ _ _ _ (by decide)]
  have B9 : B.2.1 65 9 = 0 := by rw [← hB, wI_e]
  have B8 : B.2.1 65 8 = 0 := by rw [← hB, wI_n _ _ _ _ (by decide), wI_e]
  have B6 : B.2.1 65 6 = 0 := by rw [← hB, wI_n _ _ _ _ (by decide), wI_n _ _ _ _ (by decide), wI_e]
  have B7 : B.2.1 65 7 = Int32.ofNat n := by rw [B65 7 (by decide) (by decide) (by decide), ← h1, wI_o _ _ _ _ (by decide), wI_e, en]
  have B5 : B.2.1 65 5 = Int32.ofNat a := by rw [B65 5 (by decide) (by decide) (by decide)]; exact a5
  have C : ∀ k : Nat, k ≠ 31 → k ≠ 210 + a → k ≠ 215 + a → k ≠ 220 + a → B.2.1 66 k = μ.2.1 66 k := fun k k1 k2 k3 k4 => by
    rw [← hB, wI_o _ _ _ _ (by decide), wI_o _ _ _ _ (by decide), wI_o _ _ _ _ (by decide), wI_n _ _ _ _ k4, wI_n _ _ _ _ k3, wI_n _ _ _ _ k2, ← h1, wI_n _ _ _ _ k1, wI_o _ _ _ _ (by decide), wI_o _ _ _ _ (by decide)]
  have C31 : B.2.1 66 31 = 0 := by
    rw [← hB, wI_o _ _ _ _ (by decide), wI_o _ _ _ _ (by decide), wI_o _ _ _ _ (by decide), wI_n _ _ _ _ (by omega), wI_n _ _ _ _ (by omega), wI_n _ _ _ _ (by omega), ← h1, wI_e]
  have C220 : B.2.1 66 (220 + a) = 0 := by rw [← hB, wI_o _ _ _ _ (by decide), wI_o _ _ _ _ (by decide), wI_o _ _ _ _ (by decide), wI_e]
  have C215 : B.2.1 66 (215 + a) = 20 := by rw [← hB, wI_o _ _ _ _ (by decide), wI_o _ _ _ _ (by decide), wI_o _ _ _ _ (by decide), wI_n _ _ _ _ (by omega), wI_e]
  have C210 : B.2.1 66 (210 + a) = 0 := by rw [← hB, wI_o _ _ _ _ (by decide), wI_o _ _ _ _ (by decide), wI_o _ _ _ _ (by decide), wI_n _ _ _ _ (by omega), wI_n _ _ _ _ (by omega), wI_e]
  clear hB h1
  have br : BR a n tx B := ⟨gB, ha5, B5, B7, hn, fun i hi => by rw [C (110 + i) (by omega) (by omega) (by omega) (by omega)]; exact ht i hi, hr⟩
  have dB : mst a n B false 0 0 20 [] B := ⟨⟨rfl, rfl, fun _ _ _ => rfl, fun _ _ _ _ => rfl, fun _ _ _ _ _ => rfl⟩, ⟨C210, C215⟩, ⟨rfl, rfl, fun _ _ _ => rfl, fun _ _ _ _ => rfl, fun _ _ _ => rfl⟩, ⟨Nat.zero_le _, Nat.zero_le _, Nat.le_refl _⟩, B6, B8, B9, C220, fun i hi => absurd hi (Nat.not_lt_zero i)⟩
  refine gw_if (gB.t (r := 65) rfl) ?_
  refine gw_bV (m_clause br dB) (fun m23 h23 => ?_)
  -- what is left: k clauses more
  generalize hI : (fun s : Int32 × gm_M => ∃ i : Nat, s.1 = Int32.ofNat i ∧ 1 ≤ i ∧ i ≤ 10 ∧ ∃ r : pB, mk a n B r s.2 ∧ pAft tx n = (if r.1 = true then pR tx n (10 - i) r else r)) = I
  have on := ofn (k := n) (by omega)
  refine gw_loop I (fun s => 10 - s.1.toInt) (fun s hs => ?_) 5000 ((1 : Int32), m23) (by rw [← hI]; exact ⟨1, rfl, Nat.le_refl _, by decide, pK tx n 0 0 20 [], h23, rfl⟩) (by show 10 - (1 : Int32).toInt < ((5000 : Nat) : Int); omega) (by show 0 ≤ 10 - (1 : Int32).toInt; omega)
  obtain ⟨s1, s2⟩ := s
  rw [← hI] at hs
  obtain ⟨i, es, hi1, hi2, r, hr2, eA⟩ := hs
  replace es : s1 = Int32.ofNat i := es
  replace hr2 : mk a n B r s2 := hr2
  subst es
  have oi := ofn (k := i) (by omega)
  have bad : ∀ (q : Nat) (w sw : Int32) (T : List Int32) (v : Bool) (M : gm_M), (v = true ∨ q < n) → pAft tx n = (false, q, (pAft tx n).2.2) → mst a n B v q w sw T M → gw (gm_gI M [17] 65 8 (fun v29 => gm_j (fun (s30 : Unit) => gm_gI M [17] 65 6 (fun v32 => (some (Sum.inr (some (.int ((-10 : Int32) - v32)), M)) : Option ((Int32 × gm_M) ⊕ (Option Value × gm_M))))) (fun j31 => if v29 ≠ 0 then j31 () else gm_gI M [17] 65 6 (fun v33 => gm_gI M [17] 65 7 (fun v34 => if v33 = v34 then gm_gR M [17] 65 1 (fun v35 => gm_aI M v35 (27 : Int32) (fun v36 => gm_sI M v35 (27 : Int32) (v36 + (1 : Int32)) (fun m37 => gm_gR m37 [17] 65 1 (fun v38 => gm_gI m37 [17] 65 5 (fun v39 => gm_sI m37 v38 (32 : Int32) v39 (fun m40 => gm_gI m40 [17] 65 5 (fun v41 => some (Sum.inr (some (.int v41), m40))))))))) else j31 ()))))) (gs_st I (fun s => 10 - s.1.toInt) (Int32.ofNat i, s2) (gqI (fun x m => (5 ≤ (μ.2.1 66 27).toInt ∧ x = -4 ∧ m = μ) ∨ ((μ.2.1 66 27).toInt < 5 ∧ RA μ a (pAft tx n) x m)))) := fun q w sw T v M hv eq d => by
    have bm := d.b br
    have c := d.c
    have hq := c.2.1.1
    obtain ⟨⟨d1, d2, d3, d4, d5⟩, d6, -⟩ := d
    have ok : RA μ a (pAft tx n) (-10 - Int32.ofNat q) M := by
      rw [eq]
      refine ⟨fun k k1 k2 => (d3 k k1 k2).trans (Bo k k1 k2), d2.trans B2, fun k k1 k2 k3 k4 k5 k6 k7 => (d5 k k4 k5 k6 k7).trans (C k k2 k4 k5 k6), (d5 31 (by omega) (by omega) (by omega) (by omega)).trans C31, Or.inr ⟨rfl, rfl, (d5 27 (by omega) (by omega) (by omega) (by omega)).trans (C 27 (by omega) (by omega) (by omega) (by omega)), (d5 32 (by omega) (by omega) (by omega) (by omega)).trans (C 32 (by omega) (by omega) (by omega) (by omega))⟩⟩
    refine gw_gIw (c.tc bm) ?_
    rw [c.e8]
    refine gw_j (fun _ => True) (fun _ _ => ?_) (fun j31 hj31 => ?_)
    · refine gw_gIw (c.tc bm) ?_
      rw [c.e6]
      exact gw_some (gs_inr (gq_I (Or.inr ⟨by rw [ea, oa]; omega, ok⟩)))
    · cases v with
      | true => rw [if_pos (by decide)]; exact hj31 _ trivial
      | false =>
        rw [if_neg (by decide)]
        refine gw_gIw (c.tc bm) ?_
        refine gw_gIw (c.tc bm) ?_
        rw [c.e6, c.e7 bm]
        have oq := ofn (k := q) (by omega)
        refine gw_eq (fun g => ?_) (fun _ => hj31 _ trivial)
        rcases hv with h | h
        · cases h
        · omega
  cases r1 : r.1 with
  | false =>
    rw [if_neg (by rw [r1]; decide)] at eA
    rcases hr2 with ⟨h, -⟩ | ⟨-, w, sw, T, d⟩
    · rw [r1] at h; cases h
    · have bm := d.b br
      have c := d.c
      refine gw_gIw (c.tc bm) ?_
      show gw (gm_j _ (fun j28 => if s2.2.1 65 8 ≠ 0 then _ else _)) _
      rw [c.e8]
      refine gw_ji ?_
      rw [if_pos (by decide)]
      exact bad r.2.1 w sw T true s2 (Or.inl rfl) (by rw [eA, ← r1]) d
  | true =>
    rw [if_pos r1] at eA
    rcases hr2 with ⟨-, d⟩ | ⟨h, -⟩
    · have bm := d.b br
      have c := d.c
      have hq := c.2.1.1
      have orp := ofn (k := r.2.1) (by omega)
      refine gw_gIw (c.tc bm) ?_
      show gw (gm_j _ (fun j28 => if s2.2.1 65 8 ≠ 0 then _ else _)) _
      rw [c.e8]
      refine gw_j (fun M => M = s2 ∧ (n ≤ r.2.1 ∨ (r.2.1 < n ∧ pAft tx n = (false, r.2)))) (fun M ⟨eM, hM⟩ => ?_) (fun j28 hj28 => ?_)
      · subst eM
        by_cases hend : n ≤ r.2.1
        · have e : pAft tx n = r := by
            rw [eA]
            cases 10 - i with
            | zero => rw [pR, if_pos hend]
            | succ k => rw [pR, if_pos hend]
          refine gw_gIw (c.tc bm) ?_
          rw [c.e8]
          refine gw_ji ?_
          rw [if_neg (by decide)]
          refine gw_gIw (c.tc bm) ?_
          refine gw_gIw (c.tc bm) ?_
          rw [c.e6, c.e7 bm, if_pos (by rw [show r.2.1 = n by omega])]
          obtain ⟨⟨d1, d2, d3, d4, d5⟩, ⟨d6, d7⟩, -⟩ := d
          have c11 := c.2.2.2.2.2
          have e27 : M.2.1 66 27 = Int32.ofNat a := by rw [d5 27 (by omega) (by omega) (by omega) (by omega), C 27 (by omega) (by omega) (by omega) (by omega), ea]
          refine gw_gRa 66 (c.tc bm) (c.r1 bm) ?_
          refine gw_aIw 27 ((c.S bm).t (r := 66) rfl) ((c.S bm).l (r := 66) rfl) (by omega) (by omega) ?_
          refine gw_sIw 27 ((c.S bm).t (r := 66) rfl) ((c.S bm).l (r := 66) rfl) (by omega) (by omega) ?_
          refine gw_gRa 66 (show [17].contains (gm_tag M 65) = true from c.tc bm) (show M.2.2 65 1 = 66 from c.r1 bm) ?_
          refine gw_gIw (show [17].contains (gm_tag M 65) = true from c.tc bm) ?_
          rw [wI_o _ _ _ _ (show (65 : Nat) ≠ 66 by decide), c.e5 bm]
          refine gw_sIw 32 ((c.S bm).t (r := 66) rfl) ((c.S bm).l (r := 66) rfl) (by omega) (by omega) ?_
          refine gw_gIw (show [17].contains (gm_tag M 65) = true from c.tc bm) ?_
          rw [wI_o _ _ _ _ (show (65 : Nat) ≠ 66 by decide), wI_o _ _ _ _ (show (65 : Nat) ≠ 66 by decide), c.e5 bm, e27]
          have rd : ∀ k : Nat, k ≠ 27 → k ≠ 32 → (wI (wI M 66 27 (Int32.ofNat a + 1)) 66 32 (Int32.ofNat a)).2.1 66 k = M.2.1 66 k := fun k k1 k2 => by rw [wI_n _ _ _ _ k2, wI_n _ _ _ _ k1]
          refine gw_some (gs_inr (gq_I (Or.inr ⟨by rw [ea, oa]; omega, fun k k1 k2 => ?_, d2.trans B2, fun k k1 k2 k3 k4 k5 k6 k7 => ?_, ?_, Or.inl ⟨by rw [e]; exact r1, by rw [ea], ?_, ?_, ?_⟩⟩)))
          · rw [wI_o _ _ _ _ k2, wI_o _ _ _ _ k2]; exact (d3 k k1 k2).trans (Bo k k1 k2)
          · rw [rd k k1 k3]; exact (d5 k k4 k5 k6 k7).trans (C k k2 k4 k5 k6)
          · rw [rd 31 (by decide) (by decide)]; exact (d5 31 (by omega) (by omega) (by omega) (by omega)).trans C31
          · rw [wI_n _ _ _ _ (by decide), wI_e, ea]
          · rw [wI_e, ea]
          · rw [e]
            unfold AFR
            rw [rd (210 + a) (by omega) (by omega), rd (215 + a) (by omega) (by omega), rd (220 + a) (by omega) (by omega)]
            refine ⟨⟨d6, d7⟩, c11.1, fun i hi => ?_⟩
            rw [rd _ (by omega) (by omega)]; exact c11.2 i hi
        · rcases hM with h | ⟨h, e⟩
          · exact absurd h hend
          · exact bad r.2.1 _ _ _ false M (Or.inr h) (by rw [e]) d
      · rw [if_neg (by decide)]
        refine gw_le (fun g => ?_) (fun g => ?_)
        · replace g : (10 : Int32).toInt ≤ (Int32.ofNat i).toInt := g
          refine hj28 _ ⟨rfl, ?_⟩
          by_cases hend : n ≤ r.2.1
          · exact Or.inl hend
          · exact Or.inr ⟨by omega, by rw [eA, show 10 - i = 0 by omega, pR, if_neg hend]⟩
        · replace g : (Int32.ofNat i).toInt < (10 : Int32).toInt := g
          refine gw_if (c.t bm) ?_
          refine gw_bI (w_here bm c) (fun x m' ⟨ex, em⟩ => ?_)
          subst em
          refine gw_ite (fun g2 => hj28 _ ⟨rfl, ?_⟩) (fun g2 => ?_)
          · by_cases hend : n ≤ r.2.1
            · exact Or.inl hend
            · exact Or.inr ⟨by omega, by rw [eA, show 10 - i = (9 - i) + 1 by omega, pR, if_neg hend, if_neg (by rw [← ex]; exact g2)]⟩
          · have e59 : pd tx n r.2.1 = 59 := by rw [← ex]; exact Decidable.not_not.mp g2
            have q : r.2.1 < n := pd_lt (tx := tx) (by rw [e59]; decide)
            rw [show 10 - i = (9 - i) + 1 by omega, pR, if_neg (by omega), if_pos e59] at eA
            refine gw_gIw (c.tc bm) ?_
            refine gw_pIw (c.tc bm) ?_
            rw [c.e6, ofn1 (by omega)]
            have d2 := d.on ha5 (c.at (q := r.2.1 + 1) (by omega) (by have := c.2.1.2.2; omega))
            refine gw_if (d2.c.t (d2.b br)) ?_
            refine gw_bV (m_clause br d2) (fun m46 h46 => ?_)
            refine gw_some (gs_inl ?_ ?_ ?_)
            · rw [← hI]
              exact ⟨i + 1, ofn1 (by omega), by omega, by omega, _, h46, by rw [eA, show 10 - (i + 1) = 9 - i by omega]⟩
            · show 10 - (Int32.ofNat i + 1).toInt < 10 - (Int32.ofNat i).toInt
              rw [ofn1 (by omega), ofn (k := i + 1) (by omega)]; omega
            · show 0 ≤ 10 - (Int32.ofNat i + 1).toInt
              rw [ofn1 (by omega), ofn (k := i + 1) (by omega)]; omega
    · rw [r1] at h; cases h
end
