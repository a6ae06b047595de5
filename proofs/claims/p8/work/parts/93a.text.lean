/-! the text's reader as a function of the text: tx its signs, n how many; an answer: goes it on, the place, the steps -/
def pd (tx : Nat → Int32) (n p : Nat) : Int32 := if p < n then tx p else -1
abbrev pA : Type := Bool × Nat × List Int32
def pW (tx : Nat → Int32) (n : Nat) (u : UInt32) : Nat → Nat → Bool × Nat
  | 0, p => (true, p)
  | k + 1, p => if pd tx n p = gm_bb (u + 6) (gm_bn (u + 6) - (k + 1)) then pW tx n u k (p + 1) else (false, p)
def dg (x : Int32) : Bool := decide (48 ≤ x.toInt ∧ x.toInt ≤ 57)
def pN (tx : Nat → Int32) (n p : Nat) : Bool × Nat × Int32 :=
  if dg (pd tx n p) = true then
    if pd tx n p = 48 ∨ dg (pd tx n (p + 1)) = false then (true, p + 1, pd tx n p - 48)
    else (true, p + 2, 10 * (pd tx n p - 48) + pd tx n (p + 1) - 48)
  else (false, p, -1)
def pOi (u : UInt32) (x : Int32) : Nat → Nat → Int32
  | 0, _ => -1
  | k + 1, i => if x = gm_bb (u + 6) i then Int32.ofNat i else pOi u x k (i + 1)
def pO (u : UInt32) (x : Int32) : Int32 := pOi u x (gm_bn (u + 6)) 0
def pT (tx : Nat → Int32) (n p : Nat) : pA :=
  if pO 5 (pd tx n p) = -1 then (false, p, [])
  else if pO 6 (pd tx n (p + 1)) = -1 then (false, p + 1, [])
  else if (pN tx n (p + 2)).1 = true then (true, (pN tx n (p + 2)).2.1, [(pO 5 (pd tx n p) + 8 * pO 6 (pd tx n (p + 1))) + 32 * (pN tx n (p + 2)).2.2])
  else (false, (pN tx n (p + 2)).2.1, [])
/-- signs & and |, a factor behind each -/
def pS (tx : Nat → Int32) (n : Nat) (F : Nat → pA) : Nat → Nat → Bool × Nat × List (Bool × List Int32)
  | 0, p => (true, p, [])
  | fu + 1, p =>
    if pd tx n p = 38 ∨ pd tx n p = 124 then
      if (F (p + 1)).1 = true then
        ((pS tx n F fu (F (p + 1)).2.1).1, (pS tx n F fu (F (p + 1)).2.1).2.1, (decide (pd tx n p = 124), (F (p + 1)).2.2) :: (pS tx n F fu (F (p + 1)).2.1).2.2)
      else (false, (F (p + 1)).2.1, [])
    else (true, p, [])
/-- the steps in their order; w: an OR is wanting -/
def pC : Bool → List (Bool × List Int32) → List Int32
  | w, [] => if w = true then [-3] else []
  | w, (b, L) :: S => if b = true then (if w = true then [-3] else []) ++ (L ++ pC true S) else L ++ (-2 :: pC w S)
def pE (tx : Nat → Int32) (n : Nat) (F : Nat → pA) (p : Nat) : pA :=
  if (F p).1 = true then
    ((pS tx n F (101 - (F p).2.1) (F p).2.1).1, (pS tx n F (101 - (F p).2.1) (F p).2.1).2.1, (F p).2.2 ++ pC false (pS tx n F (101 - (F p).2.1) (F p).2.1).2.2)
  else (false, (F p).2.1, [])
def pF (tx : Nat → Int32) (n : Nat) : Nat → Nat → pA
  | 0 => fun p => if pd tx n p = 33 ∨ pd tx n p = 40 then (false, p, []) else pT tx n p
  | d + 1 => fun p =>
    if pd tx n p = 40 then
      if (pE tx n (pF tx n d) (p + 1)).1 = true then
        if pd tx n (pE tx n (pF tx n d) (p + 1)).2.1 = 41 then (true, (pE tx n (pF tx n d) (p + 1)).2.1 + 1, (pE tx n (pF tx n d) (p + 1)).2.2) else (false, (pE tx n (pF tx n d) (p + 1)).2.1, [])
      else (false, (pE tx n (pF tx n d) (p + 1)).2.1, [])
    else if pd tx n p = 33 then
      if (pF tx n d (p + 1)).1 = true then (true, (pF tx n d (p + 1)).2.1, (pF tx n d (p + 1)).2.2 ++ [-1]) else (false, (pF tx n d (p + 1)).2.1, [])
    else pT tx n p
/-! how far, how many -/
def pG (n p : Nat) (r : pA) : Prop := p ≤ r.2.1 ∧ r.2.1 ≤ n ∧ (r.1 = true → p < r.2.1 ∧ p + r.2.2.length ≤ r.2.1)
theorem pd_lt {tx : Nat → Int32} {n p : Nat} (h : pd tx n p ≠ -1) : p < n := by
  by_cases q : p < n
  · exact q
  · exfalso; apply h; unfold pd; rw [if_neg q]
theorem pN_g {tx : Nat → Int32} {n p : Nat} (h : p ≤ n) : p ≤ (pN tx n p).2.1 ∧ (pN tx n p).2.1 ≤ n ∧ ((pN tx n p).1 = true → p < (pN tx n p).2.1 ∧ 0 ≤ (pN tx n p).2.2.toInt ∧ (pN tx n p).2.2.toInt ≤ 99) := by
  have dn : ∀ q : Nat, dg (pd tx n q) = true → q < n ∧ (48 ≤ (pd tx n q).toInt ∧ (pd tx n q).toInt ≤ 57) := fun q hq => by
    have b := of_decide_eq_true hq
    refine ⟨pd_lt (tx := tx) (fun e => ?_), b⟩
    rw [e] at b
    exact absurd b (by decide)
  have l48 : (48 : Int32).toInt = 48 := rfl
  unfold pN
  by_cases h1 : dg (pd tx n p) = true
  · rw [if_pos h1]
    have a := dn p h1
    have s1 : (pd tx n p - 48).toInt = (pd tx n p).toInt - (48 : Int32).toInt := gx_sub (by omega) (by omega)
    by_cases h2 : pd tx n p = 48 ∨ dg (pd tx n (p + 1)) = false
    · rw [if_pos h2]
      exact ⟨by show p ≤ p + 1; omega, by show p + 1 ≤ n; omega, fun _ => ⟨by show p < p + 1; omega, by show 0 ≤ (pd tx n p - 48).toInt; omega, by show (pd tx n p - 48).toInt ≤ 99; omega⟩⟩
    · rw [if_neg h2]
      have h3 : dg (pd tx n (p + 1)) = true := by
        cases e : dg (pd tx n (p + 1)) with
        | true => rfl
        | false => exact absurd (Or.inr e) h2
      have b := dn (p + 1) h3
      have s2 : ((10 : Int32) * (pd tx n p - 48)).toInt = 10 * (pd tx n p - 48).toInt := gx_mul 10 rfl (by omega) (by omega)
      have s3 : ((10 : Int32) * (pd tx n p - 48) + pd tx n (p + 1)).toInt = ((10 : Int32) * (pd tx n p - 48)).toInt + (pd tx n (p + 1)).toInt := gx_add (by omega) (by omega)
      have s4 : ((10 : Int32) * (pd tx n p - 48) + pd tx n (p + 1) - 48).toInt = ((10 : Int32) * (pd tx n p - 48) + pd tx n (p + 1)).toInt - (48 : Int32).toInt := gx_sub (by omega) (by omega)
      exact ⟨by show p ≤ p + 2; omega, by show p + 2 ≤ n; omega, fun _ => ⟨by show p < p + 2; omega, by show 0 ≤ ((10 : Int32) * (pd tx n p - 48) + pd tx n (p + 1) - 48).toInt; omega, by show ((10 : Int32) * (pd tx n p - 48) + pd tx n (p + 1) - 48).toInt ≤ 99; omega⟩⟩
  · rw [if_neg h1]
    exact ⟨Nat.le_refl _, h, fun q => by cases q⟩
theorem pO_b5 {x : Int32} (h : pO 5 x ≠ -1) : 0 ≤ (pO 5 x).toInt ∧ (pO 5 x).toInt < 6 ∧ x ≠ -1 := by
  unfold pO at h ⊢
  rw [show gm_bn ((5 : UInt32) + 6) = 6 by decide] at h ⊢
  simp only [pOi] at h ⊢
  repeat' split
  all_goals first | (rename_i e; exact ⟨by decide, by decide, fun q => by rw [q] at e; exact absurd e (by decide)⟩) | (rename_i e1 e2 e3 e4 e5 e6; simp only [if_neg e1, if_neg e2, if_neg e3, if_neg e4, if_neg e5, if_neg e6] at h; exact absurd trivial (by simpa using h))
theorem pO_b6 {x : Int32} (h : pO 6 x ≠ -1) : 0 ≤ (pO 6 x).toInt ∧ (pO 6 x).toInt < 3 ∧ x ≠ -1 := by
  unfold pO at h ⊢
  rw [show gm_bn ((6 : UInt32) + 6) = 3 by decide] at h ⊢
  simp only [pOi] at h ⊢
  repeat' split
  all_goals first | (rename_i e; exact ⟨by decide, by decide, fun q => by rw [q] at e; exact absurd e (by decide)⟩) | (rename_i e1 e2 e3; simp only [if_neg e1, if_neg e2, if_neg e3] at h; exact absurd trivial (by simpa using h))
theorem pT_g {tx : Nat → Int32} {n p : Nat} (h : p ≤ n) : pG n p (pT tx n p) := by
  unfold pT pG
  by_cases h1 : pO 5 (pd tx n p) = -1
  · rw [if_pos h1]; exact ⟨Nat.le_refl _, h, fun q => by cases q⟩
  · rw [if_neg h1]
    have a := pd_lt (pO_b5 h1).2.2
    by_cases h2 : pO 6 (pd tx n (p + 1)) = -1
    · rw [if_pos h2]; exact ⟨Nat.le_add_right _ _, a, fun q => by cases q⟩
    · rw [if_neg h2]
      have b := pd_lt (pO_b6 h2).2.2
      have c := pN_g (tx := tx) (n := n) (p := p + 2) (by omega)
      by_cases h3 : (pN tx n (p + 2)).1 = true
      · rw [if_pos h3]
        have c3 := c.2.2 h3
        exact ⟨by show p ≤ (pN tx n (p + 2)).2.1; omega, c.2.1, fun _ => ⟨by show p < (pN tx n (p + 2)).2.1; omega, by show p + 1 ≤ (pN tx n (p + 2)).2.1; omega⟩⟩
      · rw [if_neg h3]
        exact ⟨by show p ≤ (pN tx n (p + 2)).2.1; omega, c.2.1, fun q => by cases q⟩
/-- what a row of factors brings: one step a sign, and the factors' -/
def pQ : List (Bool × List Int32) → Nat
  | [] => 0
  | (_, L) :: S => L.length + 1 + pQ S
theorem pC_len : ∀ (w : Bool) (S : List (Bool × List Int32)), (pC w S).length = pQ S + (if w = true then 1 else 0)
  | true, [] => rfl
  | false, [] => rfl
  | true, (true, L) :: S => by
    show ([-3] ++ (L ++ pC true S)).length = L.length + 1 + pQ S + 1
    rw [List.length_append, List.length_append, pC_len true S, if_pos rfl, List.length_singleton]; omega
  | false, (true, L) :: S => by
    show (([] : List Int32) ++ (L ++ pC true S)).length = L.length + 1 + pQ S + 0
    rw [List.nil_append, List.length_append, pC_len true S, if_pos rfl]; omega
  | true, (false, L) :: S => by
    show (L ++ ((-2 : Int32) :: pC true S)).length = L.length + 1 + pQ S + 1
    rw [List.length_append, List.length_cons, pC_len true S, if_pos rfl]; omega
  | false, (false, L) :: S => by
    show (L ++ ((-2 : Int32) :: pC false S)).length = L.length + 1 + pQ S + 0
    rw [List.length_append, List.length_cons, pC_len false S, if_neg (by decide)]; omega
theorem pS_g {tx : Nat → Int32} {n : Nat} {F : Nat → pA} (hF : ∀ p, p ≤ n → pG n p (F p)) : ∀ (fu p : Nat), p ≤ n → p ≤ (pS tx n F fu p).2.1 ∧ (pS tx n F fu p).2.1 ≤ n ∧ ((pS tx n F fu p).1 = true → p + pQ (pS tx n F fu p).2.2 ≤ (pS tx n F fu p).2.1)
  | 0, p, h => ⟨Nat.le_refl _, h, fun _ => Nat.le_refl _⟩
  | fu + 1, p, h => by
    unfold pS
    by_cases h1 : pd tx n p = 38 ∨ pd tx n p = 124
    · rw [if_pos h1]
      have a : p < n := pd_lt (tx := tx) (fun e => by rw [e] at h1; exact absurd h1 (by decide))
      obtain ⟨f1, f2, f3⟩ := hF (p + 1) a
      by_cases h2 : (F (p + 1)).1 = true
      · rw [if_pos h2]
        obtain ⟨g1, g2⟩ := f3 h2
        obtain ⟨s1, s2, s3⟩ := pS_g hF fu (F (p + 1)).2.1 f2
        refine ⟨by show p ≤ (pS tx n F fu (F (p + 1)).2.1).2.1; omega, s2, fun q => ?_⟩
        have := s3 q
        show p + ((F (p + 1)).2.2.length + 1 + pQ (pS tx n F fu (F (p + 1)).2.1).2.2) ≤ (pS tx n F fu (F (p + 1)).2.1).2.1
        omega
      · rw [if_neg h2]
        exact ⟨by show p ≤ (F (p + 1)).2.1; omega, f2, fun q => by cases q⟩
    · rw [if_neg h1]
      exact ⟨Nat.le_refl _, h, fun _ => Nat.le_refl _⟩
theorem pE_g {tx : Nat → Int32} {n : Nat} {F : Nat → pA} (hF : ∀ p, p ≤ n → pG n p (F p)) {p : Nat} (h : p ≤ n) : pG n p (pE tx n F p) := by
  obtain ⟨f1, f2, f3⟩ := hF p h
  unfold pE
  by_cases h2 : (F p).1 = true
  · rw [if_pos h2]
    obtain ⟨g1, g2⟩ := f3 h2
    obtain ⟨s1, s2, s3⟩ := pS_g (tx := tx) hF (101 - (F p).2.1) (F p).2.1 f2
    refine ⟨by show p ≤ (pS tx n F (101 - (F p).2.1) (F p).2.1).2.1; omega, s2, fun q => ?_⟩
    have := s3 q
    refine ⟨by show p < (pS tx n F (101 - (F p).2.1) (F p).2.1).2.1; omega, ?_⟩
    show p + ((F p).2.2 ++ pC false (pS tx n F (101 - (F p).2.1) (F p).2.1).2.2).length ≤ (pS tx n F (101 - (F p).2.1) (F p).2.1).2.1
    rw [List.length_append, pC_len, if_neg (by decide)]
    omega
  · rw [if_neg h2]
    exact ⟨f1, f2, fun q => by cases q⟩
theorem pF_g {tx : Nat → Int32} {n : Nat} : ∀ (d p : Nat), p ≤ n → pG n p (pF tx n d p)
  | 0, p, h => by
    unfold pF
    show pG n p (if pd tx n p = 33 ∨ pd tx n p = 40 then (false, p, []) else pT tx n p)
    split
    · exact ⟨Nat.le_refl _, h, fun q => by cases q⟩
    · exact pT_g h
  | d + 1, p, h => by
    unfold pF
    have hE : p + 1 ≤ n → pG n (p + 1) (pE tx n (pF tx n d) (p + 1)) := fun h => pE_g (fun p => pF_g d p) h
    have hF : p + 1 ≤ n → pG n (p + 1) (pF tx n d (p + 1)) := fun h => pF_g d (p + 1) h
    generalize pE tx n (pF tx n d) (p + 1) = e at *
    generalize pF tx n d (p + 1) = f at *
    show pG n p (if pd tx n p = 40 then (if e.1 = true then (if pd tx n e.2.1 = 41 then (true, e.2.1 + 1, e.2.2) else (false, e.2.1, [])) else (false, e.2.1, [])) else if pd tx n p = 33 then (if f.1 = true then (true, f.2.1, f.2.2 ++ [-1]) else (false, f.2.1, [])) else pT tx n p)
    by_cases h1 : pd tx n p = 40
    · rw [if_pos h1]
      have a : p < n := pd_lt (tx := tx) (fun q => by rw [q] at h1; exact absurd h1 (by decide))
      obtain ⟨e1, e2, e3⟩ := hE a
      by_cases h2 : e.1 = true
      · rw [if_pos h2]
        have g := e3 h2
        by_cases h3 : pd tx n e.2.1 = 41
        · rw [if_pos h3]
          have b : e.2.1 < n := pd_lt (tx := tx) (fun q => by rw [q] at h3; exact absurd h3 (by decide))
          exact ⟨by show p ≤ e.2.1 + 1; omega, b, fun _ => ⟨by show p < e.2.1 + 1; omega, by show p + e.2.2.length ≤ e.2.1 + 1; omega⟩⟩
        · rw [if_neg h3]
          exact ⟨by show p ≤ e.2.1; omega, e2, fun q => by cases q⟩
      · rw [if_neg h2]
        exact ⟨by show p ≤ e.2.1; omega, e2, fun q => by cases q⟩
    · rw [if_neg h1]
      by_cases h2 : pd tx n p = 33
      · rw [if_pos h2]
        have a : p < n := pd_lt (tx := tx) (fun q => by rw [q] at h2; exact absurd h2 (by decide))
        obtain ⟨e1, e2, e3⟩ := hF a
        by_cases h3 : f.1 = true
        · rw [if_pos h3]
          have g := e3 h3
          exact ⟨by show p ≤ f.2.1; omega, e2, fun _ => ⟨by show p < f.2.1; omega, by show p + (f.2.2 ++ [-1]).length ≤ f.2.1; rw [List.length_append, List.length_singleton]; omega⟩⟩
        · rw [if_neg h3]
          exact ⟨by show p ≤ f.2.1; omega, e2, fun q => by cases q⟩
      · rw [if_neg h2]; exact pT_g h
