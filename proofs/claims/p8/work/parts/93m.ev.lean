/-! what an E says: steps over a row of truths, the newest first; k a child's numbers: 0 its own, 1 kind, 2 v, 3 pieces, 4 sugar, 5 jaw, 6 bubble, 7 hair, 8 .. its row -/
def tst (s x : Int32) : Bool := if s / 8 % 4 = 0 then decide (x < s / 32) else if s / 8 % 4 = 1 then decide (x = s / 32) else decide (s / 32 < x)
def fv (k : Nat → Int32) (mi a : Int32) : Int32 := if a = 0 then k 0 else if a = 1 then k 1 else if a = 2 then k 2 else if a = 3 then k 3 else if a = 4 then k 4 / 10 else mi % 10
def stp (k : Nat → Int32) (mi s : Int32) (S : List Bool) : List Bool :=
  if 0 ≤ s.toInt then tst s (fv k mi (s % 8)) :: S
  else if s = -1 then match S with
    | a :: S => (!a) :: S
    | [] => []
  else match S with
    | a :: b :: S => (if s = -2 then b && a else b || a) :: S
    | S => S
def es (k : Nat → Int32) (mi : Int32) : List Int32 → List Bool → List Bool
  | [], S => S
  | s :: T, S => es k mi T (stp k mi s S)
/-- how many truths there are behind the steps, if all is well -/
def dr : List Int32 → Nat → Option Nat
  | [], d => some d
  | s :: T, d =>
    if 0 ≤ s.toInt then (if s.toInt % 8 < 6 ∧ s.toInt / 8 % 4 < 3 ∧ s.toInt / 32 < 100 ∧ d < 30 then dr T (d + 1) else none)
    else if s = -1 then (if 1 ≤ d then dr T d else none)
    else if s = -2 ∨ s = -3 then (if 2 ≤ d then dr T (d - 1) else none)
    else none
theorem dr_app : ∀ (S T : List Int32) (d : Nat), dr (S ++ T) d = (dr S d).bind (dr T)
  | [], T, d => rfl
  | s :: S, T, d => by
    show dr (s :: (S ++ T)) d = (dr (s :: S) d).bind (dr T)
    unfold dr
    repeat' split
    all_goals first | exact dr_app S T _ | rfl
/-- numbers of a step that tests -/
theorem tok_nums {s : Int32} (h0 : 0 ≤ s.toInt) (h1 : s.toInt % 8 < 6) (h2 : s.toInt / 8 % 4 < 3) (h3 : s.toInt / 32 < 100) : (0 ≤ (s % 8).toInt ∧ (s % 8).toInt < 6) ∧ cv s / 1000 = s % 8 ∧ cv s / 100 % 10 = s / 8 % 4 ∧ cv s % 100 = s / 32 ∧ 0 ≤ (cv s).toInt ∧ (s / 8 % 4 = 0 ∨ s / 8 % 4 = 1 ∨ s / 8 % 4 = 2) := by
  have k : ∀ a : Fin 6, ∀ b : Fin 3, ∀ v : Fin 100, (fun s : Int32 => (0 ≤ (s % 8).toInt ∧ (s % 8).toInt < 6) ∧ cv s / 1000 = s % 8 ∧ cv s / 100 % 10 = s / 8 % 4 ∧ cv s % 100 = s / 32 ∧ 0 ≤ (cv s).toInt ∧ (s / 8 % 4 = 0 ∨ s / 8 % 4 = 1 ∨ s / 8 % 4 = 2)) (Int32.ofNat (a.val + 8 * b.val + 32 * v.val)) := by decide +kernel
  have := k ⟨(s.toInt % 8).toNat, by omega⟩ ⟨(s.toInt / 8 % 4).toNat, by omega⟩ ⟨(s.toInt / 32).toNat, by omega⟩
  have e : Int32.ofNat ((s.toInt % 8).toNat + 8 * (s.toInt / 8 % 4).toNat + 32 * (s.toInt / 32).toNat) = s := by
    rw [show (s.toInt % 8).toNat + 8 * (s.toInt / 8 % 4).toNat + 32 * (s.toInt / 32).toNat = s.toInt.toNat by omega]
    exact gx_of h0
  exact e ▸ this
/-! the steps of an E bring one truth -/
theorem dr_one {s : Int32} {d : Nat} (h0 : 0 ≤ s.toInt) (h1 : s.toInt % 8 < 6) (h2 : s.toInt / 8 % 4 < 3) (h3 : s.toInt / 32 < 100) (hd : d < 30) : dr [s] d = some (d + 1) := by
  unfold dr; rw [if_pos h0, if_pos ⟨h1, h2, h3, hd⟩]; rfl
theorem dr_not {d : Nat} (h : 1 ≤ d) : dr [-1] d = some d := by
  unfold dr; rw [if_neg (by decide), if_pos rfl, if_pos h]; rfl
theorem dr_and {d : Nat} (h : 2 ≤ d) (T : List Int32) : dr (-2 :: T) d = dr T (d - 1) := by
  rw [dr, if_neg (by decide), if_neg (by decide), if_pos (Or.inl rfl), if_pos h]
theorem dr_or {d : Nat} (h : 2 ≤ d) : dr [-3] d = some (d - 1) := by
  rw [dr, if_neg (by decide), if_neg (by decide), if_pos (Or.inr rfl), if_pos h]; rfl
theorem pC_dr {c : Nat} : ∀ (w : Bool) (S : List (Bool × List Int32)) (d : Nat), (∀ q ∈ S, ∀ d : Nat, d + c ≤ 30 → dr q.2 d = some (d + 1)) → d + c + 2 ≤ 30 → dr (pC w S) (if w = true then d + 2 else d + 1) = some (d + 1)
  | true, [], d, _, hd => by
    show dr [-3] (d + 2) = _
    rw [dr_or (by omega)]; rfl
  | false, [], d, _, hd => rfl
  | w, (true, L) :: S, d, h, hd => by
    show dr ((if w = true then [-3] else []) ++ (L ++ pC true S)) _ = _
    have hL := h (true, L) List.mem_cons_self (d + 1) (by omega)
    have ih := pC_dr true S d (fun q hq => h q (List.mem_cons_of_mem _ hq)) hd
    rw [if_pos rfl] at ih
    cases w with
    | true =>
      rw [if_pos rfl, if_pos rfl, dr_app, dr_or (by omega)]
      show dr (L ++ pC true S) (d + 2 - 1) = _
      rw [dr_app, show d + 2 - 1 = d + 1 by omega, hL]
      exact ih
    | false =>
      rw [if_neg (by decide), if_neg (by decide), List.nil_append, dr_app, hL]
      exact ih
  | w, (false, L) :: S, d, h, hd => by
    show dr (L ++ ((-2 : Int32) :: pC w S)) _ = _
    have ih := pC_dr w S d (fun q hq => h q (List.mem_cons_of_mem _ hq)) hd
    cases w with
    | true =>
      rw [if_pos rfl] at ih ⊢
      rw [dr_app, h (false, L) List.mem_cons_self (d + 2) (by omega)]
      show dr ((-2 : Int32) :: pC true S) (d + 3) = _
      rw [dr_and (by omega)]
      exact ih
    | false =>
      rw [if_neg (by decide)] at ih ⊢
      rw [dr_app, h (false, L) List.mem_cons_self (d + 1) (by omega)]
      show dr ((-2 : Int32) :: pC false S) (d + 2) = _
      rw [dr_and (by omega)]
      exact ih
def dF (c : Nat) (F : Nat → pA) : Prop := ∀ p : Nat, (F p).1 = true → ∀ d : Nat, d + c ≤ 30 → dr (F p).2.2 d = some (d + 1)
theorem pS_dr {tx : Nat → Int32} {n c : Nat} {F : Nat → pA} (hF : dF c F) : ∀ (fu p : Nat), ∀ q ∈ (pS tx n F fu p).2.2, ∀ d : Nat, d + c ≤ 30 → dr q.2 d = some (d + 1)
  | 0, p => fun q hq => absurd hq List.not_mem_nil
  | fu + 1, p => by
    unfold pS
    split
    · split
      · rename_i h2
        intro q hq
        rcases List.mem_cons.mp hq with h | h
        · rw [h]; exact hF _ h2
        · exact pS_dr hF fu _ q h
      · exact fun q hq => absurd hq List.not_mem_nil
    · exact fun q hq => absurd hq List.not_mem_nil
theorem pE_dr {tx : Nat → Int32} {n c : Nat} {F : Nat → pA} (hF : dF c F) : dF (c + 2) (pE tx n F) := by
  intro p h d hd
  unfold pE at h ⊢
  by_cases f : (F p).1 = true
  · rw [if_pos f]
    show dr ((F p).2.2 ++ pC false _) d = _
    rw [dr_app, hF p f d (by omega)]
    have := pC_dr (c := c) false (pS tx n F (101 - (F p).2.1) (F p).2.1).2.2 d (pS_dr hF _ _) (by omega)
    rw [if_neg (by decide)] at this
    exact this
  · rw [if_neg f] at h; cases h
theorem pT_dr {tx : Nat → Int32} {n : Nat} : dF 1 (pT tx n) := by
  intro p h d hd
  by_cases hp : p ≤ n
  · unfold pT at h ⊢
    by_cases h1 : pO 5 (pd tx n p) = -1
    · rw [if_pos h1] at h; cases h
    · rw [if_neg h1] at h ⊢
      by_cases h2 : pO 6 (pd tx n (p + 1)) = -1
      · rw [if_pos h2] at h; cases h
      · rw [if_neg h2] at h ⊢
        by_cases h3 : (pN tx n (p + 2)).1 = true
        · rw [if_pos h3]
          have a := pO_b5 h1
          have b := pO_b6 h2
          have a1 := pd_lt a.2.2
          have b1 := pd_lt b.2.2
          have c := (pN_g (tx := tx) (n := n) (p := p + 2) (by omega)).2.2 h3
          have n1 : ((8 : Int32) * pO 6 (pd tx n (p + 1))).toInt = 8 * (pO 6 (pd tx n (p + 1))).toInt := gx_mul 8 rfl (by omega) (by omega)
          have n2 : ((32 : Int32) * (pN tx n (p + 2)).2.2).toInt = 32 * (pN tx n (p + 2)).2.2.toInt := gx_mul 32 rfl (by omega) (by omega)
          have n3 : (pO 5 (pd tx n p) + (8 : Int32) * pO 6 (pd tx n (p + 1))).toInt = (pO 5 (pd tx n p)).toInt + ((8 : Int32) * pO 6 (pd tx n (p + 1))).toInt := gx_add (by omega) (by omega)
          have n4 : ((pO 5 (pd tx n p) + (8 : Int32) * pO 6 (pd tx n (p + 1))) + (32 : Int32) * (pN tx n (p + 2)).2.2).toInt = (pO 5 (pd tx n p) + (8 : Int32) * pO 6 (pd tx n (p + 1))).toInt + ((32 : Int32) * (pN tx n (p + 2)).2.2).toInt := gx_add (by omega) (by omega)
          exact dr_one (by omega) (by omega) (by omega) (by omega) (by omega)
        · rw [if_neg h3] at h; cases h
  · rw [pT_over (by omega)] at h; cases h
theorem pF_dr {tx : Nat → Int32} {n : Nat} : ∀ e : Nat, dF (2 * e + 1) (pF tx n e)
  | 0 => by
    intro p h d hd
    rw [pF] at h ⊢
    replace h : (if pd tx n p = 33 ∨ pd tx n p = 40 then (false, p, []) else pT tx n p : pA).1 = true := h
    show dr (if pd tx n p = 33 ∨ pd tx n p = 40 then (false, p, []) else pT tx n p : pA).2.2 d = _
    split at h
    · cases h
    · rename_i g
      rw [if_neg g]; exact pT_dr p h d hd
  | e + 1 => by
    intro p h d hd
    have hE := pE_dr (tx := tx) (n := n) (pF_dr (tx := tx) (n := n) e) (p + 1)
    have hF := pF_dr (tx := tx) (n := n) e (p + 1)
    rw [pF] at h ⊢
    replace h : (if pd tx n p = 40 then (if (pE tx n (pF tx n e) (p + 1)).1 = true then (if pd tx n (pE tx n (pF tx n e) (p + 1)).2.1 = 41 then (true, (pE tx n (pF tx n e) (p + 1)).2.1 + 1, (pE tx n (pF tx n e) (p + 1)).2.2) else (false, (pE tx n (pF tx n e) (p + 1)).2.1, [])) else (false, (pE tx n (pF tx n e) (p + 1)).2.1, [])) else if pd tx n p = 33 then (if (pF tx n e (p + 1)).1 = true then (true, (pF tx n e (p + 1)).2.1, (pF tx n e (p + 1)).2.2 ++ [-1]) else (false, (pF tx n e (p + 1)).2.1, [])) else pT tx n p : pA).1 = true := h
    show dr (if pd tx n p = 40 then (if (pE tx n (pF tx n e) (p + 1)).1 = true then (if pd tx n (pE tx n (pF tx n e) (p + 1)).2.1 = 41 then (true, (pE tx n (pF tx n e) (p + 1)).2.1 + 1, (pE tx n (pF tx n e) (p + 1)).2.2) else (false, (pE tx n (pF tx n e) (p + 1)).2.1, [])) else (false, (pE tx n (pF tx n e) (p + 1)).2.1, [])) else if pd tx n p = 33 then (if (pF tx n e (p + 1)).1 = true then (true, (pF tx n e (p + 1)).2.1, (pF tx n e (p + 1)).2.2 ++ [-1]) else (false, (pF tx n e (p + 1)).2.1, [])) else pT tx n p : pA).2.2 d = _
    generalize pE tx n (pF tx n e) (p + 1) = r at *
    generalize pF tx n e (p + 1) = f at *
    by_cases h1 : pd tx n p = 40
    · rw [if_pos h1] at h ⊢
      by_cases h2 : r.1 = true
      · rw [if_pos h2] at h ⊢
        by_cases h3 : pd tx n r.2.1 = 41
        · rw [if_pos h3]; exact hE h2 d (by omega)
        · rw [if_neg h3] at h; cases h
      · rw [if_neg h2] at h; cases h
    · rw [if_neg h1] at h ⊢
      by_cases h2 : pd tx n p = 33
      · rw [if_pos h2] at h ⊢
        by_cases h3 : f.1 = true
        · rw [if_pos h3]
          show dr (f.2.2 ++ [-1]) d = _
          rw [dr_app, hF h3 d (by omega)]
          exact dr_not (by omega)
        · rw [if_neg h3] at h; cases h
      · rw [if_neg h2] at h ⊢
        exact pT_dr p h d (by omega)
/-! an afternoon's steps: an E's, and the change behind it, several times -/
def fl : List (List Int32 × Int32) → List Int32
  | [] => []
  | q :: P => (q.1 ++ [q.2]) ++ fl P
def okP (P : List (List Int32 × Int32)) : Prop := ∀ q ∈ P, dr q.1 0 = some 1 ∧ tkn q.1 ∧ q.2.toInt ≤ -10 ∧ -99 ≤ (amt q.2).toInt ∧ (amt q.2).toInt ≤ 99
theorem fl_app : ∀ (P Q : List (List Int32 × Int32)), fl (P ++ Q) = fl P ++ fl Q
  | [], Q => rfl
  | q :: P, Q => by
    show (q.1 ++ [q.2]) ++ fl (P ++ Q) = ((q.1 ++ [q.2]) ++ fl P) ++ fl Q
    rw [fl_app P Q]
    exact (List.append_assoc _ _ _).symm
def wf (c : Nat) (L : List Int32) : Prop := ∃ P : List (List Int32 × Int32), L = fl P ∧ okP P ∧ P.length ≤ c
theorem pM_wf {tx : Nat → Int32} {n : Nat} {u : UInt32} (hu : gm_isS u) {kd : Int32} (hk : kd = -10 ∨ kd = -200) {p c : Nat} (hp : p ≤ n) {w sw : Int32} {L : List Int32} (h : wf c L) (h1 : (pM tx n u kd p w sw L).1 = true) : wf (c + 1) (pM tx n u kd p w sw L).2.2.2.2 := by
  obtain ⟨P, e, hP, hc⟩ := h
  unfold pM at h1 ⊢
  by_cases hW : (pWN tx n u p).1 = true
  · rw [if_pos hW] at h1 ⊢
    have gW := (pWN_g (tx := tx) hu hp).2.2 hW
    by_cases h2 : pd tx n (pWN tx n u p).2.1 = 32
    · rw [if_pos h2] at h1 ⊢
      replace h1 : (pE tx n (pF tx n 5) ((pWN tx n u p).2.1 + 1)).1 = true := h1
      have ht : tkn (pE tx n (pF tx n 5) ((pWN tx n u p).2.1 + 1)).2.2 := pE_tk (fun p => pF_tk 5 p) _
      have hd := pE_dr (tx := tx) (n := n) (pF_dr (tx := tx) (n := n) 5) ((pWN tx n u p).2.1 + 1) h1 0 (by omega)
      refine ⟨P ++ [((pE tx n (pF tx n 5) ((pWN tx n u p).2.1 + 1)).2.2, kd - (pWN tx n u p).2.2)], ?_, ?_, by rw [List.length_append, List.length_singleton]; omega⟩
      · show (L ++ _) ++ [_] = _
        rw [fl_app, e, List.append_assoc]
        show _ = fl P ++ ((_ ++ [_]) ++ [])
        rw [List.append_nil]
      · intro q hq
        rcases List.mem_append.mp hq with g | g
        · exact hP q g
        · rw [List.mem_singleton.mp g]
          have ka := amt_k gW.2
          have nx : (-(pWN tx n u p).2.2).toInt = -(pWN tx n u p).2.2.toInt := by
            rw [← ka.2.1]
            unfold amt
            have l200 : (200 : Int32).toInt = 200 := rfl
            have lm : (-200 : Int32).toInt = -200 := rfl
            have s1 : ((-200 : Int32) - (pWN tx n u p).2.2).toInt = (-200 : Int32).toInt - (pWN tx n u p).2.2.toInt := gx_sub (by omega) (by omega)
            rw [if_neg (by omega), gx_add (by omega) (by omega)]; omega
          rcases hk with rfl | rfl
          · exact ⟨hd, ht, ka.1.2, by show -99 ≤ (amt (-10 - _)).toInt; rw [ka.1.1]; omega, by show (amt (-10 - _)).toInt ≤ 99; rw [ka.1.1]; omega⟩
          · exact ⟨hd, ht, ka.2.2, by show -99 ≤ (amt (-200 - _)).toInt; rw [ka.2.1]; omega, by show (amt (-200 - _)).toInt ≤ 99; rw [ka.2.1]; omega⟩
    · rw [if_neg h2] at h1; cases h1
  · rw [if_neg hW] at h1; cases h1
theorem wf.up {c d : Nat} {L : List Int32} (h : wf c L) (g : c ≤ d) : wf d L := by
  obtain ⟨P, e, hP, hc⟩ := h
  exact ⟨P, e, hP, by omega⟩
theorem pK_wf {tx : Nat → Int32} {n p c : Nat} {w sw : Int32} {L : List Int32} (h : wf c L) (h1 : (pK tx n p w sw L).1 = true) : wf (c + 1) (pK tx n p w sw L).2.2.2.2 := by
  have h' := h.up (Nat.le_succ c)
  unfold pK at h1 ⊢
  by_cases e1 : pd tx n p = 119
  · rw [if_pos e1]; exact h'
  · rw [if_neg e1] at h1 ⊢
    by_cases e2 : pd tx n p = 115
    · rw [if_pos e2] at h1 ⊢
      by_cases e3 : pd tx n (p + 1) = 119
      · rw [if_pos e3]; exact h'
      · rw [if_neg e3] at h1 ⊢
        by_cases e4 : pd tx n (p + 1) = 116
        · rw [if_pos e4] at h1 ⊢
          have q : p + 1 < n := pd_lt (tx := tx) (by rw [e4]; decide)
          by_cases e5 : pd tx n (p + 2) = 114
          · rw [if_pos e5] at h1 ⊢; exact pM_wf (u := 3) (by decide) (Or.inl rfl) (by omega) h h1
          · rw [if_neg e5] at h1 ⊢; exact pM_wf (u := 4) (by decide) (Or.inr rfl) (by omega) h h1
        · rw [if_neg e4] at h1; cases h1
    · rw [if_neg e2] at h1; cases h1
theorem pR_wf {tx : Nat → Int32} {n : Nat} : ∀ (k c : Nat) (r : pB), wf c r.2.2.2.2 → (pR tx n k r).1 = true → wf (c + k) (pR tx n k r).2.2.2.2
  | 0, c, r, h, h1 => by
    unfold pR at h1 ⊢
    split at h1
    · rename_i g; rw [if_pos g]; exact h
    · cases h1
  | k + 1, c, r, h, h1 => by
    unfold pR at h1 ⊢
    split at h1
    · rename_i g; rw [if_pos g]; exact h.up (by omega)
    · rename_i g
      rw [if_neg g]
      split at h1
      · rename_i g2
        rw [if_pos g2]
        split at h1
        · rename_i g3
          rw [if_pos g3]
          exact (pR_wf k (c + 1) _ (pK_wf h g3) h1).up (by omega)
        · rename_i g3; exact absurd h1 g3
      · cases h1
theorem pAft_wf {tx : Nat → Int32} {n : Nat} (h : (pAft tx n).1 = true) : wf 10 (pAft tx n).2.2.2.2 := by
  have h0 : wf 0 [] := ⟨[], rfl, fun q hq => absurd hq List.not_mem_nil, Nat.le_refl _⟩
  unfold pAft at h ⊢
  split at h
  · rename_i g; rw [if_pos g]; exact (pR_wf 9 1 _ (pK_wf h0 g) h).up (by omega)
  · rename_i g; exact absurd h g
