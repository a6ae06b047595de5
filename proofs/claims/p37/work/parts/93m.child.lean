section
/-! what an E says: steps over a row of truths, the newest first; k a child's numbers: 0 its own, 1 kind, 2 v, 3 pieces, 4 sugar, 5 jaw, 6 bubble, 7 hair, 8 .. its row -/
def tst (s x : Int32) : Bool := if s / 8 % 4 = 0 then decide (x < s / 32) else if s / 8 % 4 = 1 then decide (x = s / 32) else decide (s / 32 < x)
def fv (k : Nat → Int32) (mi a : Int32) : Int32 := if a = 0 then k 0 else if a = 1 then k 1 else if a = 2 then k 2 else if a = 3 then k 3 else if a = 4 then k 4 / 10 else mi % 10
def stp (k : Nat → Int32) (mi s : Int32) (S : List Bool) : List Bool :=
  if 0 ≤ s.toInt then tst s (fv k mi (s % 8)) :: S
  else if s = -1 then match S with
    | a :: S => (!a) :: S
    | [] => []
  else match S with
    | a :: b :: S => (if s = -2 then b && a else b || a) :: S
    | S => S
def es (k : Nat → Int32) (mi : Int32) : List Int32 → List Bool → List Bool
  | [], S => S
  | s :: T, S => es k mi T (stp k mi s S)
/-- how many truths there are behind the steps, if all is well -/
def dr : List Int32 → Nat → Option Nat
  | [], d => some d
  | s :: T, d =>
    if 0 ≤ s.toInt then (if s.toInt % 8 < 6 ∧ s.toInt / 8 % 4 < 3 ∧ s.toInt / 32 < 100 ∧ d < 30 then dr T (d + 1) else none)
    else if s = -1 then (if 1 ≤ d then dr T d else none)
    else if s = -2 ∨ s = -3 then (if 2 ≤ d then dr T (d - 1) else none)
    else none
theorem dr_app : ∀ (S T : List Int32) (d : Nat), dr (S ++ T) d = (dr S d).bind (dr T)
  | [], T, d => rfl
  | s :: S, T, d => by
    show dr (s :: (S ++ T)) d = (dr (s :: S) d).bind (dr T)
    unfold dr
    repeat' split
    all_goals first | exact dr_app S T _ | rfl
/-- numbers of a step that tests -/
theorem tok_nums {s : Int32} (h0 : 0 ≤ s.toInt) (h1 : s.toInt % 8 < 6) (h2 : s.toInt / 8 % 4 < 3) (h3 : s.toInt / 32 < 100) : (0 ≤ (s % 8).toInt ∧ (s % 8).toInt < 6) ∧ cv s / 1000 = s % 8 ∧ cv s / 100 % 10 = s / 8 % 4 ∧ cv s % 100 = s / 32 ∧ 0 ≤ (cv s).toInt ∧ (s / 8 % 4 = 0 ∨ s / 8 % 4 = 1 ∨ s / 8 % 4 = 2) := by
  have k : ∀ a : Fin 6, ∀ b : Fin 3, ∀ v : Fin 100, (fun s : Int32 => (0 ≤ (s % 8).toInt ∧ (s % 8).toInt < 6) ∧ cv s / 1000 = s % 8 ∧ cv s / 100 % 10 = s / 8 % 4 ∧ cv s % 100 = s / 32 ∧ 0 ≤ (cv s).toInt ∧ (s / 8 % 4 = 0 ∨ s / 8 % 4 = 1 ∨ s / 8 % 4 = 2)) (Int32.ofNat (a.val + 8 * b.val + 32 * v.val)) := by decide +kernel
  have := k ⟨(s.toInt % 8).toNat, by omega⟩ ⟨(s.toInt / 8 % 4).toNat, by omega⟩ ⟨(s.toInt / 32).toNat, by omega⟩
  have e : Int32.ofNat ((s.toInt % 8).toNat + 8 * (s.toInt / 8 % 4).toNat + 32 * (s.toInt / 32).toNat) = s := by
    rw [show (s.toInt % 8).toNat + 8 * (s.toInt / 8 % 4).toNat + 32 * (s.toInt / 32).toNat = s.toInt.toNat by omega]
    exact gx_of h0
  exact e ▸ this
/-! the steps of an E bring one truth -/
theorem dr_one {s : Int32} {d : Nat} (h0 : 0 ≤ s.toInt) (h1 : s.toInt % 8 < 6) (h2 : s.toInt / 8 % 4 < 3) (h3 : s.toInt / 32 < 100) (hd : d < 30) : dr [s] d = some (d + 1) := by
  unfold dr; rw [if_pos h0, if_pos ⟨h1, h2, h3, hd⟩]; rfl
theorem dr_not {d : Nat} (h : 1 ≤ d) : dr [-1] d = some d := by
  unfold dr; rw [if_neg (by decide), if_pos rfl, if_pos h]; rfl
theorem dr_and {d : Nat} (h : 2 ≤ d) (T : List Int32) : dr (-2 :: T) d = dr T (d - 1) := by
  rw [dr, if_neg (by decide), if_neg (by decide), if_pos (Or.inl rfl), if_pos h]
theorem dr_or {d : Nat} (h : 2 ≤ d) : dr [-3] d = some (d - 1) := by
  rw [dr, if_neg (by decide), if_neg (by decide), if_pos (Or.inr rfl), if_pos h]; rfl
theorem pC_dr {c : Nat} : ∀ (w : Bool) (S : List (Bool × List Int32)) (d : Nat), (∀ q ∈ S, ∀ d : Nat, d + c ≤ 30 → dr q.2 d = some (d + 1)) → d + c + 2 ≤ 30 → dr (pC w S) (if w = true then d + 2 else d + 1) = some (d + 1)
  | true, [], d, _, hd => by
    show dr [-3] (d + 2) = _
    rw [dr_or (by omega)]; rfl
  | false, [], d, _, hd => rfl
  | w, (true, L) :: S, d, h, hd => by
    show dr ((if w = true then [-3] else []) ++ (L ++ pC true S)) _ = _
    have hL := h (true, L) List.mem_cons_self (d + 1) (by omega)
    have ih := pC_dr true S d (fun q hq => h q (List.mem_cons_of_mem _ hq)) hd
    rw [if_pos rfl] at ih
    cases w with
    | true =>
      rw [if_pos rfl, if_pos rfl, dr_app, dr_or (by omega)]
      show dr (L ++ pC true S) (d + 2 - 1) = _
      rw [dr_app, show d + 2 - 1 = d + 1 by omega, hL]
      exact ih
    | false =>
      rw [if_neg (by decide), if_neg (by decide), List.nil_append, dr_app, hL]
      exact ih
  | w, (false, L) :: S, d, h, hd => by
    show dr (L ++ ((-2 : Int32) :: pC w S)) _ = _
    have ih := pC_dr w S d (fun q hq => h q (List.mem_cons_of_mem _ hq)) hd
    cases w with
    | true =>
      rw [if_pos rfl] at ih ⊢
      rw [dr_app, h (false, L) List.mem_cons_self (d + 2) (by omega)]
      show dr ((-2 : Int32) :: pC true S) (d + 3) = _
      rw [dr_and (by omega)]
      exact ih
    | false =>
      rw [if_neg (by decide)] at ih ⊢
      rw [dr_app, h (false, L) List.mem_cons_self (d + 1) (by omega)]
      show dr ((-2 : Int32) :: pC false S) (d + 2) = _
      rw [dr_and (by omega)]
      exact ih
def dF (c : Nat) (F : Nat → pA) : Prop := ∀ p : Nat, (F p).1 = true → ∀ d : Nat, d + c ≤ 30 → dr (F p).2.2 d = some (d + 1)
theorem pS_dr {tx : Nat → Int32} {n c : Nat} {F : Nat → pA} (hF : dF c F) : ∀ (fu p : Nat), ∀ q ∈ (pS tx n F fu p).2.2, ∀ d : Nat, d + c ≤ 30 → dr q.2 d = some (d + 1)
  | 0, p => fun q hq => absurd hq List.not_mem_nil
  | fu + 1, p => by
    unfold pS
    split
    · split
      · rename_i h2
        intro q hq
        rcases List.mem_cons.mp hq with h | h
        · rw [h]; exact hF _ h2
        · exact pS_dr hF fu _ q h
      · exact fun q hq => absurd hq List.not_mem_nil
    · exact fun q hq => absurd hq List.not_mem_nil
theorem pE_dr {tx : Nat → Int32} {n c : Nat} {F : Nat → pA} (hF : dF c F) : dF (c + 2) (pE tx n F) := by
  intro p h d hd
  unfold pE at h ⊢
  by_cases f : (F p).1 = true
  · rw [if_pos f]
    show dr ((F p).2.2 ++ pC false _) d = _
    rw [dr_app, hF p f d (by omega)]
    have := pC_dr (c := c) false (pS tx n F (101 - (F p).2.1) (F p).2.1).2.2 d (pS_dr hF _ _) (by omega)
    rw [if_neg (by decide)] at this
    exact this
  · rw [if_neg f] at h; cases h
theorem pT_dr {tx : Nat → Int32} {n : Nat} : dF 1 (pT tx n) := by
  intro p h d hd
  by_cases hp : p ≤ n
  · unfold pT at h ⊢
    by_cases h1 : pO 5 (pd tx n p) = -1
    · rw [if_pos h1] at h; cases h
    · rw [if_neg h1] at h ⊢
      by_cases h2 : pO 6 (pd tx n (p + 1)) = -1
      · rw [if_pos h2] at h; cases h
      · rw [if_neg h2] at h ⊢
        by_cases h3 : (pN tx n (p + 2)).1 = true
        · rw [if_pos h3]
          have a := pO_b5 h1
          have b := pO_b6 h2
          have a1 := pd_lt a.2.2
          have b1 := pd_lt b.2.2
          have c := (pN_g (tx := tx) (n := n) (p := p + 2) (by omega)).2.2 h3
          have n1 : ((8 : Int32) * pO 6 (pd tx n (p + 1))).toInt = 8 * (pO 6 (pd tx n (p + 1))).toInt := gx_mul 8 rfl (by omega) (by omega)
          have n2 : ((32 : Int32) * (pN tx n (p + 2)).2.2).toInt = 32 * (pN tx n (p + 2)).2.2.toInt := gx_mul 32 rfl (by omega) (by omega)
          have n3 : (pO 5 (pd tx n p) + (8 : Int32) * pO 6 (pd tx n (p + 1))).toInt = (pO 5 (pd tx n p)).toInt + ((8 : Int32) * pO 6 (pd tx n (p + 1))).toInt := gx_add (by omega) (by omega)
          have n4 : ((pO 5 (pd tx n p) + (8 : Int32) * pO 6 (pd tx n (p + 1))) + (32 : Int32) * (pN tx n (p + 2)).2.2).toInt = (pO 5 (pd tx n p) + (8 : Int32) * pO 6 (pd tx n (p + 1))).toInt + ((32 : Int32) * (pN tx n (p + 2)).2.2).toInt := gx_add (by omega) (by omega)
          exact dr_one (by omega) (by omega) (by omega) (by omega) (by omega)
        · rw [if_neg h3] at h; cases h
  · rw [pT_over (by omega)] at h; cases h
theorem pF_dr {tx : Nat → Int32} {n : Nat} : ∀ e : Nat, dF (2 * e + 1) (pF tx n e)
  | 0 => by
    intro p h d hd
    rw [pF] at h ⊢
    replace h : (if pd tx n p = 33 ∨ pd tx n p = 40 then (false, p, []) else pT tx n p : pA).1 = true := h
    show dr (if pd tx n p = 33 ∨ pd tx n p = 40 then (false, p, []) else pT tx n p : pA).2.2 d = _
    split at h
    · cases h
    · rename_i g
      rw [if_neg g]; exact pT_dr p h d hd
  | e + 1 => by
    intro p h d hd
    have hE := pE_dr (tx := tx) (n := n) (pF_dr (tx := tx) (n := n) e) (p + 1)
    have hF := pF_dr (tx := tx) (n := n) e (p + 1)
    rw [pF] at h ⊢
    replace h : (if pd tx n p = 40 then (if (pE tx n (pF tx n e) (p + 1)).1 = true then (if pd tx n (pE tx n (pF tx n e) (p + 1)).2.1 = 41 then (true, (pE tx n (pF tx n e) (p + 1)).2.1 + 1, (pE tx n (pF tx n e) (p + 1)).2.2) else (false, (pE tx n (pF tx n e) (p + 1)).2.1, [])) else (false, (pE tx n (pF tx n e) (p + 1)).2.1, [])) else if pd tx n p = 33 then (if (pF tx n e (p + 1)).1 = true then (true, (pF tx n e (p + 1)).2.1, (pF tx n e (p + 1)).2.2 ++ [-1]) else (false, (pF tx n e (p + 1)).2.1, [])) else pT tx n p : pA).1 = true := h
    show dr (if pd tx n p = 40 then (if (pE tx n (pF tx n e) (p + 1)).1 = true then (if pd tx n (pE tx n (pF tx n e) (p + 1)).2.1 = 41 then (true, (pE tx n (pF tx n e) (p + 1)).2.1 + 1, (pE tx n (pF tx n e) (p + 1)).2.2) else (false, (pE tx n (pF tx n e) (p + 1)).2.1, [])) else (false, (pE tx n (pF tx n e) (p + 1)).2.1, [])) else if pd tx n p = 33 then (if (pF tx n e (p + 1)).1 = true then (true, (pF tx n e (p + 1)).2.1, (pF tx n e (p + 1)).2.2 ++ [-1]) else (false, (pF tx n e (p + 1)).2.1, [])) else pT tx n p : pA).2.2 d = _
    generalize pE tx n (pF tx n e) (p + 1) = r at *
    generalize pF tx n e (p + 1) = f at *
    by_cases h1 : pd tx n p = 40
    · rw [if_pos h1] at h ⊢
      by_cases h2 : r.1 = true
      · rw [if_pos h2] at h ⊢
        by_cases h3 : pd tx n r.2.1 = 41
        · rw [if_pos h3]; exact hE h2 d (by omega)
        · rw [if_neg h3] at h; cases h
      · rw [if_neg h2] at h; cases h
    · rw [if_neg h1] at h ⊢
      by_cases h2 : pd tx n p = 33
      · rw [if_pos h2] at h ⊢
        by_cases h3 : f.1 = true
        · rw [if_pos h3]
          show dr (f.2.2 ++ [-1]) d = _
          rw [dr_app, hF h3 d (by omega)]
          exact dr_not (by omega)
        · rw [if_neg h3] at h; cases h
      · rw [if_neg h2] at h ⊢
        exact pT_dr p h d (by omega)
/-! an afternoon's steps: an E's, and the change behind it, several times -/
def fl : List (List Int32 × Int32) → List Int32
  | [] => []
  | q :: P => (q.1 ++ [q.2]) ++ fl P
def okP (P : List (List Int32 × Int32)) : Prop := ∀ q ∈ P, dr q.1 0 = some 1 ∧ tkn q.1 ∧ q.2.toInt ≤ -10 ∧ -99 ≤ (amt q.2).toInt ∧ (amt q.2).toInt ≤ 99
theorem fl_app : ∀ (P Q : List (List Int32 × Int32)), fl (P ++ Q) = fl P ++ fl Q
  | [], Q => rfl
  | q :: P, Q => by
    show (q.1 ++ [q.2]) ++ fl (P ++ Q) = ((q.1 ++ [q.2]) ++ fl P) ++ fl Q
    rw [fl_app P Q]
    exact (List.append_assoc _ _ _).symm
def wf (c : Nat) (L : List Int32) : Prop := ∃ P : List (List Int32 × Int32), L = fl P ∧ okP P ∧ P.length ≤ c
theorem pM_wf {tx : Nat → Int32} {n : Nat} {u : UInt32} (hu : gm_isS u) {kd : Int32} (hk : kd = -10 ∨ kd = -200) {p c : Nat} (hp : p ≤ n) {w sw : Int32} {L : List Int32} (h : wf c L) (h1 : (pM tx n u kd p w sw L).1 = true) : wf (c + 1) (pM tx n u kd p w sw L).2.2.2.2 := by
  obtain ⟨P, e, hP, hc⟩ := h
  unfold pM at h1 ⊢
  by_cases hW : (pWN tx n u p).1 = true
  · rw [if_pos hW] at h1 ⊢
    have gW := (pWN_g (tx := tx) hu hp).2.2 hW
    by_cases h2 : pd tx n (pWN tx n u p).2.1 = 32
    · rw [if_pos h2] at h1 ⊢
      replace h1 : (pE tx n (pF tx n 5) ((pWN tx n u p).2.1 + 1)).1 = true := h1
      have ht : tkn (pE tx n (pF tx n 5) ((pWN tx n u p).2.1 + 1)).2.2 := pE_tk (fun p => pF_tk 5 p) _
      have hd := pE_dr (tx := tx) (n := n) (pF_dr (tx := tx) (n := n) 5) ((pWN tx n u p).2.1 + 1) h1 0 (by omega)
      refine ⟨P ++ [((pE tx n (pF tx n 5) ((pWN tx n u p).2.1 + 1)).2.2, kd - (pWN tx n u p).2.2)], ?_, ?_, by rw [List.length_append, List.length_singleton]; omega⟩
      · show (L ++ _) ++ [_] = _
        rw [fl_app, e, List.append_assoc]
        show _ = fl P ++ ((_ ++ [_]) ++ [])
        rw [List.append_nil]
      · intro q hq
        rcases List.mem_append.mp hq with g | g
        · exact hP q g
        · rw [List.mem_singleton.mp g]
          have ka := amt_k gW.2
          have nx : (-(pWN tx n u p).2.2).toInt = -(pWN tx n u p).2.2.toInt := by
            rw [← ka.2.1]
            unfold amt
            have l200 : (200 : Int32).toInt = 200 := rfl
            have lm : (-200 : Int32).toInt = -200 := rfl
            have s1 : ((-200 : Int32) - (pWN tx n u p).2.2).toInt = (-200 : Int32).toInt - (pWN tx n u p).2.2.toInt := gx_sub (by omega) (by omega)
            rw [if_neg (by omega), gx_add (by omega) (by omega)]; omega
          rcases hk with rfl | rfl
          · exact ⟨hd, ht, ka.1.2, by show -99 ≤ (amt (-10 - _)).toInt; rw [ka.1.1]; omega, by show (amt (-10 - _)).toInt ≤ 99; rw [ka.1.1]; omega⟩
          · exact ⟨hd, ht, ka.2.2, by show -99 ≤ (amt (-200 - _)).toInt; rw [ka.2.1]; omega, by show (amt (-200 - _)).toInt ≤ 99; rw [ka.2.1]; omega⟩
    · rw [if_neg h2] at h1; cases h1
  · rw [if_neg hW] at h1; cases h1
theorem wf.up {c d : Nat} {L : List Int32} (h : wf c L) (g : c ≤ d) : wf d L := by
  obtain ⟨P, e, hP, hc⟩ := h
  exact ⟨P, e, hP, by omega⟩
theorem pK_wf {tx : Nat → Int32} {n p c : Nat} {w sw : Int32} {L : List Int32} (h : wf c L) (h1 : (pK tx n p w sw L).1 = true) : wf (c + 1) (pK tx n p w sw L).2.2.2.2 := by
  have h' := h.up (Nat.le_succ c)
  unfold pK at h1 ⊢
  by_cases e1 : pd tx n p = 119
  · rw [if_pos e1]; exact h'
  · rw [if_neg e1] at h1 ⊢
    by_cases e2 : pd tx n p = 115
    · rw [if_pos e2] at h1 ⊢
      by_cases e3 : pd tx n (p + 1) = 119
      · rw [if_pos e3]; exact h'
      · rw [if_neg e3] at h1 ⊢
        by_cases e4 : pd tx n (p + 1) = 116
        · rw [if_pos e4] at h1 ⊢
          have q : p + 1 < n := pd_lt (tx := tx) (by rw [e4]; decide)
          by_cases e5 : pd tx n (p + 2) = 114
          · rw [if_pos e5] at h1 ⊢; exact pM_wf (u := 3) (by decide) (Or.inl rfl) (by omega) h h1
          · rw [if_neg e5] at h1 ⊢; exact pM_wf (u := 4) (by decide) (Or.inr rfl) (by omega) h h1
        · rw [if_neg e4] at h1; cases h1
    · rw [if_neg e2] at h1; cases h1
theorem pR_wf {tx : Nat → Int32} {n : Nat} : ∀ (k c : Nat) (r : pB), wf c r.2.2.2.2 → (pR tx n k r).1 = true → wf (c + k) (pR tx n k r).2.2.2.2
  | 0, c, r, h, h1 => by
    unfold pR at h1 ⊢
    split at h1
    · rename_i g; rw [if_pos g]; exact h
    · cases h1
  | k + 1, c, r, h, h1 => by
    unfold pR at h1 ⊢
    split at h1
    · rename_i g; rw [if_pos g]; exact h.up (by omega)
    · rename_i g
      rw [if_neg g]
      split at h1
      · rename_i g2
        rw [if_pos g2]
        split at h1
        · rename_i g3
          rw [if_pos g3]
          exact (pR_wf k (c + 1) _ (pK_wf h g3) h1).up (by omega)
        · rename_i g3; exact absurd h1 g3
      · cases h1
theorem pAft_wf {tx : Nat → Int32} {n : Nat} (h : (pAft tx n).1 = true) : wf 10 (pAft tx n).2.2.2.2 := by
  have h0 : wf 0 [] := ⟨[], rfl, fun q hq => absurd hq List.not_mem_nil, Nat.le_refl _⟩
  unfold pAft at h ⊢
  split at h
  · rename_i g; rw [if_pos g]; exact (pR_wf 9 1 _ (pK_wf h0 g) h).up (by omega)
  · rename_i g; exact absurd h g
end
section
/-! the class: a row of truths as bits, the newest lowest -/
def RB (t : Int32) (S : List Bool) : Prop := ∀ (i : Nat) (b : Bool), S[i]? = some b → t.toBitVec.getLsbD i = b
theorem sh1 : ((1 : Int32) &&& 31).toBitVec.smod 32 = 1#32 := by decide
theorem bit1 (i : Nat) : (1 : Int32).toBitVec.getLsbD i = decide (i = 0) := by
  show (1#32).getLsbD i = _
  rw [BitVec.getLsbD_one]; simp
theorem bit_shl (t : Int32) {i : Nat} (h : i < 31) : (t <<< ((1 : Int32) &&& 31)).toBitVec.getLsbD (i + 1) = t.toBitVec.getLsbD i := by
  rw [Int32.toBitVec_shiftLeft, sh1]
  show (t.toBitVec <<< (1 : Nat)).getLsbD (i + 1) = _
  rw [BitVec.getLsbD_shiftLeft, decide_eq_true (show i + 1 < 32 by omega), decide_eq_false (show ¬ i + 1 < 1 by omega), Nat.add_sub_cancel]
  rfl
theorem bit_shl0 (t : Int32) : (t <<< ((1 : Int32) &&& 31)).toBitVec.getLsbD 0 = false := by
  rw [Int32.toBitVec_shiftLeft, sh1]
  show (t.toBitVec <<< (1 : Nat)).getLsbD 0 = _
  rw [BitVec.getLsbD_shiftLeft, decide_eq_true (show 0 < 1 by omega)]
  simp
theorem bit_shr (t : Int32) {i : Nat} (h : i < 31) : (t >>> ((1 : Int32) &&& 31)).toBitVec.getLsbD i = t.toBitVec.getLsbD (i + 1) := by
  rw [Int32.toBitVec_shiftRight, sh1]
  show (t.toBitVec.sshiftRight 1).getLsbD i = _
  rw [BitVec.getLsbD_sshiftRight, decide_eq_false (show ¬ 32 ≤ i by omega), if_pos (show 1 + i < 32 by omega), Nat.add_comm 1 i]
  rfl
theorem bw_bit (b : Bool) (i : Nat) : (bw b).toBitVec.getLsbD i = (decide (i = 0) && b) := by
  cases b with
  | true => show (1 : Int32).toBitVec.getLsbD i = _; rw [bit1, Bool.and_true]
  | false => show (0#32).getLsbD i = _; simp
theorem RB.hd {t : Int32} {a : Bool} {S : List Bool} (h : RB t (a :: S)) : t.toBitVec.getLsbD 0 = a := h 0 a rfl
theorem RB.tl {t : Int32} {a : Bool} {S : List Bool} (h : RB t (a :: S)) {i : Nat} {b : Bool} (e : S[i]? = some b) : t.toBitVec.getLsbD (i + 1) = b := h (i + 1) b e
theorem RB.nil (t : Int32) : RB t [] := fun i b h => by cases h
theorem RB.len {S : List Bool} {i : Nat} {b : Bool} (e : S[i]? = some b) : i < S.length := (List.getElem?_eq_some_iff.mp e).1
theorem RB.push {t : Int32} {S : List Bool} (h : RB t S) (hl : S.length ≤ 30) (a : Bool) : RB ((t <<< ((1 : Int32) &&& 31)) ||| bw a) (a :: S) := fun i b e => by
  rw [Int32.toBitVec_or, BitVec.getLsbD_or, bw_bit]
  cases i with
  | zero =>
    injection e with e
    rw [bit_shl0, e]; rfl
  | succ i =>
    replace e : S[i]? = some b := e
    have := RB.len e
    rw [bit_shl t (by omega), h i b e]
    simp
theorem RB.not {t : Int32} {a : Bool} {S : List Bool} (h : RB t (a :: S)) : RB (t ^^^ 1) ((!a) :: S) := fun i b e => by
  rw [Int32.toBitVec_xor, BitVec.getLsbD_xor, bit1]
  cases i with
  | zero =>
    injection e with e
    rw [h.hd, ← e]; simp
  | succ i =>
    rw [h.tl e]; simp
theorem RB.or {t : Int32} {a b : Bool} {S : List Bool} (h : RB t (a :: b :: S)) (hl : S.length ≤ 28) : RB ((t >>> ((1 : Int32) &&& 31)) ||| (t &&& 1)) ((b || a) :: S) := fun i c e => by
  rw [Int32.toBitVec_or, BitVec.getLsbD_or, Int32.toBitVec_and, BitVec.getLsbD_and, bit1]
  cases i with
  | zero =>
    injection e with e
    rw [bit_shr t (by omega), h.hd, h.tl (i := 0) rfl, ← e]; simp
  | succ i =>
    replace e : S[i]? = some c := e
    have := RB.len e
    rw [bit_shr t (by omega), h.tl (i := i + 1) e]; simp
theorem RB.and1 {t : Int32} {b : Bool} {S : List Bool} (h : RB t (true :: b :: S)) (hl : S.length ≤ 28) : RB (t >>> ((1 : Int32) &&& 31)) ((b && true) :: S) := fun i c e => by
  cases i with
  | zero =>
    injection e with e
    rw [bit_shr t (by omega), h.tl (i := 0) rfl, ← e]; simp
  | succ i =>
    replace e : S[i]? = some c := e
    have := RB.len e
    rw [bit_shr t (by omega), h.tl (i := i + 1) e]
theorem bitm2 {i : Nat} (h : i < 32) : (-2 : Int32).toBitVec.getLsbD i = !decide (i = 0) := by
  have k : ∀ i : Fin 32, (-2 : Int32).toBitVec.getLsbD i.val = !decide (i.val = 0) := by decide
  exact k ⟨i, h⟩
theorem RB.and0 {t : Int32} {b : Bool} {S : List Bool} (h : RB t (false :: b :: S)) (hl : S.length ≤ 28) : RB ((t >>> ((1 : Int32) &&& 31)) &&& (-2)) ((b && false) :: S) := fun i c e => by
  have hi : i < 31 := by
    have := RB.len e
    rw [List.length_cons] at this
    omega
  rw [Int32.toBitVec_and, BitVec.getLsbD_and, bitm2 (by omega), bit_shr t hi]
  cases i with
  | zero =>
    injection e with e
    rw [← e]; simp
  | succ i =>
    rw [h.tl (i := i + 1) e]; simp
theorem bit_is {t : Int32} {a : Bool} (h : t.toBitVec.getLsbD 0 = a) : t &&& 1 = bw a := by
  have : (t &&& 1).toBitVec = (bw a).toBitVec := by
    apply BitVec.eq_of_getLsbD_eq
    intro i hi
    rw [Int32.toBitVec_and, BitVec.getLsbD_and, bit1, bw_bit]
    by_cases e : i = 0
    · subst e; rw [h]; simp
    · simp [e]
  exact Int32.toBitVec_inj.mp this
/-! a child as twelve numbers -/
def kC (μ : gm_M) (t j : Nat) : Int32 := if j = 1 then Int32.ofNat (μ.2.2 t 1 - 8) else if j < 8 then μ.2.1 t j else if j < 12 then μ.2.1 (t + 1) (j - 8) else 0
def KD (μ : gm_M) : Prop := ∀ i : Nat, i < 7 → μ.2.1 (8 + i) 0 = Int32.ofNat i
theorem KD.at {μ : gm_M} (h : KD μ) {a : Nat} (p : kid a) : μ.2.1 a 0 = Int32.ofNat (a - 8) := by
  obtain ⟨p1, p2⟩ := p
  have := h (a - 8) (by omega)
  rwa [show 8 + (a - 8) = a by omega] at this
def vt (s : Int32) : Prop := 0 ≤ s.toInt ∧ s.toInt % 8 < 6 ∧ s.toInt / 8 % 4 < 3 ∧ s.toInt / 32 < 100
theorem v_passes {μ : gm_M} (hg : gS μ) (hn : KD μ) {t : Nat} (ht : ict t) (hk : kid (μ.2.2 t 1)) {s : Int32} (hs : vt s) (mi : Int32) : gwI (f_X0_passes (cv s) t mi μ) (fun x m => x = bw (tst s (fv (kC μ t) mi (s % 8))) ∧ m = μ) := by
  obtain ⟨⟨a0, a1⟩, e0, e1, e2, -, e4⟩ := tok_nums hs.1 hs.2.1 hs.2.2.1 hs.2.2.2
  have l100 : (100 : Int32).toInt = 100 := rfl
  have l1000 : (1000 : Int32).toInt = 1000 := rfl
  have l10 : (10 : Int32).toInt = 10 := rfl
  refine gwI_of ?_
  unfold f_X0_passes
  have q1 : cv s - cv s / 100 * 100 = s / 32 := by rw [gx_mod]; exact e2
  have q2 : cv s / 100 - cv s / 100 / 10 * 10 = s / 8 % 4 := by rw [gx_mod]; exact e1
  rw [q1, q2, e0]
  refine gw_dv (by omega) ?_
  refine gw_j (fun x => x = fv (kC μ t) mi (s % 8)) (fun x hx => ?_) (fun j hj => ?_)
  · subst hx
    refine gw_dv (by omega) ?_
    refine gw_dv (by omega) ?_
    refine gw_dv (by omega) ?_
    generalize fv (kC μ t) mi (s % 8) = x
    refine gw_ite (fun g => ?_) (fun g => ?_)
    · refine gw_ite (fun g2 => ?_) (fun g2 => ?_)
      · refine gw_z Iff.rfl (Or.inl rfl) (gq_I ⟨?_, rfl⟩)
        unfold tst
        rw [if_pos g, decide_eq_false (by rw [Int32.not_lt]; exact g2)]; rfl
      · refine gw_z Iff.rfl (Or.inr rfl) (gq_I ⟨?_, rfl⟩)
        unfold tst
        rw [if_pos g, decide_eq_true (by rw [Int32.not_le] at g2; exact g2)]; rfl
    · refine gw_ite (fun g1 => ?_) (fun g1 => ?_)
      · refine gw_ite (fun g2 => ?_) (fun g2 => ?_)
        · refine gw_z Iff.rfl (Or.inl rfl) (gq_I ⟨?_, rfl⟩)
          unfold tst
          rw [if_neg g, if_pos g1, decide_eq_false g2]; rfl
        · refine gw_z Iff.rfl (Or.inr rfl) (gq_I ⟨?_, rfl⟩)
          unfold tst
          rw [if_neg g, if_pos g1, decide_eq_true (Decidable.not_not.mp g2)]; rfl
      · refine gw_ite (fun g2 => ?_) (fun g2 => ?_)
        · refine gw_z Iff.rfl (Or.inl rfl) (gq_I ⟨?_, rfl⟩)
          unfold tst
          rw [if_neg g, if_neg g1, decide_eq_false (by rw [Int32.not_lt]; exact g2)]; rfl
        · refine gw_z Iff.rfl (Or.inr rfl) (gq_I ⟨?_, rfl⟩)
          unfold tst
          rw [if_neg g, if_neg g1, decide_eq_true (by rw [Int32.not_le] at g2; exact g2)]; rfl
  · generalize s % 8 = a at *
    refine gw_ite (fun g => ?_) (fun g => ?_)
    · refine gw_gIw (ict.c hg ht) ?_
      exact hj _ (by rw [fv, if_pos g]; rfl)
    · refine gw_ite (fun g1 => ?_) (fun g1 => ?_)
      · refine gw_gR (ict.c hg ht) (fun q eq => ?_)
        rw [← eq] at hk
        refine gw_gIw (hk.c hg) ?_
        refine hj _ ?_
        rw [hn.at hk, fv, if_neg g, if_pos g1, eq]; rfl
      · refine gw_ite (fun g2 => ?_) (fun g2 => ?_)
        · refine gw_gIw (ict.c hg ht) ?_
          exact hj _ (by rw [fv, if_neg g, if_neg g1, if_pos g2]; rfl)
        · refine gw_ite (fun g3 => ?_) (fun g3 => ?_)
          · refine gw_gIw (ict.c hg ht) ?_
            exact hj _ (by rw [fv, if_neg g, if_neg g1, if_neg g2, if_pos g3]; rfl)
          · refine gw_ite (fun g4 => ?_) (fun g4 => ?_)
            · refine gw_gIw (ict.c hg ht) ?_
              refine gw_dv (by omega) ?_
              exact hj _ (by rw [fv, if_neg g, if_neg g1, if_neg g2, if_neg g3, if_pos g4]; rfl)
            · refine gw_dv (by omega) ?_
              exact hj _ (by rw [fv, if_neg g, if_neg g1, if_neg g2, if_neg g3, if_neg g4, gx_mod])
theorem es_len {k : Nat → Int32} {mi : Int32} : ∀ (T : List Int32) (S : List Bool) (d : Nat), dr T S.length = some d → (es k mi T S).length = d
  | [], S, d, h => by injection h
  | s :: T, S, d, h => by
    show (es k mi T (stp k mi s S)).length = d
    refine es_len T _ d ?_
    rw [dr] at h
    unfold stp
    by_cases h0 : 0 ≤ s.toInt
    · rw [if_pos h0] at h ⊢
      split at h
      · exact h
      · cases h
    · rw [if_neg h0] at h ⊢
      by_cases h1 : s = -1
      · rw [if_pos h1] at h ⊢
        split at h
        · rename_i g
          cases S with
          | nil => exact absurd g (by decide)
          | cons a S => exact h
        · cases h
      · rw [if_neg h1] at h ⊢
        split at h
        · split at h
          · rename_i g2
            cases S with
            | nil => exact absurd g2 (by decide)
            | cons a S =>
              cases S with
              | nil => exact absurd (show 2 ≤ 1 from g2) (by decide)
              | cons b S => exact h
          · cases h
        · cases h
theorem v_isSo {μ : gm_M} (hg : gS μ) (hn : KD μ) {A t : Nat} (hA : AfW μ A) (ht : ict t) (hk : kid (μ.2.2 t 1)) {T : List Int32} {o : Nat} (ho : o + T.length ≤ 100) (hT : dr T 0 = some 1) (hc : ∀ i : Nat, i < T.length → (T.map cv)[i]? = some (μ.2.1 (A + 3) (o + i))) (mi : Int32) : gwI (f_X0_isSo A (Int32.ofNat o) (Int32.ofNat (o + T.length)) t mi μ) (fun x m => x = bw ((es (kC μ t) mi T []).headD false) ∧ m = μ) := by
  refine gwI_of ?_
  unfold f_X0_isSo
  have l1 : (1 : Int32).toInt = 1 := rfl
  have oT := ofn (k := o + T.length) (by omega)
  refine gw_loop (fun s => s.2.2 = μ ∧ ∃ (i : Nat) (S : List Bool), s.2.1 = Int32.ofNat (o + i) ∧ i ≤ T.length ∧ RB s.1 S ∧ dr (T.drop i) S.length = some 1 ∧ es (kC μ t) mi (T.drop i) S = es (kC μ t) mi T [] ∧ S.length ≤ 30) (fun s => 200 - s.2.1.toInt) (fun s hs => ?_) 5000 ((0 : Int32), Int32.ofNat o, μ) ⟨rfl, 0, [], rfl, Nat.zero_le _, RB.nil _, hT, rfl, Nat.zero_le _⟩ (by show 200 - (Int32.ofNat o).toInt < ((5000 : Nat) : Int); rw [ofn (by omega)]; omega) (by show 0 ≤ 200 - (Int32.ofNat o).toInt; rw [ofn (by omega)]; omega)
  obtain ⟨s1, s2, s3⟩ := s
  obtain ⟨em, i, S, ei, hi, hR, hd, he, h30⟩ := hs
  replace em : s3 = μ := em
  replace ei : s2 = Int32.ofNat (o + i) := ei
  replace hR : RB s1 S := hR
  subst em
  subst ei
  have oi := ofn (k := o + i) (by omega)
  refine gw_le (fun g => ?_) (fun g => ?_)
  · replace g : (Int32.ofNat (o + T.length)).toInt ≤ (Int32.ofNat (o + i)).toInt := g
    rw [List.drop_eq_nil_of_le (show T.length ≤ i by omega)] at hd he
    injection hd with hd
    rw [← he]
    show gw (if (s1 &&& (1 : Int32)) ≠ (1 : Int32) then _ else _) _
    cases S with
    | nil => cases hd
    | cons a S =>
      rw [bit_is hR.hd]
      cases a with
      | true => rw [if_neg (by decide)]; exact gw_z Iff.rfl (Or.inr rfl) (gs_inr (gq_I ⟨rfl, rfl⟩))
      | false => rw [if_pos (by decide)]; exact gw_z Iff.rfl (Or.inl rfl) (gs_inr (gq_I ⟨rfl, rfl⟩))
  · replace g : (Int32.ofNat (o + i)).toInt < (Int32.ofNat (o + T.length)).toInt := g
    have hlt : i < T.length := by omega
    have eT : T.drop i = T[i] :: T.drop (i + 1) := List.drop_eq_getElem_cons hlt
    have ec := hc i hlt
    rw [List.getElem?_map, List.getElem?_eq_getElem hlt] at ec
    injection ec with ec
    rw [eT] at hd he
    generalize T[i] = s at *
    refine gw_gRa (A + 3) hA.tc hA.r3 ?_
    refine gw_aIw (o + i) hA.t3 hA.l3 oi (by omega) ?_
    rw [← ec]
    have nx : ∀ (x : Int32) (S' : List Bool), RB x S' → dr (T.drop (i + 1)) S'.length = some 1 → stp (kC s3 t) mi s S = S' → S'.length ≤ 30 → gw (some (Sum.inl (x, Int32.ofNat (o + i) + 1, s3)) : Option ((Int32 × Int32 × gm_M) ⊕ (Option Value × gm_M))) (gs_st (fun s => s.2.2 = s3 ∧ ∃ (i : Nat) (S : List Bool), s.2.1 = Int32.ofNat (o + i) ∧ i ≤ T.length ∧ RB s.1 S ∧ dr (T.drop i) S.length = some 1 ∧ es (kC s3 t) mi (T.drop i) S = es (kC s3 t) mi T [] ∧ S.length ≤ 30) (fun s => 200 - s.2.1.toInt) (s1, Int32.ofNat (o + i), s3) (gqI (fun x m => x = bw ((es (kC s3 t) mi T []).headD false) ∧ m = s3))) := fun x S' h1 h2 h3 h4 => by
      refine gw_some (gs_inl ⟨rfl, i + 1, S', ofn1 (by omega), hlt, h1, h2, ?_, h4⟩ ?_ ?_)
      · rw [← he, ← h3]; rfl
      · show 200 - (Int32.ofNat (o + i) + 1).toInt < 200 - (Int32.ofNat (o + i)).toInt
        rw [ofn1 (by omega), ofn (k := o + i + 1) (by omega)]; omega
      · show 0 ≤ 200 - (Int32.ofNat (o + i) + 1).toInt
        rw [ofn1 (by omega), ofn (k := o + i + 1) (by omega)]; omega
    refine gw_j (fun q => q.2 = s3 ∧ ∃ S' : List Bool, RB q.1 S' ∧ dr (T.drop (i + 1)) S'.length = some 1 ∧ stp (kC s3 t) mi s S = S' ∧ S'.length ≤ 30) (fun q ⟨e1, S', h1, h2, h3, h4⟩ => by
      obtain ⟨q1, q2⟩ := q
      replace e1 : q2 = s3 := e1
      subst e1
      exact nx q1 S' h1 h2 h3 h4) (fun j hj => ?_)
    by_cases h0 : 0 ≤ s.toInt
    · rw [dr, if_pos h0] at hd
      split at hd
      · rename_i v
        have tn := tok_nums h0 v.1 v.2.1 v.2.2.1
        have lm1 : (-1 : Int32).toInt = -1 := rfl
        have lm2 : (-2 : Int32).toInt = -2 := rfl
        have lm3 : (-3 : Int32).toInt = -3 := rfl
        have c0 := tn.2.2.2.2.1
        rw [if_pos (show cv s ≠ -1 from fun e => by rw [e] at c0; omega), if_pos (show cv s ≠ -2 from fun e => by rw [e] at c0; omega), if_pos (show cv s ≠ -3 from fun e => by rw [e] at c0; omega)]
        refine gw_bI (v_passes hg hn ht hk ⟨h0, v.1, v.2.1, v.2.2.1⟩ mi) (fun x7 m6 ⟨ex, em⟩ => ?_)
        subst em
        subst ex
        refine gw_j (fun z => z = bw (tst s (fv (kC m6 t) mi (s % 8)))) (fun z ez => ?_) (fun j9 hj9 => ?_)
        · subst ez
          refine hj _ ⟨rfl, _, hR.push h30 _, ?_, by unfold stp; rw [if_pos h0], ?_⟩
          · exact hd
          · rw [List.length_cons]; omega
        · cases hb : tst s (fv (kC m6 t) mi (s % 8)) with
          | true => rw [if_neg (by decide)]; exact hj9 _ (by rw [hb]; rfl)
          | false => rw [if_pos (show bw false = 0 from rfl)]; exact hj9 _ (by rw [hb]; rfl)
      · cases hd
    · rw [dr, if_neg h0] at hd
      rw [cv_neg (by omega)]
      by_cases h1 : s = -1
      · rw [if_pos h1] at hd
        split at hd
        · subst h1
          rw [if_neg (by decide)]
          cases S with
          | nil => rename_i gg; exact absurd gg (by decide)
          | cons a S => exact hj _ ⟨rfl, _, hR.not, hd, rfl, h30⟩
        · cases hd
      · rw [if_neg h1] at hd
        rw [if_pos h1]
        split at hd
        · rename_i h23
          split at hd
          · rename_i h2
            cases S with
            | nil => exact absurd h2 (by decide)
            | cons a S =>
              cases S with
              | nil => exact absurd (show 2 ≤ 1 from h2) (by decide)
              | cons b S =>
                have hlS : S.length ≤ 28 := by
                  rw [List.length_cons, List.length_cons] at h30
                  omega
                rcases h23 with e | e
                · subst e
                  rw [if_neg (by decide)]
                  refine gw_j (fun z => RB z ((b && a) :: S)) (fun z hz => hj _ ⟨rfl, _, hz, hd, rfl, by rw [List.length_cons]; omega⟩) (fun j11 hj11 => ?_)
                  show gw (if (s1 &&& (1 : Int32)) ≠ (1 : Int32) then _ else _) _
                  rw [bit_is hR.hd]
                  cases a with
                  | true => rw [if_neg (by decide)]; exact hj11 _ (hR.and1 hlS)
                  | false => rw [if_pos (by decide)]; exact hj11 _ (hR.and0 hlS)
                · subst e
                  rw [if_pos (by decide), if_neg (by decide)]
                  exact hj _ ⟨rfl, _, hR.or hlS, hd, rfl, by rw [List.length_cons]; omega⟩
          · cases hd
        · cases hd
end
section
/-! stretch, on both sides: P the changes, each behind its E's steps -/
def cSum (k : Nat → Int32) (mi : Int32) : List (List Int32 × Int32) → Int32 → Int32
  | [], a => a
  | q :: P, a => cSum k mi P (if (es k mi q.1 []).headD false = true then a + amt q.2 else a)
theorem cSum_add {k : Nat → Int32} {mi : Int32} (b : Int32) : ∀ (P : List (List Int32 × Int32)) (a : Int32), cSum k mi P (b + a) = b + cSum k mi P a
  | [], a => rfl
  | q :: P, a => by
    show cSum k mi P (if (es k mi q.1 []).headD false = true then b + a + amt q.2 else b + a) = b + cSum k mi P (if (es k mi q.1 []).headD false = true then a + amt q.2 else a)
    rw [← cSum_add b P]
    split
    · rw [Int32.add_assoc]
    · rfl
theorem cSum_b {k : Nat → Int32} {mi : Int32} : ∀ (P : List (List Int32 × Int32)) (a : Int32) (n : Nat), okP P → P.length + n ≤ 100 → -99 * (n : Int) ≤ a.toInt → a.toInt ≤ 99 * n → -9900 ≤ (cSum k mi P a).toInt ∧ (cSum k mi P a).toInt ≤ 9900
  | [], a, n, _, h, h1, h2 => by
    rw [List.length_nil] at h
    exact ⟨by show -9900 ≤ a.toInt; omega, by show a.toInt ≤ 9900; omega⟩
  | q :: P, a, n, ok, h, h1, h2 => by
    rw [List.length_cons] at h
    obtain ⟨-, -, -, o1, o2⟩ := ok q List.mem_cons_self
    refine cSum_b P _ (n + 1) (fun x hx => ok x (List.mem_cons_of_mem _ hx)) (by omega) ?_ ?_
    · split
      · rw [gx_add (by omega) (by omega)]; omega
      · omega
    · split
      · rw [gx_add (by omega) (by omega)]; omega
      · omega
def cSt (k : Nat → Int32) (mi : Int32) (P : List (List Int32 × Int32)) : Int32 := if 1 < cSum k mi P 30 then cSum k mi P 30 else 1
/-! where in the class's arrays a change stands -/
def offs (P : List (List Int32 × Int32)) : Nat := (cds (fl P)).length
theorem cds_q {q : List Int32 × Int32} (h : tkn q.1) (h2 : q.2.toInt ≤ -10) : cds (q.1 ++ [q.2]) = q.1.map cv := by
  rw [cds_app, cds_all h]
  have : cds [q.2] = [] := by
    unfold cds; rw [List.filter_cons_of_neg (by rw [decide_eq_true_eq]; omega)]; rfl
  rw [this, List.append_nil]
theorem chs_q {q : List Int32 × Int32} (h : tkn q.1) (h2 : q.2.toInt ≤ -10) (k : Nat) : chs (q.1 ++ [q.2]) k = [(amt q.2, k + q.1.length)] := by
  rw [chs_app, chs_all h, cds_all h, List.length_map]
  show [] ++ (if -10 < q.2.toInt then _ else _) = _
  rw [if_neg (by omega)]; rfl
theorem chs_fl : ∀ (P : List (List Int32 × Int32)) (k : Nat), okP P → (chs (fl P) k).length = P.length
  | [], _, _ => rfl
  | q :: P, k, h => by
    have ⟨_, h1, h2, _⟩ := h q List.mem_cons_self
    show (chs ((q.1 ++ [q.2]) ++ fl P) k).length = _
    rw [chs_app, List.length_append, chs_q h1 h2, chs_fl P _ (fun x hx => h x (List.mem_cons_of_mem _ hx)), List.length_singleton, List.length_cons]; omega
theorem okP.app {P Q : List (List Int32 × Int32)} (h : okP (P ++ Q)) : okP P ∧ okP Q := ⟨fun q hq => h q (List.mem_append_left _ hq), fun q hq => h q (List.mem_append_right _ hq)⟩
theorem at_chs {P1 P2 : List (List Int32 × Int32)} {q : List Int32 × Int32} (h : okP (P1 ++ q :: P2)) : (chs (fl (P1 ++ q :: P2)) 0)[P1.length]? = some (amt q.2, offs P1 + q.1.length) := by
  obtain ⟨o1, o2⟩ := h.app
  have ⟨_, h1, h2, _⟩ := o2 q List.mem_cons_self
  rw [fl_app, chs_app, List.getElem?_append_right (by rw [chs_fl P1 0 o1]; exact Nat.le_refl _), chs_fl P1 0 o1, Nat.sub_self]
  show (chs ((q.1 ++ [q.2]) ++ fl P2) (0 + (cds (fl P1)).length))[0]? = _
  rw [chs_app, chs_q h1 h2, Nat.zero_add]; rfl
theorem at_cds {P1 P2 : List (List Int32 × Int32)} {q : List Int32 × Int32} (h : okP (P1 ++ q :: P2)) {i : Nat} (hi : i < q.1.length) : (cds (fl (P1 ++ q :: P2)))[offs P1 + i]? = (q.1.map cv)[i]? := by
  obtain ⟨o1, o2⟩ := h.app
  have ⟨_, h1, h2, _⟩ := o2 q List.mem_cons_self
  rw [fl_app, cds_app, List.getElem?_append_right (by unfold offs; omega), show offs P1 + i - (cds (fl P1)).length = i by unfold offs; omega]
  show (cds ((q.1 ++ [q.2]) ++ fl P2))[i]? = _
  rw [cds_app, cds_q h1 h2, List.getElem?_append_left (by rw [List.length_map]; exact hi)]
theorem offs_snoc {P1 : List (List Int32 × Int32)} {q : List Int32 × Int32} (h1 : tkn q.1) (h2 : q.2.toInt ≤ -10) : offs (P1 ++ [q]) = offs P1 + q.1.length := by
  unfold offs
  rw [fl_app, cds_app, List.length_append]
  show _ + (cds ((q.1 ++ [q.2]) ++ [])).length = _
  rw [List.append_nil, cds_q h1 h2, List.length_map]
theorem offs_le (P1 P2 : List (List Int32 × Int32)) : offs P1 ≤ (cds (fl (P1 ++ P2))).length := by
  unfold offs; rw [fl_app, cds_app, List.length_append]; omega
theorem v_stretch {μ : gm_M} (hg : gS μ) (hn : KD μ) {A t : Nat} (hA : AfW μ A) (ht : ict t) (hk : kid (μ.2.2 t 1)) {w sw : Int32} {P : List (List Int32 × Int32)} (hP : okP P) (hl : P.length ≤ 10) (hL : (fl P).length ≤ 100) (ha : AFC μ A w sw (fl P)) (mi : Int32) : gwI (f_X0_stretchOf A t mi μ) (fun x m => x = cSt (kC μ t) mi P ∧ m = μ) := by
  obtain ⟨-, ⟨a1, a2⟩, a3, a4⟩ := ha
  refine gwI_of ?_
  unfold f_X0_stretchOf
  have l0 : (0 : Int32).toInt = 0 := rfl
  have l1 : (1 : Int32).toInt = 1 := rfl
  rw [chs_fl P 0 hP] at a3
  have oP := ofn (k := P.length) (by omega)
  have hcl := cds_len (fl P)
  refine gw_loop (fun s => s.2.2.2 = μ ∧ ∃ P1 P2 : List (List Int32 × Int32), P = P1 ++ P2 ∧ s.2.1 = Int32.ofNat (offs P1) ∧ s.2.2.1 = Int32.ofNat P1.length ∧ cSum (kC μ t) mi P2 s.1 = cSum (kC μ t) mi P 30) (fun s => 200 - s.2.2.1.toInt) (fun s hs => ?_) 5000 ((30 : Int32), (0 : Int32), (0 : Int32), μ) ⟨rfl, [], P, rfl, rfl, rfl, rfl⟩ (by show 200 - (0 : Int32).toInt < ((5000 : Nat) : Int); omega) (by show 0 ≤ 200 - (0 : Int32).toInt; omega)
  obtain ⟨s1, s2, s3, s4⟩ := s
  obtain ⟨em, P1, P2, eP, e2, e3, he⟩ := hs
  replace em : s4 = μ := em
  replace e2 : s2 = Int32.ofNat (offs P1) := e2
  replace e3 : s3 = Int32.ofNat P1.length := e3
  replace he : cSum (kC μ t) mi P2 s1 = cSum (kC μ t) mi P 30 := he
  subst em
  subst e2
  subst e3
  have hl1 : P1.length + P2.length = P.length := by rw [eP, List.length_append]
  have o1 := ofn (k := P1.length) (by omega)
  refine gw_gIw hA.tc ?_
  show gw (if s4.2.1 A 2 ≤ Int32.ofNat P1.length then _ else _) _
  rw [a3]
  refine gw_le (fun g => ?_) (fun g => ?_)
  · have e : P2 = [] := List.eq_nil_of_length_eq_zero (by omega)
    subst e
    refine gw_some (gs_inr (gq_I ⟨?_, rfl⟩))
    show (if (1 : Int32) < s1 then s1 else 1) = _
    unfold cSt
    rw [← he]; rfl
  · cases P2 with
    | nil => exfalso; rw [List.length_nil] at hl1; omega
    | cons q P2 =>
      subst eP
      have ⟨hd, h1, h2, _⟩ := (hP.app).2 q List.mem_cons_self
      have ac := at_chs hP
      have b4 := a4 P1.length _ ac
      have hoff := offs_le (P1 ++ [q]) P2
      rw [offs_snoc h1 h2, List.append_assoc] at hoff
      replace hoff : offs P1 + q.1.length ≤ (cds (fl (P1 ++ q :: P2))).length := hoff
      refine gw_gRa (A + 2) hA.tc hA.r2 ?_
      refine gw_aIw P1.length hA.t2 hA.l2 o1 (by omega) ?_
      rw [b4.2]
      refine gw_if hA.t ?_
      refine gw_bI (v_isSo hg hn hA ht hk (T := q.1) (o := offs P1) (by omega) hd (fun i hi => by rw [← at_cds hP hi]; exact a2 _ (by omega)) mi) (fun x7 m6 ⟨ex, em⟩ => ?_)
      subst em
      subst ex
      have hms : (200 - (Int32.ofNat P1.length + 1).toInt < 200 - (Int32.ofNat P1.length).toInt) ∧ 0 ≤ 200 - (Int32.ofNat P1.length + 1).toInt := by
        rw [ofn1 (by omega), ofn (k := P1.length + 1) (by omega)]; omega
      refine gw_j (fun z => z = (if (es (kC m6 t) mi q.1 []).headD false = true then s1 + amt q.2 else s1)) (fun z ez => ?_) (fun j9 hj9 => ?_)
      · refine gw_gRa (A + 2) hA.tc hA.r2 ?_
        refine gw_aIw P1.length hA.t2 hA.l2 o1 (by omega) ?_
        rw [b4.2]
        refine gw_some (gs_inl ⟨rfl, P1 ++ [q], P2, by rw [List.append_assoc]; rfl, by rw [offs_snoc h1 h2], ?_, ?_⟩ hms.1 hms.2)
        · rw [List.length_append, List.length_singleton]; exact ofn1 (by omega)
        · rw [← he, ez]; rfl
      · cases hb : (es (kC m6 t) mi q.1 []).headD false with
        | true =>
          rw [if_neg (by decide)]
          refine gw_gRa (A + 1) hA.tc hA.r1 ?_
          refine gw_aIw P1.length hA.t1 hA.l1 o1 (by omega) ?_
          rw [b4.1]
          exact hj9 _ (by rw [hb, if_pos rfl])
        | false =>
          rw [if_pos (show bw false = 0 from rfl)]
          exact hj9 _ (by rw [hb, if_neg (by decide)])
end
section
/-! the reference: a row of truths in an array, the newest last -/
def kR (σ : Nat → Int32) (c j : Nat) : Int32 := if j = 0 then Int32.ofNat c else if j = 1 then σ (33 + c) else if j = 2 then σ (38 + c) else if j < 8 then σ (5 * j - 14 + c) else if j < 12 then σ (43 + 4 * c + (j - 8)) else 0
/-- what holds: w wind, sw how sweet, P the changes -/
def HR (σ : Nat → Int32) (w sw : Int32) (P : List (List Int32 × Int32)) : Prop := (okP P ∧ P.length ≤ 10 ∧ (fl P).length ≤ 100) ∧ ((σ 32 = -1 ∧ w = 0 ∧ sw = 20 ∧ P = []) ∨ ∃ a : Nat, a < 5 ∧ σ 32 = Int32.ofNat a ∧ AFR σ a w sw (fl P))
def RT (m : gm_M) (S : List Bool) : Prop := ∀ (j : Nat) (b : Bool), S.reverse[j]? = some b → m.2.1 70 j = bw b
theorem gw_sZw {β : Type} {μ : gm_M} {r n : Nat} {i x : Int32} {Q : β → Prop} {f : gm_M → Option β} (j : Nat) (t : gm_tag μ r = 2) (l : gm_len μ r = n) (hj : i.toInt = j) (h1 : j < n) (k : gw (f (wI μ r j (x &&& 1))) Q) : gw (gm_sZ μ r i x f) Q :=
  gw_sZ t l (by omega) (by omega) (fun m e => by rw [e, show i.toInt.toNat = j by omega]; exact k)
theorem gw_aZw {β : Type} {μ : gm_M} {r n : Nat} {i : Int32} {Q : β → Prop} {f : Int32 → Option β} (j : Nat) (t : gm_tag μ r = 2) (l : gm_len μ r = n) (hj : i.toInt = j) (h1 : j < n) (k : gw (f (μ.2.1 r j)) Q) : gw (gm_aZ μ r i f) Q :=
  gw_aZ t l (by omega) (by omega) (fun v e => by rw [e, show i.toInt.toNat = j by omega]; exact k)
theorem bw_and (b : Bool) : bw b &&& 1 = bw b := by cases b <;> decide
theorem RT.nil (m : gm_M) : RT m [] := fun j b h => by cases h
theorem RT.push {m : gm_M} {S : List Bool} (h : RT m S) (b : Bool) : RT (wI m 70 S.length (bw b)) (b :: S) := fun j c e => by
  rw [List.reverse_cons] at e
  by_cases hj : j = S.length
  · subst hj
    rw [List.getElem?_append_right (by rw [List.length_reverse]; exact Nat.le_refl _), List.length_reverse, Nat.sub_self] at e
    injection e with e
    rw [wI_e, ← e]
  · have hl : j < S.length := by
      have := (List.getElem?_eq_some_iff.mp e).1
      rw [List.length_append, List.length_reverse, List.length_singleton] at this
      omega
    rw [List.getElem?_append_left (by rw [List.length_reverse]; exact hl)] at e
    rw [wI_n _ _ _ _ hj]
    exact h j c e
theorem RT.pop {m : gm_M} {a : Bool} {S : List Bool} (h : RT m (a :: S)) : RT m S := fun j b e => by
  refine h j b ?_
  rw [List.reverse_cons, List.getElem?_append_left (by have := (List.getElem?_eq_some_iff.mp e).1; exact this)]
  exact e
theorem RT.top {m : gm_M} {a : Bool} {S : List Bool} (h : RT m (a :: S)) : m.2.1 70 S.length = bw a := by
  refine h S.length a ?_
  rw [List.reverse_cons, List.getElem?_append_right (by rw [List.length_reverse]; exact Nat.le_refl _), List.length_reverse, Nat.sub_self]; rfl
/-- a run over steps -/
def ru (k : Nat → Int32) (mi : Int32) : List Int32 → List Bool → Int32 → Int32
  | [], _, a => a
  | s :: L, S, a => if -10 < s.toInt then ru k mi L (stp k mi s S) a else ru k mi L [] (if S.headD false = true then a + amt s else a)
def drp : List Int32 → Nat → Prop
  | [], _ => True
  | s :: L, d => if -10 < s.toInt then ∃ d' : Nat, dr [s] d = some d' ∧ drp L d' else d = 1 ∧ -299 ≤ s.toInt ∧ drp L 0
theorem dr_cons {s : Int32} {T : List Int32} {d d' : Nat} (h : dr (s :: T) d = some d') : ∃ e : Nat, dr [s] d = some e ∧ dr T e = some d' := by
  have := dr_app [s] T d
  rw [show [s] ++ T = s :: T from rfl, h] at this
  cases e : dr [s] d with
  | none => rw [e] at this; cases this
  | some x => rw [e] at this; exact ⟨x, rfl, this.symm⟩
theorem drp_app : ∀ (T L : List Int32) (d d' : Nat), tkn T → dr T d = some d' → drp L d' → drp (T ++ L) d
  | [], L, d, d', _, h, g => by
    injection h with h
    rw [h]; exact g
  | s :: T, L, d, d', ht, h, g => by
    show drp (s :: (T ++ L)) d
    unfold drp
    rw [if_pos (ht s List.mem_cons_self)]
    obtain ⟨e, e1, e2⟩ := dr_cons h
    exact ⟨e, e1, drp_app T L e d' (fun x hx => ht x (List.mem_cons_of_mem _ hx)) e2 g⟩
theorem ru_app {k : Nat → Int32} {mi : Int32} : ∀ (T L : List Int32) (S : List Bool) (a : Int32), tkn T → ru k mi (T ++ L) S a = ru k mi L (es k mi T S) a
  | [], L, S, a, _ => rfl
  | s :: T, L, S, a, ht => by
    show (if -10 < s.toInt then ru k mi (T ++ L) (stp k mi s S) a else _) = _
    rw [if_pos (ht s List.mem_cons_self), ru_app T L _ a (fun x hx => ht x (List.mem_cons_of_mem _ hx))]; rfl
theorem amt_lo {s : Int32} (h : s.toInt ≤ -10) (h2 : -99 ≤ (amt s).toInt) : -299 ≤ s.toInt := by
  unfold amt at h2
  have l200 : (200 : Int32).toInt = 200 := rfl
  split at h2
  · omega
  · have := gx_lo s
    rw [gx_add (by omega) (by omega)] at h2
    omega
theorem drp_fl : ∀ (P : List (List Int32 × Int32)), okP P → drp (fl P) 0
  | [], _ => trivial
  | q :: P, h => by
    have ⟨h0, h1, h2, h3, h4⟩ := h q List.mem_cons_self
    show drp ((q.1 ++ [q.2]) ++ fl P) 0
    rw [List.append_assoc]
    refine drp_app q.1 _ 0 1 h1 h0 ?_
    show drp (q.2 :: fl P) 1
    unfold drp
    rw [if_neg (by omega)]
    exact ⟨rfl, amt_lo h2 h3, drp_fl P (fun x hx => h x (List.mem_cons_of_mem _ hx))⟩
theorem ru_fl {k : Nat → Int32} {mi : Int32} : ∀ (P : List (List Int32 × Int32)) (a : Int32), okP P → ru k mi (fl P) [] a = cSum k mi P a
  | [], a, _ => rfl
  | q :: P, a, h => by
    have ⟨h0, h1, h2, h3, h4⟩ := h q List.mem_cons_self
    show ru k mi ((q.1 ++ [q.2]) ++ fl P) [] a = _
    rw [List.append_assoc, ru_app _ _ _ _ h1]
    show (if -10 < q.2.toInt then _ else ru k mi (fl P) [] _) = _
    rw [if_neg (by omega), ru_fl P _ (fun x hx => h x (List.mem_cons_of_mem _ hx))]; rfl
/-- numbers looked up -/
theorem fv_at {k : Nat → Int32} {mi : Int32} {m : gm_M} (h : ∀ a : Nat, a < 6 → m.2.1 69 a = fv k mi (Int32.ofNat a)) {x : Int32} (h0 : 0 ≤ x.toInt) (h1 : x.toInt < 6) : m.2.1 69 x.toInt.toNat = fv k mi x := by
  rw [h x.toInt.toNat (by omega), gx_of h0]
theorem stp_len {k : Nat → Int32} {mi : Int32} {s : Int32} {S : List Bool} {d : Nat} (h : dr [s] S.length = some d) : (stp k mi s S).length = d := es_len [s] S d h
theorem ofp {k : Nat} (h : k ≤ 1000) : Int32.ofNat (k + 1) - 1 = Int32.ofNat k ∧ Int32.ofNat (k + 1) + (-1) = Int32.ofNat k := by
  have a := ofn (k := k + 1) (by omega)
  have b := ofn (k := k) (by omega)
  have l1 : (1 : Int32).toInt = 1 := rfl
  have lm : (-1 : Int32).toInt = -1 := rfl
  constructor
  · apply Int32.toInt_inj.mp
    have : (Int32.ofNat (k + 1) - 1).toInt = (Int32.ofNat (k + 1)).toInt - (1 : Int32).toInt := gx_sub (by omega) (by omega)
    omega
  · apply Int32.toInt_inj.mp
    have : (Int32.ofNat (k + 1) + (-1)).toInt = (Int32.ofNat (k + 1)).toInt + (-1 : Int32).toInt := gx_add (by omega) (by omega)
    omega
theorem amt_sum {a s : Int32} (h : s.toInt ≤ -10) (h2 : -299 ≤ s.toInt) : (-200 < s.toInt → (a + (-10 - s)) - 0 = a + amt s) ∧ (s.toInt ≤ -200 → (a + 0) - (-200 - s) = a + amt s) := by
  have l10 : (-10 : Int32).toInt = -10 := rfl
  have l200 : (-200 : Int32).toInt = -200 := rfl
  have l2 : (200 : Int32).toInt = 200 := rfl
  constructor
  · intro g
    unfold amt
    rw [if_pos g, Int32.sub_zero]
  · intro g
    unfold amt
    have e : (-200 : Int32) - s = -(s + 200) := by
      apply Int32.toInt_inj.mp
      have n1 : (s + 200).toInt = s.toInt + (200 : Int32).toInt := gx_add (by omega) (by omega)
      have n2 : ((-200 : Int32) - s).toInt = (-200 : Int32).toInt - s.toInt := gx_sub (by omega) (by omega)
      have n3 : (0 - (s + 200)).toInt = (0 : Int32).toInt - (s + 200).toInt := gx_sub (by have : (0 : Int32).toInt = 0 := rfl; omega) (by have : (0 : Int32).toInt = 0 := rfl; omega)
      rw [show -(s + 200) = 0 - (s + 200) from (Int32.zero_sub _).symm, n3, n2, n1]
      have : (0 : Int32).toInt = 0 := rfl
      omega
    rw [if_neg (by omega), Int32.add_zero, e, Int32.sub_neg]
set_option maxHeartbeats 4000000 in
theorem w_looks {μ : gm_M} (h : MI μ) {c : Nat} (hc : c < 5) {w sw : Int32} {P : List (List Int32 × Int32)} (hH : HR (μ.2.1 66) w sw P) : gwI (f_X12_looks 65 (Int32.ofNat c) μ) (fun x m => km A0 μ m ∧ x = cSum (kR (μ.2.1 66) c) (μ.2.1 66 0) P 0) := by
  obtain ⟨⟨hP, hl, hL⟩, hH⟩ := hH
  have oc := ofn (k := c) (by omega)
  refine gwI_and (s_X12_looks h ⟨by omega, by omega⟩) ?_
  refine gwI_of ?_
  unfold f_X12_looks
  have l0 : (0 : Int32).toInt = 0 := rfl
  have l1 : (1 : Int32).toInt = 1 := rfl
  have l2 : (2 : Int32).toInt = 2 := rfl
  have l3 : (3 : Int32).toInt = 3 := rfl
  have l4 : (4 : Int32).toInt = 4 := rfl
  have l5 : (5 : Int32).toInt = 5 := rfl
  have l6 : (6 : Int32).toInt = 6 := rfl
  have l10 : (10 : Int32).toInt = 10 := rfl
  have l32 : (32 : Int32).toInt = 32 := rfl
  have l33 : (33 : Int32).toInt = 33 := rfl
  have l38 : (38 : Int32).toInt = 38 := rfl
  have l140 : (140 : Int32).toInt = 140 := rfl
  have l220 : (220 : Int32).toInt = 220 := rfl
  have l225 : (225 : Int32).toInt = 225 := rfl
  have lm1 : (-1 : Int32).toInt = -1 := rfl
  have lm10 : (-10 : Int32).toInt = -10 := rfl
  have lm200 : (-200 : Int32).toInt = -200 := rfl
  have k0 := km.refl A0 μ
  have row : ∀ {m : gm_M}, km A0 μ m → m.2.1 66 = μ.2.1 66 := fun k => funext fun i => k.2.2.2.1 i (fun q => q)
  have tc : ∀ {m : gm_M}, km A0 μ m → [17].contains (gm_tag m 65) = true := fun k => (h.of0 k).1.c (r := 65) rfl
  have r10 : ∀ {m : gm_M}, km A0 μ m → m.2.2 65 10 = 69 := fun k => (h.of0 k).1.r (by decide)
  have r11 : ∀ {m : gm_M}, km A0 μ m → m.2.2 65 11 = 70 := fun k => (h.of0 k).1.r (by decide)
  have r1 : ∀ {m : gm_M}, km A0 μ m → m.2.2 65 1 = 66 := fun k => (h.of0 k).1.r (by decide)
  have t66 : ∀ {m : gm_M}, km A0 μ m → gm_tag m 66 = 1 := fun k => (h.of0 k).1.t (r := 66) rfl
  have n66 : ∀ {m : gm_M}, km A0 μ m → gm_len m 66 = 925 := fun k => (h.of0 k).1.l (r := 66) rfl
  have t69 : ∀ {m : gm_M}, km A0 μ m → gm_tag m 69 = 1 := fun k => (h.of0 k).1.t (r := 69) rfl
  have n69 : ∀ {m : gm_M}, km A0 μ m → gm_len m 69 = 6 := fun k => (h.of0 k).1.l (r := 69) rfl
  have t70 : ∀ {m : gm_M}, km A0 μ m → gm_tag m 70 = 2 := fun k => (h.of0 k).1.t (r := 70) rfl
  have n70 : ∀ {m : gm_M}, km A0 μ m → gm_len m 70 = 64 := fun k => (h.of0 k).1.l (r := 70) rfl
  have wr69 : ∀ {m : gm_M} (j : Nat) (x : Int32), km A0 μ m → km A0 μ (wI m 69 j x) := fun j x k => k.wr rfl (by decide)
  have wr70 : ∀ {m : gm_M} (j : Nat) (x : Int32), km A0 μ m → km A0 μ (wI m 70 j x) := fun j x k => k.wr rfl (by decide)
  have ix : ∀ (v : Int32) (j : Nat), v.toInt = j → j ≤ 400 → (v + Int32.ofNat c).toInt = ((j + c : Nat) : Int) := fun v j hv hj => by
    have : (v + Int32.ofNat c).toInt = v.toInt + (Int32.ofNat c).toInt := gx_add (by omega) (by omega)
    omega
  refine gw_gRa 69 (tc k0) (r10 k0) ?_
  refine gw_sIw 0 (t69 k0) (n69 k0) l0 (by decide) ?_
  have k1 := wr69 0 (Int32.ofNat c) k0
  refine gw_gRa 69 (tc k1) (r10 k1) ?_
  refine gw_gRa 66 (tc k1) (r1 k1) ?_
  refine gw_aIw (33 + c) (t66 k1) (n66 k1) (ix 33 33 rfl (by decide)) (by omega) ?_
  rw [row k1]
  refine gw_sIw 1 (t69 k1) (n69 k1) l1 (by decide) ?_
  have k2 := wr69 1 (μ.2.1 66 (33 + c)) k1
  refine gw_gRa 69 (tc k2) (r10 k2) ?_
  refine gw_gRa 66 (tc k2) (r1 k2) ?_
  refine gw_aIw (38 + c) (t66 k2) (n66 k2) (ix 38 38 rfl (by decide)) (by omega) ?_
  rw [row k2]
  refine gw_sIw 2 (t69 k2) (n69 k2) l2 (by decide) ?_
  have k3 := wr69 2 (μ.2.1 66 (38 + c)) k2
  refine gw_gRa 69 (tc k3) (r10 k3) ?_
  refine gw_gRa 66 (tc k3) (r1 k3) ?_
  refine gw_aIw (1 + c) (t66 k3) (n66 k3) (ix 1 1 rfl (by decide)) (by omega) ?_
  rw [row k3]
  refine gw_sIw 3 (t69 k3) (n69 k3) l3 (by decide) ?_
  have k4 := wr69 3 (μ.2.1 66 (1 + c)) k3
  refine gw_gRa 69 (tc k4) (r10 k4) ?_
  refine gw_gRa 66 (tc k4) (r1 k4) ?_
  refine gw_aIw (6 + c) (t66 k4) (n66 k4) (ix 6 6 rfl (by decide)) (by omega) ?_
  rw [row k4]
  refine gw_dv (by omega) ?_
  refine gw_sIw 4 (t69 k4) (n69 k4) l4 (by decide) ?_
  have k5 := wr69 4 (μ.2.1 66 (6 + c) / 10) k4
  refine gw_gRa 69 (tc k5) (r10 k5) ?_
  refine gw_gRa 66 (tc k5) (r1 k5) ?_
  refine gw_aIw 0 (t66 k5) (n66 k5) l0 (by decide) ?_
  rw [row k5]
  refine gw_dv (by omega) ?_
  rw [gx_mod]
  refine gw_sIw 5 (t69 k5) (n69 k5) l5 (by decide) ?_
  have k6 := wr69 5 (μ.2.1 66 0 % 10) k5
  generalize hM : wI (wI (wI (wI (wI (wI μ 69 0 (Int32.ofNat c)) 69 1 (μ.2.1 66 (33 + c))) 69 2 (μ.2.1 66 (38 + c))) 69 3 (μ.2.1 66 (1 + c))) 69 4 (μ.2.1 66 (6 + c) / 10)) 69 5 (μ.2.1 66 0 % 10) = M at *
  have hf : ∀ a : Nat, a < 6 → M.2.1 69 a = fv (kR (μ.2.1 66) c) (μ.2.1 66 0) (Int32.ofNat a) := fun a ha => by
    rw [← hM]
    obtain rfl | rfl | rfl | rfl | rfl | rfl : a = 0 ∨ a = 1 ∨ a = 2 ∨ a = 3 ∨ a = 4 ∨ a = 5 := by omega
    · rw [wI_n _ _ _ _ (by decide), wI_n _ _ _ _ (by decide), wI_n _ _ _ _ (by decide), wI_n _ _ _ _ (by decide), wI_n _ _ _ _ (by decide), wI_e]; rfl
    · rw [wI_n _ _ _ _ (by decide), wI_n _ _ _ _ (by decide), wI_n _ _ _ _ (by decide), wI_n _ _ _ _ (by decide), wI_e]; rfl
    · rw [wI_n _ _ _ _ (by decide), wI_n _ _ _ _ (by decide), wI_n _ _ _ _ (by decide), wI_e]; rfl
    · rw [wI_n _ _ _ _ (by decide), wI_n _ _ _ _ (by decide), wI_e]; rfl
    · rw [wI_n _ _ _ _ (by decide), wI_e]; rfl
    · rw [wI_e]; rfl
  clear hM k0 k1 k2 k3 k4 k5
  refine gw_if ((h.of0 k6).1.t (r := 65) rfl) ?_
  -- how many steps, where the first stands
  obtain ⟨st, hst, b, hb32, hL2⟩ : ∃ (st : Nat), st + (fl P).length ≤ 925 ∧ ∃ b : Int32, μ.2.1 66 32 = b ∧ ((225 : Int32) + (140 : Int32) * b = Int32.ofNat st ∧ (∀ i : Nat, i < (fl P).length → (fl P)[i]? = some (μ.2.1 66 (st + i))) ∧ ∀ (Q : (Option Value × gm_M) → Prop) (f : Int32 → gm_M → Option (Option Value × gm_M)), gw (f (Int32.ofNat (fl P).length) M) Q → gw (gm_bI (f_X12_tellsOf 65 220 0 M) f) Q) := by
    rcases hH with ⟨e1, -, -, e4⟩ | ⟨a, ha, e1, -, e3, e4⟩
    · subst e4
      refine ⟨85, by decide, -1, e1, by decide, fun i hi => absurd hi (Nat.not_lt_zero i), fun Q f hf => ?_⟩
      refine gw_bI (s_X12_tellsOf (h.of0 k6) ⟨by omega, by omega⟩) (fun x m ⟨em, hx⟩ => ?_)
      subst em
      rw [row k6, e1] at hx
      rcases hx with ⟨-, ex⟩ | ⟨g, -⟩
      · subst ex; exact hf
      · exact absurd g (by decide)
    · have oa := ofn (k := a) (by omega)
      refine ⟨225 + 140 * a, by omega, Int32.ofNat a, e1, ?_, e4, fun Q f hf => ?_⟩
      · apply Int32.toInt_inj.mp
        have n19 : ((140 : Int32) * Int32.ofNat a).toInt = 140 * (Int32.ofNat a).toInt := gx_mul 140 rfl (by omega) (by omega)
        have n20 : ((225 : Int32) + ((140 : Int32) * Int32.ofNat a)).toInt = (225 : Int32).toInt + ((140 : Int32) * Int32.ofNat a).toInt := gx_add (by omega) (by omega)
        rw [n20, n19, ofn (k := 225 + 140 * a) (by omega)]; omega
      · refine gw_bI (s_X12_tellsOf (h.of0 k6) ⟨by omega, by omega⟩) (fun x m ⟨em, hx⟩ => ?_)
        subst em
        rw [row k6, e1] at hx
        rcases hx with ⟨g, -⟩ | ⟨-, -, ex⟩
        · omega
        · rw [show ((220 : Int32).toInt + (Int32.ofNat a).toInt).toNat = 220 + a by omega, e3] at ex
          subst ex; exact hf
  obtain ⟨hs1, hs2, hs3⟩ := hL2
  refine hs3 _ _ ?_
  refine gw_gRa 66 (tc k6) (r1 k6) ?_
  refine gw_aIw 32 (t66 k6) (n66 k6) l32 (by decide) ?_
  rw [row k6, hb32, hs1]
  have oend := ofn (k := st + (fl P).length) (by omega)
  have e25 : Int32.ofNat st + Int32.ofNat (fl P).length = Int32.ofNat (st + (fl P).length) := by
    apply Int32.toInt_inj.mp
    have o1 := ofn (k := st) (by omega)
    have o2 := ofn (k := (fl P).length) (by omega)
    rw [gx_add (by omega) (by omega)]; omega
  rw [e25]
  generalize hK : kR (μ.2.1 66) c = k at *
  generalize hmi : μ.2.1 66 0 = mi at *
  generalize hI : (fun s : Int32 × Int32 × Int32 × gm_M => km A0 μ s.2.2.2 ∧ (∀ a : Nat, a < 6 → s.2.2.2.2.1 69 a = fv k mi (Int32.ofNat a)) ∧ ∃ (j : Nat) (S : List Bool), s.2.1 = Int32.ofNat S.length ∧ S.length ≤ 60 ∧ s.2.2.1 = Int32.ofNat (st + j) ∧ j ≤ (fl P).length ∧ RT s.2.2.2 S ∧ drp ((fl P).drop j) S.length ∧ S.length ≤ 30 ∧ ru k mi ((fl P).drop j) S s.1 = cSum k mi P 0) = I
  refine gw_loop I (fun s => 2000 - s.2.2.1.toInt) (fun s hs => ?_) 5000 ((0 : Int32), (0 : Int32), Int32.ofNat st, M) ?_ ?_ ?_
  · obtain ⟨s1, s2, s3, s4⟩ := s
    rw [← hI] at hs
    obtain ⟨k4, hf, j, S, e1, e60, e2, hj, hR, hd, e30, he⟩ := hs
    replace k4 : km A0 μ s4 := k4
    replace hf : ∀ a : Nat, a < 6 → s4.2.1 69 a = fv k mi (Int32.ofNat a) := hf
    replace e1 : s2 = Int32.ofNat S.length := e1
    replace e2 : s3 = Int32.ofNat (st + j) := e2
    replace hR : RT s4 S := hR
    replace he : ru k mi ((fl P).drop j) S s1 = cSum k mi P 0 := he
    subst e1
    subst e2
    have oj := ofn (k := st + j) (by omega)
    have oS := ofn (k := S.length) (by omega)
    refine gw_le (fun g => ?_) (fun g => ?_)
    · replace g : (Int32.ofNat (st + (fl P).length)).toInt ≤ (Int32.ofNat (st + j)).toInt := g
      rw [List.drop_eq_nil_of_le (show (fl P).length ≤ j by omega)] at he
      exact gw_some (gs_inr (gq_I he))
    · replace g : (Int32.ofNat (st + j)).toInt < (Int32.ofNat (st + (fl P).length)).toInt := g
      have hlt : j < (fl P).length := by omega
      have eT : (fl P).drop j = (fl P)[j] :: (fl P).drop (j + 1) := List.drop_eq_getElem_cons hlt
      have ec := hs2 j hlt
      rw [List.getElem?_eq_getElem hlt] at ec
      injection ec with ec
      rw [eT] at hd he
      generalize (fl P)[j] = s at *
      refine gw_gRa 66 (tc k4) (r1 k4) ?_
      refine gw_aIw (st + j) (t66 k4) (n66 k4) oj (by omega) ?_
      rw [row k4, ← ec]
      refine gw_j (fun q => km A0 μ q.2.2 ∧ (∀ a : Nat, a < 6 → q.2.2.2.1 69 a = fv k mi (Int32.ofNat a)) ∧ ∃ S' : List Bool, q.2.1 = Int32.ofNat S'.length ∧ RT q.2.2 S' ∧ drp ((fl P).drop (j + 1)) S'.length ∧ S'.length ≤ 30 ∧ ru k mi ((fl P).drop (j + 1)) S' q.1 = cSum k mi P 0) (fun q hq => ?_) (fun j31 hj31 => ?_)
      · obtain ⟨q1, q2, q3⟩ := q
        obtain ⟨h1, h2, S', h3, h4, h5, h6, h7⟩ := hq
        refine gw_some (gs_inl ?_ ?_ ?_)
        · rw [← hI]
          exact ⟨h1, h2, j + 1, S', h3, by omega, ofn1 (by omega), hlt, h4, h5, h6, h7⟩
        · show 2000 - (Int32.ofNat (st + j) + 1).toInt < 2000 - (Int32.ofNat (st + j)).toInt
          rw [ofn1 (by omega), ofn (k := st + j + 1) (by omega)]; omega
        · show 0 ≤ 2000 - (Int32.ofNat (st + j) + 1).toInt
          rw [ofn1 (by omega), ofn (k := st + j + 1) (by omega)]; omega
      · unfold drp at hd
        unfold ru at he
        have w69 : ∀ (i : Nat) (x : Int32), (wI s4 70 i x).2.1 69 = s4.2.1 69 := fun i x => wI_o _ _ _ _ (by decide)
        by_cases hb : -10 < s.toInt
        · rw [if_pos hb] at hd he
          obtain ⟨d', hd1, hd2⟩ := hd
          have hl' := stp_len (k := k) (mi := mi) hd1
          by_cases h0 : 0 ≤ s.toInt
          · -- a test
            rw [dr, if_pos h0] at hd1
            split at hd1
            · rename_i v
              have tn := tok_nums h0 v.1 v.2.1 v.2.2.1
              have es' : stp k mi s S = tst s (fv k mi (s % 8)) :: S := by unfold stp; rw [if_pos h0]
              rw [es'] at he hl'
              refine gw_lt (fun g => by omega) (fun _ => ?_)
              refine gw_gRa 69 (tc k4) (r10 k4) ?_
              refine gw_dv (by decide) ?_
              rw [gx_mod, gx_mod]
              refine gw_aIw (s % 8).toInt.toNat (t69 k4) (n69 k4) (by omega) (by omega) ?_
              rw [fv_at hf tn.1.1 tn.1.2]
              refine gw_dv (by decide) ?_
              refine gw_dv (by decide) ?_
              refine gw_dv (by decide) ?_
              refine gw_gRa 70 (tc k4) (r11 k4) ?_
              generalize fv k mi (s % 8) = x at *
              refine gw_j (fun z => z = bw (tst s x)) (fun z ez => ?_) (fun j68 hj68 => ?_)
              · subst ez
                refine gw_sZw S.length (t70 k4) (n70 k4) oS (by omega) ?_
                rw [bw_and]
                refine hj31 _ ⟨wr70 _ _ k4, fun a ha => by rw [w69]; exact hf a ha, _, ofn1 (by omega), hR.push _, by rw [hl']; exact hd2, by rw [List.length_cons]; omega, he⟩
              · unfold tst at hj68
                refine gw_ite (fun g1 => ?_) (fun g1 => ?_)
                · refine gw_ite (fun g2 => ?_) (fun g2 => ?_)
                  · refine gw_ite (fun g3 => hj68 _ ?_) (fun g3 => hj68 _ ?_)
                    · rw [if_neg g1, if_neg g2, decide_eq_false (by rw [Int32.not_lt]; exact g3)]; rfl
                    · rw [if_neg g1, if_neg g2, decide_eq_true (by rw [Int32.not_le] at g3; exact g3)]; rfl
                  · refine gw_ite (fun g3 => hj68 _ ?_) (fun g3 => hj68 _ ?_)
                    · rw [if_neg g1, if_pos (Decidable.not_not.mp g2), decide_eq_false g3]; rfl
                    · rw [if_neg g1, if_pos (Decidable.not_not.mp g2), decide_eq_true (Decidable.not_not.mp g3)]; rfl
                · refine gw_ite (fun g3 => hj68 _ ?_) (fun g3 => hj68 _ ?_)
                  · rw [if_pos (Decidable.not_not.mp g1), decide_eq_false (by rw [Int32.not_lt]; exact g3)]; rfl
                  · rw [if_pos (Decidable.not_not.mp g1), decide_eq_true (by rw [Int32.not_le] at g3; exact g3)]; rfl
            · cases hd1
          · rw [dr, if_neg h0] at hd1
            refine gw_lt (fun _ => ?_) (fun g => by omega)
            by_cases h1 : s = -1
            · -- not
              rw [if_pos h1] at hd1
              split at hd1
              · rename_i g1
                subst h1
                rw [if_neg (by decide)]
                cases S with
                | nil => exact absurd g1 (by decide)
                | cons a S =>
                  rw [show stp k mi (-1) (a :: S) = (!a) :: S from rfl] at he hl'
                  have op := ofp (k := S.length) (by rw [List.length_cons] at e30; omega)
                  have oS' := ofn (k := S.length) (by rw [List.length_cons] at e30; omega)
                  rw [List.length_cons] at e30
                  refine gw_gRa 70 (tc k4) (r11 k4) ?_
                  refine gw_gRa 70 (tc k4) (r11 k4) ?_
                  rw [show (a :: S).length = S.length + 1 from rfl, op.1]
                  refine gw_aZw S.length (t70 k4) (n70 k4) oS' (by omega) ?_
                  rw [hR.top]
                  refine gw_j (fun z => z = bw (!a)) (fun z ez => ?_) (fun j62 hj62 => ?_)
                  · subst ez
                    refine gw_sZw S.length (t70 k4) (n70 k4) oS' (by omega) ?_
                    rw [bw_and]
                    refine hj31 _ ⟨wr70 _ _ k4, fun a ha => by rw [w69]; exact hf a ha, (!a) :: S, rfl, hR.pop.push _, ?_, by rw [List.length_cons]; omega, he⟩
                    rw [hl']; exact hd2
                  · cases a with
                    | true => rw [if_pos (by decide)]; exact hj62 _ rfl
                    | false => rw [if_neg (by decide)]; exact hj62 _ rfl
              · cases hd1
            · rw [if_neg h1] at hd1
              rw [if_pos h1]
              refine gw_le (fun g => by omega) (fun _ => ?_)
              split at hd1
              · rename_i h23
                split at hd1
                · rename_i h2
                  cases S with
                  | nil => exact absurd h2 (by decide)
                  | cons a S =>
                    cases S with
                    | nil => exact absurd (show 2 ≤ 1 from h2) (by decide)
                    | cons b S =>
                      rw [List.length_cons, List.length_cons] at e30
                      have op := ofp (k := S.length + 1) (by omega)
                      have op2 := ofp (k := S.length) (by omega)
                      have oS' := ofn (k := S.length) (by omega)
                      have oS1 := ofn (k := S.length + 1) (by omega)
                      rw [show (a :: b :: S).length = S.length + 1 + 1 from rfl, op.2]
                      refine gw_gRa 70 (tc k4) (r11 k4) ?_
                      refine gw_j (fun z => z = bw (if s = -2 then b && a else b || a)) (fun z ez => ?_) (fun j44 hj44 => ?_)
                      · subst ez
                        rw [op2.1]
                        refine gw_sZw S.length (t70 k4) (n70 k4) oS' (by omega) ?_
                        rw [bw_and]
                        have es' : stp k mi s (a :: b :: S) = (if s = -2 then b && a else b || a) :: S := by unfold stp; rw [if_neg h0, if_neg h1]
                        rw [es'] at he hl'
                        refine hj31 _ ⟨wr70 _ _ k4, fun a ha => by rw [w69]; exact hf a ha, _, rfl, hR.pop.pop.push _, ?_, by rw [List.length_cons]; omega, he⟩
                        rw [hl']; exact hd2
                      · have ta := hR.top
                        have tb := hR.pop.top
                        rw [show (b :: S).length = S.length + 1 from rfl] at ta
                        by_cases es2 : s = -2
                        · rw [if_neg (fun g => g es2)]
                          rw [if_pos es2] at hj44
                          refine gw_gRa 70 (tc k4) (r11 k4) ?_
                          rw [op2.1]
                          refine gw_aZw S.length (t70 k4) (n70 k4) oS' (by omega) ?_
                          rw [tb]
                          refine gw_j (fun _ => (b && a) = false) (fun _ e => hj44 _ (by rw [e]; rfl)) (fun j55 hj55 => ?_)
                          cases b with
                          | false => rw [if_pos (show bw false = 0 from rfl)]; exact hj55 _ rfl
                          | true =>
                            rw [if_neg (by decide)]
                            refine gw_gRa 70 (tc k4) (r11 k4) ?_
                            refine gw_aZw (S.length + 1) (t70 k4) (n70 k4) oS1 (by omega) ?_
                            rw [ta]
                            cases a with
                            | false => rw [if_pos (show bw false = 0 from rfl)]; exact hj55 _ rfl
                            | true => rw [if_neg (by decide)]; exact hj44 _ rfl
                        · rw [if_pos es2]
                          rw [if_neg es2] at hj44
                          refine gw_gRa 70 (tc k4) (r11 k4) ?_
                          rw [op2.1]
                          refine gw_aZw S.length (t70 k4) (n70 k4) oS' (by omega) ?_
                          rw [tb]
                          refine gw_j (fun _ => (b || a) = true) (fun _ e => hj44 _ (by rw [e]; rfl)) (fun j49 hj49 => ?_)
                          cases b with
                          | true => rw [if_pos (by decide)]; exact hj49 _ rfl
                          | false =>
                            rw [if_neg (by decide)]
                            refine gw_gRa 70 (tc k4) (r11 k4) ?_
                            refine gw_aZw (S.length + 1) (t70 k4) (n70 k4) oS1 (by omega) ?_
                            rw [ta]
                            cases a with
                            | false => rw [if_pos (show bw false = 0 from rfl)]; exact hj44 _ rfl
                            | true => rw [if_neg (by decide)]; exact hj49 _ rfl
                · cases hd1
              · cases hd1
        · -- a change
          rw [if_neg hb] at hd he
          obtain ⟨hd0, hd1, hd2⟩ := hd
          have am := amt_sum (a := s1) (s := s) (by omega) hd1
          refine gw_lt (fun _ => ?_) (fun g => by omega)
          rw [if_pos (show s ≠ -1 from fun e => by rw [e] at hb; exact hb (by decide))]
          refine gw_le (fun _ => ?_) (fun g => by omega)
          refine gw_gRa 70 (tc k4) (r11 k4) ?_
          cases S with
          | nil => cases hd0
          | cons a S =>
            have hS0 : S.length = 0 := by rw [List.length_cons] at hd0; omega
            have ta := hR.top
            rw [hS0] at ta
            refine gw_aZw 0 (t70 k4) (n70 k4) l0 (by decide) ?_
            rw [ta]
            rw [show (a :: S).headD false = a from rfl] at he
            have fin : ∀ x : Int32, x = (if a = true then s1 + amt s else s1) → gw (j31 (x, 0, s4)) _ := fun x ex => hj31 _ ⟨k4, hf, [], rfl, RT.nil _, hd2, Nat.zero_le _, by rw [← he, ← ex]⟩
            refine gw_j (fun z => z = (if a = true ∧ -200 < s.toInt then -10 - s else 0)) (fun z ez => ?_) (fun j35 hj35 => ?_)
            · refine gw_j (fun y => y = (if a = true ∧ s.toInt ≤ -200 then -200 - s else 0)) (fun y ey => ?_) (fun j37 hj37 => ?_)
              · refine fin _ ?_
                rw [ez, ey]
                cases a with
                | false =>
                  rw [if_neg (fun h => by cases h.1), if_neg (fun h => by cases h.1), if_neg (by decide), Int32.add_zero, Int32.sub_zero]
                | true =>
                  rw [if_pos rfl]
                  by_cases g : -200 < s.toInt
                  · rw [if_pos ⟨rfl, g⟩, if_neg (fun h => by omega)]; exact am.1 g
                  · rw [if_neg (fun h => g h.2), if_pos ⟨rfl, by omega⟩]; exact am.2 (by omega)
              · refine gw_j (fun _ => ¬ (a = true ∧ s.toInt ≤ -200)) (fun _ e => hj37 _ (by rw [if_neg e])) (fun j39 hj39 => ?_)
                cases a with
                | false => rw [if_pos (show bw false = 0 from rfl)]; exact hj39 _ (fun h => by cases h.1)
                | true =>
                  rw [if_neg (by decide)]
                  exact gw_lt (fun g => hj39 _ (fun h => by omega)) (fun g => hj37 _ (by rw [if_pos ⟨rfl, by omega⟩]))
            · refine gw_j (fun _ => ¬ (a = true ∧ -200 < s.toInt)) (fun _ e => hj35 _ (by rw [if_neg e])) (fun j41 hj41 => ?_)
              cases a with
              | false => rw [if_pos (show bw false = 0 from rfl)]; exact hj41 _ (fun h => by cases h.1)
              | true =>
                rw [if_neg (by decide)]
                exact gw_le (fun g => hj41 _ (fun h => by omega)) (fun g => hj35 _ (by rw [if_pos ⟨rfl, by omega⟩]))
  · rw [← hI]
    exact ⟨k6, hf, 0, [], rfl, Nat.zero_le _, rfl, Nat.zero_le _, RT.nil _, drp_fl P hP, Nat.zero_le _, ru_fl P 0 hP⟩
  · show 2000 - (Int32.ofNat st).toInt < ((5000 : Nat) : Int)
    rw [ofn (by omega)]; omega
  · show 0 ≤ 2000 - (Int32.ofNat st).toInt
    rw [ofn (by omega)]; omega
end
section
/-! one child, minute by minute -/
def ab (x : Int32) : Int32 := if x < 0 then 0 else x
theorem mx0 (x : Int32) : (if (0 : Int32) < x then x else 0) = ab x := by
  unfold ab
  have l0 : (0 : Int32).toInt = 0 := rfl
  by_cases h : x < 0
  · rw [if_pos h, if_neg]
    rw [Int32.lt_iff_toInt_lt] at h ⊢
    omega
  · rw [if_neg h]
    by_cases g : 0 < x
    · rw [if_pos g]
    · rw [if_neg g]
      rw [Int32.lt_iff_toInt_lt] at h g
      exact Int32.toInt_inj.mp (by omega)
theorem ab_i (x : Int32) : (ab x).toInt = if x.toInt < 0 then 0 else x.toInt := by
  unfold ab
  by_cases h : x < 0
  · rw [if_pos h, if_pos (by rw [Int32.lt_iff_toInt_lt] at h; exact h)]; rfl
  · rw [if_neg h, if_neg (by rw [Int32.lt_iff_toInt_lt] at h; exact h)]
def kud (k : Nat → Int32) (j : Nat) (x : Int32) (i : Nat) : Int32 := if i = j then x else k i
def cBear (w : Int32) (P : List (List Int32 × Int32)) (k : Nat → Int32) (mi : Int32) : Int32 := ab (k 3 * cSt k mi P - k 4 - k 5 / 2 - w)
def cHold (w : Int32) (P : List (List Int32 × Int32)) (k : Nat → Int32) (mi : Int32) : Int32 := if k 1 = 5 then ab (cBear w P k mi - 10) else cBear w P k mi
def cChew (k : Nat → Int32) (mi : Int32) : Int32 :=
  if k 1 = 1 then 2 * (3 + k 2 / 2) else if k 1 = 2 then (3 + k 2 / 2) / 2 else if k 1 = 3 then ab (3 + k 2 / 2 - 2)
  else if k 1 = 4 then 2 * (3 + k 2 / 2) + k 3 else if k 1 = 5 then (3 + k 2 / 2) / 2 + 1 else if k 1 = 6 then ab (3 + k 2 / 2 - 2) + k (8 + (mi % 4).toInt.toNat) else 3 + k 2 / 2
def cTire (k : Nat → Int32) : Int32 := if k 1 = 1 then k 3 + 1 else if k 1 = 3 then 2 * k 3 else if k 1 = 4 then k 3 + 1 else if k 1 = 5 then k 3 / 2 else if k 1 = 6 then 2 * k 3 else k 3
def wi (x : Int32) : Int32 := if x < 0 then 0 else if 99 < x then 99 else x
def cGo (k : Nat → Int32) (mi : Int32) : Nat → Int32 :=
  if k 6 ≤ 0 then (if k 3 ≤ 0 then kud k 5 (ab (k 5 - 5)) else kud (kud k 4 (ab (k 4 - cChew k mi))) 5 (wi (k 5 + cTire k)))
  else kud k 6 (ab (k 6 - k 2 - 1))
def cGoN : Nat → (Nat → Int32) → Int32 → Nat → Int32
  | 0, k, _ => k
  | n + 1, k, mi => cGo (cGoN n k mi) (mi + Int32.ofNat n)
def RK (k : Nat → Int32) : Prop := ((0 ≤ (k 1).toInt ∧ (k 1).toInt ≤ 6) ∧ (0 ≤ (k 2).toInt ∧ (k 2).toInt ≤ 9) ∧ (0 ≤ (k 3).toInt ∧ (k 3).toInt ≤ 6)) ∧ ((0 ≤ (k 4).toInt ∧ (k 4).toInt ≤ 999) ∧ (0 ≤ (k 5).toInt ∧ (k 5).toInt ≤ 99) ∧ (0 ≤ (k 6).toInt ∧ (k 6).toInt ≤ 100000) ∧ (0 ≤ (k 7).toInt ∧ (k 7).toInt ≤ 9999)) ∧ ∀ j : Nat, j < 4 → 0 ≤ (k (8 + j)).toInt ∧ (k (8 + j)).toInt ≤ 9
theorem i_lit : (0 : Int32).toInt = 0 ∧ (1 : Int32).toInt = 1 ∧ (2 : Int32).toInt = 2 ∧ (3 : Int32).toInt = 3 ∧ (4 : Int32).toInt = 4 ∧ (5 : Int32).toInt = 5 ∧ (6 : Int32).toInt = 6 ∧ (10 : Int32).toInt = 10 ∧ (99 : Int32).toInt = 99 := by decide
theorem idiv2 {x : Int32} (h : 0 ≤ x.toInt) : (x / 2).toInt = x.toInt / 2 := by
  rw [gx_div (by decide), show (2 : Int32).toInt = 2 from rfl, Int.tdiv_eq_ediv_of_nonneg h]
theorem cTire_b {k : Nat → Int32} (h : RK k) : 0 ≤ (cTire k).toInt ∧ (cTire k).toInt ≤ 12 := by
  obtain ⟨l0, l1, l2, l3, l4, l5, l6, l10, l99⟩ := i_lit
  have h3 := h.1.2.2
  have a1 : (k 3 + 1).toInt = (k 3).toInt + (1 : Int32).toInt := gx_add (by omega) (by omega)
  have a2 : ((2 : Int32) * k 3).toInt = 2 * (k 3).toInt := gx_mul 2 rfl (by omega) (by omega)
  have a3 := idiv2 (x := k 3) h3.1
  unfold cTire
  repeat' split
  all_goals omega
theorem mod4_i {x : Int32} (h : 0 ≤ x.toInt) : (x % 4).toInt = x.toInt % 4 := by
  rw [Int32.toInt_mod, show (4 : Int32).toInt = 4 from rfl, Int.tmod_eq_emod_of_nonneg h]
theorem cChew_b {k : Nat → Int32} (h : RK k) (mi : Int32) (hm : 0 ≤ mi.toInt) : 0 ≤ (cChew k mi).toInt ∧ (cChew k mi).toInt ≤ 40 := by
  obtain ⟨l0, l1, l2, l3, l4, l5, l6, l10, l99⟩ := i_lit
  have h2 := h.1.2.1
  have h3 := h.1.2.2
  have a0 := idiv2 (x := k 2) h2.1
  have a1 : (3 + k 2 / 2).toInt = (3 : Int32).toInt + (k 2 / 2).toInt := gx_add (by omega) (by omega)
  have a2 : ((2 : Int32) * (3 + k 2 / 2)).toInt = 2 * (3 + k 2 / 2).toInt := gx_mul 2 rfl (by omega) (by omega)
  have a3 := idiv2 (x := 3 + k 2 / 2) (by omega)
  have a4 : (3 + k 2 / 2 - 2).toInt = (3 + k 2 / 2).toInt - (2 : Int32).toInt := gx_sub (by omega) (by omega)
  have a5 := ab_i (3 + k 2 / 2 - 2)
  rw [if_neg (by omega)] at a5
  have a6 : (2 * (3 + k 2 / 2) + k 3).toInt = ((2 : Int32) * (3 + k 2 / 2)).toInt + (k 3).toInt := gx_add (by omega) (by omega)
  have a7 : ((3 + k 2 / 2) / 2 + 1).toInt = ((3 + k 2 / 2) / 2).toInt + (1 : Int32).toInt := gx_add (by omega) (by omega)
  have m4 := mod4_i hm
  have h8 := h.2.2 (mi % 4).toInt.toNat (by omega)
  have a8 : (ab (3 + k 2 / 2 - 2) + k (8 + (mi % 4).toInt.toNat)).toInt = (ab (3 + k 2 / 2 - 2)).toInt + (k (8 + (mi % 4).toInt.toNat)).toInt := gx_add (by omega) (by omega)
  unfold cChew
  repeat' split
  all_goals omega
theorem wi_b (x : Int32) : 0 ≤ (wi x).toInt ∧ (wi x).toInt ≤ 99 := by
  obtain ⟨l0, l1, l2, l3, l4, l5, l6, l10, l99⟩ := i_lit
  unfold wi
  by_cases h : x < 0
  · rw [if_pos h]; omega
  · rw [if_neg h]
    by_cases g : 99 < x
    · rw [if_pos g]; omega
    · rw [if_neg g]
      rw [Int32.lt_iff_toInt_lt] at h g
      omega
theorem upd_e {k : Nat → Int32} {j : Nat} {x : Int32} : kud k j x j = x := if_pos rfl
theorem upd_n {k : Nat → Int32} {j i : Nat} {x : Int32} (h : i ≠ j) : kud k j x i = k i := if_neg h
theorem RK.u {k : Nat → Int32} (h : RK k) {j : Nat} {x : Int32} (hj : (j = 2 ∧ 0 ≤ x.toInt ∧ x.toInt ≤ 9) ∨ (j = 3 ∧ 0 ≤ x.toInt ∧ x.toInt ≤ 6) ∨ (j = 4 ∧ 0 ≤ x.toInt ∧ x.toInt ≤ 999) ∨ (j = 5 ∧ 0 ≤ x.toInt ∧ x.toInt ≤ 99) ∨ (j = 6 ∧ 0 ≤ x.toInt ∧ x.toInt ≤ 100000) ∨ (j = 7 ∧ 0 ≤ x.toInt ∧ x.toInt ≤ 9999)) : RK (kud k j x) := by
  obtain ⟨⟨h1, h2, h3⟩, ⟨h4, h5, h6, h7⟩, h8⟩ := h
  unfold RK kud
  rcases hj with ⟨rfl, a, b⟩ | ⟨rfl, a, b⟩ | ⟨rfl, a, b⟩ | ⟨rfl, a, b⟩ | ⟨rfl, a, b⟩ | ⟨rfl, a, b⟩
  all_goals (refine ⟨⟨?_, ?_, ?_⟩, ⟨?_, ?_, ?_, ?_⟩, fun i hi => ?_⟩)
  all_goals first | exact h1 | exact h2 | exact h3 | exact h4 | exact h5 | exact h6 | exact h7 | exact ⟨a, b⟩ | (rw [if_neg (by omega)]; exact h8 i hi)
theorem RK.go {k : Nat → Int32} (h : RK k) {mi : Int32} (hm : 0 ≤ mi.toInt) : RK (cGo k mi) := by
  obtain ⟨l0, l1, l2, l3, l4, l5, l6, l10, l99⟩ := i_lit
  obtain ⟨⟨h1, h2, h3⟩, ⟨h4, h5, h6, h7⟩, h8⟩ := id h
  have c := cChew_b h mi hm
  unfold cGo
  split
  · split
    · have s : (k 5 - 5).toInt = (k 5).toInt - (5 : Int32).toInt := gx_sub (by omega) (by omega)
      have a := ab_i (k 5 - 5)
      exact h.u (Or.inr (Or.inr (Or.inr (Or.inl ⟨rfl, by split at a <;> omega, by split at a <;> omega⟩))))
    · have s : (k 4 - cChew k mi).toInt = (k 4).toInt - (cChew k mi).toInt := gx_sub (by omega) (by omega)
      have a := ab_i (k 4 - cChew k mi)
      have w := wi_b (k 5 + cTire k)
      exact (h.u (j := 4) (Or.inr (Or.inr (Or.inl ⟨rfl, by split at a <;> omega, by split at a <;> omega⟩)))).u (Or.inr (Or.inr (Or.inr (Or.inl ⟨rfl, w.1, w.2⟩))))
  · have s : (k 6 - k 2).toInt = (k 6).toInt - (k 2).toInt := gx_sub (by omega) (by omega)
    have s2 : (k 6 - k 2 - 1).toInt = (k 6 - k 2).toInt - (1 : Int32).toInt := gx_sub (by omega) (by omega)
    have a := ab_i (k 6 - k 2 - 1)
    exact h.u (Or.inr (Or.inr (Or.inr (Or.inr (Or.inl ⟨rfl, by split at a <;> omega, by split at a <;> omega⟩)))))
/-- so many minutes: not near the end of the ints -/
theorem mi_add {mi : Int32} {n : Nat} (h : 0 ≤ mi.toInt ∧ mi.toInt ≤ 100000) (hn : n ≤ 1000) : (mi + Int32.ofNat n).toInt = mi.toInt + n := by
  have o := ofn (k := n) (by omega)
  rw [gx_add (by omega) (by omega)]; omega
theorem RK.goN {k : Nat → Int32} (h : RK k) {mi : Int32} (hm : 0 ≤ mi.toInt ∧ mi.toInt ≤ 100000) : ∀ n : Nat, n ≤ 1000 → RK (cGoN n k mi)
  | 0, _ => h
  | n + 1, hn => (h.goN hm n (by omega)).go (by rw [mi_add hm (by omega)]; omega)
/-! the class -/
theorem kC_w {μ : gm_M} {t j : Nat} {x : Int32} (h : j < 8) (h1 : j ≠ 1) : kC (wI μ t j x) t = kud (kC μ t) j x := by
  funext i
  unfold kud kC
  by_cases e1 : i = 1
  · rw [if_pos e1, if_neg (by omega), if_pos e1]; rfl
  · rw [if_neg e1]
    by_cases e2 : i < 8
    · rw [if_pos e2]
      by_cases e : i = j
      · rw [if_pos e, e, wI_e]
      · rw [if_neg e, wI_n _ _ _ _ e, if_neg e1, if_pos e2]
    · rw [if_neg e2, if_neg (show ¬ i = j by omega), if_neg e1, if_neg e2]
      by_cases e3 : i < 12
      · rw [if_pos e3, if_pos e3, wI_o _ _ _ _ (by omega)]
      · rw [if_neg e3, if_neg e3]
theorem kC_o {μ m : gm_M} {t : Nat} (e1 : m.2.2 t 1 = μ.2.2 t 1) (e2 : m.2.1 t = μ.2.1 t) (e3 : ∀ j : Nat, j < 4 → m.2.1 (t + 1) j = μ.2.1 (t + 1) j) : kC m t = kC μ t := by
  funext i
  unfold kC
  rw [e1, e2]
  by_cases h1 : i < 8
  · rw [if_pos h1, if_pos h1]
  · rw [if_neg h1, if_neg h1]
    by_cases h2 : i < 12
    · rw [if_pos h2, if_pos h2, e3 _ (by omega)]
    · rw [if_neg h2, if_neg h2]
theorem kC_cp {μ m : gm_M} {a b : Nat} (h : ccp a b μ m) : kC m a = kC μ b := by
  obtain ⟨-, h2, -, h4, h5⟩ := h
  funext i
  unfold kC
  rw [h2, gu_eq]
  by_cases e1 : i = 1
  · rw [if_pos e1, if_pos e1]
  · rw [if_neg e1, if_neg e1]
    by_cases h1 : i < 8
    · rw [if_pos h1, if_pos h1, h4 i h1 e1]
    · rw [if_neg h1, if_neg h1]
      by_cases h2 : i < 12
      · rw [if_pos h2, if_pos h2, h5 _ (by omega)]
      · rw [if_neg h2, if_neg h2]
/-- what the class's askings go by -/
def CW (w : Int32) (P : List (List Int32 × Int32)) (μ : gm_M) : Prop := CI μ ∧ KD μ ∧ (okP P ∧ P.length ≤ 10 ∧ (fl P).length ≤ 100) ∧ ∃ sw : Int32, AFC μ (μ.2.2 15 6) w sw (fl P)
theorem CW.kc {w : Int32} {P : List (List Int32 × Int32)} {μ m : gm_M} (h : CW w P μ) (g : kc μ m) : CW w P m := by
  obtain ⟨h1, h2, h3, sw, h4⟩ := h
  have ha : AfW μ (μ.2.2 15 6) := h1.2.1.2.2.2.1
  have p0 := ha.1
  refine ⟨h1.of g, fun i hi => by rw [g.row (by omega)]; exact h2 i hi, h3, sw, ?_⟩
  rw [g.ref (show (15 : Nat) ≠ 63 by decide)]
  unfold AFC
  rw [g.row (r := μ.2.2 15 6) (by omega), g.row (r := μ.2.2 15 6 + 1) (by omega), g.row (r := μ.2.2 15 6 + 2) (by omega), g.row (r := μ.2.2 15 6 + 3) (by omega)]
  exact h4
theorem CW.aw {w : Int32} {P : List (List Int32 × Int32)} {μ : gm_M} (h : CW w P μ) : AfW μ (μ.2.2 15 6) := h.1.2.1.2.2.2.1
theorem CW.kid {w : Int32} {P : List (List Int32 × Int32)} {μ : gm_M} (h : CW w P μ) {t : Nat} (ht : ict t) : kid (μ.2.2 t 1) := h.1.2.2.2.1 t (Or.inl ht)
theorem kid_tags {μ : gm_M} (h : gS μ) {q : Nat} (p : kid q) : (q = 8 ∧ gm_tag μ q = 10) ∨ (q = 9 ∧ gm_tag μ q = 11) ∨ (q = 10 ∧ gm_tag μ q = 14) ∨ (q = 11 ∧ gm_tag μ q = 8) ∨ (q = 12 ∧ gm_tag μ q = 9) ∨ (q = 13 ∧ gm_tag μ q = 6) ∨ (q = 14 ∧ gm_tag μ q = 15) := by
  obtain ⟨p1, p2⟩ := p
  obtain rfl | rfl | rfl | rfl | rfl | rfl | rfl : q = 8 ∨ q = 9 ∨ q = 10 ∨ q = 11 ∨ q = 12 ∨ q = 13 ∨ q = 14 := by omega
  · exact Or.inl ⟨rfl, h.t rfl⟩
  · exact Or.inr (Or.inl ⟨rfl, h.t rfl⟩)
  · exact Or.inr (Or.inr (Or.inl ⟨rfl, h.t rfl⟩))
  · exact Or.inr (Or.inr (Or.inr (Or.inl ⟨rfl, h.t rfl⟩)))
  · exact Or.inr (Or.inr (Or.inr (Or.inr (Or.inl ⟨rfl, h.t rfl⟩))))
  · exact Or.inr (Or.inr (Or.inr (Or.inr (Or.inr (Or.inl ⟨rfl, h.t rfl⟩)))))
  · exact Or.inr (Or.inr (Or.inr (Or.inr (Or.inr (Or.inr ⟨rfl, h.t rfl⟩)))))
theorem and3 {x : Int32} (h : 0 ≤ x.toInt) : (x &&& 3).toInt = x.toInt % 4 := by
  have e : (x &&& 3).toBitVec.toNat = x.toBitVec.toNat % 4 := by
    rw [Int32.toBitVec_and, BitVec.toNat_and]
    exact Nat.and_two_pow_sub_one_eq_mod _ 2
  have b := gx_and3 x
  have h1 : x.toInt = (x.toBitVec.toNat : Int) := by
    have : x.toInt = x.toBitVec.toInt := rfl
    rw [this, BitVec.toInt_eq_toNat_cond] at h ⊢
    split at h
    · rename_i g; rw [if_pos g]
    · exfalso; have := x.toBitVec.isLt; omega
  have h2 : (x &&& 3).toInt = ((x &&& 3).toBitVec.toNat : Int) := by
    have : (x &&& 3).toInt = (x &&& 3).toBitVec.toInt := rfl
    rw [this, BitVec.toInt_eq_toNat_cond, if_pos (by omega)]
  rw [h2, e, h1]; omega
theorem v_dares {μ : gm_M} (hg : gS μ) {q : Nat} (hq : kid q) (x : Int32) : gwI (fv_dares q x μ) (fun y m => y = (if Int32.ofNat (q - 8) = 5 then ab (x - 10) else x) ∧ m = μ) := by
  refine gwI_of ?_
  unfold fv_dares
  rcases kid_tags hg hq with ⟨rfl, e⟩ | ⟨rfl, e⟩ | ⟨rfl, e⟩ | ⟨rfl, e⟩ | ⟨rfl, e⟩ | ⟨rfl, e⟩ | ⟨rfl, e⟩
  all_goals rw [e]
  · rw [if_pos rfl, if_neg (by decide)]; exact gw_some (gq_I ⟨rfl, rfl⟩)
  · rw [if_neg (by decide), if_pos rfl, if_neg (by decide)]; exact gw_some (gq_I ⟨rfl, rfl⟩)
  · rw [if_neg (by decide), if_neg (by decide), if_pos rfl, if_neg (by decide)]; exact gw_some (gq_I ⟨rfl, rfl⟩)
  · rw [if_neg (by decide), if_neg (by decide), if_neg (by decide), if_pos rfl, if_neg (by decide)]; exact gw_some (gq_I ⟨rfl, rfl⟩)
  · rw [if_neg (by decide), if_neg (by decide), if_neg (by decide), if_neg (by decide), if_pos rfl, if_neg (by decide)]; exact gw_some (gq_I ⟨rfl, rfl⟩)
  · rw [if_neg (by decide), if_neg (by decide), if_neg (by decide), if_neg (by decide), if_neg (by decide), if_pos rfl, if_pos (by decide)]
    exact gw_some (gq_I ⟨mx0 _, rfl⟩)
  · rw [if_neg (by decide), if_neg (by decide), if_neg (by decide), if_neg (by decide), if_neg (by decide), if_neg (by decide), if_pos rfl, if_neg (by decide)]; exact gw_some (gq_I ⟨rfl, rfl⟩)
section
variable {μ : gm_M} {w : Int32} {P : List (List Int32 × Int32)} {t : Nat}
theorem v_holds (h : CW w P μ) (ht : ict t) (mi : Int32) : gwI (f_X2_holds t (μ.2.2 15 6) mi μ) (fun x m => x = cHold w P (kC μ t) mi ∧ m = μ) := by
  have ha := h.aw
  have hk := h.kid ht
  obtain ⟨h1, h2, ⟨p1, p2, p3⟩, sw, h4⟩ := h
  refine gwI_of ?_
  unfold f_X2_holds
  refine gw_if ha.t ?_
  refine gw_bI (v_stretch h1.1 h2 ha ht hk p1 p2 p3 h4 mi) (fun x m ⟨ex, em⟩ => ?_)
  subst em
  subst ex
  refine gw_gIw (ict.c h1.1 ht) ?_
  refine gw_gIw (ict.c h1.1 ht) ?_
  refine gw_gIw (ict.c h1.1 ht) ?_
  refine gw_dv (by decide) ?_
  refine gw_gIw ha.tc ?_
  rw [h4.1.1]
  refine gw_gR (ict.c h1.1 ht) (fun q eq => ?_)
  rw [mx0]
  rw [← eq] at hk
  refine gw_bI (v_dares h1.1 hk _) (fun y m' ⟨ey, em⟩ => ?_)
  subst em
  subst ey
  refine gw_some (gq_I ⟨?_, rfl⟩)
  unfold cHold cBear
  rw [show kC m' t 1 = Int32.ofNat (q - 8) by rw [eq]; rfl]
  rfl
theorem v_chew (h : CW w P μ) (ht : ict t) {mi : Int32} (hm : 0 ≤ mi.toInt) : gwI (fv_sugarChewed (μ.2.2 t 1) t mi μ) (fun x m => x = cChew (kC μ t) mi ∧ m = μ) := by
  have hk := h.kid ht
  have hg := h.1.1
  have e1 : kC μ t 1 = Int32.ofNat (μ.2.2 t 1 - 8) := rfl
  generalize μ.2.2 t 1 = q at *
  have pl : ∀ (Q : (Option Value × gm_M) → Prop) (q : Nat) (f : Int32 → gm_M → Option (Option Value × gm_M)), gw (f (3 + kC μ t 2 / 2) μ) Q → gw (gm_bI (f_X5_sugarChewed q t mi μ) f) Q := fun Q q f hf => by
    refine gw_bI (R := fun x m => x = 3 + kC μ t 2 / 2 ∧ m = μ) (gwI_of ?_) (fun x m ⟨ex, em⟩ => by subst em; subst ex; exact hf)
    unfold f_X5_sugarChewed
    refine gw_gIw (ict.c hg ht) ?_
    refine gw_dv (by decide) ?_
    exact gw_some (gq_I ⟨rfl, rfl⟩)
  refine gwI_of ?_
  unfold fv_sugarChewed
  rcases kid_tags hg hk with ⟨rfl, e⟩ | ⟨rfl, e⟩ | ⟨rfl, e⟩ | ⟨rfl, e⟩ | ⟨rfl, e⟩ | ⟨rfl, e⟩ | ⟨rfl, e⟩
  all_goals (rw [e]; unfold cChew; rw [e1])
  · rw [if_pos rfl, if_neg (by decide), if_neg (by decide), if_neg (by decide), if_neg (by decide), if_neg (by decide), if_neg (by decide)]
    unfold f_X5_sugarChewed
    refine gw_gIw (ict.c hg ht) ?_
    refine gw_dv (by decide) ?_
    exact gw_some (gq_I ⟨rfl, rfl⟩)
  · rw [if_neg (by decide), if_pos rfl, if_pos (by decide)]
    unfold f_X6_sugarChewed
    refine gw_if (by rw [e]; rfl) ?_
    exact pl _ _ _ (gw_some (gq_I ⟨rfl, rfl⟩))
  · rw [if_neg (by decide), if_neg (by decide), if_pos rfl, if_neg (by decide), if_pos (by decide)]
    unfold f_X9_sugarChewed
    refine gw_if (by rw [e]; rfl) ?_
    refine pl _ _ _ ?_
    refine gw_dv (by decide) ?_
    exact gw_some (gq_I ⟨rfl, rfl⟩)
  · rw [if_neg (by decide), if_neg (by decide), if_neg (by decide), if_pos rfl, if_neg (by decide), if_neg (by decide), if_pos (by decide)]
    unfold f_X3_sugarChewed
    refine gw_if (by rw [e]; rfl) ?_
    exact pl _ _ _ (gw_some (gq_I ⟨mx0 _, rfl⟩))
  · rw [if_neg (by decide), if_neg (by decide), if_neg (by decide), if_neg (by decide), if_pos rfl, if_neg (by decide), if_neg (by decide), if_neg (by decide), if_pos (by decide)]
    unfold f_X4_sugarChewed
    refine gw_if (by rw [e]; rfl) ?_
    refine gw_bI (R := fun x m => x = 2 * (3 + kC μ t 2 / 2) ∧ m = μ) (gwI_of ?_) (fun x m ⟨ex, em⟩ => ?_)
    · unfold f_X6_sugarChewed
      refine gw_if (by rw [e]; rfl) ?_
      exact pl _ _ _ (gw_some (gq_I ⟨rfl, rfl⟩))
    · subst em
      subst ex
      refine gw_gIw (ict.c hg ht) ?_
      exact gw_some (gq_I ⟨rfl, rfl⟩)
  · rw [if_neg (by decide), if_neg (by decide), if_neg (by decide), if_neg (by decide), if_neg (by decide), if_pos rfl, if_neg (by decide), if_neg (by decide), if_neg (by decide), if_neg (by decide), if_pos (by decide)]
    unfold f_X1_sugarChewed
    refine gw_if (by rw [e]; rfl) ?_
    refine gw_bI (R := fun x m => x = (3 + kC μ t 2 / 2) / 2 ∧ m = μ) (gwI_of ?_) (fun x m ⟨ex, em⟩ => ?_)
    · unfold f_X9_sugarChewed
      refine gw_if (by rw [e]; rfl) ?_
      refine pl _ _ _ ?_
      refine gw_dv (by decide) ?_
      exact gw_some (gq_I ⟨rfl, rfl⟩)
    · subst em
      subst ex
      exact gw_some (gq_I ⟨rfl, rfl⟩)
  · rw [if_neg (by decide), if_neg (by decide), if_neg (by decide), if_neg (by decide), if_neg (by decide), if_neg (by decide), if_pos rfl, if_neg (by decide), if_neg (by decide), if_neg (by decide), if_neg (by decide), if_neg (by decide), if_pos (by decide)]
    unfold f_X10_sugarChewed
    refine gw_if (by rw [e]; rfl) ?_
    refine gw_bI (R := fun x m => x = ab (3 + kC μ t 2 / 2 - 2) ∧ m = μ) (gwI_of ?_) (fun x m ⟨ex, em⟩ => ?_)
    · unfold f_X3_sugarChewed
      refine gw_if (by rw [e]; rfl) ?_
      exact pl _ _ _ (gw_some (gq_I ⟨mx0 _, rfl⟩))
    · subst em
      subst ex
      have a3 := and3 hm
      have m4 := mod4_i hm
      refine gw_gRa (t + 1) (ict.c hg ht) (ict.row hg ht) ?_
      refine gw_aIw (mi % 4).toInt.toNat (ict.rt hg ht) (ict.rl hg ht) (by omega) (by omega) ?_
      refine gw_some (gq_I ⟨?_, rfl⟩)
      have : kC m t (8 + (mi % 4).toInt.toNat) = m.2.1 (t + 1) (mi % 4).toInt.toNat := by
        unfold kC
        rw [if_neg (by omega), if_neg (by omega), if_pos (by omega), show 8 + (mi % 4).toInt.toNat - 8 = (mi % 4).toInt.toNat by omega]
      rw [this]
theorem v_tire (h : CW w P μ) (ht : ict t) : gwI (fv_jawTired (μ.2.2 t 1) t μ) (fun x m => x = cTire (kC μ t) ∧ m = μ) := by
  have hk := h.kid ht
  have hg := h.1.1
  have e1 : kC μ t 1 = Int32.ofNat (μ.2.2 t 1 - 8) := rfl
  generalize μ.2.2 t 1 = q at *
  refine gwI_of ?_
  unfold fv_jawTired
  rcases kid_tags hg hk with ⟨rfl, e⟩ | ⟨rfl, e⟩ | ⟨rfl, e⟩ | ⟨rfl, e⟩ | ⟨rfl, e⟩ | ⟨rfl, e⟩ | ⟨rfl, e⟩
  all_goals (rw [e]; unfold cTire; rw [e1])
  · rw [if_pos rfl, if_neg (by decide), if_neg (by decide), if_neg (by decide), if_neg (by decide), if_neg (by decide)]
    unfold f_X5_jawTired
    exact gw_gIw (ict.c hg ht) (gw_some (gq_I ⟨rfl, rfl⟩))
  · rw [if_neg (by decide), if_pos rfl, if_pos (by decide)]
    unfold f_X6_jawTired
    exact gw_gIw (ict.c hg ht) (gw_some (gq_I ⟨rfl, rfl⟩))
  · rw [if_neg (by decide), if_neg (by decide), if_pos rfl, if_neg (by decide), if_neg (by decide), if_neg (by decide), if_neg (by decide), if_neg (by decide)]
    unfold f_X5_jawTired
    exact gw_gIw (ict.c hg ht) (gw_some (gq_I ⟨rfl, rfl⟩))
  · rw [if_neg (by decide), if_neg (by decide), if_neg (by decide), if_pos rfl, if_neg (by decide), if_pos (by decide)]
    unfold f_X3_jawTired
    exact gw_gIw (ict.c hg ht) (gw_some (gq_I ⟨rfl, rfl⟩))
  · rw [if_neg (by decide), if_neg (by decide), if_neg (by decide), if_neg (by decide), if_pos rfl, if_neg (by decide), if_neg (by decide), if_pos (by decide)]
    unfold f_X6_jawTired
    exact gw_gIw (ict.c hg ht) (gw_some (gq_I ⟨rfl, rfl⟩))
  · rw [if_neg (by decide), if_neg (by decide), if_neg (by decide), if_neg (by decide), if_neg (by decide), if_pos rfl, if_neg (by decide), if_neg (by decide), if_neg (by decide), if_pos (by decide)]
    unfold f_X1_jawTired
    refine gw_gIw (ict.c hg ht) ?_
    refine gw_dv (by decide) ?_
    exact gw_some (gq_I ⟨rfl, rfl⟩)
  · rw [if_neg (by decide), if_neg (by decide), if_neg (by decide), if_neg (by decide), if_neg (by decide), if_neg (by decide), if_pos rfl, if_neg (by decide), if_neg (by decide), if_neg (by decide), if_neg (by decide), if_pos (by decide)]
    unfold f_X3_jawTired
    exact gw_gIw (ict.c hg ht) (gw_some (gq_I ⟨rfl, rfl⟩))
theorem wi_min {x : Int32} (h : 0 ≤ x.toInt) : (if x < (99 : Int32) then x else 99) = wi x := by
  obtain ⟨l0, l1, l2, l3, l4, l5, l6, l10, l99⟩ := i_lit
  unfold wi
  rw [if_neg (show ¬ x < 0 by rw [Int32.lt_iff_toInt_lt]; omega)]
  by_cases g : 99 < x
  · rw [if_pos g, if_neg]
    rw [Int32.lt_iff_toInt_lt] at g ⊢
    omega
  · rw [if_neg g]
    split
    · rfl
    · rename_i g2
      rw [Int32.lt_iff_toInt_lt] at g g2
      exact Int32.toInt_inj.mp (by omega)
/-- a child's own numbers change, no other thing -/
theorem CW.ch (h : CW w P μ) (ht : ict t) {j : Nat} (hj : 3 ≤ j) (x : Int32) : CW w P (wI μ t j x) := by
  have p0 := h.aw.1
  have hto : 29 ≤ t ∧ t ≤ 63 ∧ t % 2 = 1 ∧ t ≠ 43 ∧ t ≠ 45 ∧ t < 65 ∧ ¬ (38 < t ∧ t < 63) := by unfold ict isch at ht; omega
  have g : chg t μ (wI μ t j x) := (chg.refl t μ).w rfl hj
  obtain ⟨h1, h2, h3, sw, h4⟩ := h
  refine ⟨h1.ch ht g, fun i hi => by rw [wI_o _ _ _ _ (by omega)]; exact h2 i hi, h3, sw, ?_⟩
  show AFC (wI μ t j x) (μ.2.2 15 6) w sw (fl P)
  unfold AFC
  rw [wI_o _ _ _ _ (show μ.2.2 15 6 ≠ t by omega), wI_o _ _ _ _ (show μ.2.2 15 6 + 1 ≠ t by omega), wI_o _ _ _ _ (show μ.2.2 15 6 + 2 ≠ t by omega), wI_o _ _ _ _ (show μ.2.2 15 6 + 3 ≠ t by omega)]
  exact h4
theorem v_pass (h : CW w P μ) (ht : ict t) {mi : Int32} (hm : 0 ≤ mi.toInt) (hr : RK (kC μ t)) : gwV (f_X2_passMinute t mi μ) (fun m => chg t μ m ∧ kC m t = cGo (kC μ t) mi ∧ CW w P m) := by
  obtain ⟨l0, l1, l2, l3, l4, l5, l6, l10, l99⟩ := i_lit
  have hg := h.1.1
  have tc := ict.c hg ht
  refine gwV_of ?_
  unfold f_X2_passMinute
  have g6 : kC μ t 6 = μ.2.1 t 6 := rfl
  have g3 : kC μ t 3 = μ.2.1 t 3 := rfl
  have r0 := chg.refl t μ
  refine gw_gIw tc ?_
  refine gw_ite (fun c6 => ?_) (fun c6 => ?_)
  · refine gw_gIw tc ?_
    refine gw_ite (fun c3 => ?_) (fun c3 => ?_)
    · refine gw_gIw tc ?_
      refine gw_pIw tc ?_
      rw [mx0]
      refine gw_some (gq_V ⟨r0.w rfl (by decide), ?_, h.ch ht (by decide) _⟩)
      rw [kC_w (by decide) (by decide), cGo, g6, if_pos c6, g3, if_pos c3]; rfl
    · refine gw_gIw tc ?_
      refine gw_gR tc (fun q eq => ?_)
      subst eq
      refine gw_bI (v_chew h ht hm) (fun x m ⟨ex, em⟩ => ?_)
      subst em
      subst ex
      refine gw_pIw tc ?_
      rw [mx0]
      have h1 := h.ch ht (j := 4) (by decide) (ab (m.2.1 t 4 - cChew (kC m t) mi))
      have k1 : kC (wI m t 4 (ab (m.2.1 t 4 - cChew (kC m t) mi))) t = kud (kC m t) 4 (ab (m.2.1 t 4 - cChew (kC m t) mi)) := kC_w (by decide) (by decide)
      have r1 : chg t m (wI m t 4 (ab (m.2.1 t 4 - cChew (kC m t) mi))) := r0.w rfl (by decide)
      generalize hM : wI m t 4 (ab (m.2.1 t 4 - cChew (kC m t) mi)) = M at *
      have tc1 := ict.c h1.1.1 ht
      refine gw_gIw tc1 ?_
      refine gw_gR tc1 (fun q eq => ?_)
      subst eq
      refine gw_bI (v_tire h1 ht) (fun x m' ⟨ex, em⟩ => ?_)
      subst em
      subst ex
      have ct := cTire_b hr
      have e5 : m'.2.1 t 5 = kC m t 5 := by
        have : kC m' t 5 = m'.2.1 t 5 := rfl
        rw [← this, k1, upd_n (by decide)]
      have et : cTire (kC m' t) = cTire (kC m t) := by
        rw [k1]; unfold cTire; rw [upd_n (by decide), upd_n (by decide)]
      have h5 := hr.2.1.2.1
      refine gw_pIw tc1 ?_
      rw [e5, et, wi_min (by rw [gx_add (by omega) (by omega)]; omega)]
      refine gw_some (gq_V ⟨r1.w rfl (by decide), ?_, h1.ch ht (by decide) _⟩)
      rw [kC_w (by decide) (by decide), k1, cGo, g6, if_pos c6, g3, if_neg c3]; rfl
  · refine gw_gIw tc ?_
    refine gw_gIw tc ?_
    refine gw_pIw tc ?_
    rw [mx0]
    refine gw_some (gq_V ⟨r0.w rfl (by decide), ?_, h.ch ht (by decide) _⟩)
    rw [kC_w (by decide) (by decide), cGo, g6, if_neg c6]; rfl
end
end
section
/-! the reference: one child, minute by minute -/
theorem m_ab {μ : gm_M} (x : Int32) : gwI (f_X12_above x μ) (fun y m => y = ab x ∧ m = μ) := by
  refine gwI_of ?_
  unfold f_X12_above
  have l0 : (0 : Int32).toInt = 0 := rfl
  refine gw_le (fun g => gw_some (gq_I ⟨?_, rfl⟩)) (fun g => gw_some (gq_I ⟨?_, rfl⟩))
  · unfold ab; rw [if_neg (by rw [Int32.lt_iff_toInt_lt]; omega)]
  · unfold ab; rw [if_pos (by rw [Int32.lt_iff_toInt_lt]; omega)]
theorem m_in {β : Type} {Q : β → Prop} {μ : gm_M} {x lo hi : Int32} {f : Int32 → gm_M → Option β} (h1 : lo.toInt ≤ x.toInt → x.toInt ≤ hi.toInt → gw (f 1 μ) Q) (h0 : (x.toInt < lo.toInt ∨ hi.toInt < x.toInt) → gw (f 0 μ) Q) : gw (gm_bI (f_X12_in x lo hi μ) f) Q := by
  refine gw_bI (R := fun y m => m = μ ∧ ((y = 1 ∧ lo.toInt ≤ x.toInt ∧ x.toInt ≤ hi.toInt) ∨ (y = 0 ∧ (x.toInt < lo.toInt ∨ hi.toInt < x.toInt)))) (gwI_of ?_) (fun y m ⟨em, hy⟩ => ?_)
  · unfold f_X12_in
    refine gw_lt (fun g => gw_z Iff.rfl (Or.inl rfl) (gq_I ⟨rfl, Or.inr ⟨rfl, Or.inl g⟩⟩)) (fun g => ?_)
    exact gw_lt (fun g2 => gw_z Iff.rfl (Or.inl rfl) (gq_I ⟨rfl, Or.inr ⟨rfl, Or.inr g2⟩⟩)) (fun g2 => gw_z Iff.rfl (Or.inr rfl) (gq_I ⟨rfl, Or.inl ⟨rfl, g, g2⟩⟩))
  · subst em
    rcases hy with ⟨ey, a, b⟩ | ⟨ey, a⟩
    · subst ey; exact h1 a b
    · subst ey; exact h0 a
theorem kR_w {m : gm_M} {c d j i : Nat} {x : Int32} (hc : c < 5) (hd : d < 5) (hj : 3 ≤ j) (hj8 : j < 8) (hi : i = 5 * j - 14 + c) : kR ((wI m 66 i x).2.1 66) d = (if d = c then kud (kR (m.2.1 66) c) j x else kR (m.2.1 66) d) := by
  subst hi
  funext k
  have e : (wI m 66 (5 * j - 14 + c) x).2.1 66 = fun q => if q = 5 * j - 14 + c then x else m.2.1 66 q := by
    funext q
    by_cases h : q = 5 * j - 14 + c
    · rw [h, wI_e, if_pos rfl]
    · rw [wI_n _ _ _ _ h, if_neg h]
  rw [e]
  by_cases hdc : d = c
  · rw [if_pos hdc, hdc]
    unfold kud kR
    dsimp only
    by_cases h0 : k = 0
    · rw [if_pos h0, if_neg (show ¬ k = j by omega), if_pos h0]
    · rw [if_neg h0]
      by_cases h1 : k = 1
      · rw [if_pos h1, if_neg (show ¬ k = j by omega), if_neg h0, if_pos h1, if_neg (by omega)]
      · rw [if_neg h1]
        by_cases h2 : k = 2
        · rw [if_pos h2, if_neg (show ¬ k = j by omega), if_neg h0, if_neg h1, if_pos h2, if_neg (by omega)]
        · rw [if_neg h2]
          by_cases h8 : k < 8
          · rw [if_pos h8]
            by_cases hk : k = j
            · rw [if_pos hk, if_pos (by omega)]
            · rw [if_neg hk, if_neg (by omega), if_neg h0, if_neg h1, if_neg h2, if_pos h8]
          · rw [if_neg h8, if_neg (show ¬ k = j by omega), if_neg h0, if_neg h1, if_neg h2, if_neg h8]
            by_cases h12 : k < 12
            · rw [if_pos h12, if_pos h12, if_neg (by omega)]
            · rw [if_neg h12, if_neg h12]
  · rw [if_neg hdc]
    unfold kR
    dsimp only
    by_cases h0 : k = 0
    · rw [if_pos h0, if_pos h0]
    · rw [if_neg h0, if_neg h0]
      by_cases h1 : k = 1
      · rw [if_pos h1, if_pos h1, if_neg (by omega)]
      · rw [if_neg h1, if_neg h1]
        by_cases h2 : k = 2
        · rw [if_pos h2, if_pos h2, if_neg (by omega)]
        · rw [if_neg h2, if_neg h2]
          by_cases h8 : k < 8
          · rw [if_pos h8, if_pos h8, if_neg (by omega)]
          · rw [if_neg h8, if_neg h8]
            by_cases h12 : k < 12
            · rw [if_pos h12, if_pos h12, if_neg (by omega)]
            · rw [if_neg h12, if_neg h12]
/-- what the reference's askings go by -/
def MW (w sw : Int32) (P : List (List Int32 × Int32)) (μ : gm_M) : Prop := MI μ ∧ HR (μ.2.1 66) w sw P
theorem HR.of {σ τ : Nat → Int32} {w sw : Int32} {P : List (List Int32 × Int32)} (h : HR σ w sw P) (e : ∀ k : Nat, k = 32 ∨ 210 ≤ k → τ k = σ k) : HR τ w sw P := by
  obtain ⟨h1, h2⟩ := h
  refine ⟨h1, ?_⟩
  rcases h2 with ⟨a, b⟩ | ⟨a, ha, e1, ⟨e2, e3⟩, e4, e5⟩
  · exact Or.inl ⟨by rw [e 32 (Or.inl rfl)]; exact a, b⟩
  · exact Or.inr ⟨a, ha, by rw [e 32 (Or.inl rfl)]; exact e1, ⟨by rw [e _ (by omega)]; exact e2, by rw [e _ (by omega)]; exact e3⟩, by rw [e _ (by omega)]; exact e4, fun i hi => by rw [e _ (by omega)]; exact e5 i hi⟩
theorem MW.k2 {w sw : Int32} {P : List (List Int32 × Int32)} {μ m : gm_M} (h : MW w sw P μ) (g : km A2 μ m) : MW w sw P m := ⟨h.1.of2 g, h.2.of (fun k hk => g.2.2.2.1 k (by unfold A2; omega))⟩
theorem MW.k1 {w sw : Int32} {P : List (List Int32 × Int32)} {μ m : gm_M} (h : MW w sw P μ) (g : km A1 μ m) : MW w sw P m := h.k2 g.w12
theorem MW.k0 {w sw : Int32} {P : List (List Int32 × Int32)} {μ m : gm_M} (h : MW w sw P μ) (g : km A0 μ m) : MW w sw P m := h.k2 g.w02
theorem km.row {μ m : gm_M} (g : km A0 μ m) : m.2.1 66 = μ.2.1 66 := funext fun k => g.2.2.2.1 k (fun q => q)
section
variable {μ : gm_M} {w sw : Int32} {P : List (List Int32 × Int32)} {c : Nat}
theorem cSt_w {k : Nat → Int32} {mi : Int32} (hP : okP P) (hl : P.length ≤ 10) : (if (1 : Int32) ≤ 30 + cSum k mi P 0 then (if 30 + cSum k mi P 0 ≤ 1000000 then 30 + cSum k mi P 0 else 1000000) else 1) = cSt k mi P := by
  have b := cSum_b (k := k) (mi := mi) P 0 0 hP (by omega) (by decide) (by decide)
  have l1 : (1 : Int32).toInt = 1 := rfl
  have l30 : (30 : Int32).toInt = 30 := rfl
  have lm : (1000000 : Int32).toInt = 1000000 := rfl
  have e : 30 + cSum k mi P 0 = cSum k mi P 30 := by rw [← cSum_add, Int32.add_zero]
  have n : (30 + cSum k mi P 0).toInt = (30 : Int32).toInt + (cSum k mi P 0).toInt := gx_add (by omega) (by omega)
  rw [e] at n ⊢
  unfold cSt
  rw [if_pos (show cSum k mi P 30 ≤ 1000000 by rw [Int32.le_iff_toInt_le]; omega)]
  by_cases h : 1 < cSum k mi P 30
  · rw [if_pos h, if_pos]
    rw [Int32.lt_iff_toInt_lt] at h
    rw [Int32.le_iff_toInt_le]; omega
  · rw [if_neg h]
    split
    · rename_i g
      rw [Int32.lt_iff_toInt_lt] at h
      rw [Int32.le_iff_toInt_le] at g
      exact Int32.toInt_inj.mp (by omega)
    · rfl
theorem w_stretch (h : MW w sw P μ) (hc : c < 5) : gwI (f_X12_stretchOf 65 (Int32.ofNat c) μ) (fun x m => km A0 μ m ∧ x = cSt (kR (μ.2.1 66) c) (μ.2.1 66 0) P) := by
  refine gwI_of ?_
  unfold f_X12_stretchOf
  refine gw_if (h.1.1.t (r := 65) rfl) ?_
  refine gw_bI (w_looks h.1 hc h.2) (fun x m ⟨k, ex⟩ => ?_)
  subst ex
  refine gw_bI (R := fun y m' => m' = m ∧ y = cSt (kR (μ.2.1 66) c) (μ.2.1 66 0) P) (gwI_of ?_) (fun y m' ⟨em, ey⟩ => ?_)
  · rw [← cSt_w h.2.1.1 h.2.1.2.1]
    unfold f_X12_within
    refine gw_ite (fun g => ?_) (fun g => ?_)
    · rw [if_pos g]
      refine gw_ite (fun g2 => ?_) (fun g2 => ?_)
      · rw [if_pos g2]; exact gw_some (gq_I ⟨rfl, rfl⟩)
      · rw [if_neg g2]; exact gw_some (gq_I ⟨rfl, rfl⟩)
    · rw [if_neg g]; exact gw_some (gq_I ⟨rfl, rfl⟩)
  · subst em
    exact gw_some (gq_I ⟨k, ey⟩)
theorem w_wind (h : MW w sw P μ) : gwI (f_X12_tellsOf 65 210 0 μ) (fun x m => m = μ ∧ x = w) := by
  have l210 : (210 : Int32).toInt = 210 := rfl
  refine gwI_mono (s_X12_tellsOf h.1 ⟨by omega, by omega⟩) (fun x m ⟨em, hx⟩ => ⟨em, ?_⟩)
  rcases h.2.2 with ⟨a, b, -⟩ | ⟨a, ha, e1, ⟨e2, e3⟩, -⟩
  · rw [a] at hx
    rcases hx with ⟨-, ex⟩ | ⟨g, -⟩
    · rw [ex, b]
    · exact absurd g (by decide)
  · have oa := ofn (k := a) (by omega)
    rw [e1] at hx
    rcases hx with ⟨g, -⟩ | ⟨-, -, ex⟩
    · omega
    · rw [ex, ← e2, show ((210 : Int32).toInt + (Int32.ofNat a).toInt).toNat = 210 + a by omega]
theorem w_sweet (h : MW w sw P μ) : gwI (f_X12_sweetNow 65 μ) (fun x m => m = μ ∧ x = sw) := by
  have l215 : (215 : Int32).toInt = 215 := rfl
  refine gwI_of ?_
  unfold f_X12_sweetNow
  refine gw_if (h.1.1.t (r := 65) rfl) ?_
  refine gw_bI (R := fun x m => m = μ ∧ x = sw) (gwI_mono (s_X12_tellsOf h.1 ⟨by omega, by omega⟩) (fun x m ⟨em, hx⟩ => ⟨em, ?_⟩)) (fun x m ⟨em, ex⟩ => gw_some (gq_I ⟨em, ex⟩))
  rcases h.2.2 with ⟨a, -, b, -⟩ | ⟨a, ha, e1, ⟨e2, e3⟩, -⟩
  · rw [a] at hx
    rcases hx with ⟨-, ex⟩ | ⟨g, -⟩
    · rw [ex, b]
    · exact absurd g (by decide)
  · have oa := ofn (k := a) (by omega)
    rw [e1] at hx
    rcases hx with ⟨g, -⟩ | ⟨-, -, ex⟩
    · omega
    · rw [ex, ← e3, show ((215 : Int32).toInt + (Int32.ofNat a).toInt).toNat = 215 + a by omega]
theorem ixc (hc : c < 5) (v : Int32) (j : Nat) (hv : v.toInt = j) (hj : j ≤ 400) : (v + Int32.ofNat c).toInt = ((j + c : Nat) : Int) := by
  have oc := ofn (k := c) (by omega)
  have : (v + Int32.ofNat c).toInt = v.toInt + (Int32.ofNat c).toInt := gx_add (by omega) (by omega)
  omega
/-- a number of a child, in the reference's row -/
theorem gw_rd {β : Type} {Q : β → Prop} {m : gm_M} (h : MI m) (hc : c < 5) {v : Int32} (i : Nat) (hv : v.toInt = i) (hi : i ≤ 400) {f : Int32 → Option β} (k : gw (f (m.2.1 66 (i + c))) Q) : gw (gm_gR m [17] 65 1 (fun r => gm_aI m r (v + Int32.ofNat c) f)) Q := by
  refine gw_gRa 66 (h.1.c (r := 65) rfl) (h.1.r (by decide)) ?_
  exact gw_aIw (i + c) (h.1.t (r := 66) rfl) (h.1.l (r := 66) rfl) (ixc hc v i hv hi) (by omega) k
theorem w_holds (h : MW w sw P μ) (hc : c < 5) : gwI (f_X12_holdsOf 65 (Int32.ofNat c) μ) (fun x m => km A0 μ m ∧ x = cHold w P (kR (μ.2.1 66) c) (μ.2.1 66 0)) := by
  refine gwI_of ?_
  unfold f_X12_holdsOf
  refine gw_rd h.1 hc 1 rfl (by decide) ?_
  refine gw_if (h.1.1.t (r := 65) rfl) ?_
  refine gw_bI (w_stretch h hc) (fun x m ⟨k, ex⟩ => ?_)
  subst ex
  have hm := h.k0 k
  have er := km.row k
  refine gw_rd hm.1 hc 6 rfl (by decide) ?_
  refine gw_rd hm.1 hc 11 rfl (by decide) ?_
  refine gw_dv (by decide) ?_
  refine gw_if (hm.1.1.t (r := 65) rfl) ?_
  refine gw_bI (w_wind hm) (fun x m' ⟨em, ex⟩ => ?_)
  subst em
  subst ex
  refine gw_bI (m_ab _) (fun y m' ⟨ey, em⟩ => ?_)
  subst em
  subst ey
  refine gw_rd hm.1 hc 33 rfl (by decide) ?_
  rw [er]
  have e1 : kR (μ.2.1 66) c 1 = μ.2.1 66 (33 + c) := rfl
  have eb : ab (μ.2.1 66 (1 + c) * cSt (kR (μ.2.1 66) c) (μ.2.1 66 0) P - μ.2.1 66 (6 + c) - μ.2.1 66 (11 + c) / 2 - x) = cBear x P (kR (μ.2.1 66) c) (μ.2.1 66 0) := rfl
  rw [eb, ← e1]
  refine gw_ite (fun g => gw_some (gq_I ⟨k, ?_⟩)) (fun g => ?_)
  · unfold cHold; rw [if_neg g]
  · refine gw_bI (m_ab _) (fun y m' ⟨ey, em⟩ => ?_)
    subst em
    subst ey
    refine gw_some (gq_I ⟨k, ?_⟩)
    unfold cHold; rw [if_pos (Decidable.not_not.mp g)]
theorem w_chew (h : MW w sw P μ) (hc : c < 5) (hm : 0 ≤ (μ.2.1 66 0).toInt) : gwI (f_X12_chewsOf 65 (Int32.ofNat c) μ) (fun x m => m = μ ∧ x = cChew (kR (μ.2.1 66) c) (μ.2.1 66 0)) := by
  refine gwI_of ?_
  unfold f_X12_chewsOf
  refine gw_rd h.1 hc 38 rfl (by decide) ?_
  refine gw_dv (by decide) ?_
  refine gw_rd h.1 hc 33 rfl (by decide) ?_
  have e1 : kR (μ.2.1 66) c 1 = μ.2.1 66 (33 + c) := rfl
  have e2 : kR (μ.2.1 66) c 2 = μ.2.1 66 (38 + c) := rfl
  have e3 : kR (μ.2.1 66) c 3 = μ.2.1 66 (1 + c) := rfl
  unfold cChew
  rw [← e1, ← e2]
  refine gw_ite (fun g1 => ?_) (fun g1 => ?_)
  · rw [if_pos g1]; exact gw_some (gq_I ⟨rfl, rfl⟩)
  rw [if_neg g1]
  refine gw_ite (fun g2 => ?_) (fun g2 => ?_)
  · rw [if_pos g2]; exact gw_dv (by decide) (gw_some (gq_I ⟨rfl, rfl⟩))
  rw [if_neg g2]
  refine gw_ite (fun g3 => ?_) (fun g3 => ?_)
  · rw [if_pos g3]
    exact gw_bI (m_ab _) (fun y m' ⟨ey, em⟩ => gw_some (gq_I ⟨em, ey⟩))
  rw [if_neg g3]
  refine gw_ite (fun g4 => ?_) (fun g4 => ?_)
  · rw [if_pos g4]
    refine gw_rd h.1 hc 1 rfl (by decide) ?_
    exact gw_some (gq_I ⟨rfl, rfl⟩)
  rw [if_neg g4]
  refine gw_ite (fun g5 => ?_) (fun g5 => ?_)
  · rw [if_pos g5]; exact gw_dv (by decide) (gw_some (gq_I ⟨rfl, rfl⟩))
  rw [if_neg g5]
  refine gw_ite (fun g6 => ?_) (fun g6 => ?_)
  · rw [if_pos g6]
    refine gw_bI (m_ab _) (fun y m' ⟨ey, em⟩ => ?_)
    subst em
    subst ey
    have oc := ofn (k := c) (by omega)
    have m4 := mod4_i hm
    have l4 : (4 : Int32).toInt = 4 := rfl
    have l43 : (43 : Int32).toInt = 43 := rfl
    have n1 : ((4 : Int32) * Int32.ofNat c).toInt = 4 * (Int32.ofNat c).toInt := gx_mul 4 rfl (by omega) (by omega)
    have n2 : ((43 : Int32) + (4 : Int32) * Int32.ofNat c).toInt = (43 : Int32).toInt + ((4 : Int32) * Int32.ofNat c).toInt := gx_add (by omega) (by omega)
    have n3 : ((43 : Int32) + (4 : Int32) * Int32.ofNat c + m'.2.1 66 0 % 4).toInt = ((43 : Int32) + (4 : Int32) * Int32.ofNat c).toInt + (m'.2.1 66 0 % 4).toInt := gx_add (by omega) (by omega)
    refine gw_gRa 66 (h.1.1.c (r := 65) rfl) (h.1.1.r (by decide)) ?_
    refine gw_gRa 66 (h.1.1.c (r := 65) rfl) (h.1.1.r (by decide)) ?_
    refine gw_aIw 0 (h.1.1.t (r := 66) rfl) (h.1.1.l (r := 66) rfl) rfl (by decide) ?_
    refine gw_dv (by decide) ?_
    rw [gx_mod]
    refine gw_aIw (43 + 4 * c + (m'.2.1 66 0 % 4).toInt.toNat) (h.1.1.t (r := 66) rfl) (h.1.1.l (r := 66) rfl) (by omega) (by omega) ?_
    refine gw_some (gq_I ⟨rfl, ?_⟩)
    have : kR (m'.2.1 66) c (8 + (m'.2.1 66 0 % 4).toInt.toNat) = m'.2.1 66 (43 + 4 * c + (m'.2.1 66 0 % 4).toInt.toNat) := by
      unfold kR
      rw [if_neg (by omega), if_neg (by omega), if_neg (by omega), if_neg (by omega), if_pos (by omega), show 8 + (m'.2.1 66 0 % 4).toInt.toNat - 8 = (m'.2.1 66 0 % 4).toInt.toNat by omega]
    rw [this]
  · rw [if_neg g6]; exact gw_some (gq_I ⟨rfl, rfl⟩)
theorem w_tire (h : MW w sw P μ) (hc : c < 5) : gwI (f_X12_tiresOf 65 (Int32.ofNat c) μ) (fun x m => m = μ ∧ x = cTire (kR (μ.2.1 66) c)) := by
  refine gwI_of ?_
  unfold f_X12_tiresOf
  refine gw_rd h.1 hc 1 rfl (by decide) ?_
  refine gw_rd h.1 hc 33 rfl (by decide) ?_
  have e1 : kR (μ.2.1 66) c 1 = μ.2.1 66 (33 + c) := rfl
  have e3 : kR (μ.2.1 66) c 3 = μ.2.1 66 (1 + c) := rfl
  unfold cTire
  rw [← e1, ← e3]
  refine gw_ite (fun g1 => ?_) (fun g1 => ?_)
  · rw [if_pos g1]; exact gw_some (gq_I ⟨rfl, rfl⟩)
  rw [if_neg g1]
  refine gw_ite (fun g3 => ?_) (fun g3 => ?_)
  · rw [if_pos g3]; exact gw_some (gq_I ⟨rfl, rfl⟩)
  rw [if_neg g3]
  refine gw_ite (fun g4 => ?_) (fun g4 => ?_)
  · rw [if_pos g4]; exact gw_some (gq_I ⟨rfl, rfl⟩)
  rw [if_neg g4]
  refine gw_ite (fun g5 => ?_) (fun g5 => ?_)
  · rw [if_pos g5]; exact gw_dv (by decide) (gw_some (gq_I ⟨rfl, rfl⟩))
  rw [if_neg g5]
  refine gw_ite (fun g6 => ?_) (fun g6 => ?_)
  · rw [if_pos g6]; exact gw_some (gq_I ⟨rfl, rfl⟩)
  · rw [if_neg g6]; exact gw_some (gq_I ⟨rfl, rfl⟩)
theorem m_wi {μ : gm_M} (x : Int32) : gwI (f_X12_within x 0 99 μ) (fun y m => m = μ ∧ y = wi x) := by
  obtain ⟨l0, l1, l2, l3, l4, l5, l6, l10, l99⟩ := i_lit
  refine gwI_of ?_
  unfold f_X12_within
  refine gw_le (fun g => ?_) (fun g => gw_some (gq_I ⟨rfl, ?_⟩))
  · refine gw_le (fun g2 => gw_some (gq_I ⟨rfl, ?_⟩)) (fun g2 => gw_some (gq_I ⟨rfl, ?_⟩))
    · unfold wi; rw [if_neg (by rw [Int32.lt_iff_toInt_lt]; omega), if_neg (by rw [Int32.lt_iff_toInt_lt]; omega)]
    · unfold wi; rw [if_neg (by rw [Int32.lt_iff_toInt_lt]; omega), if_pos (by rw [Int32.lt_iff_toInt_lt]; omega)]
  · unfold wi; rw [if_pos (by rw [Int32.lt_iff_toInt_lt]; omega)]
/-- a number of a child is written -/
theorem gw_wr {β : Type} {Q : β → Prop} {m : gm_M} (h : MI m) (hc : c < 5) {v x : Int32} (i : Nat) (hv : v.toInt = i) (hi : i ≤ 400) {f : gm_M → Option β} (k : gw (f (wI m 66 (i + c) x)) Q) : gw (gm_sI m 66 (v + Int32.ofNat c) x f) Q :=
  gw_sIw (i + c) (h.1.t (r := 66) rfl) (h.1.l (r := 66) rfl) (ixc hc v i hv hi) (by omega) k
def oth (c : Nat) (μ m : gm_M) : Prop := ∀ d : Nat, d < 5 → d ≠ c → kR (m.2.1 66) d = kR (μ.2.1 66) d
theorem oth.wr {μ m : gm_M} (h : oth c μ m) (hc : c < 5) {j i : Nat} {x : Int32} (hj : 3 ≤ j) (hj8 : j < 8) (hi : i = 5 * j - 14 + c) : oth c μ (wI m 66 i x) := fun d hd hdc => by
  rw [kR_w hc hd hj hj8 hi, if_neg hdc]; exact h d hd hdc
theorem w_goesFor (h : MW w sw P μ) (hc : c < 5) (hm : 0 ≤ (μ.2.1 66 0).toInt) : gwV (f_X12_goesFor 65 (Int32.ofNat c) μ) (fun m => km A3 μ m ∧ kR (m.2.1 66) c = cGo (kR (μ.2.1 66) c) (μ.2.1 66 0) ∧ oth c μ m) := by
  have oc := ofn (k := c) (by omega)
  refine gwV_and (s_X12_goesFor h.1 ⟨by omega, by omega⟩) ?_
  refine gwV_of ?_
  unfold f_X12_goesFor
  have e6 : kR (μ.2.1 66) c 6 = μ.2.1 66 (16 + c) := rfl
  have e3 : kR (μ.2.1 66) c 3 = μ.2.1 66 (1 + c) := rfl
  have e5 : kR (μ.2.1 66) c 5 = μ.2.1 66 (11 + c) := rfl
  have e4 : kR (μ.2.1 66) c 4 = μ.2.1 66 (6 + c) := rfl
  have e2 : kR (μ.2.1 66) c 2 = μ.2.1 66 (38 + c) := rfl
  have o0 : oth c μ μ := fun _ _ _ => rfl
  have tc := h.1.1.c (r := 65) (t := 17) rfl
  have r1 : μ.2.2 65 1 = 66 := h.1.1.r (by decide)
  have i5 : 11 + c = 5 * 5 - 14 + c := by omega
  have i4 : 6 + c = 5 * 4 - 14 + c := by omega
  have i6 : 16 + c = 5 * 6 - 14 + c := by omega
  refine gw_rd h.1 hc 16 rfl (by decide) ?_
  rw [← e6]
  refine gw_ite (fun c6 => ?_) (fun c6 => ?_)
  · refine gw_rd h.1 hc 1 rfl (by decide) ?_
    rw [← e3]
    refine gw_ite (fun c3 => ?_) (fun c3 => ?_)
    · refine gw_gRa 66 tc r1 ?_
      refine gw_rd h.1 hc 11 rfl (by decide) ?_
      rw [← e5]
      refine gw_bI (m_ab _) (fun y m' ⟨ey, em⟩ => ?_)
      subst em
      subst ey
      refine gw_wr h.1 hc 11 rfl (by decide) ?_
      refine gw_some (gq_V ⟨?_, o0.wr hc (j := 5) (by decide) (by decide) i5⟩)
      rw [kR_w hc hc (j := 5) (by decide) (by decide) i5, if_pos rfl, cGo, if_pos c6, if_pos c3]
    · refine gw_if (h.1.1.t (r := 65) rfl) ?_
      refine gw_bI (w_chew h hc hm) (fun x m ⟨em, ex⟩ => ?_)
      subst em
      subst ex
      refine gw_gRa 66 tc r1 ?_
      refine gw_rd h.1 hc 11 rfl (by decide) ?_
      rw [← e5]
      refine gw_if (h.1.1.t (r := 65) rfl) ?_
      refine gw_bI (w_tire h hc) (fun x m' ⟨em, ex⟩ => ?_)
      subst em
      subst ex
      refine gw_bI (m_wi _) (fun y m2 ⟨em, ey⟩ => ?_)
      subst em
      subst ey
      refine gw_wr h.1 hc 11 rfl (by decide) ?_
      generalize hX : wi (kR (m2.2.1 66) c 5 + cTire (kR (m2.2.1 66) c)) = X
      have o1 : oth c m2 (wI m2 66 (11 + c) X) := o0.wr hc (j := 5) (by decide) (by decide) i5
      have k1 : kR ((wI m2 66 (11 + c) X).2.1 66) c = kud (kR (m2.2.1 66) c) 5 X := by
        rw [kR_w hc hc (j := 5) (by decide) (by decide) i5, if_pos rfl]
      have M1 : MI (wI m2 66 (11 + c) X) := h.1.of1 ((km.refl A1 m2).ws rfl (by unfold A1; omega))
      have n6 : (wI m2 66 (11 + c) X).2.1 66 (6 + c) = m2.2.1 66 (6 + c) := wI_n _ _ _ _ (by omega)
      generalize wI m2 66 (11 + c) X = M at *
      refine gw_gRa 66 (M1.1.c (r := 65) rfl) (M1.1.r (by decide)) ?_
      refine gw_rd M1 hc 6 rfl (by decide) ?_
      rw [n6, ← e4]
      refine gw_bI (m_ab _) (fun y m' ⟨ey, em⟩ => ?_)
      subst em
      subst ey
      refine gw_wr M1 hc 6 rfl (by decide) ?_
      refine gw_some (gq_V ⟨?_, o1.wr hc (j := 4) (by decide) (by decide) i4⟩)
      rw [kR_w hc hc (j := 4) (by decide) (by decide) i4, if_pos rfl, k1, cGo, if_pos c6, if_neg c3, hX]
      funext i
      unfold kud
      by_cases q4 : i = 4
      · rw [if_pos q4, if_neg (by omega), if_pos q4]
      · rw [if_neg q4, if_neg q4]
  · refine gw_gRa 66 tc r1 ?_
    refine gw_rd h.1 hc 16 rfl (by decide) ?_
    refine gw_rd h.1 hc 38 rfl (by decide) ?_
    rw [← e6, ← e2]
    refine gw_bI (m_ab _) (fun y m' ⟨ey, em⟩ => ?_)
    subst em
    subst ey
    refine gw_wr h.1 hc 16 rfl (by decide) ?_
    refine gw_some (gq_V ⟨?_, o0.wr hc (j := 6) (by decide) (by decide) i6⟩)
    rw [kR_w hc hc (j := 6) (by decide) (by decide) i6, if_pos rfl, cGo, if_neg c6]
end
end
section
/-! the two sides agree on all that is seen -/
def VK (c : Nat) (μ : gm_M) (σ : Nat → Int32) : Prop := ∀ k : Nat, k < 5 → kC μ (c + 2 * k) = kR σ k ∧ RK (kR σ k)
def VT (s : Nat) (μ : gm_M) (σ : Nat → Int32) : Prop := μ.2.1 s 4 = σ 31 ∧ μ.2.1 s 5 = σ 27 ∧ ∀ i : Nat, (i : Int) < (σ 31).toInt → μ.2.1 (s + 2) i = σ (110 + i) ∧ 0 ≤ (σ (110 + i)).toInt ∧ (σ (110 + i)).toInt ≤ 127
def VR (s : Nat) (μ : gm_M) (σ : Nat → Int32) : Prop := (∀ i : Nat, i < 5 → (i : Int) < (σ 28).toInt → μ.2.1 (s + 9) (3 * i) = σ (63 + i) ∧ μ.2.1 (s + 9) (3 * i + 1) = σ (68 + i) ∧ μ.2.1 (s + 9) (3 * i + 2) = σ (73 + i) ∧ (0 ≤ (σ (73 + i)).toInt ∧ (σ (73 + i)).toInt ≤ 20) ∧ (σ (63 + i)).toInt < (σ 26).toInt) ∧ ∀ i : Nat, i < 8 → (i : Int) < (σ 30).toInt → μ.2.1 (s + 13) (3 * i) = σ (94 + i) ∧ μ.2.1 (s + 13) (3 * i + 1) = σ (102 + i) ∧ (σ (94 + i)).toInt < (σ 26).toInt
def VA (s : Nat) (μ : gm_M) (σ : Nat → Int32) : Prop := (∃ (w sw : Int32) (P : List (List Int32 × Int32)), HR σ w sw P ∧ AFC μ (μ.2.2 s 6) w sw (fl P) ∧ (0 ≤ w.toInt ∧ w.toInt ≤ 99) ∧ 0 ≤ sw.toInt ∧ sw.toInt ≤ 99) ∧ (σ 32).toInt < (σ 27).toInt
def VS (s c : Nat) (μ : gm_M) (σ : Nat → Int32) : Prop := VK c μ σ ∧ (0 ≤ (σ 0).toInt ∧ (σ 0).toInt ≤ 9999) ∧ VT s μ σ ∧ VR s μ σ ∧ VA s μ σ
def REL (μ : gm_M) : Prop := ALL μ ∧ KD μ ∧ VS 15 29 μ (μ.2.1 66) ∧ (μ.2.1 1 3 = 1 → VS 39 53 μ (μ.2.1 67))
theorem VK.fr {c : Nat} {μ m : gm_M} {σ τ : Nat → Int32} (h : VK c μ σ) (e1 : ∀ k : Nat, k < 5 → kC m (c + 2 * k) = kC μ (c + 2 * k)) (e2 : ∀ i : Nat, (1 ≤ i ∧ i < 26) ∨ (33 ≤ i ∧ i < 63) → τ i = σ i) : VK c m τ := fun k hk => by
  have e : kR τ k = kR σ k := by
    funext j
    unfold kR
    by_cases h0 : j = 0
    · rw [if_pos h0, if_pos h0]
    · rw [if_neg h0, if_neg h0]
      by_cases h1 : j = 1
      · rw [if_pos h1, if_pos h1, e2 _ (by omega)]
      · rw [if_neg h1, if_neg h1]
        by_cases h2 : j = 2
        · rw [if_pos h2, if_pos h2, e2 _ (by omega)]
        · rw [if_neg h2, if_neg h2]
          by_cases h8 : j < 8
          · rw [if_pos h8, if_pos h8, e2 _ (by omega)]
          · rw [if_neg h8, if_neg h8]
            by_cases h12 : j < 12
            · rw [if_pos h12, if_pos h12, e2 _ (by omega)]
            · rw [if_neg h12, if_neg h12]
  rw [e1 k hk, e]
  exact h k hk
theorem VT.fr {s : Nat} {μ m : gm_M} {σ τ : Nat → Int32} (h : VT s μ σ) (e1 : m.2.1 s 4 = μ.2.1 s 4 ∧ m.2.1 s 5 = μ.2.1 s 5) (e2 : m.2.1 (s + 2) = μ.2.1 (s + 2)) (e3 : ∀ i : Nat, i = 27 ∨ i = 31 ∨ 110 ≤ i → τ i = σ i) : VT s m τ := by
  obtain ⟨h1, h2, h3⟩ := h
  refine ⟨by rw [e1.1, e3 31 (by omega)]; exact h1, by rw [e1.2, e3 27 (by omega)]; exact h2, fun i hi => ?_⟩
  rw [e3 31 (by omega)] at hi
  rw [e2, e3 _ (by omega)]
  exact h3 i hi
theorem VR.fr {s : Nat} {μ m : gm_M} {σ τ : Nat → Int32} (h : VR s μ σ) (e1 : m.2.1 (s + 9) = μ.2.1 (s + 9)) (e2 : m.2.1 (s + 13) = μ.2.1 (s + 13)) (e3 : ∀ i : Nat, i = 28 ∨ i = 30 ∨ (63 ≤ i ∧ i < 78) ∨ (94 ≤ i ∧ i < 110) → τ i = σ i) (e26 : (σ 26).toInt ≤ (τ 26).toInt) : VR s m τ := by
  obtain ⟨h1, h2⟩ := h
  refine ⟨fun i h5 hi => ?_, fun i h8 hi => ?_⟩
  · rw [e3 28 (by omega)] at hi
    rw [e1, e3 (63 + i) (by omega), e3 (68 + i) (by omega), e3 (73 + i) (by omega)]
    obtain ⟨a1, a2, a3, a4, a5⟩ := h1 i h5 hi
    exact ⟨a1, a2, a3, a4, by omega⟩
  · rw [e3 30 (by omega)] at hi
    rw [e2, e3 (94 + i) (by omega), e3 (102 + i) (by omega)]
    obtain ⟨a1, a2, a3⟩ := h2 i h8 hi
    exact ⟨a1, a2, by omega⟩
theorem VA.fr {s : Nat} {μ m : gm_M} {σ τ : Nat → Int32} (h : VA s μ σ) (e1 : m.2.2 s 6 = μ.2.2 s 6) (e2 : ∀ d : Nat, d < 4 → m.2.1 (μ.2.2 s 6 + d) = μ.2.1 (μ.2.2 s 6 + d)) (e3 : ∀ i : Nat, i = 27 ∨ i = 32 ∨ 210 ≤ i → τ i = σ i) : VA s m τ := by
  obtain ⟨⟨w, sw, P, h1, h2, h3⟩, h4⟩ := h
  refine ⟨⟨w, sw, P, h1.of (fun k hk => e3 k (by omega)), ?_, h3⟩, by rw [e3 32 (by omega), e3 27 (by omega)]; exact h4⟩
  rw [e1]
  unfold AFC
  have a0 := e2 0 (by omega)
  rw [Nat.add_zero] at a0
  rw [a0, e2 1 (by omega), e2 2 (by omega), e2 3 (by omega)]
  exact h2
section
variable {μ : gm_M}
theorem REL.a (h : REL μ) : ALL μ := h.1
theorem REL.ci (h : REL μ) : CI μ := h.1.2.2.1
theorem REL.mi (h : REL μ) : MI μ := h.1.1
theorem REL.vs (h : REL μ) : VS 15 29 μ (μ.2.1 66) := h.2.2.1
theorem REL.aw (h : REL μ) : AfW μ (μ.2.2 15 6) := h.ci.2.1.2.2.2.1
theorem REL.aw2 (h : REL μ) : AfW μ (μ.2.2 39 6) := h.ci.2.2.1.2.2.2.1
theorem REL.ex (h : REL μ) : ∃ (w sw : Int32) (P : List (List Int32 × Int32)), (CW w P μ ∧ MW w sw P μ ∧ μ.2.1 (μ.2.2 15 6) 0 = w ∧ μ.2.1 (μ.2.2 15 6) 1 = sw) ∧ (0 ≤ w.toInt ∧ w.toInt ≤ 99) ∧ 0 ≤ sw.toInt ∧ sw.toInt ≤ 99 := by
  obtain ⟨-, -, -, -, ⟨w, sw, P, h1, h2, h3⟩, -⟩ := h.vs
  exact ⟨w, sw, P, ⟨⟨h.ci, h.2.1, h1.1, sw, h2⟩, ⟨h.mi, h1⟩, h2.1.1, h2.1.2⟩, h3⟩
theorem REL.sz (h : REL μ) : μ.2.1 15 1 = μ.2.1 66 26 := h.1.2.2.2.1.1.2.1
theorem REL.mn (h : REL μ) : μ.2.1 15 0 = μ.2.1 66 0 := h.1.2.2.2.1.1.1
theorem REL.kk (h : REL μ) {k : Nat} (hk : k < 5) : kC μ (29 + 2 * k) = kR (μ.2.1 66) k ∧ RK (kR (μ.2.1 66) k) := h.vs.1 k hk
theorem VS.fr {s c : Nat} {m : gm_M} {σ τ : Nat → Int32} (h : VS s c μ σ) (hs : (s = 15 ∧ c = 29) ∨ (s = 39 ∧ c = 53)) (ha : AfW μ (μ.2.2 s 6)) (e1 : ∀ r : Nat, (15 ≤ r ∧ r < 63) ∨ 75 ≤ r → m.2.1 r = μ.2.1 r) (e2 : ∀ r : Nat, r < 63 → m.2.2 r = μ.2.2 r) (e3 : τ = σ) : VS s c m τ := by
  subst e3
  have p0 := ha.1
  obtain ⟨h1, h2, h3, h4, h5⟩ := h
  refine ⟨h1.fr (fun k hk => kC_o (by rw [e2 _ (by omega)]) (e1 _ (by omega)) (fun j _ => by rw [e1 _ (by omega)])) (fun _ _ => rfl), h2, h3.fr ⟨by rw [e1 s (by omega)], by rw [e1 s (by omega)]⟩ (e1 _ (by omega)) (fun _ _ => rfl), h4.fr (e1 _ (by omega)) (e1 _ (by omega)) (fun _ _ => rfl) (Int.le_refl _), h5.fr (by rw [e2 s (by omega)]) (fun d hd => e1 _ (by omega)) (fun _ _ => rfl)⟩
theorem REL.kc {m : gm_M} (h : REL μ) (g : kc μ m) : REL m := by
  have rw1 : ∀ r : Nat, (r ≠ 1 ∧ r ≠ 5 ∧ r ≠ 6 ∧ r ≠ 7 ∧ r ≠ 63 ∧ r ≠ 64) → m.2.1 r = μ.2.1 r := fun r hr => g.row hr
  have e66 := rw1 66 (by decide)
  have e67 := rw1 67 (by decide)
  have e13 : m.2.1 1 3 = μ.2.1 1 3 := g.2.2.1 3 (by decide)
  refine ⟨h.1.kc g, fun i hi => by rw [rw1 _ (by omega)]; exact h.2.1 i hi, h.vs.fr (Or.inl ⟨rfl, rfl⟩) h.aw (fun r hr => rw1 r (by omega)) (fun r hr => g.ref (by omega)) e66, fun q => ?_⟩
  rw [e13] at q
  exact (h.2.2.2 q).fr (Or.inr ⟨rfl, rfl⟩) h.aw2 (fun r hr => rw1 r (by omega)) (fun r hr => g.ref (by omega)) e67
theorem REL.qm {m : gm_M} (h : REL μ) (g : qm μ m) : REL m := by
  have hA := h.1.qm g
  obtain ⟨g1, g2, g3, g5, g6, g7⟩ := g
  have row : ∀ r : Nat, (r ≠ 65 ∧ r ≠ 68 ∧ r ≠ 69 ∧ r ≠ 70 ∧ r ≠ 71 ∧ r ≠ 72 ∧ r ≠ 73) → m.2.1 r = μ.2.1 r := fun r q => g3 r q.1 q.2.1 q.2.2.1 q.2.2.2.1 q.2.2.2.2.1 q.2.2.2.2.2.1 q.2.2.2.2.2.2
  refine ⟨hA, fun i hi => by rw [row _ (by omega)]; exact h.2.1 i hi, h.vs.fr (Or.inl ⟨rfl, rfl⟩) h.aw (fun r hr => row r (by omega)) (fun r _ => by rw [g2]) (row 66 (by decide)), fun q => ?_⟩
  rw [row 1 (by decide)] at q
  exact (h.2.2.2 q).fr (Or.inr ⟨rfl, rfl⟩) h.aw2 (fun r hr => row r (by omega)) (fun r _ => by rw [g2]) (row 67 (by decide))
/-- rows that an operation leaves alone: kinds, afternoons, what is kept -/
def Qr (r : Nat) : Prop := (8 ≤ r ∧ r ≤ 14) ∨ (18 ≤ r ∧ r ≤ 22) ∨ (39 ≤ r ∧ r < 63) ∨ r = 67 ∨ 75 ≤ r
theorem REL.of {m : gm_M} (h : REL μ) (ha : ALL m) (hq : ∀ r : Nat, Qr r → m.2.1 r = μ.2.1 r) (hf : m.2.1 1 3 = μ.2.1 1 3) (h2 : ∀ r : Nat, (39 ≤ r ∧ r < 63) → m.2.2 r = μ.2.2 r) (v : VS 15 29 m (m.2.1 66)) : REL m := by
  have p0 := h.aw2.1
  refine ⟨ha, fun i hi => by rw [hq _ (by unfold Qr; omega)]; exact h.2.1 i hi, v, fun q => ?_⟩
  rw [hf] at q
  obtain ⟨v1, v2, v3, v4, v5⟩ := h.2.2.2 q
  have e67 := hq 67 (by unfold Qr; omega)
  rw [e67]
  exact ⟨v1.fr (fun k hk => kC_o (by rw [h2 _ (by omega)]) (hq _ (by unfold Qr; omega)) (fun j _ => by rw [hq _ (by unfold Qr; omega)])) (fun _ _ => rfl), v2, v3.fr ⟨by rw [hq 39 (by unfold Qr; omega)], by rw [hq 39 (by unfold Qr; omega)]⟩ (hq _ (by unfold Qr; omega)) (fun _ _ => rfl), v4.fr (hq _ (by unfold Qr; omega)) (hq _ (by unfold Qr; omega)) (fun _ _ => rfl) (Int.le_refl _), v5.fr (by rw [h2 39 (by omega)]) (fun d hd => hq _ (by unfold Qr; omega)) (fun _ _ => rfl)⟩
/-- what holds an afternoon stays with 'now' -/
theorem REL.va {m : gm_M} (h : REL μ) (hq : ∀ r : Nat, Qr r → m.2.1 r = μ.2.1 r) (h6 : m.2.2 15 6 = μ.2.2 15 6) (e3 : ∀ i : Nat, i = 27 ∨ i = 32 ∨ 210 ≤ i → m.2.1 66 i = μ.2.1 66 i) : VA 15 m (m.2.1 66) := by
  have p0 := h.aw.1
  exact h.vs.2.2.2.2.fr h6 (fun d hd => hq _ (by unfold Qr; omega)) e3
/-! guards -/
def isC (μ : gm_M) (a : Int32) : Prop := 0 ≤ a.toInt ∧ a.toInt < (μ.2.1 15 1).toInt ∧ a.toInt < 5
theorem gw_nob {β : Type} {Q : β → Prop} (h : REL μ) {a : Int32} {f : Int32 → gm_M → Option β} (h1 : isC μ a → gw (f 0 μ) Q) (h2 : ¬ isC μ a → gw (f 1 μ) Q) : gw (gm_bI (f_X11_isNobody 1 a μ) f) Q := by
  refine gw_bI (s_X11_isNobody h.ci) (fun x m ⟨em, hx⟩ => ?_)
  subst em
  rcases hx with ⟨ex, a1, a2, a3⟩ | ⟨ex, a1⟩
  · rw [show x = 0 from Int32.toInt_inj.mp ex]; exact h1 ⟨a1, a2, a3⟩
  · rw [show x = 1 from Int32.toInt_inj.mp ex]; exact h2 (fun g => by unfold isC at g; omega)
theorem gw_out {β : Type} {Q : β → Prop} {a lo hi : Int32} {f : Int32 → gm_M → Option β} (h1 : lo.toInt ≤ a.toInt ∧ a.toInt ≤ hi.toInt → gw (f 0 μ) Q) (h2 : ¬ (lo.toInt ≤ a.toInt ∧ a.toInt ≤ hi.toInt) → gw (f 1 μ) Q) : gw (gm_bI (f_X11_isOutside a lo hi μ) f) Q := by
  refine gw_bI s_X11_isOutside (fun x m ⟨em, hx⟩ => ?_)
  subst em
  rcases hx with ⟨ex, a1⟩ | ⟨ex, a1, a2⟩
  · rw [show x = 1 from Int32.toInt_inj.mp ex]; exact h2 (by omega)
  · rw [show x = 0 from Int32.toInt_inj.mp ex]; exact h1 ⟨a1, a2⟩
theorem gw_isc {β : Type} {Q : β → Prop} {m : gm_M} (hm : MI m) (e26 : m.2.1 66 26 = μ.2.1 15 1) {a : Int32} {f : Int32 → gm_M → Option β} (h1 : isC μ a → gw (f 1 m) Q) (h2 : ¬ isC μ a → gw (f 0 m) Q) : gw (gm_bI (f_X12_isChild 65 a m) f) Q := by
  refine gw_bI (s_X12_isChild hm) (fun x m' ⟨em, hx⟩ => ?_)
  subst em
  rw [e26] at hx
  rcases hx with ⟨ex, a1, a2, a3⟩ | ⟨ex, a1⟩
  · rw [show x = 1 from Int32.toInt_inj.mp ex]; exact h1 ⟨a1, a2, a3⟩
  · rw [show x = 0 from Int32.toInt_inj.mp ex]; exact h2 (fun g => by unfold isC at g; omega)
theorem gw_inn {β : Type} {Q : β → Prop} {a lo hi : Int32} {f : Int32 → gm_M → Option β} (h1 : lo.toInt ≤ a.toInt ∧ a.toInt ≤ hi.toInt → gw (f 1 μ) Q) (h2 : ¬ (lo.toInt ≤ a.toInt ∧ a.toInt ≤ hi.toInt) → gw (f 0 μ) Q) : gw (gm_bI (f_X12_in a lo hi μ) f) Q := m_in (fun a b => h1 ⟨a, b⟩) (fun g => h2 (by omega))
/-- a child that there is, by its number -/
theorem isC.at {a : Int32} (h : isC μ a) : ∃ c : Nat, c < 5 ∧ a = Int32.ofNat c ∧ (Int32.ofNat c).toInt = c := ⟨a.toInt.toNat, by unfold isC at h; omega, (gx_of h.1).symm, ofn (by unfold isC at h; omega)⟩
/-- the class's way to a child -/
theorem gw_kid {β : Type} {Q : β → Prop} {m : gm_M} (hg : gS m) {c : Nat} (hc : c < 5) {f : Nat → Option β} (k : gw (f (29 + 2 * c)) Q) : gw (gm_gR m [16] 1 1 (fun v3 => gm_gR m [13] v3 2 (fun v4 => gm_aR m 4 v4 (Int32.ofNat c) f))) Q := by
  have oc := ofn (k := c) (by omega)
  refine gw_gRa 15 (hg.c (r := 1) rfl) (hg.r (by decide)) ?_
  refine gw_gRa 16 (hg.c (r := 15) rfl) (hg.r (by decide)) ?_
  refine gw_aR (i := Int32.ofNat c) (hg.t (r := 16) rfl) (hg.l (r := 16) rfl) (by omega) (by omega) (fun v ev => ?_)
  rw [ev, oc, Int.toNat_natCast, isch.at hg hc]
  exact k
theorem isch_c {c : Nat} (hc : c < 5) : isch (29 + 2 * c) := by unfold isch; omega
theorem ict_c {c : Nat} (hc : c < 5) : ict (29 + 2 * c) := Or.inl (isch_c hc)
end
end
section
/-! operations: alike, and agreed behind them -/
def PR (z : Option (Option Value × gm_M)) (g : gm_M → Option (Option Value × gm_M)) : Prop := gwI z (fun x m => gm_tag m 65 = 17 ∧ gwI (g m) (fun y m2 => y = x ∧ REL m2))
def QR (z : Option (Option Value × gm_M)) (g : gm_M → Option (Option Value × gm_M)) : Prop := gwI z (fun _ m => gm_tag m 65 = 17 ∧ gwI (g m) (fun _ m2 => REL m2))
def PRL (z : Option (Option Value × gm_M)) (g : gm_M → Option (Option Value × gm_M)) : Prop := gwL z (fun x m => gm_tag m 65 = 17 ∧ gwL (g m) (fun y m2 => y = x ∧ REL m2))
def QRL (z : Option (Option Value × gm_M)) (g : gm_M → Option (Option Value × gm_M)) : Prop := gwL z (fun _ m => gm_tag m 65 = 17 ∧ gwL (g m) (fun _ m2 => REL m2))
theorem PR.q {z : Option (Option Value × gm_M)} {g : gm_M → Option (Option Value × gm_M)} (h : PR z g) : QR z g := gwI_mono h (fun _ _ ⟨a, b⟩ => ⟨a, gwI_mono b (fun _ _ c => c.2)⟩)
theorem QR.kq {μ : gm_M} {z : Option (Option Value × gm_M)} {g : gm_M → Option (Option Value × gm_M)} (h : REL μ) (h1 : gwI z (fun _ m => kc μ m)) (h2 : ∀ m, MI m → gwI (g m) (fun _ m2 => qm m m2)) : QR z g := by
  refine gwI_mono h1 (fun x m a => ?_)
  have hm := h.kc a
  exact ⟨hm.1.t65, gwI_mono (h2 m hm.mi) (fun y m2 b => hm.qm b)⟩
theorem QRL.kq {μ : gm_M} {z : Option (Option Value × gm_M)} {g : gm_M → Option (Option Value × gm_M)} (h : REL μ) (h1 : gwL z (fun _ m => kc μ m)) (h2 : ∀ m, MI m → gwL (g m) (fun _ m2 => qm m m2)) : QRL z g := by
  obtain ⟨x, m, e, a⟩ := h1
  have hm := h.kc a
  obtain ⟨y, m2, e2, b⟩ := h2 m hm.mi
  exact ⟨x, m, e, hm.1.t65, y, m2, e2, hm.qm b⟩
/-- askings: the class's answer a, the reference's from what the class leaves -/
theorem PR.kq {μ : gm_M} {z : Option (Option Value × gm_M)} {g : gm_M → Option (Option Value × gm_M)} {V : Int32 → Prop} (h : REL μ) (h1 : gwI z (fun x m => kc μ m ∧ V x)) (h2 : ∀ m, REL m → kc μ m → gwI (g m) (fun y m2 => qm m m2 ∧ ∀ x, V x → y = x)) : PR z g := by
  refine gwI_mono h1 (fun x m ⟨a, v⟩ => ?_)
  have hm := h.kc a
  exact ⟨hm.1.t65, gwI_mono (h2 m hm a) (fun y m2 ⟨b, c⟩ => ⟨c x v, hm.qm b⟩)⟩
/-- changes: what both do apart, and how it goes on -/
theorem PR.mk {z : Option (Option Value × gm_M)} {g : gm_M → Option (Option Value × gm_M)} (h1 : gwI z (fun _ m => ALL m)) (h2 : ∀ m, ALL m → gwI (g m) (fun _ m2 => ALL m2)) (h3 : gwI z (fun x m => ALL m → gwI (g m) (fun y m2 => y = x ∧ (ALL m2 → REL m2)))) : PR z g := by
  refine gwI_mono (gwI_and h1 h3) (fun x m ⟨a, b⟩ => ⟨a.t65, ?_⟩)
  exact gwI_mono (gwI_and (h2 m a) (b a)) (fun y m2 ⟨c, d⟩ => ⟨d.1, d.2 c⟩)
theorem PR.mk2 {z : Option (Option Value × gm_M)} {g : gm_M → Option (Option Value × gm_M)} (h1 : PI z g) (h3 : gwI z (fun _ m => gwI (g m) (fun _ m2 => ALL m2 → REL m2))) : PR z g := by
  refine gwI_mono (gwI_and h1 h3) (fun x m ⟨⟨a, b⟩, c⟩ => ⟨a, ?_⟩)
  exact gwI_mono (gwI_and b c) (fun y m2 ⟨d, e⟩ => ⟨d.1, e d.2⟩)
section
variable {μ : gm_M}
/-- one child alone has changed -/
theorem REL.one (h : REL μ) {m : gm_M} {k : Nat} (hk : k < 5) (ha : ALL m) (e1 : ∀ r : Nat, r ≠ 29 + 2 * k → r ≠ 29 + 2 * k + 1 → (r < 63 ∨ r = 67 ∨ 75 ≤ r) → m.2.1 r = μ.2.1 r) (e2 : m.2.2 = μ.2.2) (e3 : ∀ i : Nat, i = 0 ∨ (26 ≤ i ∧ i < 33) ∨ 63 ≤ i → m.2.1 66 i = μ.2.1 66 i) (e4 : ∀ d : Nat, d < 5 → d ≠ k → kR (m.2.1 66) d = kR (μ.2.1 66) d) (e5 : kC m (29 + 2 * k) = kR (m.2.1 66) k ∧ RK (kR (m.2.1 66) k)) : REL m := by
  obtain ⟨v1, v2, v3, v4, -⟩ := h.vs
  refine h.of ha (fun r hr => e1 r (by unfold Qr at hr; omega) (by unfold Qr at hr; omega) (by unfold Qr at hr; omega)) (by rw [e1 1 (by omega) (by omega) (by omega)]) (fun r _ => by rw [e2]) ⟨fun d hd => ?_, by rw [e3 0 (by omega)]; exact v2, v3.fr ⟨by rw [e1 15 (by omega) (by omega) (by omega)], by rw [e1 15 (by omega) (by omega) (by omega)]⟩ (e1 17 (by omega) (by omega) (by omega)) (fun i hi => e3 i (by omega)), v4.fr (e1 24 (by omega) (by omega) (by omega)) (e1 28 (by omega) (by omega) (by omega)) (fun i hi => e3 i (by omega)) (by rw [e3 26 (by omega)]; exact Int.le_refl _), h.va (fun r hr => e1 r (by unfold Qr at hr; omega) (by unfold Qr at hr; omega) (by unfold Qr at hr; omega)) (by rw [e2]) (fun i hi => e3 i (by omega))⟩
  by_cases e : d = k
  · subst e; exact e5
  · rw [e4 d hd e, kC_o (by rw [e2]) (e1 _ (by omega) (by omega) (by omega)) (fun j _ => by rw [e1 _ (by omega) (by omega) (by omega)])]
    exact v1 d hd
def hiS (b : Int32) : Int32 := if b = 0 then 6 else if b = 1 then 999 else 99
theorem N_set (h : REL μ) {a b n : Int32} : PR (f_X11_set 1 a b n μ) (f_X12_set 65 a b n) := by
  refine PR.mk (c_set h.1) (fun m hm => m_set hm) ?_
  have hg := h.ci.1
  have e26 := h.sz.symm
  obtain ⟨l0, l1, l2, l3, l4, l5, l6, l10, l99⟩ := i_lit
  have l999 : (999 : Int32).toInt = 999 := rfl
  refine gwI_of ?_
  unfold f_X11_set
  refine gw_if (hg.t (r := 1) rfl) ?_
  refine gw_nob h (fun hC => ?_) (fun nC => ?_)
  · rw [if_neg (by decide)]
    refine gw_out (fun hb => ?_) (fun nb => ?_)
    · rw [if_pos rfl]
      obtain ⟨c, hc, ea, oc⟩ := hC.at
      subst ea
      refine gw_kid hg hc ?_
      refine gw_j (fun s => s = hiS b) (fun s es => ?_) (fun j hj => ?_)
      · subst es
        refine gw_out (fun hn => ?_) (fun nn => ?_)
        · rw [if_pos rfl]
          -- it changes
          have tc := ict.c hg (ict_c hc)
          have go : ∀ j : Nat, b.toInt = j → gw (some (some (.int (μ.2.1 (29 + 2 * c) (3 + j))), wI μ (29 + 2 * c) (3 + j) n)) (gqI (fun x m => ALL m → gwI (f_X12_set 65 (Int32.ofNat c) b n m) (fun y m2 => y = x ∧ (ALL m2 → REL m2)))) := fun j ej => by
            have hj : j < 3 := by omega
            refine gw_some (gq_I (fun hA => gwI_of ?_))
            unfold f_X12_set
            have r26 : (wI μ (29 + 2 * c) (3 + j) n).2.1 66 = μ.2.1 66 := wI_o _ _ _ _ (by omega)
            refine gw_if hA.t65 ?_
            refine gw_isc (μ := μ) hA.1 (by rw [r26]; exact e26) (fun _ => ?_) (fun q => absurd hC q)
            rw [if_neg (by decide)]
            refine gw_inn (fun _ => ?_) (fun q => absurd hb q)
            rw [if_pos (by decide)]
            refine gw_j (fun s => s = hiS b) (fun s es => ?_) (fun j6 hj6 => ?_)
            · subst es
              refine gw_inn (fun _ => ?_) (fun q => absurd hn q)
              rw [if_pos (by decide)]
              have n5 : ((5 : Int32) * b).toInt = 5 * b.toInt := gx_mul 5 rfl (by omega) (by omega)
              have n1 : ((1 : Int32) + (5 : Int32) * b).toInt = (1 : Int32).toInt + ((5 : Int32) * b).toInt := gx_add (by omega) (by omega)
              have n2 : ((1 : Int32) + (5 : Int32) * b + Int32.ofNat c).toInt = ((1 : Int32) + (5 : Int32) * b).toInt + (Int32.ofNat c).toInt := gx_add (by omega) (by omega)
              have ei : 1 + 5 * j + c = 5 * (3 + j) - 14 + c := by omega
              refine gw_gRa 66 (hA.1.1.c (r := 65) rfl) (hA.1.1.r (by decide)) ?_
              refine gw_aIw (1 + 5 * j + c) (hA.1.1.t (r := 66) rfl) (hA.1.1.l (r := 66) rfl) (by omega) (by omega) ?_
              refine gw_gRa 66 (hA.1.1.c (r := 65) rfl) (hA.1.1.r (by decide)) ?_
              refine gw_sIw (1 + 5 * j + c) (hA.1.1.t (r := 66) rfl) (hA.1.1.l (r := 66) rfl) (by omega) (by omega) ?_
              have k0 := h.kk hc
              have kc1 : kC (wI (wI μ (29 + 2 * c) (3 + j) n) 66 (1 + 5 * j + c) n) (29 + 2 * c) = kud (kC μ (29 + 2 * c)) (3 + j) n := by
                rw [kC_o (μ := wI μ (29 + 2 * c) (3 + j) n) (m := wI (wI μ (29 + 2 * c) (3 + j) n) 66 (1 + 5 * j + c) n) (t := 29 + 2 * c) rfl (wI_o _ _ _ _ (by omega)) (fun i _ => by rw [wI_o _ _ _ _ (by omega)]), kC_w (by omega) (by omega)]
              have kr1 : kR ((wI (wI μ (29 + 2 * c) (3 + j) n) 66 (1 + 5 * j + c) n).2.1 66) c = kud (kR (μ.2.1 66) c) (3 + j) n := by
                rw [kR_w hc hc (by omega) (by omega) ei, if_pos rfl, r26]
              refine gw_some (gq_I ⟨?_, fun hB => ?_⟩)
              · rw [r26]
                have e1 : kC μ (29 + 2 * c) (3 + j) = μ.2.1 (29 + 2 * c) (3 + j) := by unfold kC; rw [if_neg (by omega), if_pos (by omega)]
                have e2 : kR (μ.2.1 66) c (3 + j) = μ.2.1 66 (1 + 5 * j + c) := by
                  unfold kR; rw [if_neg (by omega), if_neg (by omega), if_neg (by omega), if_pos (by omega), ei]
                rw [← e1, ← e2, k0.1]
              · refine h.one hc hB (fun r r1 r2 r3 => by rw [wI_o _ _ _ _ (by omega), wI_o _ _ _ _ r1]) rfl (fun i hi => by rw [wI_n _ _ _ _ (by omega), r26]) (fun d hd hdc => by rw [kR_w hc hd (by omega) (by omega) ei, if_neg hdc, r26]) ⟨by rw [kc1, kr1, k0.1], ?_⟩
                rw [kr1]
                refine k0.2.u ?_
                have hh : n.toInt ≤ (hiS b).toInt := hn.2
                unfold hiS at hh
                obtain rfl | rfl | rfl : j = 0 ∨ j = 1 ∨ j = 2 := by omega
                · rw [if_pos (Int32.toInt_inj.mp (by omega))] at hh
                  exact Or.inr (Or.inl ⟨rfl, by omega, by omega⟩)
                · rw [if_neg (fun e => by rw [e] at ej; omega), if_pos (Int32.toInt_inj.mp (by omega))] at hh
                  exact Or.inr (Or.inr (Or.inl ⟨rfl, by omega, by omega⟩))
                · rw [if_neg (fun e => by rw [e] at ej; omega), if_neg (fun e => by rw [e] at ej; omega)] at hh
                  exact Or.inr (Or.inr (Or.inr (Or.inl ⟨rfl, by omega, by omega⟩)))
            · unfold hiS at hj6
              refine gw_ite (fun g => gw_ite (fun g2 => hj6 _ ?_) (fun g2 => hj6 _ ?_)) (fun g => hj6 _ ?_)
              · rw [if_neg g, if_neg g2]
              · rw [if_neg g, if_pos (Decidable.not_not.mp g2)]
              · rw [if_pos (Decidable.not_not.mp g)]
          refine gw_ite (fun g => gw_ite (fun g2 => ?_) (fun g2 => ?_)) (fun g => ?_)
          · refine gw_gIw tc ?_
            refine gw_pIw tc ?_
            have g' : b.toInt ≠ 0 := fun e => g (Int32.toInt_inj.mp (by omega))
            have g2' : b.toInt ≠ 1 := fun e => g2 (Int32.toInt_inj.mp (by omega))
            exact go 2 (by omega)
          · refine gw_gIw tc ?_
            refine gw_pIw tc ?_
            exact go 1 (by rw [Decidable.not_not.mp g2]; rfl)
          · refine gw_gIw tc ?_
            refine gw_pIw tc ?_
            exact go 0 (by rw [Decidable.not_not.mp g]; rfl)
        · rw [if_neg (by decide)]
          refine gw_some (gq_I (fun hA => gwI_of ?_))
          unfold f_X12_set
          refine gw_if hA.t65 ?_
          refine gw_isc hA.1 e26 (fun _ => ?_) (fun q => absurd hC q)
          rw [if_neg (by decide)]
          refine gw_inn (fun _ => ?_) (fun q => absurd hb q)
          rw [if_pos (by decide)]
          refine gw_j (fun s => s = hiS b) (fun s es => ?_) (fun j6 hj6 => ?_)
          · subst es
            refine gw_inn (fun q => absurd q nn) (fun _ => ?_)
            rw [if_neg (by decide)]
            exact gw_some (gq_I ⟨rfl, fun _ => h⟩)
          · unfold hiS at hj6
            refine gw_ite (fun g => gw_ite (fun g2 => hj6 _ ?_) (fun g2 => hj6 _ ?_)) (fun g => hj6 _ ?_)
            · rw [if_neg g, if_neg g2]
            · rw [if_neg g, if_pos (Decidable.not_not.mp g2)]
            · rw [if_pos (Decidable.not_not.mp g)]
      · unfold hiS at hj
        refine gw_ite (fun g => gw_ite (fun g2 => hj _ ?_) (fun g2 => hj _ ?_)) (fun g => hj _ ?_)
        · rw [if_neg g, if_neg g2]
        · rw [if_neg g, if_pos (Decidable.not_not.mp g2)]
        · rw [if_pos (Decidable.not_not.mp g)]
    · rw [if_neg (by decide)]
      refine gw_some (gq_I (fun hA => gwI_of ?_))
      unfold f_X12_set
      refine gw_if hA.t65 ?_
      refine gw_isc hA.1 e26 (fun _ => ?_) (fun q => absurd hC q)
      rw [if_neg (by decide)]
      refine gw_inn (fun q => absurd q nb) (fun _ => ?_)
      rw [if_neg (by decide)]
      exact gw_some (gq_I ⟨rfl, fun _ => h⟩)
  · rw [if_pos (by decide)]
    refine gw_some (gq_I (fun hA => gwI_of ?_))
    unfold f_X12_set
    refine gw_if hA.t65 ?_
    refine gw_isc hA.1 e26 (fun q => absurd q nC) (fun _ => ?_)
    rw [if_pos rfl]
    exact gw_some (gq_I ⟨rfl, fun _ => h⟩)
theorem kC_r {t j : Nat} {x : Int32} (hj : j < 4) : kC (wI μ (t + 1) j x) t = kud (kC μ t) (8 + j) x := by
  funext i
  unfold kud kC
  by_cases e1 : i = 1
  · rw [if_pos e1, if_neg (show ¬ i = 8 + j by omega), if_pos e1]; rfl
  · rw [if_neg e1]
    by_cases e2 : i < 8
    · rw [if_pos e2, if_neg (show ¬ i = 8 + j by omega), if_neg e1, if_pos e2, wI_o _ _ _ _ (by omega)]
    · rw [if_neg e2]
      by_cases e3 : i < 12
      · rw [if_pos e3]
        by_cases e : i = 8 + j
        · rw [if_pos e, show i - 8 = j by omega, wI_e]
        · rw [if_neg e, wI_n _ _ _ _ (by omega), if_neg e1, if_neg e2, if_pos e3]
      · rw [if_neg e3, if_neg (show ¬ i = 8 + j by omega), if_neg e1, if_neg e2, if_neg e3]
theorem kR_r {c d j i : Nat} {x : Int32} (hc : c < 5) (hd : d < 5) (hj : j < 4) (hi : i = 43 + 4 * c + j) : kR ((wI μ 66 i x).2.1 66) d = (if d = c then kud (kR (μ.2.1 66) c) (8 + j) x else kR (μ.2.1 66) d) := by
  subst hi
  funext k
  have e : (wI μ 66 (43 + 4 * c + j) x).2.1 66 = fun q => if q = 43 + 4 * c + j then x else μ.2.1 66 q := by
    funext q
    by_cases h : q = 43 + 4 * c + j
    · rw [h, wI_e, if_pos rfl]
    · rw [wI_n _ _ _ _ h, if_neg h]
  rw [e]
  by_cases hdc : d = c
  · rw [if_pos hdc, hdc]
    unfold kud kR
    dsimp only
    by_cases h0 : k = 0
    · rw [if_pos h0, if_neg (show ¬ k = 8 + j by omega), if_pos h0]
    · rw [if_neg h0]
      by_cases h1 : k = 1
      · rw [if_pos h1, if_neg (show ¬ k = 8 + j by omega), if_neg h0, if_pos h1, if_neg (by omega)]
      · rw [if_neg h1]
        by_cases h2 : k = 2
        · rw [if_pos h2, if_neg (show ¬ k = 8 + j by omega), if_neg h0, if_neg h1, if_pos h2, if_neg (by omega)]
        · rw [if_neg h2]
          by_cases h8 : k < 8
          · rw [if_pos h8, if_neg (show ¬ k = 8 + j by omega), if_neg h0, if_neg h1, if_neg h2, if_pos h8, if_neg (by omega)]
          · rw [if_neg h8]
            by_cases h12 : k < 12
            · rw [if_pos h12]
              by_cases hk : k = 8 + j
              · rw [if_pos hk, if_pos (by omega)]
              · rw [if_neg hk, if_neg (by omega), if_neg h0, if_neg h1, if_neg h2, if_neg h8, if_pos h12]
            · rw [if_neg h12, if_neg (show ¬ k = 8 + j by omega), if_neg h0, if_neg h1, if_neg h2, if_neg h8, if_neg h12]
  · rw [if_neg hdc]
    unfold kR
    dsimp only
    by_cases h0 : k = 0
    · rw [if_pos h0, if_pos h0]
    · rw [if_neg h0, if_neg h0]
      by_cases h1 : k = 1
      · rw [if_pos h1, if_pos h1, if_neg (by omega)]
      · rw [if_neg h1, if_neg h1]
        by_cases h2 : k = 2
        · rw [if_pos h2, if_pos h2, if_neg (by omega)]
        · rw [if_neg h2, if_neg h2]
          by_cases h8 : k < 8
          · rw [if_pos h8, if_pos h8, if_neg (by omega)]
          · rw [if_neg h8, if_neg h8]
            by_cases h12 : k < 12
            · rw [if_pos h12, if_pos h12, if_neg (by omega)]
            · rw [if_neg h12, if_neg h12]
theorem RK.r {k : Nat → Int32} (h : RK k) {j : Nat} {x : Int32} (h0 : 0 ≤ x.toInt ∧ x.toInt ≤ 9) : RK (kud k (8 + j) x) := by
  obtain ⟨⟨h1, h2, h3⟩, ⟨h4, h5, h6, h7⟩, h8⟩ := h
  unfold RK kud
  refine ⟨⟨?_, ?_, ?_⟩, ⟨?_, ?_, ?_, ?_⟩, fun i hi => ?_⟩
  · rw [if_neg (by omega)]; exact h1
  · rw [if_neg (by omega)]; exact h2
  · rw [if_neg (by omega)]; exact h3
  · rw [if_neg (by omega)]; exact h4
  · rw [if_neg (by omega)]; exact h5
  · rw [if_neg (by omega)]; exact h6
  · rw [if_neg (by omega)]; exact h7
  · split
    · exact h0
    · exact h8 i hi
theorem N_row (h : REL μ) {a b n : Int32} : PR (f_X11_row 1 a b n μ) (f_X12_row 65 a b n) := by
  refine PR.mk2 (L_row h.1) ?_
  have hg := h.ci.1
  have e26 := h.sz.symm
  obtain ⟨l0, l1, l2, l3, l4, l5, l6, l10, l99⟩ := i_lit
  have l9 : (9 : Int32).toInt = 9 := rfl
  have l43 : (43 : Int32).toInt = 43 := rfl
  refine gwI_of ?_
  unfold f_X11_row
  -- a refusal stays one
  have no : ∀ (y : Int32), ¬ (isC μ a ∧ ((0 : Int32).toInt ≤ b.toInt ∧ b.toInt ≤ (3 : Int32).toInt) ∧ ((0 : Int32).toInt ≤ n.toInt ∧ n.toInt ≤ (9 : Int32).toInt) ∧ μ.2.1 66 (33 + a.toInt.toNat) = 6) → gw (some (some (.int y), μ)) (gqI (fun x m => gwI (f_X12_row 65 a b n m) (fun _ m2 => ALL m2 → REL m2))) := fun y hno => by
    refine gw_some (gq_I (gwI_of ?_))
    unfold f_X12_row
    refine gw_if h.1.t65 ?_
    refine gw_isc h.mi e26 (fun hC => ?_) (fun _ => by rw [if_pos rfl]; exact gw_some (gq_I (fun _ => h)))
    rw [if_neg (by decide)]
    refine gw_inn (fun hb => ?_) (fun _ => by rw [if_neg (by decide)]; exact gw_some (gq_I (fun _ => h)))
    rw [if_pos (by decide)]
    refine gw_inn (fun hn => ?_) (fun _ => by rw [if_neg (by decide)]; exact gw_some (gq_I (fun _ => h)))
    rw [if_pos (by decide)]
    obtain ⟨c, hc, ea, oc⟩ := hC.at
    subst ea
    refine gw_rd h.mi hc 33 rfl (by decide) ?_
    refine gw_ite (fun g => ?_) (fun _ => gw_some (gq_I (fun _ => h)))
    exact absurd ⟨hC, hb, hn, by rw [oc, Int.toNat_natCast]; exact g⟩ hno
  refine gw_if (hg.t (r := 1) rfl) ?_
  refine gw_nob h (fun hC => ?_) (fun nC => by rw [if_pos (by decide)]; exact no _ (fun q => nC q.1))
  rw [if_neg (by decide)]
  refine gw_out (fun hb => ?_) (fun nb => by rw [if_neg (by decide)]; exact no _ (fun q => nb q.2.1))
  rw [if_pos rfl]
  refine gw_out (fun hn => ?_) (fun nn => by rw [if_neg (by decide)]; exact no _ (fun q => nn q.2.2.1))
  rw [if_pos rfl]
  obtain ⟨c, hc, ea, oc⟩ := hC.at
  subst ea
  refine gw_kid hg hc ?_
  have tc := ict.c hg (ict_c hc)
  refine gw_gR tc (fun q eq => ?_)
  have hq : kid q := by rw [eq]; exact h.ci.2.2.2.1 _ (Or.inl (ict_c hc))
  refine gw_io (by rcases kid.t hg hq with q | q | q | q | q | q | q <;> rw [q] <;> decide) (fun x ix => ?_)
  have k15 := kid15 hg hq ix
  have kd := h.1.kd c hc
  rw [← eq] at kd
  refine gw_ite (fun g => ?_) (fun g => ?_)
  · obtain ⟨j, hj, ej⟩ : ∃ j : Nat, j < 4 ∧ b.toInt = j := ⟨b.toInt.toNat, by omega, by omega⟩
    have q14 : q = 14 := by
      rcases k15 with ⟨-, e⟩ | ⟨e, -⟩
      · exact e
      · exact absurd (Int32.toInt_inj.mp (by omega)) g
    refine gw_gRa (29 + 2 * c + 1) tc (ict.row hg (ict_c hc)) ?_
    refine gw_aIw j (ict.rt hg (ict_c hc)) (ict.rl hg (ict_c hc)) ej hj ?_
    refine gw_gRa (29 + 2 * c + 1) tc (ict.row hg (ict_c hc)) ?_
    refine gw_sIw j (ict.rt hg (ict_c hc)) (ict.rl hg (ict_c hc)) ej hj ?_
    have r26 : (wI μ (29 + 2 * c + 1) j n).2.1 66 = μ.2.1 66 := wI_o _ _ _ _ (by omega)
    have hM : MI (wI μ (29 + 2 * c + 1) j n) := ⟨hg, by rw [r26]; exact h.mi.2⟩
    refine gw_some (gq_I (gwI_of ?_))
    unfold f_X12_row
    refine gw_if (hM.1.t (r := 65) rfl) ?_
    refine gw_isc (μ := μ) hM (by rw [r26]; exact e26) (fun _ => ?_) (fun q => absurd hC q)
    rw [if_neg (by decide)]
    refine gw_inn (fun _ => ?_) (fun q => absurd hb q)
    rw [if_pos (by decide)]
    refine gw_inn (fun _ => ?_) (fun q => absurd hn q)
    rw [if_pos (by decide)]
    refine gw_rd hM hc 33 rfl (by decide) ?_
    rw [r26]
    refine gw_ite (fun g => ?_) (fun g6 => ?_)
    · have n1 : ((4 : Int32) * Int32.ofNat c).toInt = 4 * (Int32.ofNat c).toInt := gx_mul 4 rfl (by omega) (by omega)
      have n2 : ((43 : Int32) + (4 : Int32) * Int32.ofNat c).toInt = (43 : Int32).toInt + ((4 : Int32) * Int32.ofNat c).toInt := gx_add (by omega) (by omega)
      have n3 : ((43 : Int32) + (4 : Int32) * Int32.ofNat c + b).toInt = ((43 : Int32) + (4 : Int32) * Int32.ofNat c).toInt + b.toInt := gx_add (by omega) (by omega)
      refine gw_gRa 66 (hM.1.c (r := 65) rfl) (hM.1.r (by decide)) ?_
      refine gw_aIw (43 + 4 * c + j) (hM.1.t (r := 66) rfl) (hM.1.l (r := 66) rfl) (by omega) (by omega) ?_
      refine gw_gRa 66 (hM.1.c (r := 65) rfl) (hM.1.r (by decide)) ?_
      refine gw_sIw (43 + 4 * c + j) (hM.1.t (r := 66) rfl) (hM.1.l (r := 66) rfl) (by omega) (by omega) ?_
      refine gw_some (gq_I (fun hB => ?_))
      have k0 := h.kk hc
      have kr1 : kR ((wI (wI μ (29 + 2 * c + 1) j n) 66 (43 + 4 * c + j) n).2.1 66) c = kud (kR (μ.2.1 66) c) (8 + j) n := by
        rw [kR_r hc hc hj rfl, if_pos rfl, r26]
      refine h.one hc hB (fun r r1 r2 r3 => by rw [wI_o _ _ _ _ (by omega), wI_o _ _ _ _ r2]) rfl (fun i hi => by rw [wI_n _ _ _ _ (by omega), r26]) (fun d hd hdc => by rw [kR_r hc hd hj rfl, if_neg hdc, r26]) ⟨?_, by rw [kr1]; exact k0.2.r ⟨by omega, by omega⟩⟩
      rw [kr1, kC_o (μ := wI μ (29 + 2 * c + 1) j n) (m := wI (wI μ (29 + 2 * c + 1) j n) 66 (43 + 4 * c + j) n) (t := 29 + 2 * c) rfl (wI_o _ _ _ _ (by omega)) (fun i _ => by rw [wI_o _ _ _ _ (by omega)]), kC_r hj, k0.1]
    · exact absurd (Int32.toInt_inj.mp (by omega)) g6
  · refine no _ (fun z => ?_)
    have z4 := z.2.2.2
    rw [oc, Int.toNat_natCast] at z4
    rw [z4] at kd
    rcases k15 with ⟨e, -⟩ | ⟨-, e⟩
    · exact g (fun q => by rw [q] at e; omega)
    · omega
end
end
section
/-! a letter, an afternoon: agreed behind them -/
def rg (w sw : Int32) : Prop := (0 ≤ w.toInt ∧ w.toInt ≤ 99) ∧ 0 ≤ sw.toInt ∧ sw.toInt ≤ 99
theorem pM_rg {tx : Nat → Int32} {n : Nat} {u : UInt32} {kd : Int32} {p : Nat} {w sw : Int32} {L : List Int32} : (pM tx n u kd p w sw L).2.2.1 = w ∧ (pM tx n u kd p w sw L).2.2.2.1 = sw := by
  unfold pM
  split
  · split <;> exact ⟨rfl, rfl⟩
  · exact ⟨rfl, rfl⟩
theorem pK_rg {tx : Nat → Int32} {n p : Nat} {w sw : Int32} {L : List Int32} (h : rg w sw) (h1 : (pK tx n p w sw L).1 = true) : rg (pK tx n p w sw L).2.2.1 (pK tx n p w sw L).2.2.2.1 := by
  unfold pK at h1 ⊢
  by_cases e1 : pd tx n p = 119
  · rw [if_pos e1] at h1 ⊢
    have q : p < n := pd_lt (tx := tx) (by rw [e1]; decide)
    exact ⟨((pWN_g (tx := tx) (n := n) (u := 1) (p := p) (by decide) (by omega)).2.2 h1).2, h.2⟩
  · rw [if_neg e1] at h1 ⊢
    by_cases e2 : pd tx n p = 115
    · rw [if_pos e2] at h1 ⊢
      by_cases e3 : pd tx n (p + 1) = 119
      · rw [if_pos e3] at h1 ⊢
        have q : p + 1 < n := pd_lt (tx := tx) (by rw [e3]; decide)
        exact ⟨h.1, ((pWN_g (tx := tx) (n := n) (u := 2) (p := p + 1) (by decide) (by omega)).2.2 h1).2⟩
      · rw [if_neg e3] at h1 ⊢
        by_cases e4 : pd tx n (p + 1) = 116
        · rw [if_pos e4]
          by_cases e5 : pd tx n (p + 2) = 114
          · rw [if_pos e5, pM_rg.1, pM_rg.2]; exact h
          · rw [if_neg e5, pM_rg.1, pM_rg.2]; exact h
        · rw [if_neg e4] at h1; cases h1
    · rw [if_neg e2] at h1; cases h1
theorem pR_rg {tx : Nat → Int32} {n : Nat} : ∀ (k : Nat) (r : pB), rg r.2.2.1 r.2.2.2.1 → (pR tx n k r).1 = true → rg (pR tx n k r).2.2.1 (pR tx n k r).2.2.2.1
  | 0, r, h, h1 => by
    unfold pR at h1 ⊢
    split at h1
    · rename_i g; rw [if_pos g]; exact h
    · cases h1
  | k + 1, r, h, h1 => by
    unfold pR at h1 ⊢
    split at h1
    · rename_i g; rw [if_pos g]; exact h
    · rename_i g
      rw [if_neg g]
      split at h1
      · rename_i g2
        rw [if_pos g2]
        split at h1
        · rename_i g3
          rw [if_pos g3]
          exact pR_rg k _ (pK_rg h g3) h1
        · rename_i g3; exact absurd h1 g3
      · cases h1
theorem pAft_rg {tx : Nat → Int32} {n : Nat} (h : (pAft tx n).1 = true) : rg (pAft tx n).2.2.1 (pAft tx n).2.2.2.1 := by
  have h0 : rg (0 : Int32) 20 := ⟨⟨by decide, by decide⟩, by decide, by decide⟩
  unfold pAft at h ⊢
  split at h
  · rename_i g; rw [if_pos g]; exact pR_rg 9 _ (pK_rg h0 g) h
  · rename_i g; exact absurd h g
theorem AfW.lt {μ : gm_M} {q : Nat} (p : AfW μ q) : q + 3 < μ.1.length := (List.getElem?_eq_some_iff.mp p.2.1.2.2.2).1
section
variable {μ : gm_M}
theorem REL.of2 {m : gm_M} (h : REL μ) (ha : ALL m) (hq : ∀ r : Nat, Qr r → r < μ.1.length → m.2.1 r = μ.2.1 r) (hf : m.2.1 1 3 = μ.2.1 1 3) (h2 : ∀ r : Nat, (39 ≤ r ∧ r < 63) → m.2.2 r = μ.2.2 r) (v : VS 15 29 m (m.2.1 66)) : REL m := by
  have p0 := h.aw2.1
  have p1 := h.aw2.lt
  have hL := h.ci.1.len
  refine ⟨ha, fun i hi => by rw [hq _ (by unfold Qr; omega) (by omega)]; exact h.2.1 i hi, v, fun q => ?_⟩
  rw [hf] at q
  obtain ⟨v1, v2, v3, v4, v5⟩ := h.2.2.2 q
  have e67 := hq 67 (by unfold Qr; omega) (by omega)
  rw [e67]
  exact ⟨v1.fr (fun k hk => kC_o (by rw [h2 _ (by omega)]) (hq _ (by unfold Qr; omega) (by omega)) (fun j _ => by rw [hq _ (by unfold Qr; omega) (by omega)])) (fun _ _ => rfl), v2, v3.fr ⟨by rw [hq 39 (by unfold Qr; omega) (by omega)], by rw [hq 39 (by unfold Qr; omega) (by omega)]⟩ (hq _ (by unfold Qr; omega) (by omega)) (fun _ _ => rfl), v4.fr (hq _ (by unfold Qr; omega) (by omega)) (hq _ (by unfold Qr; omega) (by omega)) (fun _ _ => rfl) (Int.le_refl _), v5.fr (by rw [h2 39 (by omega)]) (fun d hd => hq _ (by unfold Qr; omega) (by omega)) (fun _ _ => rfl)⟩
set_option maxHeartbeats 4000000 in
theorem N_feed (h : REL μ) {a : Int32} : PR (f_X11_feed 1 a μ) (f_X12_feed 65 a) := by
  refine PR.mk (c_feed h.1) (fun m k => m_feed k) ?_
  have hg := h.ci.1
  have n4 := h.ci.n4
  obtain ⟨v1, v2, ⟨t1, t2, t3⟩, v4, v5⟩ := h.vs
  obtain ⟨n, en, hn⟩ : ∃ n : Nat, μ.2.1 15 4 = Int32.ofNat n ∧ n ≤ 100 := ⟨(μ.2.1 15 4).toInt.toNat, (gx_of n4.1).symm, by omega⟩
  have on := ofn (k := n) (by omega)
  have en2 : μ.2.1 66 31 = Int32.ofNat n := by rw [← t1]; exact en
  have l0 : (0 : Int32).toInt = 0 := rfl
  have l31 : (31 : Int32).toInt = 31 := rfl
  have l100 : (100 : Int32).toInt = 100 := rfl
  have l110 : (110 : Int32).toInt = 110 := rfl
  have l127 : (127 : Int32).toInt = 127 := rfl
  have lo4 : (Int32.ofNat 100).toInt = 100 := rfl
  refine gwI_of ?_
  unfold f_X11_feed
  refine gw_out (fun hb => ?_) (fun nb => ?_)
  · rw [if_pos rfl]
    refine gw_gRa 15 (hg.c (r := 1) rfl) (hg.r (by decide)) ?_
    refine gw_gIw (hg.c (r := 15) rfl) ?_
    refine gw_gRa 15 (hg.c (r := 1) rfl) (hg.r (by decide)) ?_
    refine gw_gRa 17 (hg.c (r := 15) rfl) (hg.r (by decide)) ?_
    refine gw_al (hg.t (r := 17) rfl) (hg.l (r := 17) rfl) ?_
    rw [en]
    refine gw_lt (fun g => ?_) (fun g => ?_)
    · refine gw_gRa 15 (hg.c (r := 1) rfl) (hg.r (by decide)) ?_
      refine gw_gRa 17 (hg.c (r := 15) rfl) (hg.r (by decide)) ?_
      refine gw_gRa 15 (hg.c (r := 1) rfl) (hg.r (by decide)) ?_
      refine gw_gIw (hg.c (r := 15) rfl) ?_
      refine gw_sIw n (hg.t (r := 17) rfl) (hg.l (r := 17) rfl) (by rw [en]; exact on) (by omega) ?_
      refine gw_gRa 15 (hg.c (r := 1) rfl) (hg.r (by decide)) ?_
      refine gw_gIw (hg.c (r := 15) rfl) ?_
      refine gw_pIw (hg.c (r := 15) rfl) ?_
      refine gw_gRa 15 (hg.c (r := 1) rfl) (hg.r (by decide)) ?_
      refine gw_gIw (hg.c (r := 15) rfl) ?_
      rw [wI_e, wI_o _ _ _ _ (show (15 : Nat) ≠ 17 by decide), en, ofn1 (by omega)]
      refine gw_some (gq_I (fun hA => gwI_of ?_))
      have r66 : (wI (wI μ 17 n a) 15 4 (Int32.ofNat (n + 1))).2.1 66 = μ.2.1 66 := by rw [wI_o _ _ _ _ (by decide), wI_o _ _ _ _ (by decide)]
      have row : ∀ r : Nat, r ≠ 15 → r ≠ 17 → (wI (wI μ 17 n a) 15 4 (Int32.ofNat (n + 1))).2.1 r = μ.2.1 r := fun r r1 r2 => by rw [wI_o _ _ _ _ r1, wI_o _ _ _ _ r2]
      have c4 : (wI (wI μ 17 n a) 15 4 (Int32.ofNat (n + 1))).2.1 15 4 = Int32.ofNat (n + 1) := wI_e _ _ _ _
      have c5 : (wI (wI μ 17 n a) 15 4 (Int32.ofNat (n + 1))).2.1 15 5 = μ.2.1 15 5 := by rw [wI_n _ _ _ _ (by decide), wI_o _ _ _ _ (by decide)]
      have c17 : ∀ i : Nat, i ≠ n → (wI (wI μ 17 n a) 15 4 (Int32.ofNat (n + 1))).2.1 17 i = μ.2.1 17 i := fun i hi => by rw [wI_o _ _ _ _ (by decide), wI_n _ _ _ _ hi]
      have c17n : (wI (wI μ 17 n a) 15 4 (Int32.ofNat (n + 1))).2.1 17 n = a := by rw [wI_o _ _ _ _ (by decide), wI_e]
      have rf : (wI (wI μ 17 n a) 15 4 (Int32.ofNat (n + 1))).2.2 = μ.2.2 := rfl
      generalize wI (wI μ 17 n a) 15 4 (Int32.ofNat (n + 1)) = m at *
      have hm := hA.1.1
      unfold f_X12_feed
      refine gw_inn (fun _ => ?_) (fun q => absurd hb q)
      rw [if_pos (by decide)]
      refine gw_gRa 66 (hm.c (r := 65) rfl) (hm.r (by decide)) ?_
      refine gw_aIw 31 (hm.t (r := 66) rfl) (hm.l (r := 66) rfl) l31 (by omega) ?_
      rw [r66, en2]
      refine gw_if (fun e => by have := congrArg Int32.toInt e; omega) ?_
      refine gw_gRa 66 (hm.c (r := 65) rfl) (hm.r (by decide)) ?_
      refine gw_gRa 66 (hm.c (r := 65) rfl) (hm.r (by decide)) ?_
      refine gw_aIw 31 (hm.t (r := 66) rfl) (hm.l (r := 66) rfl) l31 (by omega) ?_
      rw [r66, en2]
      have n1 : ((110 : Int32) + Int32.ofNat n).toInt = (110 : Int32).toInt + (Int32.ofNat n).toInt := gx_add (by omega) (by omega)
      refine gw_sIw (110 + n) (hm.t (r := 66) rfl) (hm.l (r := 66) rfl) (by omega) (by omega) ?_
      refine gw_gRa 66 (hm.c (r := 65) rfl) (hm.r (by decide)) ?_
      refine gw_aIw 31 (hm.t (r := 66) rfl) (hm.l (r := 66) rfl) l31 (by omega) ?_
      rw [wI_n _ _ _ _ (show (31 : Nat) ≠ 110 + n by omega), r66, en2, ofn1 (by omega)]
      refine gw_sIw 31 (hm.t (r := 66) rfl) (hm.l (r := 66) rfl) l31 (by omega) ?_
      refine gw_gRa 66 (hm.c (r := 65) rfl) (hm.r (by decide)) ?_
      refine gw_aIw 31 (hm.t (r := 66) rfl) (hm.l (r := 66) rfl) l31 (by omega) ?_
      rw [wI_e]
      refine gw_some (gq_I ⟨rfl, fun hB => ?_⟩)
      have C31 : (wI (wI m 66 (110 + n) a) 66 31 (Int32.ofNat (n + 1))).2.1 66 31 = Int32.ofNat (n + 1) := wI_e _ _ _ _
      have Cn : (wI (wI m 66 (110 + n) a) 66 31 (Int32.ofNat (n + 1))).2.1 66 (110 + n) = a := by rw [wI_n _ _ _ _ (by omega), wI_e]
      have Ck : ∀ k : Nat, k ≠ 31 → k ≠ 110 + n → (wI (wI m 66 (110 + n) a) 66 31 (Int32.ofNat (n + 1))).2.1 66 k = μ.2.1 66 k := fun k k1 k2 => by rw [wI_n _ _ _ _ k1, wI_n _ _ _ _ k2, r66]
      have Ro : ∀ r : Nat, r ≠ 66 → (wI (wI m 66 (110 + n) a) 66 31 (Int32.ofNat (n + 1))).2.1 r = m.2.1 r := fun r r1 => by rw [wI_o _ _ _ _ r1, wI_o _ _ _ _ r1]
      have Rf : (wI (wI m 66 (110 + n) a) 66 31 (Int32.ofNat (n + 1))).2.2 = μ.2.2 := rf
      generalize wI (wI m 66 (110 + n) a) 66 31 (Int32.ofNat (n + 1)) = M at *
      have Row : ∀ r : Nat, r ≠ 15 → r ≠ 17 → r ≠ 66 → M.2.1 r = μ.2.1 r := fun r r1 r2 r3 => (Ro r r3).trans (row r r1 r2)
      have o1 := ofn (k := n + 1) (by omega)
      refine h.of hB (fun r hr => Row r (by unfold Qr at hr; omega) (by unfold Qr at hr; omega) (by unfold Qr at hr; omega)) (by rw [Row 1 (by omega) (by omega) (by omega)]) (fun r _ => by rw [Rf]) ⟨v1.fr (fun k hk => kC_o (by rw [Rf]) (Row _ (by omega) (by omega) (by omega)) (fun j _ => by rw [Row _ (by omega) (by omega) (by omega)])) (fun i hi => Ck i (by omega) (by omega)), by rw [Ck 0 (by omega) (by omega)]; exact v2, ⟨by rw [Ro 15 (by omega), c4, C31], by rw [Ro 15 (by omega), c5, Ck 27 (by omega) (by omega)]; exact t2, fun i hi => ?_⟩, v4.fr (Row 24 (by omega) (by omega) (by omega)) (Row 28 (by omega) (by omega) (by omega)) (fun i hi => Ck i (by omega) (by omega)) (by rw [Ck 26 (by omega) (by omega)]; exact Int.le_refl _), h.va (fun r hr => Row r (by unfold Qr at hr; omega) (by unfold Qr at hr; omega) (by unfold Qr at hr; omega)) (by rw [Rf]) (fun i hi => Ck i (by omega) (by omega))⟩
      rw [C31, o1] at hi
      rw [Ro 17 (by omega)]
      by_cases q : i = n
      · rw [q, c17n, Cn]; exact ⟨rfl, by omega, by omega⟩
      · rw [c17 i q, Ck _ (by omega) (by omega)]
        exact t3 i (by rw [en2, on]; omega)
    · refine gw_some (gq_I (fun hA => gwI_of ?_))
      unfold f_X12_feed
      refine gw_inn (fun _ => ?_) (fun q => absurd hb q)
      rw [if_pos (by decide)]
      refine gw_gRa 66 (hg.c (r := 65) rfl) (hg.r (by decide)) ?_
      refine gw_aIw 31 (hg.t (r := 66) rfl) (hg.l (r := 66) rfl) l31 (by omega) ?_
      rw [en2, show n = 100 by omega, if_neg (by decide)]
      exact gw_some (gq_I ⟨rfl, fun _ => h⟩)
  · rw [if_neg (by decide)]
    refine gw_some (gq_I (fun hA => gwI_of ?_))
    unfold f_X12_feed
    refine gw_inn (fun q => absurd q nb) (fun _ => ?_)
    rw [if_neg (by decide)]
    exact gw_some (gq_I ⟨rfl, fun _ => h⟩)
set_option maxHeartbeats 4000000 in
theorem N_afternoon (h : REL μ) : PR (f_X11_afternoon 1 μ) (f_X12_afternoon 65) := by
  refine PR.mk (c_afternoon h.1) (fun m k => m_afternoon k) ?_
  have hg := h.ci.1
  have hL := hg.len
  have n4 := h.ci.n4
  have n5 := h.ci.n5
  obtain ⟨v1, v2, ⟨t1, t2, t3⟩, v4, v5⟩ := h.vs
  obtain ⟨n, en, hn⟩ : ∃ n : Nat, μ.2.1 15 4 = Int32.ofNat n ∧ n ≤ 100 := ⟨(μ.2.1 15 4).toInt.toNat, (gx_of n4.1).symm, by omega⟩
  obtain ⟨a, ea, ha⟩ : ∃ a : Nat, μ.2.1 15 5 = Int32.ofNat a ∧ a ≤ 5 := ⟨(μ.2.1 15 5).toInt.toNat, (gx_of n5.1).symm, by omega⟩
  have on := ofn (k := n) (by omega)
  have oa := ofn (k := a) (by omega)
  have en2 : μ.2.1 66 31 = Int32.ofNat n := by rw [← t1]; exact en
  have ea2 : μ.2.1 66 27 = Int32.ofNat a := by rw [← t2]; exact ea
  obtain ⟨tx, ht, hr⟩ : ∃ tx : Nat → Int32, (∀ i : Nat, i < n → μ.2.1 17 i = tx i ∧ μ.2.1 66 (110 + i) = tx i) ∧ ∀ i : Nat, 0 ≤ (tx i).toInt ∧ (tx i).toInt ≤ 127 := by
    refine ⟨fun i => if i < n then μ.2.1 66 (110 + i) else 0, fun i hi => ?_, fun i => ?_⟩
    · have := t3 i (by rw [en2, on]; omega)
      dsimp only
      rw [if_pos hi]
      exact ⟨this.1, rfl⟩
    · dsimp only
      by_cases hi : i < n
      · rw [if_pos hi]; exact (t3 i (by rw [en2, on]; omega)).2
      · rw [if_neg hi]; decide
  refine gwI_mono (v_afternoon h.1 hn en (fun i hi => (ht i hi).1) hr) (fun x m hc hA => ?_)
  have rc : ∀ q : Nat, q < μ.1.length → q ≠ 15 → m.2.1 q = μ.2.1 q := by
    rcases hc with ⟨-, -, e⟩ | ⟨-, c, -⟩
    · intro q _ _; rw [e]
    · exact c
  have e66 := rc 66 (by omega) (by omega)
  refine gwI_mono (m_aft hA hn ha (by rw [e66]; exact en2) (by rw [e66]; exact ea2) (fun i hi => by rw [e66]; exact (ht i hi).2) hr) (fun y m2 hm => ?_)
  rw [e66, ea2, oa] at hm
  rw [ea, oa] at hc
  rcases hc with ⟨c1, c2, c3⟩ | ⟨c1, c2, c3, c4, c5, c6⟩
  · rcases hm with ⟨g1, g2, g3⟩ | ⟨g1, -⟩
    · exact ⟨by rw [g2, c2], fun _ => by rw [g3, c3]; exact h⟩
    · omega
  · rcases hm with ⟨g1, -⟩ | ⟨g1, d1, d2, d3, d4, d5⟩
    · omega
    · have a5 : a < 5 := by omega
      have row : ∀ r : Nat, r < μ.1.length → r ≠ 15 → r ≠ 65 → r ≠ 66 → m2.2.1 r = μ.2.1 r := fun r r1 r2 r3 r4 => (d1 r r3 r4).trans (c2 r r1 r2)
      have rf : ∀ q j : Nat, q < μ.1.length → ¬ (q = 15 ∧ j = 6) → m2.2.2 q j = μ.2.2 q j := fun q j q1 q2 => by rw [d2]; exact c5 q j q1 q2
      have r66 : ∀ k : Nat, (k ≠ 27 ∧ k ≠ 31 ∧ k ≠ 32 ∧ k ≠ 210 + a ∧ k ≠ 215 + a ∧ k ≠ 220 + a ∧ ¬ (225 + 140 * a ≤ k ∧ k < 365 + 140 * a)) → m2.2.1 66 k = μ.2.1 66 k := fun k q => by rw [d3 k q.1 q.2.1 q.2.2.1 q.2.2.2.1 q.2.2.2.2.1 q.2.2.2.2.2.1 q.2.2.2.2.2.2, e66]
      have r15 : m2.2.1 15 = m.2.1 15 := d1 15 (by omega) (by omega)
      have fin : ALL m2 → VA 15 m2 (m2.2.1 66) → m2.2.1 15 5 = m2.2.1 66 27 → REL m2 := fun hB u1 u2 => by
        refine h.of2 hB (fun r hr hl => row r hl (by unfold Qr at hr; omega) (by unfold Qr at hr; omega) (by unfold Qr at hr; omega)) (by rw [row 1 (by omega) (by omega) (by omega) (by omega)]) (fun r hr => funext fun j => rf r j (by omega) (by omega)) ⟨v1.fr (fun k hk => kC_o (rf _ 1 (by omega) (by omega)) (row _ (by omega) (by omega) (by omega) (by omega)) (fun j _ => by rw [row _ (by omega) (by omega) (by omega) (by omega)])) (fun i hi => r66 i (by omega)), by rw [r66 0 (by omega)]; exact v2, ⟨by rw [r15, c4, d4], u2, fun i hi => ?_⟩, v4.fr (row 24 (by omega) (by omega) (by omega) (by omega)) (row 28 (by omega) (by omega) (by omega) (by omega)) (fun i hi => r66 i (by omega)) (by rw [r66 26 (by omega)]; exact Int.le_refl _), u1⟩
        rw [d4] at hi
        have l0 : (0 : Int32).toInt = 0 := rfl
        omega
      rcases c6 with ⟨s1, s2, s3, s4, s5, s6⟩ | ⟨s1, s2, s3, s4⟩
      · rcases d5 with ⟨q1, q2, q3, q4, q5⟩ | ⟨q1, -⟩
        · refine ⟨by rw [q2, s2, e66]; exact t2.symm, fun hB => fin hB ?_ (by rw [r15, s3, q3, e66, t2])⟩
          obtain ⟨P, e, p1, p2⟩ := pAft_wf s1
          refine ⟨⟨(pAft tx n).2.2.1, (pAft tx n).2.2.2.1, P, ⟨⟨p1, p2, by rw [← e]; exact s6⟩, Or.inr ⟨a, a5, by rw [q4, e66]; exact ea2, by rw [← e]; exact q5⟩⟩, ?_, pAft_rg s1⟩, ?_⟩
          · rw [d2, s4, ← e]
            unfold AFC at s5 ⊢
            rw [d1 μ.1.length (by omega) (by omega), d1 (μ.1.length + 1) (by omega) (by omega), d1 (μ.1.length + 2) (by omega) (by omega), d1 (μ.1.length + 3) (by omega) (by omega)]
            exact s5
          · rw [q4, q3, e66, ea2, ofn1 (by omega), oa, ofn (k := a + 1) (by omega)]; omega
        · rw [s1] at q1; cases q1
      · rcases d5 with ⟨q1, -⟩ | ⟨q1, q2, q3, q4⟩
        · rw [s1] at q1; cases q1
        · refine ⟨by rw [q2, s2], fun hB => fin hB ?_ (by rw [r15, s3, q3, e66, t2])⟩
          obtain ⟨⟨w, sw, P, ⟨o1, o2⟩, o3, o4⟩, o5⟩ := v5
          have pl := h.aw.lt
          have p0 := h.aw.1
          refine ⟨⟨w, sw, P, ⟨o1, ?_⟩, ?_, o4⟩, by rw [q4, q3, e66]; exact o5⟩
          · rcases o2 with ⟨b1, b2⟩ | ⟨b, hb, b1, ⟨b2, b3⟩, b4, b5⟩
            · exact Or.inl ⟨by rw [q4, e66]; exact b1, b2⟩
            · have hba : b < a := by rw [b1, ea2, oa, ofn (k := b) (by omega)] at o5; omega
              have hl := o1.2.2
              exact Or.inr ⟨b, hb, by rw [q4, e66]; exact b1, ⟨by rw [r66 (210 + b) (by omega)]; exact b2, by rw [r66 (215 + b) (by omega)]; exact b3⟩, by rw [r66 (220 + b) (by omega)]; exact b4, fun i hi => by rw [r66 (225 + 140 * b + i) (by omega)]; exact b5 i hi⟩
          · rw [d2, s4]
            unfold AFC at o3 ⊢
            rw [row _ (by omega) (by omega) (by omega) (by omega), row _ (by omega) (by omega) (by omega) (by omega), row _ (by omega) (by omega) (by omega) (by omega), row _ (by omega) (by omega) (by omega) (by omega)]
            exact o3
end
end
section
/-! rows told: agreed behind them -/
theorem ad_z {μ : gm_M} {r : Nat} {a b c : Int32} (k : Nat) : (ad μ r a b c).2.1 (r + 1) (3 * k) = if k = (μ.2.1 r 2).toInt.toNat then a else μ.2.1 (r + 1) (3 * k) := by
  unfold ad
  rw [wI_o _ _ _ _ (show r + 1 ≠ r by omega), wI_n _ _ _ _ (by omega), wI_n _ _ _ _ (by omega)]
  by_cases h : k = (μ.2.1 r 2).toInt.toNat
  · rw [if_pos h, h, wI_e]
  · rw [if_neg h, wI_n _ _ _ _ (by omega)]
theorem ad_y {μ : gm_M} {r : Nat} {a b c : Int32} (k : Nat) : (ad μ r a b c).2.1 (r + 1) (3 * k + 1) = if k = (μ.2.1 r 2).toInt.toNat then b else μ.2.1 (r + 1) (3 * k + 1) := by
  unfold ad
  rw [wI_o _ _ _ _ (show r + 1 ≠ r by omega), wI_n _ _ _ _ (by omega)]
  by_cases h : k = (μ.2.1 r 2).toInt.toNat
  · rw [if_pos h, h, wI_e]
  · rw [if_neg h, wI_n _ _ _ _ (by omega), wI_n _ _ _ _ (by omega)]
section
variable {μ : gm_M}
/-- rows of 'now' have changed, and cells of the reference that the rest doesn't look at -/
theorem REL.rws (h : REL μ) {m : gm_M} {q : Nat} (hq : q = 23 ∨ q = 25 ∨ q = 27) (hB : ALL m) (e2 : m.2.2 = μ.2.2) (ro : ∀ r : Nat, r ≠ q → r ≠ q + 1 → r ≠ 66 → m.2.1 r = μ.2.1 r) (ce : ∀ k : Nat, k = 0 ∨ (1 ≤ k ∧ k < 28) ∨ (31 ≤ k ∧ k < 63) ∨ 110 ≤ k → m.2.1 66 k = μ.2.1 66 k) (v : VR 15 m (m.2.1 66)) : REL m := by
  obtain ⟨v1, v2, v3, -, -⟩ := h.vs
  exact h.of hB (fun r hr => ro r (by unfold Qr at hr; omega) (by unfold Qr at hr; omega) (by unfold Qr at hr; omega)) (by rw [ro 1 (by omega) (by omega) (by omega)]) (fun r _ => by rw [e2]) ⟨v1.fr (fun k hk => kC_o (by rw [e2]) (ro _ (by omega) (by omega) (by omega)) (fun j _ => by rw [ro _ (by omega) (by omega) (by omega)])) (fun i hi => ce i (by omega)), by rw [ce 0 (by omega)]; exact v2, v3.fr ⟨by rw [ro 15 (by omega) (by omega) (by omega)], by rw [ro 15 (by omega) (by omega) (by omega)]⟩ (ro 17 (by omega) (by omega) (by omega)) (fun i hi => ce i (by omega)), v, h.va (fun r hr => ro r (by unfold Qr at hr; omega) (by unfold Qr at hr; omega) (by unfold Qr at hr; omega)) (by rw [e2]) (fun i hi => ce i (by omega))⟩
theorem R_clr (h : REL μ) {r s : Nat} (hr : (r = 23 ∧ s = 28) ∨ (r = 25 ∧ s = 29) ∨ (r = 27 ∧ s = 30)) (hB : ALL (wI (wI μ r 2 0) 66 s 0)) : REL (wI (wI μ r 2 0) 66 s 0) := by
  have ro : ∀ q : Nat, q ≠ r → q ≠ 66 → (wI (wI μ r 2 0) 66 s 0).2.1 q = μ.2.1 q := fun q q1 q2 => by rw [wI_o _ _ _ _ q2, wI_o _ _ _ _ q1]
  have ce : ∀ k : Nat, k ≠ s → (wI (wI μ r 2 0) 66 s 0).2.1 66 k = μ.2.1 66 k := fun k hk => by rw [wI_n _ _ _ _ hk, wI_o _ _ _ _ (by omega)]
  have cs : (wI (wI μ r 2 0) 66 s 0).2.1 66 s = 0 := wI_e _ _ _ _
  have l0 : (0 : Int32).toInt = 0 := rfl
  obtain ⟨-, -, -, ⟨w1, w2⟩, -⟩ := h.vs
  refine h.rws (q := r) (by omega) hB rfl (fun q q1 _ q2 => ro q q1 q2) (fun k hk => ce k (by omega)) ⟨fun i h5 hi => ?_, fun i h8 hi => ?_⟩
  · by_cases e : s = 28
    · rw [e] at cs; rw [e] at hi; rw [cs] at hi; omega
    · rw [ce 28 (by omega)] at hi
      rw [ro (15 + 9) (by omega) (by omega), ce (63 + i) (by omega), ce (68 + i) (by omega), ce (73 + i) (by omega), ce 26 (by omega)]
      exact w1 i h5 hi
  · by_cases e : s = 30
    · rw [e] at cs; rw [e] at hi; rw [cs] at hi; omega
    · rw [ce 30 (by omega)] at hi
      rw [ro (15 + 13) (by omega) (by omega), ce (94 + i) (by omega), ce (102 + i) (by omega), ce 26 (by omega)]
      exact w2 i h8 hi
theorem R_see (h : REL μ) {a b c : Int32} {N : Nat} (hN : (μ.2.1 66 28).toInt = N) (n : N < 5) (hc : 0 ≤ c.toInt ∧ c.toInt ≤ 20) (ha : a.toInt < (μ.2.1 66 26).toInt) (hB : ALL (wI (wI (wI (wI (ad μ 23 a b c) 66 (63 + N) a) 66 (68 + N) b) 66 (73 + N) c) 66 28 (μ.2.1 66 28 + 1))) : REL (wI (wI (wI (wI (ad μ 23 a b c) 66 (63 + N) a) 66 (68 + N) b) 66 (73 + N) c) 66 28 (μ.2.1 66 28 + 1)) := by
  have ro : ∀ q : Nat, q ≠ 66 → (wI (wI (wI (wI (ad μ 23 a b c) 66 (63 + N) a) 66 (68 + N) b) 66 (73 + N) c) 66 28 (μ.2.1 66 28 + 1)).2.1 q = (ad μ 23 a b c).2.1 q := fun q q2 => by rw [wI_o _ _ _ _ q2, wI_o _ _ _ _ q2, wI_o _ _ _ _ q2, wI_o _ _ _ _ q2]
  have ce : ∀ k : Nat, k ≠ 28 → k ≠ 63 + N → k ≠ 68 + N → k ≠ 73 + N → (wI (wI (wI (wI (ad μ 23 a b c) 66 (63 + N) a) 66 (68 + N) b) 66 (73 + N) c) 66 28 (μ.2.1 66 28 + 1)).2.1 66 k = μ.2.1 66 k := fun k k1 k2 k3 k4 => by rw [wI_n _ _ _ _ k1, wI_n _ _ _ _ k4, wI_n _ _ _ _ k3, wI_n _ _ _ _ k2, ad_o (by omega) (by omega)]
  have c28 : (wI (wI (wI (wI (ad μ 23 a b c) 66 (63 + N) a) 66 (68 + N) b) 66 (73 + N) c) 66 28 (μ.2.1 66 28 + 1)).2.1 66 28 = μ.2.1 66 28 + 1 := wI_e _ _ _ _
  have ca : (wI (wI (wI (wI (ad μ 23 a b c) 66 (63 + N) a) 66 (68 + N) b) 66 (73 + N) c) 66 28 (μ.2.1 66 28 + 1)).2.1 66 (63 + N) = a := by rw [wI_n _ _ _ _ (by omega), wI_n _ _ _ _ (by omega), wI_n _ _ _ _ (by omega), wI_e]
  have cb : (wI (wI (wI (wI (ad μ 23 a b c) 66 (63 + N) a) 66 (68 + N) b) 66 (73 + N) c) 66 28 (μ.2.1 66 28 + 1)).2.1 66 (68 + N) = b := by rw [wI_n _ _ _ _ (by omega), wI_n _ _ _ _ (by omega), wI_e]
  have cc : (wI (wI (wI (wI (ad μ 23 a b c) 66 (63 + N) a) 66 (68 + N) b) 66 (73 + N) c) 66 28 (μ.2.1 66 28 + 1)).2.1 66 (73 + N) = c := by rw [wI_n _ _ _ _ (by omega), wI_e]
  have e2 : (wI (wI (wI (wI (ad μ 23 a b c) 66 (63 + N) a) 66 (68 + N) b) 66 (73 + N) c) 66 28 (μ.2.1 66 28 + 1)).2.2 = μ.2.2 := rfl
  generalize wI (wI (wI (wI (ad μ 23 a b c) 66 (63 + N) a) 66 (68 + N) b) 66 (73 + N) c) 66 28 (μ.2.1 66 28 + 1) = m at *
  have l1 : (1 : Int32).toInt = 1 := rfl
  have np : (μ.2.1 66 28 + 1).toInt = (μ.2.1 66 28).toInt + (1 : Int32).toInt := gx_add (by omega) (by omega)
  have hn : (μ.2.1 23 2).toInt.toNat = N := by have := h.1.n28; omega
  obtain ⟨-, -, -, ⟨w1, w2⟩, -⟩ := h.vs
  refine h.rws (q := 23) (by omega) hB e2 (fun q q1 q2 q3 => (ro q q3).trans (ad_o q1 q2)) (fun k hk => ce k (by omega) (by omega) (by omega) (by omega)) ⟨fun i h5 hi => ?_, fun i h8 hi => ?_⟩
  · rw [c28] at hi
    rw [ro (15 + 9) (by omega)]
    show (ad μ 23 a b c).2.1 (23 + 1) (3 * i) = _ ∧ (ad μ 23 a b c).2.1 (23 + 1) (3 * i + 1) = _ ∧ (ad μ 23 a b c).2.1 (23 + 1) (3 * i + 2) = _ ∧ _
    rw [ad_z, ad_y, ad_2, hn]
    by_cases e : i = N
    · rw [if_pos e, if_pos e, if_pos e, e, ca, cb, cc, ce 26 (by omega) (by omega) (by omega) (by omega)]; exact ⟨rfl, rfl, rfl, hc, ha⟩
    · rw [if_neg e, if_neg e, if_neg e, ce (63 + i) (by omega) (by omega) (by omega) (by omega), ce (68 + i) (by omega) (by omega) (by omega) (by omega), ce (73 + i) (by omega) (by omega) (by omega) (by omega), ce 26 (by omega) (by omega) (by omega) (by omega)]
      exact w1 i h5 (by omega)
  · rw [ce 30 (by omega) (by omega) (by omega) (by omega)] at hi
    rw [ro (15 + 13) (by omega), ad_o (by omega) (by omega), ce (94 + i) (by omega) (by omega) (by omega) (by omega), ce (102 + i) (by omega) (by omega) (by omega) (by omega), ce 26 (by omega) (by omega) (by omega) (by omega)]
    exact w2 i h8 hi
theorem R_plan (h : REL μ) {a b c : Int32} {N : Nat} (n : N < 8) (hB : ALL (wI (wI (wI (ad μ 25 a b c) 66 (78 + N) a) 66 (86 + N) b) 66 29 (μ.2.1 66 29 + 1))) : REL (wI (wI (wI (ad μ 25 a b c) 66 (78 + N) a) 66 (86 + N) b) 66 29 (μ.2.1 66 29 + 1)) := by
  have ro : ∀ q : Nat, q ≠ 66 → (wI (wI (wI (ad μ 25 a b c) 66 (78 + N) a) 66 (86 + N) b) 66 29 (μ.2.1 66 29 + 1)).2.1 q = (ad μ 25 a b c).2.1 q := fun q q2 => by rw [wI_o _ _ _ _ q2, wI_o _ _ _ _ q2, wI_o _ _ _ _ q2]
  have ce : ∀ k : Nat, k ≠ 29 → k ≠ 78 + N → k ≠ 86 + N → (wI (wI (wI (ad μ 25 a b c) 66 (78 + N) a) 66 (86 + N) b) 66 29 (μ.2.1 66 29 + 1)).2.1 66 k = μ.2.1 66 k := fun k k1 k2 k3 => by rw [wI_n _ _ _ _ k1, wI_n _ _ _ _ k3, wI_n _ _ _ _ k2, ad_o (by omega) (by omega)]
  obtain ⟨-, -, -, w, -⟩ := h.vs
  exact h.rws (q := 25) (by omega) hB rfl (fun q q1 q2 q3 => (ro q q3).trans (ad_o q1 q2)) (fun k hk => ce k (by omega) (by omega) (by omega)) (w.fr ((ro _ (by omega)).trans (ad_o (by omega) (by omega))) ((ro _ (by omega)).trans (ad_o (by omega) (by omega))) (fun k hk => ce k (by omega) (by omega) (by omega)) (by rw [ce 26 (by omega) (by omega) (by omega)]; exact Int.le_refl _))
theorem R_book (h : REL μ) {a b c : Int32} {N : Nat} (hN : (μ.2.1 66 30).toInt = N) (n : N < 8) (ha : a.toInt < (μ.2.1 66 26).toInt) (hB : ALL (wI (wI (wI (ad μ 27 a b c) 66 (94 + N) a) 66 (102 + N) b) 66 30 (μ.2.1 66 30 + 1))) : REL (wI (wI (wI (ad μ 27 a b c) 66 (94 + N) a) 66 (102 + N) b) 66 30 (μ.2.1 66 30 + 1)) := by
  have ro : ∀ q : Nat, q ≠ 66 → (wI (wI (wI (ad μ 27 a b c) 66 (94 + N) a) 66 (102 + N) b) 66 30 (μ.2.1 66 30 + 1)).2.1 q = (ad μ 27 a b c).2.1 q := fun q q2 => by rw [wI_o _ _ _ _ q2, wI_o _ _ _ _ q2, wI_o _ _ _ _ q2]
  have ce : ∀ k : Nat, k ≠ 30 → k ≠ 94 + N → k ≠ 102 + N → (wI (wI (wI (ad μ 27 a b c) 66 (94 + N) a) 66 (102 + N) b) 66 30 (μ.2.1 66 30 + 1)).2.1 66 k = μ.2.1 66 k := fun k k1 k2 k3 => by rw [wI_n _ _ _ _ k1, wI_n _ _ _ _ k3, wI_n _ _ _ _ k2, ad_o (by omega) (by omega)]
  have c30 : (wI (wI (wI (ad μ 27 a b c) 66 (94 + N) a) 66 (102 + N) b) 66 30 (μ.2.1 66 30 + 1)).2.1 66 30 = μ.2.1 66 30 + 1 := wI_e _ _ _ _
  have ca : (wI (wI (wI (ad μ 27 a b c) 66 (94 + N) a) 66 (102 + N) b) 66 30 (μ.2.1 66 30 + 1)).2.1 66 (94 + N) = a := by rw [wI_n _ _ _ _ (by omega), wI_n _ _ _ _ (by omega), wI_e]
  have cb : (wI (wI (wI (ad μ 27 a b c) 66 (94 + N) a) 66 (102 + N) b) 66 30 (μ.2.1 66 30 + 1)).2.1 66 (102 + N) = b := by rw [wI_n _ _ _ _ (by omega), wI_e]
  have e2 : (wI (wI (wI (ad μ 27 a b c) 66 (94 + N) a) 66 (102 + N) b) 66 30 (μ.2.1 66 30 + 1)).2.2 = μ.2.2 := rfl
  generalize wI (wI (wI (ad μ 27 a b c) 66 (94 + N) a) 66 (102 + N) b) 66 30 (μ.2.1 66 30 + 1) = m at *
  have l1 : (1 : Int32).toInt = 1 := rfl
  have np : (μ.2.1 66 30 + 1).toInt = (μ.2.1 66 30).toInt + (1 : Int32).toInt := gx_add (by omega) (by omega)
  have hn : (μ.2.1 27 2).toInt.toNat = N := by have := h.1.n30; omega
  obtain ⟨-, -, -, ⟨w1, w2⟩, -⟩ := h.vs
  refine h.rws (q := 27) (by omega) hB e2 (fun q q1 q2 q3 => (ro q q3).trans (ad_o q1 q2)) (fun k hk => ce k (by omega) (by omega) (by omega)) ⟨fun i h5 hi => ?_, fun i h8 hi => ?_⟩
  · rw [ce 28 (by omega) (by omega) (by omega)] at hi
    rw [ro (15 + 9) (by omega), ad_o (by omega) (by omega), ce (63 + i) (by omega) (by omega) (by omega), ce (68 + i) (by omega) (by omega) (by omega), ce (73 + i) (by omega) (by omega) (by omega), ce 26 (by omega) (by omega) (by omega)]
    exact w1 i h5 hi
  · rw [c30] at hi
    rw [ro (15 + 13) (by omega)]
    show (ad μ 27 a b c).2.1 (27 + 1) (3 * i) = _ ∧ (ad μ 27 a b c).2.1 (27 + 1) (3 * i + 1) = _ ∧ _
    rw [ad_z, ad_y, hn]
    by_cases e : i = N
    · rw [if_pos e, if_pos e, e, ca, cb, ce 26 (by omega) (by omega) (by omega)]; exact ⟨rfl, rfl, ha⟩
    · rw [if_neg e, if_neg e, ce (94 + i) (by omega) (by omega) (by omega), ce (102 + i) (by omega) (by omega) (by omega), ce 26 (by omega) (by omega) (by omega)]
      exact w2 i h8 (by omega)
/-! rows of words run -/
theorem R_act (h : REL μ) {l : List Int32} {m1 m2 : gm_M} (t : tk μ l m1) (f : ft m1 l m2) (hB : ALL m2) : REL m2 := by
  have ro : ∀ r : Nat, r ≠ 3 → r ≠ 4 → r ≠ 65 → r ≠ 74 → m2.2.1 r = μ.2.1 r := fun r r1 r2 r3 r4 => (f.1.2.2.1 r r3 r4).trans (t.1.2.2.1 r r1 r2)
  have e2 : m2.2.2 = μ.2.2 := f.1.2.1.trans t.1.2.1
  exact h.of hB (fun r hr => ro r (by unfold Qr at hr; omega) (by unfold Qr at hr; omega) (by unfold Qr at hr; omega) (by unfold Qr at hr; omega)) (by rw [ro 1 (by omega) (by omega) (by omega) (by omega)]) (fun r _ => by rw [e2]) (by
    have p0 := h.aw.1
    rw [ro 66 (by omega) (by omega) (by omega) (by omega)]
    exact h.vs.fr (Or.inl ⟨rfl, rfl⟩) h.aw (fun r hr => ro r (by omega) (by omega) (by omega) (by omega)) (fun r _ => by rw [e2]) rfl)
theorem PR.of {z : Option (Option Value × gm_M)} {g : gm_M → Option (Option Value × gm_M)} (h1 : PI z g) (h2 : QR z g) : PR z g := by
  refine gwI_mono (gwI_and h1 h2) (fun x m ⟨⟨a, b⟩, ⟨_, c⟩⟩ => ⟨a, ?_⟩)
  exact gwI_mono (gwI_and b c) (fun y m2 ⟨d, e⟩ => ⟨d.1, e⟩)
theorem PR.v {z : Option (Option Value × gm_M)} {g : gm_M → Option (Option Value × gm_M)} (h : REL μ) (v : Int32) (h1 : gwI z (fun x m => kc μ m ∧ x = v)) (h2 : ∀ m, REL m → kc μ m → gwI (g m) (fun y m2 => qm m m2 ∧ y = v)) : PR z g := PR.kq (V := fun x => x = v) h h1 (fun m hm hk => gwI_mono (h2 m hm hk) (fun y m2 ⟨a, b⟩ => ⟨a, fun x ex => b.trans ex.symm⟩))
theorem PR.u {z : Option (Option Value × gm_M)} {g : gm_M → Option (Option Value × gm_M)} (h : REL μ) (v : Int32) (h1 : gwI z (fun x m => m = μ ∧ x = v)) (h2 : gwI (g μ) (fun y m2 => qm μ m2 ∧ y = v)) : PR z g := by
  refine gwI_mono h1 (fun x m ⟨e, ex⟩ => ?_)
  subst e
  exact ⟨h.1.t65, gwI_mono h2 (fun y m2 ⟨a, b⟩ => ⟨b.trans ex.symm, h.qm a⟩)⟩
/-- a leaf: the class has answered v -/
theorem leaf {g : gm_M → Option (Option Value × gm_M)} {m : gm_M} (h : REL m) {v : Int32} (h2 : gwI (g m) (fun y m2 => qm m m2 ∧ y = v)) : gw (some (some (.int v), m)) (gqI (fun x m => gm_tag m 65 = 17 ∧ gwI (g m) (fun y m2 => y = x ∧ REL m2))) :=
  gw_some (gq_I ⟨h.1.t65, gwI_mono h2 (fun y m2 ⟨a, b⟩ => ⟨b, h.qm a⟩)⟩)
theorem N_as (h : REL μ) {a b : Int32} : PR (f_X11_as 1 a b μ) (f_X12_as 65 a b) := PR.of (L_as h.1) (QR.kq h (s_X11_as h.ci) (fun _ k => s_X12_as k))
end
end
