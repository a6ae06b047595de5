/-! clauses: wind, sweet, the steps; a change is a step -10 or less -/
def cds (L : List Int32) : List Int32 := (L.filter (fun s => decide (-10 < s.toInt))).map cv
def amt (s : Int32) : Int32 := if -200 < s.toInt then -10 - s else s + 200
def chs : List Int32 → Nat → List (Int32 × Nat)
  | [], _ => []
  | s :: L, k => if -10 < s.toInt then chs L (k + 1) else (amt s, k) :: chs L k
theorem cds_app (L T : List Int32) : cds (L ++ T) = cds L ++ cds T := by unfold cds; rw [List.filter_append, List.map_append]
theorem cds_len (L : List Int32) : (cds L).length ≤ L.length := by unfold cds; rw [List.length_map]; exact List.length_filter_le _ _
theorem cds_all {T : List Int32} (h : ∀ s ∈ T, -10 < s.toInt) : cds T = T.map cv := by
  unfold cds; rw [List.filter_eq_self.mpr (fun s hs => decide_eq_true (h s hs))]
theorem chs_app : ∀ (L T : List Int32) (k : Nat), chs (L ++ T) k = chs L k ++ chs T (k + (cds L).length)
  | [], T, k => rfl
  | s :: L, T, k => by
    show chs (s :: (L ++ T)) k = chs (s :: L) k ++ chs T (k + (cds (s :: L)).length)
    rw [show chs (s :: (L ++ T)) k = if -10 < s.toInt then chs (L ++ T) (k + 1) else (amt s, k) :: chs (L ++ T) k from rfl, show chs (s :: L) k = if -10 < s.toInt then chs L (k + 1) else (amt s, k) :: chs L k from rfl]
    by_cases h : -10 < s.toInt
    · have e : (cds (s :: L)).length = (cds L).length + 1 := by
        unfold cds; rw [List.filter_cons_of_pos (by exact decide_eq_true h)]; rfl
      rw [if_pos h, if_pos h, chs_app L T (k + 1), e, show k + ((cds L).length + 1) = k + 1 + (cds L).length by omega]
    · have e : (cds (s :: L)).length = (cds L).length := by
        unfold cds; rw [List.filter_cons_of_neg (by rw [decide_eq_true_eq]; exact h)]
      rw [if_neg h, if_neg h, chs_app L T k, e]
      rfl
theorem chs_all : ∀ {T : List Int32} (_ : ∀ s ∈ T, -10 < s.toInt) (k : Nat), chs T k = []
  | [], _, _ => rfl
  | s :: T, h, k => by
    unfold chs
    rw [if_pos (h s List.mem_cons_self)]
    exact chs_all (fun q hq => h q (List.mem_cons_of_mem _ hq)) (k + 1)
theorem amt_k {x : Int32} (h : 0 ≤ x.toInt ∧ x.toInt ≤ 99) : (amt (-10 - x) = x ∧ (-10 - x).toInt ≤ -10) ∧ (amt (-200 - x) = -x ∧ (-200 - x).toInt ≤ -10) := by
  have k : ∀ k : Fin 100, (amt (-10 - Int32.ofNat k.val) = Int32.ofNat k.val ∧ (-10 - Int32.ofNat k.val).toInt ≤ -10) ∧ (amt (-200 - Int32.ofNat k.val) = -Int32.ofNat k.val ∧ (-200 - Int32.ofNat k.val).toInt ≤ -10) := by decide +kernel
  have := k ⟨x.toInt.toNat, by omega⟩
  rw [show Int32.ofNat (⟨x.toInt.toNat, by omega⟩ : Fin 100).val = x from gx_of h.1] at this
  exact this
/-! steps of E are no changes -/
def tkn (T : List Int32) : Prop := ∀ s ∈ T, -10 < s.toInt
theorem tk_app {S T : List Int32} (h : tkn S) (g : tkn T) : tkn (S ++ T) := fun s hs => (List.mem_append.mp hs).elim (h s) (g s)
theorem tk_one {s : Int32} (h : -10 < s.toInt) : tkn [s] := fun q hq => by rw [List.mem_singleton.mp hq]; exact h
theorem tk_nil : tkn [] := fun _ h => absurd h List.not_mem_nil
theorem pC_tk : ∀ (w : Bool) (S : List (Bool × List Int32)), (∀ q ∈ S, tkn q.2) → tkn (pC w S)
  | true, [], _ => tk_one (by decide)
  | false, [], _ => tk_nil
  | w, (true, L) :: S, h => by
    show tkn ((if w = true then [-3] else []) ++ (L ++ pC true S))
    refine tk_app ?_ (tk_app (h (true, L) List.mem_cons_self) (pC_tk true S (fun q hq => h q (List.mem_cons_of_mem _ hq))))
    cases w
    · exact tk_nil
    · exact tk_one (by decide)
  | w, (false, L) :: S, h => by
    show tkn (L ++ ((-2 : Int32) :: pC w S))
    exact tk_app (h (false, L) List.mem_cons_self) (tk_app (S := [-2]) (tk_one (by decide)) (pC_tk w S (fun q hq => h q (List.mem_cons_of_mem _ hq))))
theorem pS_tk {tx : Nat → Int32} {n : Nat} {F : Nat → pA} (hF : ∀ p, tkn (F p).2.2) : ∀ (fu p : Nat), ∀ q ∈ (pS tx n F fu p).2.2, tkn q.2
  | 0, p => fun q hq => absurd hq List.not_mem_nil
  | fu + 1, p => by
    unfold pS
    split
    · split
      · intro q hq
        rcases List.mem_cons.mp hq with h | h
        · rw [h]; exact hF _
        · exact pS_tk hF fu _ q h
      · exact fun q hq => absurd hq List.not_mem_nil
    · exact fun q hq => absurd hq List.not_mem_nil
theorem pE_tk {tx : Nat → Int32} {n : Nat} {F : Nat → pA} (hF : ∀ p, tkn (F p).2.2) (p : Nat) : tkn (pE tx n F p).2.2 := by
  unfold pE
  split
  · exact tk_app (hF p) (pC_tk false _ (pS_tk hF _ _))
  · exact tk_nil
theorem pT_tk {tx : Nat → Int32} {n p : Nat} (h : p ≤ n) : tkn (pT tx n p).2.2 := by
  unfold pT
  split
  · exact tk_nil
  · rename_i h1
    split
    · exact tk_nil
    · rename_i h2
      split
      · rename_i h3
        have a := pO_b5 h1
        have b := pO_b6 h2
        have a1 := pd_lt a.2.2
        have b1 := pd_lt b.2.2
        have c := (pN_g (tx := tx) (n := n) (p := p + 2) (by omega)).2.2 h3
        have n1 : ((8 : Int32) * pO 6 (pd tx n (p + 1))).toInt = 8 * (pO 6 (pd tx n (p + 1))).toInt := gx_mul 8 rfl (by omega) (by omega)
        have n2 : ((32 : Int32) * (pN tx n (p + 2)).2.2).toInt = 32 * (pN tx n (p + 2)).2.2.toInt := gx_mul 32 rfl (by omega) (by omega)
        have n3 : (pO 5 (pd tx n p) + (8 : Int32) * pO 6 (pd tx n (p + 1))).toInt = (pO 5 (pd tx n p)).toInt + ((8 : Int32) * pO 6 (pd tx n (p + 1))).toInt := gx_add (by omega) (by omega)
        have n4 : ((pO 5 (pd tx n p) + (8 : Int32) * pO 6 (pd tx n (p + 1))) + (32 : Int32) * (pN tx n (p + 2)).2.2).toInt = (pO 5 (pd tx n p) + (8 : Int32) * pO 6 (pd tx n (p + 1))).toInt + ((32 : Int32) * (pN tx n (p + 2)).2.2).toInt := gx_add (by omega) (by omega)
        exact tk_one (by omega)
      · exact tk_nil
theorem pT_over {tx : Nat → Int32} {n p : Nat} (h : n < p) : pT tx n p = (false, p, []) := by
  unfold pT
  rw [if_pos]
  have : pd tx n p = -1 := by unfold pd; rw [if_neg (by omega)]
  rw [this]; decide
theorem pF_tk {tx : Nat → Int32} {n : Nat} : ∀ (d p : Nat), tkn (pF tx n d p).2.2
  | 0, p => by
    rw [pF]
    show tkn (if pd tx n p = 33 ∨ pd tx n p = 40 then (false, p, []) else pT tx n p).2.2
    split
    · exact tk_nil
    · by_cases h : p ≤ n
      · exact pT_tk h
      · rw [pT_over (by omega)]; exact tk_nil
  | d + 1, p => by
    rw [pF]
    have hE : tkn (pE tx n (pF tx n d) (p + 1)).2.2 := pE_tk (fun p => pF_tk d p) (p + 1)
    have hF : tkn (pF tx n d (p + 1)).2.2 := pF_tk d (p + 1)
    show tkn (if pd tx n p = 40 then (if (pE tx n (pF tx n d) (p + 1)).1 = true then (if pd tx n (pE tx n (pF tx n d) (p + 1)).2.1 = 41 then (true, (pE tx n (pF tx n d) (p + 1)).2.1 + 1, (pE tx n (pF tx n d) (p + 1)).2.2) else (false, (pE tx n (pF tx n d) (p + 1)).2.1, [])) else (false, (pE tx n (pF tx n d) (p + 1)).2.1, [])) else if pd tx n p = 33 then (if (pF tx n d (p + 1)).1 = true then (true, (pF tx n d (p + 1)).2.1, (pF tx n d (p + 1)).2.2 ++ [-1]) else (false, (pF tx n d (p + 1)).2.1, [])) else pT tx n p : pA).2.2
    generalize pE tx n (pF tx n d) (p + 1) = e at *
    generalize pF tx n d (p + 1) = f at *
    split
    · split
      · split
        · exact hE
        · exact tk_nil
      · exact tk_nil
    · split
      · split
        · exact tk_app hF (tk_one (by decide))
        · exact tk_nil
      · by_cases h : p ≤ n
        · exact pT_tk h
        · rw [pT_over (by omega)]; exact tk_nil
abbrev pB : Type := Bool × Nat × Int32 × Int32 × List Int32
/-- a change: the word u from p on, a blank, an E; kd less the number is its step -/
def pM (tx : Nat → Int32) (n : Nat) (u : UInt32) (kd : Int32) (p : Nat) (w sw : Int32) (L : List Int32) : pB :=
  if (pWN tx n u p).1 = true then
    if pd tx n (pWN tx n u p).2.1 = 32 then
      ((pE tx n (pF tx n 5) ((pWN tx n u p).2.1 + 1)).1, (pE tx n (pF tx n 5) ((pWN tx n u p).2.1 + 1)).2.1, w, sw, (L ++ (pE tx n (pF tx n 5) ((pWN tx n u p).2.1 + 1)).2.2) ++ [kd - (pWN tx n u p).2.2])
    else (false, (pWN tx n u p).2.1, w, sw, L)
  else (false, (pWN tx n u p).2.1, w, sw, L)
def pK (tx : Nat → Int32) (n p : Nat) (w sw : Int32) (L : List Int32) : pB :=
  if pd tx n p = 119 then ((pWN tx n 1 p).1, (pWN tx n 1 p).2.1, (pWN tx n 1 p).2.2, sw, L)
  else if pd tx n p = 115 then
    if pd tx n (p + 1) = 119 then ((pWN tx n 2 (p + 1)).1, (pWN tx n 2 (p + 1)).2.1, w, (pWN tx n 2 (p + 1)).2.2, L)
    else if pd tx n (p + 1) = 116 then
      if pd tx n (p + 2) = 114 then pM tx n 3 (-10) (p + 2) w sw L else pM tx n 4 (-200) (p + 2) w sw L
    else (false, p + 1, w, sw, L)
  else (false, p, w, sw, L)
/-- behind a clause: k more may come -/
def pR (tx : Nat → Int32) (n : Nat) : Nat → pB → pB
  | 0, r => if n ≤ r.2.1 then r else (false, r.2)
  | k + 1, r => if n ≤ r.2.1 then r else if pd tx n r.2.1 = 59 then
      (if (pK tx n (r.2.1 + 1) r.2.2.1 r.2.2.2.1 r.2.2.2.2).1 = true then pR tx n k (pK tx n (r.2.1 + 1) r.2.2.1 r.2.2.2.1 r.2.2.2.2) else pK tx n (r.2.1 + 1) r.2.2.1 r.2.2.2.1 r.2.2.2.2)
    else (false, r.2)
def pAft (tx : Nat → Int32) (n : Nat) : pB := if (pK tx n 0 0 20 []).1 = true then pR tx n 9 (pK tx n 0 0 20 []) else pK tx n 0 0 20 []
def dst (A n : Nat) (μ : gm_M) (p : Nat) (w sw : Int32) (L : List Int32) (m : gm_M) : Prop := (m.1 = μ.1 ∧ m.2.2 = μ.2.2 ∧ (∀ r : Nat, r ≠ A → r ≠ A + 1 → r ≠ A + 2 → r ≠ A + 3 → m.2.1 r = μ.2.1 r) ∧ m.2.1 A 8 = μ.2.1 A 8) ∧ (p ≤ n ∧ L.length ≤ p) ∧ (m.2.1 A 0 = w ∧ m.2.1 A 1 = sw ∧ m.2.1 A 9 = Int32.ofNat p) ∧ (m.2.1 A 6 = Int32.ofNat (cds L).length ∧ ∀ i : Nat, i < (cds L).length → (cds L)[i]? = some (m.2.1 (A + 3) i)) ∧ m.2.1 A 2 = Int32.ofNat (chs L 0).length ∧ ∀ (i : Nat) (q : Int32 × Nat), (chs L 0)[i]? = some q → m.2.1 (A + 1) i = q.1 ∧ m.2.1 (A + 2) i = Int32.ofNat q.2
section
variable {A n p : Nat} {tx : Nat → Int32} {μ m : gm_M} {w sw : Int32} {L : List Int32}
theorem dst.b (b : BS A n tx μ) (d : dst A n μ p w sw L m) : BS A n tx m := by
  obtain ⟨b1, b2, b3, b4, b5, b6, b7, b8⟩ := b
  obtain ⟨⟨d1, d2, d3, d4⟩, -⟩ := d
  exact ⟨b1.same d1 d2, b2, by rw [d1]; exact b3, by rw [d2]; exact b4, b5, by rw [d4]; exact b6, by rw [d3 17 (by omega) (by omega) (by omega) (by omega)]; exact b7, b8⟩
theorem dst.c (b : BS A n tx μ) (d : dst A n μ p w sw L m) : cst A n m p (cds L) m := by
  have := cds_len L
  have hn := b.2.2.2.2.1
  obtain ⟨-, d1, d2, d3, -⟩ := d
  exact cst.refl d1.1 d2.2.2 (by omega) d3.1 d3.2
theorem dst.on (d : dst A n μ p w sw L m) {q : Nat} {T : List Int32} {m' : gm_M} (hT : tkn T) (c : cst A n m q (cds L ++ T.map cv) m') (hq : (L ++ T).length ≤ q) : dst A n μ q w sw (L ++ T) m' := by
  obtain ⟨⟨d1, d2, d3, d4⟩, d5, ⟨d6, d7, -⟩, -, d8, d9⟩ := d
  obtain ⟨⟨c1, c2, c3, c4⟩, c5, c6, c7, c8, c9⟩ := c
  have e : cds (L ++ T) = cds L ++ T.map cv := by rw [cds_app, cds_all hT]
  have e2 : chs (L ++ T) 0 = chs L 0 := by rw [chs_app, chs_all hT, List.append_nil]
  refine ⟨⟨c1.trans d1, c2.trans d2, fun r r1 r2 r3 r4 => (c3 r r1 r4).trans (d3 r r1 r2 r3 r4), (c4 8 (by decide) (by decide)).trans d4⟩, ⟨c5, hq⟩, ⟨(c4 0 (by decide) (by decide)).trans d6, (c4 1 (by decide) (by decide)).trans d7, c6⟩, by rw [e]; exact ⟨c8, c9⟩, by rw [e2, c4 2 (by decide) (by decide)]; exact d8, by rw [e2]; exact fun i q hi => by rw [c3 (A + 1) (by omega) (by omega), c3 (A + 2) (by omega) (by omega)]; exact d9 i q hi⟩
theorem dst.e2 (d : dst A n μ p w sw L m) : m.2.1 A 2 = Int32.ofNat (chs L 0).length := d.2.2.2.2.1
theorem dst.e6 (d : dst A n μ p w sw L m) : m.2.1 A 6 = Int32.ofNat (cds L).length := d.2.2.2.1.1
theorem dst.e9 (d : dst A n μ p w sw L m) : m.2.1 A 9 = Int32.ofNat p := d.2.2.1.2.2
theorem v_change (b : BS A n tx μ) (d : dst A n μ p w sw L m) (hc : (chs L 0).length < 10) {s : Int32} (hs : s.toInt ≤ -10) (hL : L.length + 1 ≤ p) : gwV (f_X0_addChange A (amt s) m) (fun m' => dst A n μ p w sw (L ++ [s]) m' ∧ (chs (L ++ [s]) 0).length = (chs L 0).length + 1) := by
  have bm := d.b b
  have hS : gS m := bm.1
  have t : [5].contains (gm_tag m A) = true := by unfold gm_tag; rw [bm.2.2.1.1]; rfl
  have t1 : gm_tag m (A + 1) = 1 := by unfold gm_tag; rw [bm.2.2.1.2.1]
  have l1 : gm_len m (A + 1) = 10 := by unfold gm_len; rw [bm.2.2.1.2.1]
  have t2 : gm_tag m (A + 2) = 1 := by unfold gm_tag; rw [bm.2.2.1.2.2.1]
  have l2 : gm_len m (A + 2) = 10 := by unfold gm_len; rw [bm.2.2.1.2.2.1]
  have l10 : (10 : Int32).toInt = 10 := rfl
  have ok := ofn (k := (chs L 0).length) (by omega)
  have e2 := d.e2
  have e6 := d.e6
  have ec : cds (L ++ [s]) = cds L := by
    rw [cds_app]
    show cds L ++ ([s].filter _).map cv = _
    rw [List.filter_cons_of_neg (by rw [decide_eq_true_eq]; omega)]; exact List.append_nil _
  have eh : chs (L ++ [s]) 0 = chs L 0 ++ [(amt s, (cds L).length)] := by
    rw [chs_app, Nat.zero_add]
    show _ ++ (if -10 < s.toInt then _ else _) = _
    rw [if_neg (by omega)]; rfl
  refine gwV_of ?_
  unfold f_X0_addChange
  refine gw_gIw t ?_
  rw [e2]
  refine gw_lt (fun _ => ?_) (fun g => by omega)
  refine gw_gRa (A + 1) t bm.2.2.2.1.1 ?_
  refine gw_gIw t ?_
  rw [e2]
  refine gw_sIw (chs L 0).length t1 l1 ok hc ?_
  refine gw_gRa (A + 2) t bm.2.2.2.1.2.1 ?_
  refine gw_gIw t ?_
  refine gw_gIw t ?_
  rw [wI_o _ _ _ _ (show A ≠ A + 1 by omega), e2, e6]
  refine gw_sIw (chs L 0).length t2 l2 ok hc ?_
  refine gw_gIw t ?_
  refine gw_pIw t ?_
  rw [wI_o _ _ _ _ (show A ≠ A + 2 by omega), wI_o _ _ _ _ (show A ≠ A + 1 by omega), e2, ofn1 (by omega)]
  obtain ⟨⟨d1, d2, d3, d4⟩, d5, ⟨d6, d7, d8⟩, ⟨d9, d10⟩, d11, d12⟩ := d
  generalize hM : wI (wI (wI m (A + 1) (chs L 0).length (amt s)) (A + 2) (chs L 0).length (Int32.ofNat (cds L).length)) A 2 (Int32.ofNat ((chs L 0).length + 1)) = M
  have M1 : M.1 = m.1 := by rw [← hM]; rfl
  have M2 : M.2.2 = m.2.2 := by rw [← hM]; rfl
  have Mo : ∀ r : Nat, r ≠ A → r ≠ A + 1 → r ≠ A + 2 → M.2.1 r = m.2.1 r := fun r r1 r2 r3 => by rw [← hM, wI_o _ _ _ _ r1, wI_o _ _ _ _ r3, wI_o _ _ _ _ r2]
  have MA : ∀ j : Nat, j ≠ 2 → M.2.1 A j = m.2.1 A j := fun j hj => by rw [← hM, wI_n _ _ _ _ hj, wI_o _ _ _ _ (by omega), wI_o _ _ _ _ (by omega)]
  have MA2 : M.2.1 A 2 = Int32.ofNat ((chs L 0).length + 1) := by rw [← hM, wI_e]
  have M1e : M.2.1 (A + 1) (chs L 0).length = amt s := by rw [← hM, wI_o _ _ _ _ (by omega), wI_o _ _ _ _ (by omega), wI_e]
  have M1n : ∀ j : Nat, j ≠ (chs L 0).length → M.2.1 (A + 1) j = m.2.1 (A + 1) j := fun j hj => by rw [← hM, wI_o _ _ _ _ (by omega), wI_o _ _ _ _ (by omega), wI_n _ _ _ _ hj]
  have M2e : M.2.1 (A + 2) (chs L 0).length = Int32.ofNat (cds L).length := by rw [← hM, wI_o _ _ _ _ (by omega), wI_e]
  have M2n : ∀ j : Nat, j ≠ (chs L 0).length → M.2.1 (A + 2) j = m.2.1 (A + 2) j := fun j hj => by rw [← hM, wI_o _ _ _ _ (by omega), wI_n _ _ _ _ hj, wI_o _ _ _ _ (by omega)]
  clear hM
  have len : (chs (L ++ [s]) 0).length = (chs L 0).length + 1 := by rw [eh, List.length_append, List.length_singleton]
  refine gw_some (gq_V ⟨⟨⟨M1.trans d1, M2.trans d2, fun r r1 r2 r3 r4 => (Mo r r1 r2 r3).trans (d3 r r1 r2 r3 r4), (MA 8 (by decide)).trans d4⟩, ⟨d5.1, by rw [List.length_append, List.length_singleton]; exact hL⟩, ⟨(MA 0 (by decide)).trans d6, (MA 1 (by decide)).trans d7, (MA 9 (by decide)).trans d8⟩, ?_, by rw [MA2, len], fun i q hi => ?_⟩, len⟩)
  · rw [ec, MA 6 (by decide), Mo (A + 3) (by omega) (by omega) (by omega)]; exact ⟨d9, d10⟩
  · rw [eh] at hi
    by_cases e : i = (chs L 0).length
    · subst e
      rw [List.getElem?_append_right (Nat.le_refl _), Nat.sub_self] at hi
      injection hi with hi
      subst hi
      exact ⟨M1e, M2e⟩
    · have hl : i < (chs L 0).length := by
        have := (List.getElem?_eq_some_iff.mp hi).1
        rw [List.length_append, List.length_singleton] at this
        omega
      rw [List.getElem?_append_left hl] at hi
      rw [M1n i e, M2n i e]
      exact d12 i q hi
end
