/-! the reference: a row of truths in an array, the newest last -/
def kR (σ : Nat → Int32) (c j : Nat) : Int32 := if j = 0 then Int32.ofNat c else if j = 1 then σ (33 + c) else if j = 2 then σ (38 + c) else if j < 8 then σ (5 * j - 14 + c) else if j < 12 then σ (43 + 4 * c + (j - 8)) else 0
/-- what holds: w wind, sw how sweet, P the changes -/
def HR (σ : Nat → Int32) (w sw : Int32) (P : List (List Int32 × Int32)) : Prop := (okP P ∧ P.length ≤ 10 ∧ (fl P).length ≤ 100) ∧ ((σ 32 = -1 ∧ w = 0 ∧ sw = 20 ∧ P = []) ∨ ∃ a : Nat, a < 5 ∧ σ 32 = Int32.ofNat a ∧ AFR σ a w sw (fl P))
def RT (m : gm_M) (S : List Bool) : Prop := ∀ (j : Nat) (b : Bool), S.reverse[j]? = some b → m.2.1 70 j = bw b
theorem gw_sZw {β : Type} {μ : gm_M} {r n : Nat} {i x : Int32} {Q : β → Prop} {f : gm_M → Option β} (j : Nat) (t : gm_tag μ r = 2) (l : gm_len μ r = n) (hj : i.toInt = j) (h1 : j < n) (k : gw (f (wI μ r j (x &&& 1))) Q) : gw (gm_sZ μ r i x f) Q :=
  gw_sZ t l (by omega) (by omega) (fun m e => by rw [e, show i.toInt.toNat = j by omega]; exact k)
theorem gw_aZw {β : Type} {μ : gm_M} {r n : Nat} {i : Int32} {Q : β → Prop} {f : Int32 → Option β} (j : Nat) (t : gm_tag μ r = 2) (l : gm_len μ r = n) (hj : i.toInt = j) (h1 : j < n) (k : gw (f (μ.2.1 r j)) Q) : gw (gm_aZ μ r i f) Q :=
  gw_aZ t l (by omega) (by omega) (fun v e => by rw [e, show i.toInt.toNat = j by omega]; exact k)
theorem bw_and (b : Bool) : bw b &&& 1 = bw b := by cases b <;> decide
theorem RT.nil (m : gm_M) : RT m [] := fun j b h => by cases h
theorem RT.push {m : gm_M} {S : List Bool} (h : RT m S) (b : Bool) : RT (wI m 70 S.length (bw b)) (b :: S) := fun j c e => by
  rw [List.reverse_cons] at e
  by_cases hj : j = S.length
  · subst hj
    rw [List.getElem?_append_right (by rw [List.length_reverse]; exact Nat.le_refl _), List.length_reverse, Nat.sub_self] at e
    injection e with e
    rw [wI_e, ← e]
  · have hl : j < S.length := by
      have := (List.getElem?_eq_some_iff.mp e).1
      rw [List.length_append, List.length_reverse, List.length_singleton] at this
      omega
    rw [List.getElem?_append_left (by rw [List.length_reverse]; exact hl)] at e
    rw [wI_n _ _ _ _ hj]
    exact h j c e
theorem RT.pop {m : gm_M} {a : Bool} {S : List Bool} (h : RT m (a :: S)) : RT m S := fun j b e => by
  refine h j b ?_
  rw [List.reverse_cons, List.getElem?_append_left (by have := (List.getElem?_eq_some_iff.mp e).1; exact this)]
  exact e
theorem RT.top {m : gm_M} {a : Bool} {S : List Bool} (h : RT m (a :: S)) : m.2.1 70 S.length = bw a := by
  refine h S.length a ?_
  rw [List.reverse_cons, List.getElem?_append_right (by rw [List.length_reverse]; exact Nat.le_refl _), List.length_reverse, Nat.sub_self]; rfl
/-- a run over steps -/
def ru (k : Nat → Int32) (mi : Int32) : List Int32 → List Bool → Int32 → Int32
  | [], _, a => a
  | s :: L, S, a => if -10 < s.toInt then ru k mi L (stp k mi s S) a else ru k mi L [] (if S.headD false = true then a + amt s else a)
def drp : List Int32 → Nat → Prop
  | [], _ => True
  | s :: L, d => if -10 < s.toInt then ∃ d' : Nat, dr [s] d = some d' ∧ drp L d' else d = 1 ∧ -299 ≤ s.toInt ∧ drp L 0
theorem dr_cons {s : Int32} {T : List Int32} {d d' : Nat} (h : dr (s :: T) d = some d') : ∃ e : Nat, dr [s] d = some e ∧ dr T e = some d' := by
  have := dr_app [s] T d
  rw [show [s] ++ T = s :: T from rfl, h] at this
  cases e : dr [s] d with
  | none => rw [e] at this; cases this
  | some x => rw [e] at this; exact ⟨x, rfl, this.symm⟩
theorem drp_app : ∀ (T L : List Int32) (d d' : Nat), tkn T → dr T d = some d' → drp L d' → drp (T ++ L) d
  | [], L, d, d', _, h, g => by
    injection h with h
    rw [h]; exact g
  | s :: T, L, d, d', ht, h, g => by
    show drp (s :: (T ++ L)) d
    unfold drp
    rw [if_pos (ht s List.mem_cons_self)]
    obtain ⟨e, e1, e2⟩ := dr_cons h
    exact ⟨e, e1, drp_app T L e d' (fun x hx => ht x (List.mem_cons_of_mem _ hx)) e2 g⟩
theorem ru_app {k : Nat → Int32} {mi : Int32} : ∀ (T L : List Int32) (S : List Bool) (a : Int32), tkn T → ru k mi (T ++ L) S a = ru k mi L (es k mi T S) a
  | [], L, S, a, _ => rfl
  | s :: T, L, S, a, ht => by
    show (if -10 < s.toInt then ru k mi (T ++ L) (stp k mi s S) a else _) = _
    rw [if_pos (ht s List.mem_cons_self), ru_app T L _ a (fun x hx => ht x (List.mem_cons_of_mem _ hx))]; rfl
theorem amt_lo {s : Int32} (h : s.toInt ≤ -10) (h2 : -99 ≤ (amt s).toInt) : -299 ≤ s.toInt := by
  unfold amt at h2
  have l200 : (200 : Int32).toInt = 200 := rfl
  split at h2
  · omega
  · have := gx_lo s
    rw [gx_add (by omega) (by omega)] at h2
    omega
theorem drp_fl : ∀ (P : List (List Int32 × Int32)), okP P → drp (fl P) 0
  | [], _ => trivial
  | q :: P, h => by
    have ⟨h0, h1, h2, h3, h4⟩ := h q List.mem_cons_self
    show drp ((q.1 ++ [q.2]) ++ fl P) 0
    rw [List.append_assoc]
    refine drp_app q.1 _ 0 1 h1 h0 ?_
    show drp (q.2 :: fl P) 1
    unfold drp
    rw [if_neg (by omega)]
    exact ⟨rfl, amt_lo h2 h3, drp_fl P (fun x hx => h x (List.mem_cons_of_mem _ hx))⟩
theorem ru_fl {k : Nat → Int32} {mi : Int32} : ∀ (P : List (List Int32 × Int32)) (a : Int32), okP P → ru k mi (fl P) [] a = cSum k mi P a
  | [], a, _ => rfl
  | q :: P, a, h => by
    have ⟨h0, h1, h2, h3, h4⟩ := h q List.mem_cons_self
    show ru k mi ((q.1 ++ [q.2]) ++ fl P) [] a = _
    rw [List.append_assoc, ru_app _ _ _ _ h1]
    show (if -10 < q.2.toInt then _ else ru k mi (fl P) [] _) = _
    rw [if_neg (by omega), ru_fl P _ (fun x hx => h x (List.mem_cons_of_mem _ hx))]; rfl
/-- numbers looked up -/
theorem fv_at {k : Nat → Int32} {mi : Int32} {m : gm_M} (h : ∀ a : Nat, a < 6 → m.2.1 69 a = fv k mi (Int32.ofNat a)) {x : Int32} (h0 : 0 ≤ x.toInt) (h1 : x.toInt < 6) : m.2.1 69 x.toInt.toNat = fv k mi x := by
  rw [h x.toInt.toNat (by omega), gx_of h0]
theorem stp_len {k : Nat → Int32} {mi : Int32} {s : Int32} {S : List Bool} {d : Nat} (h : dr [s] S.length = some d) : (stp k mi s S).length = d := es_len [s] S d h
theorem ofp {k : Nat} (h : k ≤ 1000) : Int32.ofNat (k + 1) - 1 = Int32.ofNat k ∧ Int32.ofNat (k + 1) + (-1) = Int32.ofNat k := by
  have a := ofn (k := k + 1) (by omega)
  have b := ofn (k := k) (by omega)
  have l1 : (1 : Int32).toInt = 1 := rfl
  have lm : (-1 : Int32).toInt = -1 := rfl
  constructor
  · apply Int32.toInt_inj.mp
    have : (Int32.ofNat (k + 1) - 1).toInt = (Int32.ofNat (k + 1)).toInt - (1 : Int32).toInt := gx_sub (by omega) (by omega)
    omega
  · apply Int32.toInt_inj.mp
    have : (Int32.ofNat (k + 1) + (-1)).toInt = (Int32.ofNat (k + 1)).toInt + (-1 : Int32).toInt := gx_add (by omega) (by omega)
    omega
theorem amt_sum {a s : Int32} (h : s.toInt ≤ -10) (h2 : -299 ≤ s.toInt) : (-200 < s.toInt → (a + (-10 - s)) - 0 = a + amt s) ∧ (s.toInt ≤ -200 → (a + 0) - (-200 - s) = a + amt s) := by
  have l10 : (-10 : Int32).toInt = -10 := rfl
  have l200 : (-200 : Int32).toInt = -200 := rfl
  have l2 : (200 : Int32).toInt = 200 := rfl
  constructor
  · intro g
    unfold amt
    rw [if_pos g, Int32.sub_zero]
  · intro g
    unfold amt
    have e : (-200 : Int32) - s = -(s + 200) := by
      apply Int32.toInt_inj.mp
      have n1 : (s + 200).toInt = s.toInt + (200 : Int32).toInt := gx_add (by omega) (by omega)
      have n2 : ((-200 : Int32) - s).toInt = (-200 : Int32).toInt - s.toInt := gx_sub (by omega) (by omega)
      have n3 : (0 - (s + 200)).toInt = (0 : Int32).toInt - (s + 200).toInt := gx_sub (by have : (0 : Int32).toInt = 0 := rfl; omega) (by have : (0 : Int32).toInt = 0 := rfl; omega)
      rw [show -(s + 200) = 0 - (s + 200) from (Int32.zero_sub _).symm, n3, n2, n1]
      have : (0 : Int32).toInt = 0 := rfl
      omega
    rw [if_neg (by omega), Int32.add_zero, e, Int32.sub_neg]
set_option maxHeartbeats 4000000 in
theorem w_looks {μ : gm_M} (h : MI μ) {c : Nat} (hc : c < 5) {w sw : Int32} {P : List (List Int32 × Int32)} (hH : HR (μ.2.1 66) w sw P) : gwI (f_X12_looks 65 (Int32.ofNat c) μ) (fun x m => km A0 μ m ∧ x = cSum (kR (μ.2.1 66) c) (μ.2.1 66 0) P 0) := by
  obtain ⟨⟨hP, hl, hL⟩, hH⟩ := hH
  have oc := ofn (k := c) (by omega)
  refine gwI_and (s_X12_looks h ⟨by omega, by omega⟩) ?_
  refine gwI_of ?_
  unfold f_X12_looks
  have l0 : (0 : Int32).toInt = 0 := rfl
  have l1 : (1 : Int32).toInt = 1 := rfl
  have l2 : (2 : Int32).toInt = 2 := rfl
  have l3 : (3 : Int32).toInt = 3 := rfl
  have l4 : (4 : Int32).toInt = 4 := rfl
  have l5 : (5 : Int32).toInt = 5 := rfl
  have l6 : (6 : Int32).toInt = 6 := rfl
  have l10 : (10 : Int32).toInt = 10 := rfl
  have l32 : (32 : Int32).toInt = 32 := rfl
  have l33 : (33 : Int32).toInt = 33 := rfl
  have l38 : (38 : Int32).toInt = 38 := rfl
  have l140 : (140 : Int32).toInt = 140 := rfl
  have l220 : (220 : Int32).toInt = 220 := rfl
  have l225 : (225 : Int32).toInt = 225 := rfl
  have lm1 : (-1 : Int32).toInt = -1 := rfl
  have lm10 : (-10 : Int32).toInt = -10 := rfl
  have lm200 : (-200 : Int32).toInt = -200 := rfl
  have k0 := km.refl A0 μ
  have row : ∀ {m : gm_M}, km A0 μ m → m.2.1 66 = μ.2.1 66 := fun k => funext fun i => k.2.2.2.1 i (fun q => q)
  have tc : ∀ {m : gm_M}, km A0 μ m → [17].contains (gm_tag m 65) = true := fun k => (h.of0 k).1.c (r := 65) rfl
  have r10 : ∀ {m : gm_M}, km A0 μ m → m.2.2 65 10 = 69 := fun k => (h.of0 k).1.r (by decide)
  have r11 : ∀ {m : gm_M}, km A0 μ m → m.2.2 65 11 = 70 := fun k => (h.of0 k).1.r (by decide)
  have r1 : ∀ {m : gm_M}, km A0 μ m → m.2.2 65 1 = 66 := fun k => (h.of0 k).1.r (by decide)
  have t66 : ∀ {m : gm_M}, km A0 μ m → gm_tag m 66 = 1 := fun k => (h.of0 k).1.t (r := 66) rfl
  have n66 : ∀ {m : gm_M}, km A0 μ m → gm_len m 66 = 925 := fun k => (h.of0 k).1.l (r := 66) rfl
  have t69 : ∀ {m : gm_M}, km A0 μ m → gm_tag m 69 = 1 := fun k => (h.of0 k).1.t (r := 69) rfl
  have n69 : ∀ {m : gm_M}, km A0 μ m → gm_len m 69 = 6 := fun k => (h.of0 k).1.l (r := 69) rfl
  have t70 : ∀ {m : gm_M}, km A0 μ m → gm_tag m 70 = 2 := fun k => (h.of0 k).1.t (r := 70) rfl
  have n70 : ∀ {m : gm_M}, km A0 μ m → gm_len m 70 = 64 := fun k => (h.of0 k).1.l (r := 70) rfl
  have wr69 : ∀ {m : gm_M} (j : Nat) (x : Int32), km A0 μ m → km A0 μ (wI m 69 j x) := fun j x k => k.wr rfl (by decide)
  have wr70 : ∀ {m : gm_M} (j : Nat) (x : Int32), km A0 μ m → km A0 μ (wI m 70 j x) := fun j x k => k.wr rfl (by decide)
  have ix : ∀ (v : Int32) (j : Nat), v.toInt = j → j ≤ 400 → (v + Int32.ofNat c).toInt = ((j + c : Nat) : Int) := fun v j hv hj => by
    have : (v + Int32.ofNat c).toInt = v.toInt + (Int32.ofNat c).toInt := gx_add (by omega) (by omega)
    omega
  refine gw_gRa 69 (tc k0) (r10 k0) ?_
  refine gw_sIw 0 (t69 k0) (n69 k0) l0 (by decide) ?_
  have k1 := wr69 0 (Int32.ofNat c) k0
  refine gw_gRa 69 (tc k1) (r10 k1) ?_
  refine gw_gRa 66 (tc k1) (r1 k1) ?_
  refine gw_aIw (33 + c) (t66 k1) (n66 k1) (ix 33 33 rfl (by decide)) (by omega) ?_
  rw [row k1]
  refine gw_sIw 1 (t69 k1) (n69 k1) l1 (by decide) ?_
  have k2 := wr69 1 (μ.2.1 66 (33 + c)) k1
  refine gw_gRa 69 (tc k2) (r10 k2) ?_
  refine gw_gRa 66 (tc k2) (r1 k2) ?_
  refine gw_aIw (38 + c) (t66 k2) (n66 k2) (ix 38 38 rfl (by decide)) (by omega) ?_
  rw [row k2]
  refine gw_sIw 2 (t69 k2) (n69 k2) l2 (by decide) ?_
  have k3 := wr69 2 (μ.2.1 66 (38 + c)) k2
  refine gw_gRa 69 (tc k3) (r10 k3) ?_
  refine gw_gRa 66 (tc k3) (r1 k3) ?_
  refine gw_aIw (1 + c) (t66 k3) (n66 k3) (ix 1 1 rfl (by decide)) (by omega) ?_
  rw [row k3]
  refine gw_sIw 3 (t69 k3) (n69 k3) l3 (by decide) ?_
  have k4 := wr69 3 (μ.2.1 66 (1 + c)) k3
  refine gw_gRa 69 (tc k4) (r10 k4) ?_
  refine gw_gRa 66 (tc k4) (r1 k4) ?_
  refine gw_aIw (6 + c) (t66 k4) (n66 k4) (ix 6 6 rfl (by decide)) (by omega) ?_
  rw [row k4]
  refine gw_dv (by omega) ?_
  refine gw_sIw 4 (t69 k4) (n69 k4) l4 (by decide) ?_
  have k5 := wr69 4 (μ.2.1 66 (6 + c) / 10) k4
  refine gw_gRa 69 (tc k5) (r10 k5) ?_
  refine gw_gRa 66 (tc k5) (r1 k5) ?_
  refine gw_aIw 0 (t66 k5) (n66 k5) l0 (by decide) ?_
  rw [row k5]
  refine gw_dv (by omega) ?_
  rw [gx_mod]
  refine gw_sIw 5 (t69 k5) (n69 k5) l5 (by decide) ?_
  have k6 := wr69 5 (μ.2.1 66 0 % 10) k5
  generalize hM : wI (wI (wI (wI (wI (wI μ 69 0 (Int32.ofNat c)) 69 1 (μ.2.1 66 (33 + c))) 69 2 (μ.2.1 66 (38 + c))) 69 3 (μ.2.1 66 (1 + c))) 69 4 (μ.2.1 66 (6 + c) / 10)) 69 5 (μ.2.1 66 0 % 10) = M at *
  have hf : ∀ a : Nat, a < 6 → M.2.1 69 a = fv (kR (μ.2.1 66) c) (μ.2.1 66 0) (Int32.ofNat a) := fun a ha => by
    rw [← hM]
    obtain rfl | rfl | rfl | rfl | rfl | rfl : a = 0 ∨ a = 1 ∨ a = 2 ∨ a = 3 ∨ a = 4 ∨ a = 5 := by omega
    · rw [wI_n _ _ _ _ (by decide), wI_n _ _ _ _ (by decide), wI_n _ _ _ _ (by decide), wI_n _ _ _ _ (by decide), wI_n _ _ _ _ (by decide), wI_e]; rfl
    · rw [wI_n _ _ _ _ (by decide), wI_n _ _ _ _ (by decide), wI_n _ _ _ _ (by decide), wI_n _ _ _ _ (by decide), wI_e]; rfl
    · rw [wI_n _ _ _ _ (by decide), wI_n _ _ _ _ (by decide), wI_n _ _ _ _ (by decide), wI_e]; rfl
    · rw [wI_n _ _ _ _ (by decide), wI_n _ _ _ _ (by decide), wI_e]; rfl
    · rw [wI_n _ _ _ _ (by decide), wI_e]; rfl
    · rw [wI_e]; rfl
  clear hM k0 k1 k2 k3 k4 k5
  refine gw_if ((h.of0 k6).1.t (r := 65) rfl) ?_
  -- how many steps, where the first stands
  obtain ⟨st, hst, b, hb32, hL2⟩ : ∃ (st : Nat), st + (fl P).length ≤ 925 ∧ ∃ b : Int32, μ.2.1 66 32 = b ∧ ((225 : Int32) + (140 : Int32) * b = Int32.ofNat st ∧ (∀ i : Nat, i < (fl P).length → (fl P)[i]? = some (μ.2.1 66 (st + i))) ∧ ∀ (Q : (Option Value × gm_M) → Prop) (f : Int32 → gm_M → Option (Option Value × gm_M)), gw (f (Int32.ofNat (fl P).length) M) Q → gw (gm_bI (f_X12_tellsOf 65 220 0 M) f) Q) := by
    rcases hH with ⟨e1, -, -, e4⟩ | ⟨a, ha, e1, -, e3, e4⟩
    · subst e4
      refine ⟨85, by decide, -1, e1, by decide, fun i hi => absurd hi (Nat.not_lt_zero i), fun Q f hf => ?_⟩
      refine gw_bI (s_X12_tellsOf (h.of0 k6) ⟨by omega, by omega⟩) (fun x m ⟨em, hx⟩ => ?_)
      subst em
      rw [row k6, e1] at hx
      rcases hx with ⟨-, ex⟩ | ⟨g, -⟩
      · subst ex; exact hf
      · exact absurd g (by decide)
    · have oa := ofn (k := a) (by omega)
      refine ⟨225 + 140 * a, by omega, Int32.ofNat a, e1, ?_, e4, fun Q f hf => ?_⟩
      · apply Int32.toInt_inj.mp
        have n19 : ((140 : Int32) * Int32.ofNat a).toInt = 140 * (Int32.ofNat a).toInt := gx_mul 140 rfl (by omega) (by omega)
        have n20 : ((225 : Int32) + ((140 : Int32) * Int32.ofNat a)).toInt = (225 : Int32).toInt + ((140 : Int32) * Int32.ofNat a).toInt := gx_add (by omega) (by omega)
        rw [n20, n19, ofn (k := 225 + 140 * a) (by omega)]; omega
      · refine gw_bI (s_X12_tellsOf (h.of0 k6) ⟨by omega, by omega⟩) (fun x m ⟨em, hx⟩ => ?_)
        subst em
        rw [row k6, e1] at hx
        rcases hx with ⟨g, -⟩ | ⟨-, -, ex⟩
        · omega
        · rw [show ((220 : Int32).toInt + (Int32.ofNat a).toInt).toNat = 220 + a by omega, e3] at ex
          subst ex; exact hf
  obtain ⟨hs1, hs2, hs3⟩ := hL2
  refine hs3 _ _ ?_
  refine gw_gRa 66 (tc k6) (r1 k6) ?_
  refine gw_aIw 32 (t66 k6) (n66 k6) l32 (by decide) ?_
  rw [row k6, hb32, hs1]
  have oend := ofn (k := st + (fl P).length) (by omega)
  have e25 : Int32.ofNat st + Int32.ofNat (fl P).length = Int32.ofNat (st + (fl P).length) := by
    apply Int32.toInt_inj.mp
    have o1 := ofn (k := st) (by omega)
    have o2 := ofn (k := (fl P).length) (by omega)
    rw [gx_add (by omega) (by omega)]; omega
  rw [e25]
  generalize hK : kR (μ.2.1 66) c = k at *
  generalize hmi : μ.2.1 66 0 = mi at *
  generalize hI : (fun s : Int32 × Int32 × Int32 × gm_M => km A0 μ s.2.2.2 ∧ (∀ a : Nat, a < 6 → s.2.2.2.2.1 69 a = fv k mi (Int32.ofNat a)) ∧ ∃ (j : Nat) (S : List Bool), s.2.1 = Int32.ofNat S.length ∧ S.length ≤ 60 ∧ s.2.2.1 = Int32.ofNat (st + j) ∧ j ≤ (fl P).length ∧ RT s.2.2.2 S ∧ drp ((fl P).drop j) S.length ∧ S.length ≤ 30 ∧ ru k mi ((fl P).drop j) S s.1 = cSum k mi P 0) = I
  refine gw_loop I (fun s => 2000 - s.2.2.1.toInt) (fun s hs => ?_) 5000 ((0 : Int32), (0 : Int32), Int32.ofNat st, M) ?_ ?_ ?_
  · obtain ⟨s1, s2, s3, s4⟩ := s
    rw [← hI] at hs
    obtain ⟨k4, hf, j, S, e1, e60, e2, hj, hR, hd, e30, he⟩ := hs
    replace k4 : km A0 μ s4 := k4
    replace hf : ∀ a : Nat, a < 6 → s4.2.1 69 a = fv k mi (Int32.ofNat a) := hf
    replace e1 : s2 = Int32.ofNat S.length := e1
    replace e2 : s3 = Int32.ofNat (st + j) := e2
    replace hR : RT s4 S := hR
    replace he : ru k mi ((fl P).drop j) S s1 = cSum k mi P 0 := he
    subst e1
    subst e2
    have oj := ofn (k := st + j) (by omega)
    have oS := ofn (k := S.length) (by omega)
    refine gw_le (fun g => ?_) (fun g => ?_)
    · replace g : (Int32.ofNat (st + (fl P).length)).toInt ≤ (Int32.ofNat (st + j)).toInt := g
      rw [List.drop_eq_nil_of_le (show (fl P).length ≤ j by omega)] at he
      exact gw_some (gs_inr (gq_I he))
    · replace g : (Int32.ofNat (st + j)).toInt < (Int32.ofNat (st + (fl P).length)).toInt := g
      have hlt : j < (fl P).length := by omega
      have eT : (fl P).drop j = (fl P)[j] :: (fl P).drop (j + 1) := List.drop_eq_getElem_cons hlt
      have ec := hs2 j hlt
      rw [List.getElem?_eq_getElem hlt] at ec
      injection ec with ec
      rw [eT] at hd he
      generalize (fl P)[j] = s at *
      refine gw_gRa 66 (tc k4) (r1 k4) ?_
      refine gw_aIw (st + j) (t66 k4) (n66 k4) oj (by omega) ?_
      rw [row k4, ← ec]
      refine gw_j (fun q => km A0 μ q.2.2 ∧ (∀ a : Nat, a < 6 → q.2.2.2.1 69 a = fv k mi (Int32.ofNat a)) ∧ ∃ S' : List Bool, q.2.1 = Int32.ofNat S'.length ∧ RT q.2.2 S' ∧ drp ((fl P).drop (j + 1)) S'.length ∧ S'.length ≤ 30 ∧ ru k mi ((fl P).drop (j + 1)) S' q.1 = cSum k mi P 0) (fun q hq => ?_) (fun j31 hj31 => ?_)
      · obtain ⟨q1, q2, q3⟩ := q
        obtain ⟨h1, h2, S', h3, h4, h5, h6, h7⟩ := hq
        refine gw_some (gs_inl ?_ ?_ ?_)
        · rw [← hI]
          exact ⟨h1, h2, j + 1, S', h3, by omega, ofn1 (by omega), hlt, h4, h5, h6, h7⟩
        · show 2000 - (Int32.ofNat (st + j) + 1).toInt < 2000 - (Int32.ofNat (st + j)).toInt
          rw [ofn1 (by omega), ofn (k := st + j + 1) (by omega)]; omega
        · show 0 ≤ 2000 - (Int32.ofNat (st + j) + 1).toInt
          rw [ofn1 (by omega), ofn (k := st + j + 1) (by omega)]; omega
      · unfold drp at hd
        unfold ru at he
        have w69 : ∀ (i : Nat) (x : Int32), (wI s4 70 i x).2.1 69 = s4.2.1 69 := fun i x => wI_o _ _ _ _ (by decide)
        by_cases hb : -10 < s.toInt
        · rw [if_pos hb] at hd he
          obtain ⟨d', hd1, hd2⟩ := hd
          have hl' := stp_len (k := k) (mi := mi) hd1
          by_cases h0 : 0 ≤ s.toInt
          · -- a test
            rw [dr, if_pos h0] at hd1
            split at hd1
            · rename_i v
              have tn := tok_nums h0 v.1 v.2.1 v.2.2.1
              have es' : stp k mi s S = tst s (fv k mi (s % 8)) :: S := by unfold stp; rw [if_pos h0]
              rw [es'] at he hl'
              refine gw_lt (fun g => by omega) (fun _ => ?_)
              refine gw_gRa 69 (tc k4) (r10 k4) ?_
              refine gw_dv (by decide) ?_
              rw [gx_mod, gx_mod]
              refine gw_aIw (s % 8).toInt.toNat (t69 k4) (n69 k4) (by omega) (by omega) ?_
              rw [fv_at hf tn.1.1 tn.1.2]
              refine gw_dv (by decide) ?_
              refine gw_dv (by decide) ?_
              refine gw_dv (by decide) ?_
              refine gw_gRa 70 (tc k4) (r11 k4) ?_
              generalize fv k mi (s % 8) = x at *
              refine gw_j (fun z => z = bw (tst s x)) (fun z ez => ?_) (fun j68 hj68 => ?_)
              · subst ez
                refine gw_sZw S.length (t70 k4) (n70 k4) oS (by omega) ?_
                rw [bw_and]
                refine hj31 _ ⟨wr70 _ _ k4, fun a ha => by rw [w69]; exact hf a ha, _, ofn1 (by omega), hR.push _, by rw [hl']; exact hd2, by rw [List.length_cons]; omega, he⟩
              · unfold tst at hj68
                refine gw_ite (fun g1 => ?_) (fun g1 => ?_)
                · refine gw_ite (fun g2 => ?_) (fun g2 => ?_)
                  · refine gw_ite (fun g3 => hj68 _ ?_) (fun g3 => hj68 _ ?_)
                    · rw [if_neg g1, if_neg g2, decide_eq_false (by rw [Int32.not_lt]; exact g3)]; rfl
                    · rw [if_neg g1, if_neg g2, decide_eq_true (by rw [Int32.not_le] at g3; exact g3)]; rfl
                  · refine gw_ite (fun g3 => hj68 _ ?_) (fun g3 => hj68 _ ?_)
                    · rw [if_neg g1, if_pos (Decidable.not_not.mp g2), decide_eq_false g3]; rfl
                    · rw [if_neg g1, if_pos (Decidable.not_not.mp g2), decide_eq_true (Decidable.not_not.mp g3)]; rfl
                · refine gw_ite (fun g3 => hj68 _ ?_) (fun g3 => hj68 _ ?_)
                  · rw [if_pos (Decidable.not_not.mp g1), decide_eq_false (by rw [Int32.not_lt]; exact g3)]; rfl
                  · rw [if_pos (Decidable.not_not.mp g1), decide_eq_true (by rw [Int32.not_le] at g3; exact g3)]; rfl
            · cases hd1
          · rw [dr, if_neg h0] at hd1
            refine gw_lt (fun _ => ?_) (fun g => by omega)
            by_cases h1 : s = -1
            · -- not
              rw [if_pos h1] at hd1
              split at hd1
              · rename_i g1
                subst h1
                rw [if_neg (by decide)]
                cases S with
                | nil => exact absurd g1 (by decide)
                | cons a S =>
                  rw [show stp k mi (-1) (a :: S) = (!a) :: S from rfl] at he hl'
                  have op := ofp (k := S.length) (by rw [List.length_cons] at e30; omega)
                  have oS' := ofn (k := S.length) (by rw [List.length_cons] at e30; omega)
                  rw [List.length_cons] at e30
                  refine gw_gRa 70 (tc k4) (r11 k4) ?_
                  refine gw_gRa 70 (tc k4) (r11 k4) ?_
                  rw [show (a :: S).length = S.length + 1 from rfl, op.1]
                  refine gw_aZw S.length (t70 k4) (n70 k4) oS' (by omega) ?_
                  rw [hR.top]
                  refine gw_j (fun z => z = bw (!a)) (fun z ez => ?_) (fun j62 hj62 => ?_)
                  · subst ez
                    refine gw_sZw S.length (t70 k4) (n70 k4) oS' (by omega) ?_
                    rw [bw_and]
                    refine hj31 _ ⟨wr70 _ _ k4, fun a ha => by rw [w69]; exact hf a ha, (!a) :: S, rfl, hR.pop.push _, ?_, by rw [List.length_cons]; omega, he⟩
                    rw [hl']; exact hd2
                  · cases a with
                    | true => rw [if_pos (by decide)]; exact hj62 _ rfl
                    | false => rw [if_neg (by decide)]; exact hj62 _ rfl
              · cases hd1
            · rw [if_neg h1] at hd1
              rw [if_pos h1]
              refine gw_le (fun g => by omega) (fun _ => ?_)
              split at hd1
              · rename_i h23
                split at hd1
                · rename_i h2
                  cases S with
                  | nil => exact absurd h2 (by decide)
                  | cons a S =>
                    cases S with
                    | nil => exact absurd (show 2 ≤ 1 from h2) (by decide)
                    | cons b S =>
                      rw [List.length_cons, List.length_cons] at e30
                      have op := ofp (k := S.length + 1) (by omega)
                      have op2 := ofp (k := S.length) (by omega)
                      have oS' := ofn (k := S.length) (by omega)
                      have oS1 := ofn (k := S.length + 1) (by omega)
                      rw [show (a :: b :: S).length = S.length + 1 + 1 from rfl, op.2]
                      refine gw_gRa 70 (tc k4) (r11 k4) ?_
                      refine gw_j (fun z => z = bw (if s = -2 then b && a else b || a)) (fun z ez => ?_) (fun j44 hj44 => ?_)
                      · subst ez
                        rw [op2.1]
                        refine gw_sZw S.length (t70 k4) (n70 k4) oS' (by omega) ?_
                        rw [bw_and]
                        have es' : stp k mi s (a :: b :: S) = (if s = -2 then b && a else b || a) :: S := by unfold stp; rw [if_neg h0, if_neg h1]
                        rw [es'] at he hl'
                        refine hj31 _ ⟨wr70 _ _ k4, fun a ha => by rw [w69]; exact hf a ha, _, rfl, hR.pop.pop.push _, ?_, by rw [List.length_cons]; omega, he⟩
                        rw [hl']; exact hd2
                      · have ta := hR.top
                        have tb := hR.pop.top
                        rw [show (b :: S).length = S.length + 1 from rfl] at ta
                        by_cases es2 : s = -2
                        · rw [if_neg (fun g => g es2)]
                          rw [if_pos es2] at hj44
                          refine gw_gRa 70 (tc k4) (r11 k4) ?_
                          rw [op2.1]
                          refine gw_aZw S.length (t70 k4) (n70 k4) oS' (by omega) ?_
                          rw [tb]
                          refine gw_j (fun _ => (b && a) = false) (fun _ e => hj44 _ (by rw [e]; rfl)) (fun j55 hj55 => ?_)
                          cases b with
                          | false => rw [if_pos (show bw false = 0 from rfl)]; exact hj55 _ rfl
                          | true =>
                            rw [if_neg (by decide)]
                            refine gw_gRa 70 (tc k4) (r11 k4) ?_
                            refine gw_aZw (S.length + 1) (t70 k4) (n70 k4) oS1 (by omega) ?_
                            rw [ta]
                            cases a with
                            | false => rw [if_pos (show bw false = 0 from rfl)]; exact hj55 _ rfl
                            | true => rw [if_neg (by decide)]; exact hj44 _ rfl
                        · rw [if_pos es2]
                          rw [if_neg es2] at hj44
                          refine gw_gRa 70 (tc k4) (r11 k4) ?_
                          rw [op2.1]
                          refine gw_aZw S.length (t70 k4) (n70 k4) oS' (by omega) ?_
                          rw [tb]
                          refine gw_j (fun _ => (b || a) = true) (fun _ e => hj44 _ (by rw [e]; rfl)) (fun j49 hj49 => ?_)
                          cases b with
                          | true => rw [if_pos (by decide)]; exact hj49 _ rfl
                          | false =>
                            rw [if_neg (by decide)]
                            refine gw_gRa 70 (tc k4) (r11 k4) ?_
                            refine gw_aZw (S.length + 1) (t70 k4) (n70 k4) oS1 (by omega) ?_
                            rw [ta]
                            cases a with
                            | false => rw [if_pos (show bw false = 0 from rfl)]; exact hj44 _ rfl
                            | true => rw [if_neg (by decide)]; exact hj49 _ rfl
                · cases hd1
              · cases hd1
        · -- a change
          rw [if_neg hb] at hd he
          obtain ⟨hd0, hd1, hd2⟩ := hd
          have am := amt_sum (a := s1) (s := s) (by omega) hd1
          refine gw_lt (fun _ => ?_) (fun g => by omega)
          rw [if_pos (show s ≠ -1 from fun e => by rw [e] at hb; exact hb (by decide))]
          refine gw_le (fun _ => ?_) (fun g => by omega)
          refine gw_gRa 70 (tc k4) (r11 k4) ?_
          cases S with
          | nil => cases hd0
          | cons a S =>
            have hS0 : S.length = 0 := by rw [List.length_cons] at hd0; omega
            have ta := hR.top
            rw [hS0] at ta
            refine gw_aZw 0 (t70 k4) (n70 k4) l0 (by decide) ?_
            rw [ta]
            rw [show (a :: S).headD false = a from rfl] at he
            have fin : ∀ x : Int32, x = (if a = true then s1 + amt s else s1) → gw (j31 (x, 0, s4)) _ := fun x ex => hj31 _ ⟨k4, hf, [], rfl, RT.nil _, hd2, Nat.zero_le _, by rw [← he, ← ex]⟩
            refine gw_j (fun z => z = (if a = true ∧ -200 < s.toInt then -10 - s else 0)) (fun z ez => ?_) (fun j35 hj35 => ?_)
            · refine gw_j (fun y => y = (if a = true ∧ s.toInt ≤ -200 then -200 - s else 0)) (fun y ey => ?_) (fun j37 hj37 => ?_)
              · refine fin _ ?_
                rw [ez, ey]
                cases a with
                | false =>
                  rw [if_neg (fun h => by cases h.1), if_neg (fun h => by cases h.1), if_neg (by decide), Int32.add_zero, Int32.sub_zero]
                | true =>
                  rw [if_pos rfl]
                  by_cases g : -200 < s.toInt
                  · rw [if_pos ⟨rfl, g⟩, if_neg (fun h => by omega)]; exact am.1 g
                  · rw [if_neg (fun h => g h.2), if_pos ⟨rfl, by omega⟩]; exact am.2 (by omega)
              · refine gw_j (fun _ => ¬ (a = true ∧ s.toInt ≤ -200)) (fun _ e => hj37 _ (by rw [if_neg e])) (fun j39 hj39 => ?_)
                cases a with
                | false => rw [if_pos (show bw false = 0 from rfl)]; exact hj39 _ (fun h => by cases h.1)
                | true =>
                  rw [if_neg (by decide)]
                  exact gw_lt (fun g => hj39 _ (fun h => by omega)) (fun g => hj37 _ (by rw [if_pos ⟨rfl, by omega⟩]))
            · refine gw_j (fun _ => ¬ (a = true ∧ -200 < s.toInt)) (fun _ e => hj35 _ (by rw [if_neg e])) (fun j41 hj41 => ?_)
              cases a with
              | false => rw [if_pos (show bw false = 0 from rfl)]; exact hj41 _ (fun h => by cases h.1)
              | true =>
                rw [if_neg (by decide)]
                exact gw_le (fun g => hj41 _ (fun h => by omega)) (fun g => hj35 _ (by rw [if_pos ⟨rfl, by omega⟩]))
  · rw [← hI]
    exact ⟨k6, hf, 0, [], rfl, Nat.zero_le _, rfl, Nat.zero_le _, RT.nil _, drp_fl P hP, Nat.zero_le _, ru_fl P 0 hP⟩
  · show 2000 - (Int32.ofNat st).toInt < ((5000 : Nat) : Int)
    rw [ofn (by omega)]; omega
  · show 0 ≤ 2000 - (Int32.ofNat st).toInt
    rw [ofn (by omega)]; omega
