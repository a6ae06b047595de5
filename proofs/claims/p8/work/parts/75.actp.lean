def inR (c n : Int32) : Prop := 0 ≤ c.toInt ∧ c.toInt < n.toInt
theorem gx_of {c : Int32} (h : 0 ≤ c.toInt) : Int32.ofNat c.toInt.toNat = c := by
  apply Int32.toInt_inj.mp
  have h2 := gx_hi c
  rw [Int32.toInt_ofNat_of_lt (by omega)]
  omega
/-- what an act answers, and the bodies that ran -/
def acS (a : Int32) (k : Nat) (c v x : Int32) : Int32 × List Int32 := if a.toInt = 0 then chS k c x else if a.toInt = 1 then blS k c v x else if a.toInt = 2 then teS k c v x else (0, [])
theorem c_act {μ : gm_M} (h : ALL μ) {c a x : Int32} : gwI (f_X11_act 1 c a x μ) (fun y m => (¬ inR c (μ.2.1 15 1) ∧ y = 0 ∧ tk μ [] m) ∨ (inR c (μ.2.1 15 1) ∧ y = (acS a (μ.2.1 66 (33 + c.toInt.toNat)).toInt.toNat c (μ.2.1 66 (38 + c.toInt.toNat)) x).1 ∧ tk μ (acS a (μ.2.1 66 (33 + c.toInt.toNat)).toInt.toNat c (μ.2.1 66 (38 + c.toInt.toNat)) x).2 m)) := by
  refine gwI_of ?_
  unfold f_X11_act
  have l0 : (0 : Int32).toInt = 0 := rfl
  have l1 : (1 : Int32).toInt = 1 := rfl
  have l2 : (2 : Int32).toInt = 2 := rfl
  have hc := h.2.2.1
  have hg := hc.1
  have hL := hc.l3
  refine gw_gRa 3 (hg.c (r := 1) rfl) (hg.r (by decide)) ?_
  refine gw_if (hg.t (r := 3) rfl) ?_
  refine gw_bI (s_clear (r := 3) (hg.t rfl)) (fun x3 m2 ⟨_, e2⟩ => ?_)
  have T : tk μ [] m2 := by
    rw [e2]
    exact ⟨⟨rfl, rfl, fun r r1 _ => wI_o _ _ _ _ r1, fun j hj => wI_n _ _ _ _ hj⟩, by rw [wI_e]; rfl, fun i z hz => by cases hz⟩
  have hs := T.s hg
  have hci : CI m2 := by
    rw [e2]
    refine hc.int rfl rfl (fun r hr => wI_o _ _ _ _ (by omega)) ?_ ?_ ?_ ?_ ?_
    · rw [wI_o _ _ _ _ (by decide)]; exact ⟨hc.n1, hc.n4, hc.n5⟩
    · rw [wI_o _ _ _ _ (by decide), wI_o _ _ _ _ (by decide), wI_o _ _ _ _ (by decide)]; exact ⟨hc.n23, hc.n25, hc.n27⟩
    · rw [wI_o _ _ _ _ (by decide), wI_o _ _ _ _ (by decide), wI_o _ _ _ _ (by decide)]; exact ⟨rfl, rfl, rfl⟩
    · rw [wI_o _ _ _ _ (by decide)]; exact hc.sm
    · rw [wI_e, wI_n _ _ _ _ (by decide)]; exact ⟨by decide, rfl⟩
  have e15 : m2.2.1 15 = μ.2.1 15 := T.1.2.2.1 15 (by decide) (by decide)
  refine gw_if (hs.t (r := 1) rfl) ?_
  refine gw_bI (s_X11_isNobody hci) (fun x5 m4 ⟨z5, f5⟩ => ?_)
  replace z5 := z5.symm
  subst z5
  rw [e15] at f5
  refine gw_eq (fun g => ?_) (fun g => ?_)
  · have hc0 : 0 ≤ c.toInt ∧ c.toInt < 5 := by omega
    have hin : inR c (μ.2.1 15 1) := by unfold inR; omega
    refine gw_gRa 15 (hs.c (r := 1) rfl) (hs.r (by decide)) ?_
    refine gw_gRa 16 (hs.c (r := 15) rfl) (hs.r (by decide)) ?_
    refine gw_aR (i := c) (hs.t (r := 16) rfl) (hs.l (r := 16) rfl) (by omega) (by omega) (fun v ev => ?_)
    have hv : v = 29 + 2 * c.toInt.toNat := by rw [ev]; exact isch.at hs (by omega)
    have iv : isch v := by rw [hv]; unfold isch; omega
    have kd := h.kd c.toInt.toNat (by omega)
    have kk := hc.kd (a := v) (Or.inl iv)
    rw [hv] at kk
    unfold kid at kk
    have k7 : (μ.2.1 66 (33 + c.toInt.toNat)).toInt.toNat < 7 := by omega
    have kr : m2.2.2 v 1 = 8 + (μ.2.1 66 (33 + c.toInt.toNat)).toInt.toNat := by rw [T.1.2.1, hv]; omega
    have n0 : μ.2.1 v 0 = c := by rw [hv, h.no _ (by omega)]; exact gx_of hc0.1
    have n2 : μ.2.1 v 2 = μ.2.1 66 (38 + c.toInt.toNat) := by rw [hv]; exact h.vv _ (by omega)
    refine gw_eq (fun ga => ?_) (fun ga => ?_)
    · refine gw_gRa _ (ict.c hs (Or.inl iv)) kr ?_
      refine gw_gRa 3 (hs.c (r := 1) rfl) (hs.r (by decide)) ?_
      refine gw_bI (t_chews T hg hL (Nat.zero_le _) iv k7) (fun y m1 ⟨e1, h1⟩ => ?_)
      rw [n0] at e1 h1
      have q : acS a (μ.2.1 66 (33 + c.toInt.toNat)).toInt.toNat c (μ.2.1 66 (38 + c.toInt.toNat)) x = chS (μ.2.1 66 (33 + c.toInt.toNat)).toInt.toNat c x := by unfold acS; rw [if_pos (by omega)]
      rw [q]
      exact gw_some (gq_I (Or.inr ⟨hin, e1, h1⟩))
    · refine gw_eq (fun gb => ?_) (fun gb => ?_)
      · refine gw_gRa _ (ict.c hs (Or.inl iv)) kr ?_
        refine gw_gRa 3 (hs.c (r := 1) rfl) (hs.r (by decide)) ?_
        refine gw_bI (t_blows T hg hL (Nat.zero_le _) iv k7) (fun y m1 ⟨e1, h1⟩ => ?_)
        rw [n0, n2] at e1 h1
        have q : acS a (μ.2.1 66 (33 + c.toInt.toNat)).toInt.toNat c (μ.2.1 66 (38 + c.toInt.toNat)) x = blS (μ.2.1 66 (33 + c.toInt.toNat)).toInt.toNat c (μ.2.1 66 (38 + c.toInt.toNat)) x := by unfold acS; rw [if_neg (by omega), if_pos (by omega)]
        rw [q]
        exact gw_some (gq_I (Or.inr ⟨hin, e1, h1⟩))
      · refine gw_eq (fun gc => ?_) (fun gc => ?_)
        · refine gw_gRa _ (ict.c hs (Or.inl iv)) kr ?_
          refine gw_gRa 3 (hs.c (r := 1) rfl) (hs.r (by decide)) ?_
          refine gw_bI (t_tells T hg hL (Nat.zero_le _) iv k7) (fun y m1 ⟨e1, h1⟩ => ?_)
          rw [n0, n2] at e1 h1
          have q : acS a (μ.2.1 66 (33 + c.toInt.toNat)).toInt.toNat c (μ.2.1 66 (38 + c.toInt.toNat)) x = teS (μ.2.1 66 (33 + c.toInt.toNat)).toInt.toNat c (μ.2.1 66 (38 + c.toInt.toNat)) x := by unfold acS; rw [if_neg (by omega), if_neg (by omega), if_pos (by omega)]
          rw [q]
          exact gw_some (gq_I (Or.inr ⟨hin, e1, h1⟩))
        · have q : acS a (μ.2.1 66 (33 + c.toInt.toNat)).toInt.toNat c (μ.2.1 66 (38 + c.toInt.toNat)) x = (0, []) := by unfold acS; rw [if_neg (by omega), if_neg (by omega), if_neg (by omega)]
          rw [q]
          exact gw_some (gq_I (Or.inr ⟨hin, rfl, T⟩))
  · exact gw_some (gq_I (Or.inl ⟨by unfold inR; omega, rfl, T⟩))
def ft (μ : gm_M) (l : List Int32) (m : gm_M) : Prop := (m.1 = μ.1 ∧ m.2.2 = μ.2.2 ∧ (∀ r : Nat, r ≠ 65 → r ≠ 74 → m.2.1 r = μ.2.1 r) ∧ m.2.1 65 0 = μ.2.1 65 0 ∧ m.2.1 65 4 = μ.2.1 65 4) ∧ (m.2.1 65 19).toInt = l.length ∧ ∀ (i : Nat) (x : Int32), l[i]? = some x → m.2.1 74 i = x
theorem m_act {μ : gm_M} (h : MI μ) {c a x : Int32} (hk : ∀ i : Nat, i < 5 → 0 ≤ (μ.2.1 66 (33 + i)).toInt ∧ (μ.2.1 66 (33 + i)).toInt < 7) : gwI (f_X12_act 65 c a x μ) (fun y m => (¬ inR c (μ.2.1 66 26) ∧ y = 0 ∧ ft μ [] m) ∨ (inR c (μ.2.1 66 26) ∧ y = (acS a (μ.2.1 66 (33 + c.toInt.toNat)).toInt.toNat c (μ.2.1 66 (38 + c.toInt.toNat)) x).1 ∧ ft μ (acS a (μ.2.1 66 (33 + c.toInt.toNat)).toInt.toNat c (μ.2.1 66 (38 + c.toInt.toNat)) x).2 m)) := by
  refine gwI_of ?_
  unfold f_X12_act
  have l0 : (0 : Int32).toInt = 0 := rfl
  have l1 : (1 : Int32).toInt = 1 := rfl
  have l2 : (2 : Int32).toInt = 2 := rfl
  have l33 : (33 : Int32).toInt = 33 := rfl
  have l38 : (38 : Int32).toInt = 38 := rfl
  have hg := h.1
  refine gw_pIw (hg.c (r := 65) rfl) ?_
  have F0 : ft μ [] (wI μ 65 19 0) := ⟨⟨rfl, rfl, fun r r1 _ => wI_o _ _ _ _ r1, wI_n _ _ _ _ (by decide), wI_n _ _ _ _ (by decide)⟩, by rw [wI_e]; rfl, fun i z hz => by cases hz⟩
  have h1 : MI (wI μ 65 19 0) := ⟨hg, by rw [wI_o _ _ _ _ (by decide)]; exact h.2⟩
  refine gw_if (hg.t (r := 65) rfl) ?_
  refine gw_bI (s_X12_isChild h1) (fun x3 m2 ⟨z3, f3⟩ => ?_)
  replace z3 := z3.symm
  subst z3
  rw [wI_o _ _ _ _ (by decide)] at f3
  refine gw_eq (fun g => gw_some (gq_I (Or.inl ⟨by unfold inR; omega, rfl, F0⟩))) (fun g => ?_)
  have hin : inR c (μ.2.1 66 26) := by unfold inR; omega
  refine gw_bI s_X12_in (fun x5 m4 ⟨z5, f5⟩ => ?_)
  replace z5 := z5.symm
  subst z5
  refine gw_ne (fun g2 => ?_) (fun g2 => ?_)
  · have n33 : ((33 : Int32) + c).toInt = (33 : Int32).toInt + c.toInt := gx_add (by omega) (by omega)
    have n38 : ((38 : Int32) + c).toInt = (38 : Int32).toInt + c.toInt := gx_add (by omega) (by omega)
    refine gw_gRa 66 (hg.c (r := 65) rfl) (hg.r (by decide)) ?_
    refine gw_aIw (33 + c.toInt.toNat) (hg.t (r := 66) rfl) (hg.l (r := 66) rfl) (by omega) (by omega) ?_
    refine gw_pIw (hg.c (r := 65) rfl) ?_
    refine gw_pIw (hg.c (r := 65) rfl) ?_
    refine gw_gRa 66 (hg.c (r := 65) rfl) (hg.r (by decide)) ?_
    refine gw_aIw (38 + c.toInt.toNat) (hg.t (r := 66) rfl) (hg.l (r := 66) rfl) (by omega) (by omega) ?_
    refine gw_pIw (hg.c (r := 65) rfl) ?_
    simp only [wI_o _ _ _ _ (show (66 : Nat) ≠ 65 by decide)]
    generalize hK : μ.2.1 66 (33 + c.toInt.toNat) = K
    generalize hV : μ.2.1 66 (38 + c.toInt.toNat) = V
    generalize hB : wI (wI (wI (wI μ 65 19 0) 65 20 K) 65 21 c) 65 22 V = B
    have T : tm B [] B := ⟨⟨rfl, rfl, fun _ _ _ => rfl, fun _ _ => rfl⟩, by rw [← hB, wI_n _ _ _ _ (by decide), wI_n _ _ _ _ (by decide), wI_n _ _ _ _ (by decide), wI_e]; rfl, fun i z hz => by cases hz⟩
    have B20 : B.2.1 65 20 = K := by rw [← hB, wI_n _ _ _ _ (by decide), wI_n _ _ _ _ (by decide), wI_e]
    have B21 : B.2.1 65 21 = c := by rw [← hB, wI_n _ _ _ _ (by decide), wI_e]
    have B22 : B.2.1 65 22 = V := by rw [← hB, wI_e]
    have hS : gS B := by rw [← hB]; exact hg
    have F : ∀ (l : List Int32) (m : gm_M), tm B l m → ft μ l m := fun l m hm => by
      obtain ⟨⟨b1, b2, b3, b4⟩, b5, b6⟩ := hm
      refine ⟨⟨b1.trans (by rw [← hB]; rfl), b2.trans (by rw [← hB]; rfl), fun r r1 r2 => by rw [b3 r r1 r2, ← hB, wI_o _ _ _ _ r1, wI_o _ _ _ _ r1, wI_o _ _ _ _ r1, wI_o _ _ _ _ r1], ?_, ?_⟩, b5, b6⟩
      · rw [b4 0 (by decide), ← hB, wI_n _ _ _ _ (by decide), wI_n _ _ _ _ (by decide), wI_n _ _ _ _ (by decide), wI_n _ _ _ _ (by decide)]
      · rw [b4 4 (by decide), ← hB, wI_n _ _ _ _ (by decide), wI_n _ _ _ _ (by decide), wI_n _ _ _ _ (by decide), wI_n _ _ _ _ (by decide)]
    have hk0 := hk c.toInt.toNat (by omega)
    rw [hK] at hk0
    have hkk : (B.2.1 65 20).toInt = (K.toInt.toNat : Int) := by rw [B20]; omega
    clear hB
    refine gw_ne (fun ga => ?_) (fun ga => ?_)
    · refine gw_ne (fun gb => ?_) (fun gb => ?_)
      · refine gw_if (hS.t (r := 65) rfl) ?_
        refine gw_bI (u_tells T hS hkk (by omega) (Nat.zero_le _)) (fun y m1 ⟨e1, t1⟩ => ?_)
        rw [B21, B22] at e1 t1
        have q : acS a K.toInt.toNat c V x = teS K.toInt.toNat c V x := by unfold acS; rw [if_neg (by omega), if_neg (by omega), if_pos (by omega)]
        rw [q]
        exact gw_some (gq_I (Or.inr ⟨hin, e1, F _ _ t1⟩))
      · refine gw_if (hS.t (r := 65) rfl) ?_
        refine gw_bI (u_blows T hS hkk (by omega) (Nat.zero_le _)) (fun y m1 ⟨e1, t1⟩ => ?_)
        rw [B21, B22] at e1 t1
        have q : acS a K.toInt.toNat c V x = blS K.toInt.toNat c V x := by unfold acS; rw [if_neg (by omega), if_pos (by omega)]
        rw [q]
        exact gw_some (gq_I (Or.inr ⟨hin, e1, F _ _ t1⟩))
    · refine gw_if (hS.t (r := 65) rfl) ?_
      refine gw_bI (u_chews T hS hkk (by omega) (Nat.zero_le _)) (fun y m1 ⟨e1, t1⟩ => ?_)
      rw [B21] at e1 t1
      have q : acS a K.toInt.toNat c V x = chS K.toInt.toNat c x := by unfold acS; rw [if_pos (by omega)]
      rw [q]
      exact gw_some (gq_I (Or.inr ⟨hin, e1, F _ _ t1⟩))
  · have q : acS a (μ.2.1 66 (33 + c.toInt.toNat)).toInt.toNat c (μ.2.1 66 (38 + c.toInt.toNat)) x = (0, []) := by unfold acS; rw [if_neg (by omega), if_neg (by omega), if_neg (by omega)]
    rw [q]
    exact gw_some (gq_I (Or.inr ⟨hin, rfl, F0⟩))
theorem A_act {μ m1 m2 : gm_M} (h : ALL μ) {l : List Int32} (hl : l.length ≤ 20) (t : tk μ l m1) (f : ft m1 l m2) : ALL m2 := by
  obtain ⟨⟨t1, t2, t3, t4⟩, t5, t6⟩ := t
  obtain ⟨⟨f1, f2, f3, f4, f4b⟩, f5, f6⟩ := f
  have ro : ∀ r : Nat, r ≠ 3 → r ≠ 4 → r ≠ 65 → r ≠ 74 → m2.2.1 r = μ.2.1 r := fun r r1 r2 r3 r4 => by rw [f3 r r3 r4, t3 r r1 r2]
  have hc := h.2.2.1
  have e3 : m2.2.1 3 = m1.2.1 3 := f3 3 (by decide) (by decide)
  refine h.upd (f1.trans t1) (f2.trans t2) (fun r hr => ro r (by omega) (by omega) (by omega) (by omega)) (by rw [f4b, t3 65 (by decide) (by decide)]) (by rw [ro 66 (by decide) (by decide) (by decide) (by decide)]; exact h.1.2) ?_ ?_ ?_ ?_ ?_ ?_ ?_
  · rw [ro 15 (by decide) (by decide) (by decide) (by decide)]; exact ⟨hc.n1, hc.n4, hc.n5⟩
  · rw [ro 23 (by decide) (by decide) (by decide) (by decide), ro 25 (by decide) (by decide) (by decide) (by decide), ro 27 (by decide) (by decide) (by decide) (by decide)]; exact ⟨hc.n23, hc.n25, hc.n27⟩
  · rw [ro 23 (by decide) (by decide) (by decide) (by decide), ro 25 (by decide) (by decide) (by decide) (by decide), ro 27 (by decide) (by decide) (by decide) (by decide)]; exact ⟨rfl, rfl, rfl⟩
  · rw [ro 24 (by decide) (by decide) (by decide) (by decide)]; exact hc.sm
  · rw [e3, t4 0 (by decide)]; exact ⟨by omega, rfl⟩
  · exact h.2.2.2.1.fr (by rw [ro 15 (by decide) (by decide) (by decide) (by decide)]) (by rw [ro 15 (by decide) (by decide) (by decide) (by decide)]) ⟨by rw [ro (15 + 8) (by decide) (by decide) (by decide) (by decide)], by rw [ro (15 + 10) (by decide) (by decide) (by decide) (by decide)], by rw [ro (15 + 12) (by decide) (by decide) (by decide) (by decide)]⟩ (fun k hk => ⟨by rw [ro _ (by omega) (by omega) (by omega) (by omega)], by rw [ro _ (by omega) (by omega) (by omega) (by omega)], by rw [f2, t2], fun j _ => by rw [ro _ (by omega) (by omega) (by omega) (by omega)]⟩) (fun i _ => by rw [ro 66 (by decide) (by decide) (by decide) (by decide)])
  · refine ⟨Int32.toInt_inj.mp (by rw [e3, t5, f5]), fun i hi hi2 => ?_⟩
    rw [e3, t5] at hi2
    have hlt : i < l.length := by omega
    rw [f3 4 (by decide) (by decide), t6 i _ (List.getElem?_eq_getElem hlt), f6 i _ (List.getElem?_eq_getElem hlt)]
theorem acS_len (a : Int32) (k : Nat) (c v x : Int32) : (acS a k c v x).2.length ≤ 20 := by
  unfold acS
  have b1 := chS_len k c x
  have b2 := blS_len k c v x
  have b3 := teS_len k c v x
  split
  · omega
  · split
    · omega
    · split
      · omega
      · exact Nat.zero_le _
theorem p_act {μ : gm_M} (h : ALL μ) {a1 a2 a3 : Int32} : gwI (f_X11_act 1 a1 a2 a3 μ) (fun x m => gwI (f_X12_act 65 a1 a2 a3 m) (fun y m2 => y = x ∧ ALL m2)) := by
  have E26 : μ.2.1 15 1 = μ.2.1 66 26 := h.2.2.2.1.1.2.1
  have hk : ∀ i : Nat, i < 5 → 0 ≤ (μ.2.1 66 (33 + i)).toInt ∧ (μ.2.1 66 (33 + i)).toInt < 7 := fun i hi => by
    have kd := h.kd i hi
    have kk := h.2.2.1.kd (a := 29 + 2 * i) (Or.inl (by unfold isch; omega))
    unfold kid at kk
    omega
  refine gwI_mono (c_act h) (fun x m hx => ?_)
  have H : ∀ l, tk μ l m → MI m ∧ m.2.1 66 = μ.2.1 66 := fun l t => by
    have r66 : m.2.1 66 = μ.2.1 66 := t.1.2.2.1 66 (by decide) (by decide)
    exact ⟨⟨t.s h.1.1, by rw [r66]; exact h.1.2⟩, r66⟩
  rcases hx with ⟨hi, hx, t⟩ | ⟨hi, hx, t⟩
  · obtain ⟨hM, r66⟩ := H _ t
    refine gwI_mono (m_act hM (by rw [r66]; exact hk)) (fun y m2 hy => ?_)
    rw [r66, ← E26] at hy
    rcases hy with ⟨gi, hy, f⟩ | ⟨gi, hy, f⟩
    · exact ⟨hy.trans hx.symm, A_act h (Nat.zero_le _) t f⟩
    · exact absurd gi hi
  · obtain ⟨hM, r66⟩ := H _ t
    refine gwI_mono (m_act hM (by rw [r66]; exact hk)) (fun y m2 hy => ?_)
    rw [r66, ← E26] at hy
    rcases hy with ⟨gi, hy, f⟩ | ⟨gi, hy, f⟩
    · exact absurd hi gi
    · exact ⟨hy.trans hx.symm, A_act h (acS_len _ _ _ _ _) t f⟩
