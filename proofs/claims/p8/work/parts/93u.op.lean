/-! operations: alike, and agreed behind them -/
def PR (z : Option (Option Value × gm_M)) (g : gm_M → Option (Option Value × gm_M)) : Prop := gwI z (fun x m => gm_tag m 65 = 17 ∧ gwI (g m) (fun y m2 => y = x ∧ REL m2))
def QR (z : Option (Option Value × gm_M)) (g : gm_M → Option (Option Value × gm_M)) : Prop := gwI z (fun _ m => gm_tag m 65 = 17 ∧ gwI (g m) (fun _ m2 => REL m2))
def PRL (z : Option (Option Value × gm_M)) (g : gm_M → Option (Option Value × gm_M)) : Prop := gwL z (fun x m => gm_tag m 65 = 17 ∧ gwL (g m) (fun y m2 => y = x ∧ REL m2))
def QRL (z : Option (Option Value × gm_M)) (g : gm_M → Option (Option Value × gm_M)) : Prop := gwL z (fun _ m => gm_tag m 65 = 17 ∧ gwL (g m) (fun _ m2 => REL m2))
theorem PR.q {z : Option (Option Value × gm_M)} {g : gm_M → Option (Option Value × gm_M)} (h : PR z g) : QR z g := gwI_mono h (fun _ _ ⟨a, b⟩ => ⟨a, gwI_mono b (fun _ _ c => c.2)⟩)
theorem QR.kq {μ : gm_M} {z : Option (Option Value × gm_M)} {g : gm_M → Option (Option Value × gm_M)} (h : REL μ) (h1 : gwI z (fun _ m => kc μ m)) (h2 : ∀ m, MI m → gwI (g m) (fun _ m2 => qm m m2)) : QR z g := by
  refine gwI_mono h1 (fun x m a => ?_)
  have hm := h.kc a
  exact ⟨hm.1.t65, gwI_mono (h2 m hm.mi) (fun y m2 b => hm.qm b)⟩
theorem QRL.kq {μ : gm_M} {z : Option (Option Value × gm_M)} {g : gm_M → Option (Option Value × gm_M)} (h : REL μ) (h1 : gwL z (fun _ m => kc μ m)) (h2 : ∀ m, MI m → gwL (g m) (fun _ m2 => qm m m2)) : QRL z g := by
  obtain ⟨x, m, e, a⟩ := h1
  have hm := h.kc a
  obtain ⟨y, m2, e2, b⟩ := h2 m hm.mi
  exact ⟨x, m, e, hm.1.t65, y, m2, e2, hm.qm b⟩
/-- askings: the class's answer a, the reference's from what the class leaves -/
theorem PR.kq {μ : gm_M} {z : Option (Option Value × gm_M)} {g : gm_M → Option (Option Value × gm_M)} {V : Int32 → Prop} (h : REL μ) (h1 : gwI z (fun x m => kc μ m ∧ V x)) (h2 : ∀ m, REL m → kc μ m → gwI (g m) (fun y m2 => qm m m2 ∧ ∀ x, V x → y = x)) : PR z g := by
  refine gwI_mono h1 (fun x m ⟨a, v⟩ => ?_)
  have hm := h.kc a
  exact ⟨hm.1.t65, gwI_mono (h2 m hm a) (fun y m2 ⟨b, c⟩ => ⟨c x v, hm.qm b⟩)⟩
/-- changes: what both do apart, and how it goes on -/
theorem PR.mk {z : Option (Option Value × gm_M)} {g : gm_M → Option (Option Value × gm_M)} (h1 : gwI z (fun _ m => ALL m)) (h2 : ∀ m, ALL m → gwI (g m) (fun _ m2 => ALL m2)) (h3 : gwI z (fun x m => ALL m → gwI (g m) (fun y m2 => y = x ∧ (ALL m2 → REL m2)))) : PR z g := by
  refine gwI_mono (gwI_and h1 h3) (fun x m ⟨a, b⟩ => ⟨a.t65, ?_⟩)
  exact gwI_mono (gwI_and (h2 m a) (b a)) (fun y m2 ⟨c, d⟩ => ⟨d.1, d.2 c⟩)
theorem PR.mk2 {z : Option (Option Value × gm_M)} {g : gm_M → Option (Option Value × gm_M)} (h1 : PI z g) (h3 : gwI z (fun _ m => gwI (g m) (fun _ m2 => ALL m2 → REL m2))) : PR z g := by
  refine gwI_mono (gwI_and h1 h3) (fun x m ⟨⟨a, b⟩, c⟩ => ⟨a, ?_⟩)
  exact gwI_mono (gwI_and b c) (fun y m2 ⟨d, e⟩ => ⟨d.1, e d.2⟩)
section
variable {μ : gm_M}
/-- one child alone has changed -/
theorem REL.one (h : REL μ) {m : gm_M} {k : Nat} (hk : k < 5) (ha : ALL m) (e1 : ∀ r : Nat, r ≠ 29 + 2 * k → r ≠ 29 + 2 * k + 1 → (r < 63 ∨ r = 67 ∨ 75 ≤ r) → m.2.1 r = μ.2.1 r) (e2 : m.2.2 = μ.2.2) (e3 : ∀ i : Nat, i = 0 ∨ (26 ≤ i ∧ i < 33) ∨ 63 ≤ i → m.2.1 66 i = μ.2.1 66 i) (e4 : ∀ d : Nat, d < 5 → d ≠ k → kR (m.2.1 66) d = kR (μ.2.1 66) d) (e5 : kC m (29 + 2 * k) = kR (m.2.1 66) k ∧ RK (kR (m.2.1 66) k)) : REL m := by
  obtain ⟨v1, v2, v3, v4, -⟩ := h.vs
  refine h.of ha (fun r hr => e1 r (by unfold Qr at hr; omega) (by unfold Qr at hr; omega) (by unfold Qr at hr; omega)) (by rw [e1 1 (by omega) (by omega) (by omega)]) (fun r _ => by rw [e2]) ⟨fun d hd => ?_, by rw [e3 0 (by omega)]; exact v2, v3.fr ⟨by rw [e1 15 (by omega) (by omega) (by omega)], by rw [e1 15 (by omega) (by omega) (by omega)]⟩ (e1 17 (by omega) (by omega) (by omega)) (fun i hi => e3 i (by omega)), v4.fr (e1 24 (by omega) (by omega) (by omega)) (e1 28 (by omega) (by omega) (by omega)) (fun i hi => e3 i (by omega)) (by rw [e3 26 (by omega)]; exact Int.le_refl _), h.va (fun r hr => e1 r (by unfold Qr at hr; omega) (by unfold Qr at hr; omega) (by unfold Qr at hr; omega)) (by rw [e2]) (fun i hi => e3 i (by omega))⟩
  by_cases e : d = k
  · subst e; exact e5
  · rw [e4 d hd e, kC_o (by rw [e2]) (e1 _ (by omega) (by omega) (by omega)) (fun j _ => by rw [e1 _ (by omega) (by omega) (by omega)])]
    exact v1 d hd
def hiS (b : Int32) : Int32 := if b = 0 then 6 else if b = 1 then 999 else 99
theorem N_set (h : REL μ) {a b n : Int32} : PR (f_X11_set 1 a b n μ) (f_X12_set 65 a b n) := by
  refine PR.mk (c_set h.1) (fun m hm => m_set hm) ?_
  have hg := h.ci.1
  have e26 := h.sz.symm
  obtain ⟨l0, l1, l2, l3, l4, l5, l6, l10, l99⟩ := i_lit
  have l999 : (999 : Int32).toInt = 999 := rfl
  refine gwI_of ?_
  unfold f_X11_set
  refine gw_if (hg.t (r := 1) rfl) ?_
  refine gw_nob h (fun hC => ?_) (fun nC => ?_)
  · rw [if_neg (by decide)]
    refine gw_out (fun hb => ?_) (fun nb => ?_)
    · rw [if_pos rfl]
      obtain ⟨c, hc, ea, oc⟩ := hC.at
      subst ea
      refine gw_kid hg hc ?_
      refine gw_j (fun s => s = hiS b) (fun s es => ?_) (fun j hj => ?_)
      · subst es
        refine gw_out (fun hn => ?_) (fun nn => ?_)
        · rw [if_pos rfl]
          -- it changes
          have tc := ict.c hg (ict_c hc)
          have go : ∀ j : Nat, b.toInt = j → gw (some (some (.int (μ.2.1 (29 + 2 * c) (3 + j))), wI μ (29 + 2 * c) (3 + j) n)) (gqI (fun x m => ALL m → gwI (f_X12_set 65 (Int32.ofNat c) b n m) (fun y m2 => y = x ∧ (ALL m2 → REL m2)))) := fun j ej => by
            have hj : j < 3 := by omega
            refine gw_some (gq_I (fun hA => gwI_of ?_))
            unfold f_X12_set
            have r26 : (wI μ (29 + 2 * c) (3 + j) n).2.1 66 = μ.2.1 66 := wI_o _ _ _ _ (by omega)
            refine gw_if hA.t65 ?_
            refine gw_isc (μ := μ) hA.1 (by rw [r26]; exact e26) (fun _ => ?_) (fun q => absurd hC q)
            rw [if_neg (by decide)]
            refine gw_inn (fun _ => ?_) (fun q => absurd hb q)
            rw [if_pos (by decide)]
            refine gw_j (fun s => s = hiS b) (fun s es => ?_) (fun j6 hj6 => ?_)
            · subst es
              refine gw_inn (fun _ => ?_) (fun q => absurd hn q)
              rw [if_pos (by decide)]
              have n5 : ((5 : Int32) * b).toInt = 5 * b.toInt := gx_mul 5 rfl (by omega) (by omega)
              have n1 : ((1 : Int32) + (5 : Int32) * b).toInt = (1 : Int32).toInt + ((5 : Int32) * b).toInt := gx_add (by omega) (by omega)
              have n2 : ((1 : Int32) + (5 : Int32) * b + Int32.ofNat c).toInt = ((1 : Int32) + (5 : Int32) * b).toInt + (Int32.ofNat c).toInt := gx_add (by omega) (by omega)
              have ei : 1 + 5 * j + c = 5 * (3 + j) - 14 + c := by omega
              refine gw_gRa 66 (hA.1.1.c (r := 65) rfl) (hA.1.1.r (by decide)) ?_
              refine gw_aIw (1 + 5 * j + c) (hA.1.1.t (r := 66) rfl) (hA.1.1.l (r := 66) rfl) (by omega) (by omega) ?_
              refine gw_gRa 66 (hA.1.1.c (r := 65) rfl) (hA.1.1.r (by decide)) ?_
              refine gw_sIw (1 + 5 * j + c) (hA.1.1.t (r := 66) rfl) (hA.1.1.l (r := 66) rfl) (by omega) (by omega) ?_
              have k0 := h.kk hc
              have kc1 : kC (wI (wI μ (29 + 2 * c) (3 + j) n) 66 (1 + 5 * j + c) n) (29 + 2 * c) = kud (kC μ (29 + 2 * c)) (3 + j) n := by
                rw [kC_o (μ := wI μ (29 + 2 * c) (3 + j) n) (m := wI (wI μ (29 + 2 * c) (3 + j) n) 66 (1 + 5 * j + c) n) (t := 29 + 2 * c) rfl (wI_o _ _ _ _ (by omega)) (fun i _ => by rw [wI_o _ _ _ _ (by omega)]), kC_w (by omega) (by omega)]
              have kr1 : kR ((wI (wI μ (29 + 2 * c) (3 + j) n) 66 (1 + 5 * j + c) n).2.1 66) c = kud (kR (μ.2.1 66) c) (3 + j) n := by
                rw [kR_w hc hc (by omega) (by omega) ei, if_pos rfl, r26]
              refine gw_some (gq_I ⟨?_, fun hB => ?_⟩)
              · rw [r26]
                have e1 : kC μ (29 + 2 * c) (3 + j) = μ.2.1 (29 + 2 * c) (3 + j) := by unfold kC; rw [if_neg (by omega), if_pos (by omega)]
                have e2 : kR (μ.2.1 66) c (3 + j) = μ.2.1 66 (1 + 5 * j + c) := by
                  unfold kR; rw [if_neg (by omega), if_neg (by omega), if_neg (by omega), if_pos (by omega), ei]
                rw [← e1, ← e2, k0.1]
              · refine h.one hc hB (fun r r1 r2 r3 => by rw [wI_o _ _ _ _ (by omega), wI_o _ _ _ _ r1]) rfl (fun i hi => by rw [wI_n _ _ _ _ (by omega), r26]) (fun d hd hdc => by rw [kR_w hc hd (by omega) (by omega) ei, if_neg hdc, r26]) ⟨by rw [kc1, kr1, k0.1], ?_⟩
                rw [kr1]
                refine k0.2.u ?_
                have hh : n.toInt ≤ (hiS b).toInt := hn.2
                unfold hiS at hh
                obtain rfl | rfl | rfl : j = 0 ∨ j = 1 ∨ j = 2 := by omega
                · rw [if_pos (Int32.toInt_inj.mp (by omega))] at hh
                  exact Or.inr (Or.inl ⟨rfl, by omega, by omega⟩)
                · rw [if_neg (fun e => by rw [e] at ej; omega), if_pos (Int32.toInt_inj.mp (by omega))] at hh
                  exact Or.inr (Or.inr (Or.inl ⟨rfl, by omega, by omega⟩))
                · rw [if_neg (fun e => by rw [e] at ej; omega), if_neg (fun e => by rw [e] at ej; omega)] at hh
                  exact Or.inr (Or.inr (Or.inr (Or.inl ⟨rfl, by omega, by omega⟩)))
            · unfold hiS at hj6
              refine gw_ite (fun g => gw_ite (fun g2 => hj6 _ ?_) (fun g2 => hj6 _ ?_)) (fun g => hj6 _ ?_)
              · rw [if_neg g, if_neg g2]
              · rw [if_neg g, if_pos (Decidable.not_not.mp g2)]
              · rw [if_pos (Decidable.not_not.mp g)]
          refine gw_ite (fun g => gw_ite (fun g2 => ?_) (fun g2 => ?_)) (fun g => ?_)
          · refine gw_gIw tc ?_
            refine gw_pIw tc ?_
            have g' : b.toInt ≠ 0 := fun e => g (Int32.toInt_inj.mp (by omega))
            have g2' : b.toInt ≠ 1 := fun e => g2 (Int32.toInt_inj.mp (by omega))
            exact go 2 (by omega)
          · refine gw_gIw tc ?_
            refine gw_pIw tc ?_
            exact go 1 (by rw [Decidable.not_not.mp g2]; rfl)
          · refine gw_gIw tc ?_
            refine gw_pIw tc ?_
            exact go 0 (by rw [Decidable.not_not.mp g]; rfl)
        · rw [if_neg (by decide)]
          refine gw_some (gq_I (fun hA => gwI_of ?_))
          unfold f_X12_set
          refine gw_if hA.t65 ?_
          refine gw_isc hA.1 e26 (fun _ => ?_) (fun q => absurd hC q)
          rw [if_neg (by decide)]
          refine gw_inn (fun _ => ?_) (fun q => absurd hb q)
          rw [if_pos (by decide)]
          refine gw_j (fun s => s = hiS b) (fun s es => ?_) (fun j6 hj6 => ?_)
          · subst es
            refine gw_inn (fun q => absurd q nn) (fun _ => ?_)
            rw [if_neg (by decide)]
            exact gw_some (gq_I ⟨rfl, fun _ => h⟩)
          · unfold hiS at hj6
            refine gw_ite (fun g => gw_ite (fun g2 => hj6 _ ?_) (fun g2 => hj6 _ ?_)) (fun g => hj6 _ ?_)
            · rw [if_neg g, if_neg g2]
            · rw [if_neg g, if_pos (Decidable.not_not.mp g2)]
            · rw [if_pos (Decidable.not_not.mp g)]
      · unfold hiS at hj
        refine gw_ite (fun g => gw_ite (fun g2 => hj _ ?_) (fun g2 => hj _ ?_)) (fun g => hj _ ?_)
        · rw [if_neg g, if_neg g2]
        · rw [if_neg g, if_pos (Decidable.not_not.mp g2)]
        · rw [if_pos (Decidable.not_not.mp g)]
    · rw [if_neg (by decide)]
      refine gw_some (gq_I (fun hA => gwI_of ?_))
      unfold f_X12_set
      refine gw_if hA.t65 ?_
      refine gw_isc hA.1 e26 (fun _ => ?_) (fun q => absurd hC q)
      rw [if_neg (by decide)]
      refine gw_inn (fun q => absurd q nb) (fun _ => ?_)
      rw [if_neg (by decide)]
      exact gw_some (gq_I ⟨rfl, fun _ => h⟩)
  · rw [if_pos (by decide)]
    refine gw_some (gq_I (fun hA => gwI_of ?_))
    unfold f_X12_set
    refine gw_if hA.t65 ?_
    refine gw_isc hA.1 e26 (fun q => absurd q nC) (fun _ => ?_)
    rw [if_pos rfl]
    exact gw_some (gq_I ⟨rfl, fun _ => h⟩)
theorem kC_r {t j : Nat} {x : Int32} (hj : j < 4) : kC (wI μ (t + 1) j x) t = kud (kC μ t) (8 + j) x := by
  funext i
  unfold kud kC
  by_cases e1 : i = 1
  · rw [if_pos e1, if_neg (show ¬ i = 8 + j by omega), if_pos e1]; rfl
  · rw [if_neg e1]
    by_cases e2 : i < 8
    · rw [if_pos e2, if_neg (show ¬ i = 8 + j by omega), if_neg e1, if_pos e2, wI_o _ _ _ _ (by omega)]
    · rw [if_neg e2]
      by_cases e3 : i < 12
      · rw [if_pos e3]
        by_cases e : i = 8 + j
        · rw [if_pos e, show i - 8 = j by omega, wI_e]
        · rw [if_neg e, wI_n _ _ _ _ (by omega), if_neg e1, if_neg e2, if_pos e3]
      · rw [if_neg e3, if_neg (show ¬ i = 8 + j by omega), if_neg e1, if_neg e2, if_neg e3]
theorem kR_r {c d j i : Nat} {x : Int32} (hc : c < 5) (hd : d < 5) (hj : j < 4) (hi : i = 43 + 4 * c + j) : kR ((wI μ 66 i x).2.1 66) d = (if d = c then kud (kR (μ.2.1 66) c) (8 + j) x else kR (μ.2.1 66) d) := by
  subst hi
  funext k
  have e : (wI μ 66 (43 + 4 * c + j) x).2.1 66 = fun q => if q = 43 + 4 * c + j then x else μ.2.1 66 q := by
    funext q
    by_cases h : q = 43 + 4 * c + j
    · rw [h, wI_e, if_pos rfl]
    · rw [wI_n _ _ _ _ h, if_neg h]
  rw [e]
  by_cases hdc : d = c
  · rw [if_pos hdc, hdc]
    unfold kud kR
    dsimp only
    by_cases h0 : k = 0
    · rw [if_pos h0, if_neg (show ¬ k = 8 + j by omega), if_pos h0]
    · rw [if_neg h0]
      by_cases h1 : k = 1
      · rw [if_pos h1, if_neg (show ¬ k = 8 + j by omega), if_neg h0, if_pos h1, if_neg (by omega)]
      · rw [if_neg h1]
        by_cases h2 : k = 2
        · rw [if_pos h2, if_neg (show ¬ k = 8 + j by omega), if_neg h0, if_neg h1, if_pos h2, if_neg (by omega)]
        · rw [if_neg h2]
          by_cases h8 : k < 8
          · rw [if_pos h8, if_neg (show ¬ k = 8 + j by omega), if_neg h0, if_neg h1, if_neg h2, if_pos h8, if_neg (by omega)]
          · rw [if_neg h8]
            by_cases h12 : k < 12
            · rw [if_pos h12]
              by_cases hk : k = 8 + j
              · rw [if_pos hk, if_pos (by omega)]
              · rw [if_neg hk, if_neg (by omega), if_neg h0, if_neg h1, if_neg h2, if_neg h8, if_pos h12]
            · rw [if_neg h12, if_neg (show ¬ k = 8 + j by omega), if_neg h0, if_neg h1, if_neg h2, if_neg h8, if_neg h12]
  · rw [if_neg hdc]
    unfold kR
    dsimp only
    by_cases h0 : k = 0
    · rw [if_pos h0, if_pos h0]
    · rw [if_neg h0, if_neg h0]
      by_cases h1 : k = 1
      · rw [if_pos h1, if_pos h1, if_neg (by omega)]
      · rw [if_neg h1, if_neg h1]
        by_cases h2 : k = 2
        · rw [if_pos h2, if_pos h2, if_neg (by omega)]
        · rw [if_neg h2, if_neg h2]
          by_cases h8 : k < 8
          · rw [if_pos h8, if_pos h8, if_neg (by omega)]
          · rw [if_neg h8, if_neg h8]
            by_cases h12 : k < 12
            · rw [if_pos h12, if_pos h12, if_neg (by omega)]
            · rw [if_neg h12, if_neg h12]
theorem RK.r {k : Nat → Int32} (h : RK k) {j : Nat} {x : Int32} (h0 : 0 ≤ x.toInt ∧ x.toInt ≤ 9) : RK (kud k (8 + j) x) := by
  obtain ⟨⟨h1, h2, h3⟩, ⟨h4, h5, h6, h7⟩, h8⟩ := h
  unfold RK kud
  refine ⟨⟨?_, ?_, ?_⟩, ⟨?_, ?_, ?_, ?_⟩, fun i hi => ?_⟩
  · rw [if_neg (by omega)]; exact h1
  · rw [if_neg (by omega)]; exact h2
  · rw [if_neg (by omega)]; exact h3
  · rw [if_neg (by omega)]; exact h4
  · rw [if_neg (by omega)]; exact h5
  · rw [if_neg (by omega)]; exact h6
  · rw [if_neg (by omega)]; exact h7
  · split
    · exact h0
    · exact h8 i hi
theorem N_row (h : REL μ) {a b n : Int32} : PR (f_X11_row 1 a b n μ) (f_X12_row 65 a b n) := by
  refine PR.mk2 (L_row h.1) ?_
  have hg := h.ci.1
  have e26 := h.sz.symm
  obtain ⟨l0, l1, l2, l3, l4, l5, l6, l10, l99⟩ := i_lit
  have l9 : (9 : Int32).toInt = 9 := rfl
  have l43 : (43 : Int32).toInt = 43 := rfl
  refine gwI_of ?_
  unfold f_X11_row
  -- a refusal stays one
  have no : ∀ (y : Int32), ¬ (isC μ a ∧ ((0 : Int32).toInt ≤ b.toInt ∧ b.toInt ≤ (3 : Int32).toInt) ∧ ((0 : Int32).toInt ≤ n.toInt ∧ n.toInt ≤ (9 : Int32).toInt) ∧ μ.2.1 66 (33 + a.toInt.toNat) = 6) → gw (some (some (.int y), μ)) (gqI (fun x m => gwI (f_X12_row 65 a b n m) (fun _ m2 => ALL m2 → REL m2))) := fun y hno => by
    refine gw_some (gq_I (gwI_of ?_))
    unfold f_X12_row
    refine gw_if h.1.t65 ?_
    refine gw_isc h.mi e26 (fun hC => ?_) (fun _ => by rw [if_pos rfl]; exact gw_some (gq_I (fun _ => h)))
    rw [if_neg (by decide)]
    refine gw_inn (fun hb => ?_) (fun _ => by rw [if_neg (by decide)]; exact gw_some (gq_I (fun _ => h)))
    rw [if_pos (by decide)]
    refine gw_inn (fun hn => ?_) (fun _ => by rw [if_neg (by decide)]; exact gw_some (gq_I (fun _ => h)))
    rw [if_pos (by decide)]
    obtain ⟨c, hc, ea, oc⟩ := hC.at
    subst ea
    refine gw_rd h.mi hc 33 rfl (by decide) ?_
    refine gw_ite (fun g => ?_) (fun _ => gw_some (gq_I (fun _ => h)))
    exact absurd ⟨hC, hb, hn, by rw [oc, Int.toNat_natCast]; exact g⟩ hno
  refine gw_if (hg.t (r := 1) rfl) ?_
  refine gw_nob h (fun hC => ?_) (fun nC => by rw [if_pos (by decide)]; exact no _ (fun q => nC q.1))
  rw [if_neg (by decide)]
  refine gw_out (fun hb => ?_) (fun nb => by rw [if_neg (by decide)]; exact no _ (fun q => nb q.2.1))
  rw [if_pos rfl]
  refine gw_out (fun hn => ?_) (fun nn => by rw [if_neg (by decide)]; exact no _ (fun q => nn q.2.2.1))
  rw [if_pos rfl]
  obtain ⟨c, hc, ea, oc⟩ := hC.at
  subst ea
  refine gw_kid hg hc ?_
  have tc := ict.c hg (ict_c hc)
  refine gw_gR tc (fun q eq => ?_)
  have hq : kid q := by rw [eq]; exact h.ci.2.2.2.1 _ (Or.inl (ict_c hc))
  refine gw_io (by rcases kid.t hg hq with q | q | q | q | q | q | q <;> rw [q] <;> decide) (fun x ix => ?_)
  have k15 := kid15 hg hq ix
  have kd := h.1.kd c hc
  rw [← eq] at kd
  refine gw_ite (fun g => ?_) (fun g => ?_)
  · obtain ⟨j, hj, ej⟩ : ∃ j : Nat, j < 4 ∧ b.toInt = j := ⟨b.toInt.toNat, by omega, by omega⟩
    have q14 : q = 14 := by
      rcases k15 with ⟨-, e⟩ | ⟨e, -⟩
      · exact e
      · exact absurd (Int32.toInt_inj.mp (by omega)) g
    refine gw_gRa (29 + 2 * c + 1) tc (ict.row hg (ict_c hc)) ?_
    refine gw_aIw j (ict.rt hg (ict_c hc)) (ict.rl hg (ict_c hc)) ej hj ?_
    refine gw_gRa (29 + 2 * c + 1) tc (ict.row hg (ict_c hc)) ?_
    refine gw_sIw j (ict.rt hg (ict_c hc)) (ict.rl hg (ict_c hc)) ej hj ?_
    have r26 : (wI μ (29 + 2 * c + 1) j n).2.1 66 = μ.2.1 66 := wI_o _ _ _ _ (by omega)
    have hM : MI (wI μ (29 + 2 * c + 1) j n) := ⟨hg, by rw [r26]; exact h.mi.2⟩
    refine gw_some (gq_I (gwI_of ?_))
    unfold f_X12_row
    refine gw_if (hM.1.t (r := 65) rfl) ?_
    refine gw_isc (μ := μ) hM (by rw [r26]; exact e26) (fun _ => ?_) (fun q => absurd hC q)
    rw [if_neg (by decide)]
    refine gw_inn (fun _ => ?_) (fun q => absurd hb q)
    rw [if_pos (by decide)]
    refine gw_inn (fun _ => ?_) (fun q => absurd hn q)
    rw [if_pos (by decide)]
    refine gw_rd hM hc 33 rfl (by decide) ?_
    rw [r26]
    refine gw_ite (fun g => ?_) (fun g6 => ?_)
    · have n1 : ((4 : Int32) * Int32.ofNat c).toInt = 4 * (Int32.ofNat c).toInt := gx_mul 4 rfl (by omega) (by omega)
      have n2 : ((43 : Int32) + (4 : Int32) * Int32.ofNat c).toInt = (43 : Int32).toInt + ((4 : Int32) * Int32.ofNat c).toInt := gx_add (by omega) (by omega)
      have n3 : ((43 : Int32) + (4 : Int32) * Int32.ofNat c + b).toInt = ((43 : Int32) + (4 : Int32) * Int32.ofNat c).toInt + b.toInt := gx_add (by omega) (by omega)
      refine gw_gRa 66 (hM.1.c (r := 65) rfl) (hM.1.r (by decide)) ?_
      refine gw_aIw (43 + 4 * c + j) (hM.1.t (r := 66) rfl) (hM.1.l (r := 66) rfl) (by omega) (by omega) ?_
      refine gw_gRa 66 (hM.1.c (r := 65) rfl) (hM.1.r (by decide)) ?_
      refine gw_sIw (43 + 4 * c + j) (hM.1.t (r := 66) rfl) (hM.1.l (r := 66) rfl) (by omega) (by omega) ?_
      refine gw_some (gq_I (fun hB => ?_))
      have k0 := h.kk hc
      have kr1 : kR ((wI (wI μ (29 + 2 * c + 1) j n) 66 (43 + 4 * c + j) n).2.1 66) c = kud (kR (μ.2.1 66) c) (8 + j) n := by
        rw [kR_r hc hc hj rfl, if_pos rfl, r26]
      refine h.one hc hB (fun r r1 r2 r3 => by rw [wI_o _ _ _ _ (by omega), wI_o _ _ _ _ r2]) rfl (fun i hi => by rw [wI_n _ _ _ _ (by omega), r26]) (fun d hd hdc => by rw [kR_r hc hd hj rfl, if_neg hdc, r26]) ⟨?_, by rw [kr1]; exact k0.2.r ⟨by omega, by omega⟩⟩
      rw [kr1, kC_o (μ := wI μ (29 + 2 * c + 1) j n) (m := wI (wI μ (29 + 2 * c + 1) j n) 66 (43 + 4 * c + j) n) (t := 29 + 2 * c) rfl (wI_o _ _ _ _ (by omega)) (fun i _ => by rw [wI_o _ _ _ _ (by omega)]), kC_r hj, k0.1]
    · exact absurd (Int32.toInt_inj.mp (by omega)) g6
  · refine no _ (fun z => ?_)
    have z4 := z.2.2.2
    rw [oc, Int.toNat_natCast] at z4
    rw [z4] at kd
    rcases k15 with ⟨e, -⟩ | ⟨-, e⟩
    · exact g (fun q => by rw [q] at e; omega)
    · omega
end
