def PM (A : Nat) (m : gm_M) (t : Nat) : Prop := FB m ∧ A < 5 ∧ (m.2.1 65 5).toInt = A ∧ (0 ≤ mn A m ∧ mn A m ≤ sp m) ∧ 3 * (t : Int) ≤ sp m ∧ ∃ tp : Nat → Nat, tp 0 = 0 ∧ (∀ i : Nat, (i : Int) < mn A m → wst (m.2.1 66 (225 + 140 * A + i)) (tp i) (tp (i + 1))) ∧ tp (mn A m).toNat = t
def pf (A : Nat) (μ m : gm_M) : Prop := m.1 = μ.1 ∧ m.2.2 = μ.2.2 ∧ (∀ r : Nat, r ≠ 65 → r ≠ 66 → m.2.1 r = μ.2.1 r) ∧ (∀ k : Nat, k ≠ 210 + A → k ≠ 215 + A → k ≠ 220 + A → ¬ (225 + 140 * A ≤ k ∧ k < 365 + 140 * A) → m.2.1 66 k = μ.2.1 66 k) ∧ ∀ j : Nat, j ≠ 6 → j ≠ 8 → j ≠ 9 → m.2.1 65 j = μ.2.1 65 j
def po (A : Nat) (μ m : gm_M) : Prop := pf A μ m ∧ sp μ - mn A μ ≤ sp m - mn A m ∧ sp μ ≤ sp m ∧ (wr m = 0 → wr μ = 0)
def FP (A t : Nat) (μ m : gm_M) : Prop := po A μ m ∧ op m = op μ ∧ ∃ t' : Nat, PM A m t' ∧ (wr m = 0 → t' = t + 1 ∧ sp μ + 3 ≤ sp m)
theorem pf.refl (A : Nat) (μ : gm_M) : pf A μ μ := ⟨rfl, rfl, fun _ _ _ => rfl, fun _ _ _ _ _ => rfl, fun _ _ _ _ => rfl⟩
theorem pf.trans {A : Nat} {a b c : gm_M} (h : pf A a b) (g : pf A b c) : pf A a c := by
  obtain ⟨h1, h2, h3, h4, h5⟩ := h
  obtain ⟨g1, g2, g3, g4, g5⟩ := g
  exact ⟨g1.trans h1, g2.trans h2, fun r r1 r2 => (g3 r r1 r2).trans (h3 r r1 r2), fun k k1 k2 k3 k4 => (g4 k k1 k2 k3 k4).trans (h4 k k1 k2 k3 k4), fun j j1 j2 j3 => (g5 j j1 j2 j3).trans (h5 j j1 j2 j3)⟩
theorem po.refl (A : Nat) (μ : gm_M) : po A μ μ := ⟨pf.refl A μ, Int.le_refl _, Int.le_refl _, fun h => h⟩
theorem po.trans {A : Nat} {a b c : gm_M} (h : po A a b) (g : po A b c) : po A a c := by
  obtain ⟨h1, h2, h3, h4⟩ := h
  obtain ⟨g1, g2, g3, g4⟩ := g
  exact ⟨h1.trans g1, by omega, by omega, fun q => h4 (g4 q)⟩
theorem PM.g {A t : Nat} {m : gm_M} (p : PM A m t) : gS m := p.1.1
theorem PM.q {A t : Nat} {μ m : gm_M} (p : PM A μ t) (k : fq μ m) : PM A m t ∧ pf A μ m ∧ mn A m = mn A μ ∧ op m = op μ ∧ po A μ m := by
  have hf := k.fb p.1
  obtain ⟨f, a5, ea, b1, b2, tp, t0, t1, t2⟩ := p
  obtain ⟨⟨k1, k2, k3, k4⟩, k5, k6, k7⟩ := k
  have e66 : m.2.1 66 = μ.2.1 66 := k3 66 (by decide)
  have em : mn A m = mn A μ := by unfold mn; rw [e66]
  have eo : op m = op μ := by unfold op; rw [k4 9 (by decide) (by decide)]
  have hp : pf A μ m := ⟨k1, k2, fun r r1 _ => k3 r r1, fun k _ _ _ _ => by rw [e66], fun j j1 j2 _ => k4 j j1 j2⟩
  refine ⟨⟨hf, a5, by rw [k4 5 (by decide) (by decide)]; exact ea, by rw [em]; omega, by omega, tp, t0, by rw [em, e66]; exact t1, by rw [em]; exact t2⟩, hp, em, eo, hp, by omega, by omega, k7⟩
/-- a word of its own is set -/
theorem PM.w {A t : Nat} {μ : gm_M} (p : PM A μ t) {j : Nat} (hj : j = 9) (x : Int32) : PM A (wI μ 65 j x) t ∧ po A μ (wI μ 65 j x) ∧ sp (wI μ 65 j x) = sp μ ∧ wr (wI μ 65 j x) = wr μ ∧ op (wI μ 65 j x) = x.toInt ∧ mn A (wI μ 65 j x) = mn A μ := by
  subst hj
  obtain ⟨⟨f1, f2, f3⟩, a5, ea, b1, b2, tp, t0, t1, t2⟩ := p
  have e66 : (wI μ 65 9 x).2.1 66 = μ.2.1 66 := wI_o _ _ _ _ (by decide)
  have n : ∀ j : Nat, j ≠ 9 → (wI μ 65 9 x).2.1 65 j = μ.2.1 65 j := fun j hj => wI_n _ _ _ _ hj
  have em : mn A (wI μ 65 9 x) = mn A μ := by unfold mn; rw [e66]
  have es : sp (wI μ 65 9 x) = sp μ := by unfold sp; rw [n 6 (by decide)]
  have ee : en (wI μ 65 9 x) = en μ := by unfold en; rw [n 7 (by decide)]
  have ew : wr (wI μ 65 9 x) = wr μ := by unfold wr; rw [n 8 (by decide)]
  refine ⟨⟨⟨f1, by rw [es, ee]; exact f2, by rw [ew]; exact f3⟩, a5, by rw [n 5 (by decide)]; exact ea, by rw [em, es]; exact b1, by rw [es]; exact b2, tp, t0, by rw [em, e66]; exact t1, by rw [em]; exact t2⟩, ⟨⟨rfl, rfl, fun r r1 _ => wI_o _ _ _ _ r1, fun k _ _ _ _ => by rw [e66], fun j _ _ j9 => n j j9⟩, by omega, by omega, fun q => by rw [← ew]; exact q⟩, es, ew, by unfold op; rw [wI_e], em⟩
theorem PM.e {A t t' : Nat} {μ : gm_M} {x : Int32} (p : PM A μ t) (w : wst x t t') (h1 : mn A μ + 1 ≤ sp μ) (h3 : 3 * (t' : Int) ≤ sp μ) : PM A (wI (wI μ 66 (225 + 140 * A + (mn A μ).toNat) x) 66 (220 + A) (μ.2.1 66 (220 + A) + 1)) t' ∧ mn A (wI (wI μ 66 (225 + 140 * A + (mn A μ).toNat) x) 66 (220 + A) (μ.2.1 66 (220 + A) + 1)) = mn A μ + 1 ∧ pf A μ (wI (wI μ 66 (225 + 140 * A + (mn A μ).toNat) x) 66 (220 + A) (μ.2.1 66 (220 + A) + 1)) ∧ (wI (wI μ 66 (225 + 140 * A + (mn A μ).toNat) x) 66 (220 + A) (μ.2.1 66 (220 + A) + 1)).2.1 65 = μ.2.1 65 := by
  obtain ⟨⟨f1, f2, f3⟩, a5, ea, b1, b2, tp, t0, t1, t2⟩ := p
  have l1 : (1 : Int32).toInt = 1 := rfl
  have dm : (μ.2.1 66 (220 + A)).toInt = mn A μ := rfl
  have n1 : (μ.2.1 66 (220 + A) + 1).toInt = (μ.2.1 66 (220 + A)).toInt + (1 : Int32).toInt := gx_add (by omega) (by omega)
  generalize hM : wI (wI μ 66 (225 + 140 * A + (mn A μ).toNat) x) 66 (220 + A) (μ.2.1 66 (220 + A) + 1) = M
  have e65 : M.2.1 65 = μ.2.1 65 := by rw [← hM, wI_o _ _ _ _ (by decide), wI_o _ _ _ _ (by decide)]
  have e6 : ∀ k : Nat, k ≠ 220 + A → k ≠ 225 + 140 * A + (mn A μ).toNat → M.2.1 66 k = μ.2.1 66 k := fun k k1 k2 => by rw [← hM, wI_n _ _ _ _ k1, wI_n _ _ _ _ k2]
  have ex : M.2.1 66 (225 + 140 * A + (mn A μ).toNat) = x := by rw [← hM, wI_n _ _ _ _ (by omega), wI_e]
  have em : mn A M = mn A μ + 1 := by
    have : M.2.1 66 (220 + A) = μ.2.1 66 (220 + A) + 1 := by rw [← hM, wI_e]
    unfold mn; rw [this, n1]; rfl
  have es : sp M = sp μ := by unfold sp; rw [e65]
  have ee : en M = en μ := by unfold en; rw [e65]
  have ew : wr M = wr μ := by unfold wr; rw [e65]
  have M1 : M.1 = μ.1 := by rw [← hM]; rfl
  have M2 : M.2.2 = μ.2.2 := by rw [← hM]; rfl
  have Mo : ∀ r : Nat, r ≠ 66 → M.2.1 r = μ.2.1 r := fun r hr => by rw [← hM, wI_o _ _ _ _ hr, wI_o _ _ _ _ hr]
  clear hM
  refine ⟨⟨⟨f1.same M1 M2, by rw [es, ee]; exact f2, by rw [ew]; exact f3⟩, a5, by rw [e65]; exact ea, by omega, by omega, fun i => if i = (mn A μ).toNat + 1 then t' else tp i, ?_, fun i hi => ?_, ?_⟩, em, ⟨M1, M2, fun r _ r2 => Mo r r2, fun k k1 k2 k3 k4 => e6 k k3 (by omega), fun j _ _ _ => by rw [e65]⟩, e65⟩
  · show (if 0 = (mn A μ).toNat + 1 then t' else tp 0) = 0
    rw [if_neg (by omega)]; exact t0
  · rw [em] at hi
    show wst (M.2.1 66 (225 + 140 * A + i)) (if i = (mn A μ).toNat + 1 then t' else tp i) (if i + 1 = (mn A μ).toNat + 1 then t' else tp (i + 1))
    rw [if_neg (show ¬ i = (mn A μ).toNat + 1 by omega)]
    by_cases e : i = (mn A μ).toNat
    · subst e
      rw [if_pos rfl, ex, t2]; exact w
    · rw [if_neg (by omega), e6 _ (by omega) (by omega)]
      exact t1 i (by omega)
  · rw [em]
    show (if (mn A μ + 1).toNat = (mn A μ).toNat + 1 then t' else tp _) = t'
    rw [if_pos (by omega)]
theorem s_emits {A t : Nat} {μ : gm_M} (p : PM A μ t) {x : Int32} : gwV (f_X12_emits 65 x μ) (fun m => (wr μ = 1 ∧ m = μ) ∨ (wr μ = 0 ∧ m = wI (wI μ 66 (225 + 140 * A + (mn A μ).toNat) x) 66 (220 + A) (μ.2.1 66 (220 + A) + 1))) := by
  obtain ⟨⟨hg, hb, hw⟩, a5, ea, b1, b2, -⟩ := p
  refine gwV_of ?_
  unfold f_X12_emits
  have l0 : (0 : Int32).toInt = 0 := rfl
  have l140 : (140 : Int32).toInt = 140 := rfl
  have l220 : (220 : Int32).toInt = 220 := rfl
  have l225 : (225 : Int32).toInt = 225 := rfl
  have d8 : (μ.2.1 65 8).toInt = wr μ := rfl
  have dm : (μ.2.1 66 (220 + A)).toInt = mn A μ := rfl
  refine gw_gIw (hg.c (r := 65) rfl) ?_
  refine gw_ne (fun g => gw_some (gq_V (Or.inl ⟨by omega, rfl⟩))) (fun g => ?_)
  have n1 : ((220 : Int32) + μ.2.1 65 5).toInt = (220 : Int32).toInt + (μ.2.1 65 5).toInt := gx_add (by omega) (by omega)
  have n2 : ((140 : Int32) * μ.2.1 65 5).toInt = 140 * (μ.2.1 65 5).toInt := gx_mul 140 rfl (by omega) (by omega)
  have n3 : ((225 : Int32) + (140 : Int32) * μ.2.1 65 5).toInt = (225 : Int32).toInt + ((140 : Int32) * μ.2.1 65 5).toInt := gx_add (by omega) (by omega)
  have n4 : ((225 : Int32) + (140 : Int32) * μ.2.1 65 5 + μ.2.1 66 (220 + A)).toInt = ((225 : Int32) + (140 : Int32) * μ.2.1 65 5).toInt + (μ.2.1 66 (220 + A)).toInt := gx_add (by omega) (by omega)
  refine gw_gRa 66 (hg.c (r := 65) rfl) (hg.r (by decide)) ?_
  refine gw_gIw (hg.c (r := 65) rfl) ?_
  refine gw_gRa 66 (hg.c (r := 65) rfl) (hg.r (by decide)) ?_
  refine gw_gIw (hg.c (r := 65) rfl) ?_
  refine gw_aIw (220 + A) (hg.t (r := 66) rfl) (hg.l (r := 66) rfl) (by omega) (by omega) ?_
  refine gw_sIw (225 + 140 * A + (mn A μ).toNat) (hg.t (r := 66) rfl) (hg.l (r := 66) rfl) (by omega) (by omega) ?_
  refine gw_gRa 66 (hg.c (r := 65) rfl) (hg.r (by decide)) ?_
  refine gw_gIw (hg.c (r := 65) rfl) ?_
  rw [wI_o _ _ _ _ (by decide)]
  refine gw_aIw (220 + A) (hg.t (r := 66) rfl) (hg.l (r := 66) rfl) (by omega) (by omega) ?_
  rw [wI_n _ _ _ _ (by omega)]
  refine gw_sIw (220 + A) (hg.t (r := 66) rfl) (hg.l (r := 66) rfl) (by omega) (by omega) ?_
  exact gw_some (gq_V (Or.inr ⟨by omega, rfl⟩))
/-- a step comes behind what was read -/
theorem s_emit {A t t' : Nat} {ν μ : gm_M} (p : PM A μ t) (k : po A ν μ) {x : Int32} (w : wr μ = 0 → wst x t t' ∧ sp ν - mn A ν + 1 ≤ sp μ - mn A μ ∧ 3 * (t' : Int) ≤ sp μ) (h0 : sp ν - mn A ν ≥ 0) : gwV (f_X12_emits 65 x μ) (fun m => po A ν m ∧ op m = op μ ∧ sp m = sp μ ∧ wr m = wr μ ∧ ∃ u : Nat, PM A m u ∧ (wr m = 0 → u = t')) := by
  refine gwV_mono (s_emits p) (fun m hm => ?_)
  rcases hm with ⟨h1, rfl⟩ | ⟨h1, rfl⟩
  · exact ⟨k, rfl, rfl, rfl, t, p, fun q => by omega⟩
  · obtain ⟨w1, w2, w3⟩ := w h1
    obtain ⟨e1, e2, e3, e4⟩ := p.e w1 (by omega) w3
    have es : ∀ m : gm_M, m.2.1 65 = μ.2.1 65 → sp m = sp μ ∧ op m = op μ ∧ wr m = wr μ := fun m q => ⟨by unfold sp; rw [q], by unfold op; rw [q], by unfold wr; rw [q]⟩
    obtain ⟨s1, s2, s3⟩ := es _ e4
    obtain ⟨k1, k2, k3, k4⟩ := k
    exact ⟨⟨k1.trans e3, by omega, by omega, fun q => k4 (by omega)⟩, s2, s1, s3, t', e1, fun _ => rfl⟩
theorem PM.t20 {A t : Nat} {m : gm_M} (p : PM A m t) : t ≤ 33 := by
  have := p.1.2.1
  have := p.2.2.2.2.1
  omega
theorem fq.st {μ b : gm_M} (h : fq μ b) {x : Int32} (h1 : sp b ≤ x.toInt) (h2 : x.toInt ≤ en μ) : fq μ (wI b 65 6 x) ∧ sp (wI b 65 6 x) = x.toInt ∧ wr (wI b 65 6 x) = wr b := by
  have e6 : sp (wI b 65 6 x) = x.toInt := by unfold sp; rw [wI_e]
  have e8 : wr (wI b 65 6 x) = wr b := by unfold wr; rw [wI_n _ _ _ _ (by decide)]
  obtain ⟨⟨h1, h2, h3, h4⟩, h5, h6, h7⟩ := h
  exact ⟨⟨⟨h1, h2, fun r hr => (wI_o _ _ _ _ hr).trans (h3 r hr), fun j j1 j2 => (wI_n _ _ _ _ j1).trans (h4 j j1 j2)⟩, by rw [e6]; omega, by rw [e8]; exact h6, by rw [e8]; exact h7⟩, e6, e8⟩
