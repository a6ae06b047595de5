/-! the two sides agree on all that is seen -/
def VK (c : Nat) (μ : gm_M) (σ : Nat → Int32) : Prop := ∀ k : Nat, k < 5 → kC μ (c + 2 * k) = kR σ k ∧ RK (kR σ k)
def VT (s : Nat) (μ : gm_M) (σ : Nat → Int32) : Prop := μ.2.1 s 4 = σ 31 ∧ μ.2.1 s 5 = σ 27 ∧ ∀ i : Nat, (i : Int) < (σ 31).toInt → μ.2.1 (s + 2) i = σ (110 + i) ∧ 0 ≤ (σ (110 + i)).toInt ∧ (σ (110 + i)).toInt ≤ 127
def VR (s : Nat) (μ : gm_M) (σ : Nat → Int32) : Prop := (∀ i : Nat, i < 5 → (i : Int) < (σ 28).toInt → μ.2.1 (s + 9) (3 * i) = σ (63 + i) ∧ μ.2.1 (s + 9) (3 * i + 1) = σ (68 + i) ∧ μ.2.1 (s + 9) (3 * i + 2) = σ (73 + i) ∧ (0 ≤ (σ (73 + i)).toInt ∧ (σ (73 + i)).toInt ≤ 20) ∧ (σ (63 + i)).toInt < (σ 26).toInt) ∧ ∀ i : Nat, i < 8 → (i : Int) < (σ 30).toInt → μ.2.1 (s + 13) (3 * i) = σ (94 + i) ∧ μ.2.1 (s + 13) (3 * i + 1) = σ (102 + i) ∧ (σ (94 + i)).toInt < (σ 26).toInt
def VA (s : Nat) (μ : gm_M) (σ : Nat → Int32) : Prop := (∃ (w sw : Int32) (P : List (List Int32 × Int32)), HR σ w sw P ∧ AFC μ (μ.2.2 s 6) w sw (fl P) ∧ (0 ≤ w.toInt ∧ w.toInt ≤ 99) ∧ 0 ≤ sw.toInt ∧ sw.toInt ≤ 99) ∧ (σ 32).toInt < (σ 27).toInt
def VS (s c : Nat) (μ : gm_M) (σ : Nat → Int32) : Prop := VK c μ σ ∧ (0 ≤ (σ 0).toInt ∧ (σ 0).toInt ≤ 9999) ∧ VT s μ σ ∧ VR s μ σ ∧ VA s μ σ
def REL (μ : gm_M) : Prop := ALL μ ∧ KD μ ∧ VS 15 29 μ (μ.2.1 66) ∧ (μ.2.1 1 3 = 1 → VS 39 53 μ (μ.2.1 67))
theorem VK.fr {c : Nat} {μ m : gm_M} {σ τ : Nat → Int32} (h : VK c μ σ) (e1 : ∀ k : Nat, k < 5 → kC m (c + 2 * k) = kC μ (c + 2 * k)) (e2 : ∀ i : Nat, (1 ≤ i ∧ i < 26) ∨ (33 ≤ i ∧ i < 63) → τ i = σ i) : VK c m τ := fun k hk => by
  have e : kR τ k = kR σ k := by
    funext j
    unfold kR
    by_cases h0 : j = 0
    · rw [if_pos h0, if_pos h0]
    · rw [if_neg h0, if_neg h0]
      by_cases h1 : j = 1
      · rw [if_pos h1, if_pos h1, e2 _ (by omega)]
      · rw [if_neg h1, if_neg h1]
        by_cases h2 : j = 2
        · rw [if_pos h2, if_pos h2, e2 _ (by omega)]
        · rw [if_neg h2, if_neg h2]
          by_cases h8 : j < 8
          · rw [if_pos h8, if_pos h8, e2 _ (by omega)]
          · rw [if_neg h8, if_neg h8]
            by_cases h12 : j < 12
            · rw [if_pos h12, if_pos h12, e2 _ (by omega)]
            · rw [if_neg h12, if_neg h12]
  rw [e1 k hk, e]
  exact h k hk
theorem VT.fr {s : Nat} {μ m : gm_M} {σ τ : Nat → Int32} (h : VT s μ σ) (e1 : m.2.1 s 4 = μ.2.1 s 4 ∧ m.2.1 s 5 = μ.2.1 s 5) (e2 : m.2.1 (s + 2) = μ.2.1 (s + 2)) (e3 : ∀ i : Nat, i = 27 ∨ i = 31 ∨ 110 ≤ i → τ i = σ i) : VT s m τ := by
  obtain ⟨h1, h2, h3⟩ := h
  refine ⟨by rw [e1.1, e3 31 (by omega)]; exact h1, by rw [e1.2, e3 27 (by omega)]; exact h2, fun i hi => ?_⟩
  rw [e3 31 (by omega)] at hi
  rw [e2, e3 _ (by omega)]
  exact h3 i hi
theorem VR.fr {s : Nat} {μ m : gm_M} {σ τ : Nat → Int32} (h : VR s μ σ) (e1 : m.2.1 (s + 9) = μ.2.1 (s + 9)) (e2 : m.2.1 (s + 13) = μ.2.1 (s + 13)) (e3 : ∀ i : Nat, i = 28 ∨ i = 30 ∨ (63 ≤ i ∧ i < 78) ∨ (94 ≤ i ∧ i < 110) → τ i = σ i) (e26 : (σ 26).toInt ≤ (τ 26).toInt) : VR s m τ := by
  obtain ⟨h1, h2⟩ := h
  refine ⟨fun i h5 hi => ?_, fun i h8 hi => ?_⟩
  · rw [e3 28 (by omega)] at hi
    rw [e1, e3 (63 + i) (by omega), e3 (68 + i) (by omega), e3 (73 + i) (by omega)]
    obtain ⟨a1, a2, a3, a4, a5⟩ := h1 i h5 hi
    exact ⟨a1, a2, a3, a4, by omega⟩
  · rw [e3 30 (by omega)] at hi
    rw [e2, e3 (94 + i) (by omega), e3 (102 + i) (by omega)]
    obtain ⟨a1, a2, a3⟩ := h2 i h8 hi
    exact ⟨a1, a2, by omega⟩
theorem VA.fr {s : Nat} {μ m : gm_M} {σ τ : Nat → Int32} (h : VA s μ σ) (e1 : m.2.2 s 6 = μ.2.2 s 6) (e2 : ∀ d : Nat, d < 4 → m.2.1 (μ.2.2 s 6 + d) = μ.2.1 (μ.2.2 s 6 + d)) (e3 : ∀ i : Nat, i = 27 ∨ i = 32 ∨ 210 ≤ i → τ i = σ i) : VA s m τ := by
  obtain ⟨⟨w, sw, P, h1, h2, h3⟩, h4⟩ := h
  refine ⟨⟨w, sw, P, h1.of (fun k hk => e3 k (by omega)), ?_, h3⟩, by rw [e3 32 (by omega), e3 27 (by omega)]; exact h4⟩
  rw [e1]
  unfold AFC
  have a0 := e2 0 (by omega)
  rw [Nat.add_zero] at a0
  rw [a0, e2 1 (by omega), e2 2 (by omega), e2 3 (by omega)]
  exact h2
section
variable {μ : gm_M}
theorem REL.a (h : REL μ) : ALL μ := h.1
theorem REL.ci (h : REL μ) : CI μ := h.1.2.2.1
theorem REL.mi (h : REL μ) : MI μ := h.1.1
theorem REL.vs (h : REL μ) : VS 15 29 μ (μ.2.1 66) := h.2.2.1
theorem REL.aw (h : REL μ) : AfW μ (μ.2.2 15 6) := h.ci.2.1.2.2.2.1
theorem REL.aw2 (h : REL μ) : AfW μ (μ.2.2 39 6) := h.ci.2.2.1.2.2.2.1
theorem REL.ex (h : REL μ) : ∃ (w sw : Int32) (P : List (List Int32 × Int32)), (CW w P μ ∧ MW w sw P μ ∧ μ.2.1 (μ.2.2 15 6) 0 = w ∧ μ.2.1 (μ.2.2 15 6) 1 = sw) ∧ (0 ≤ w.toInt ∧ w.toInt ≤ 99) ∧ 0 ≤ sw.toInt ∧ sw.toInt ≤ 99 := by
  obtain ⟨-, -, -, -, ⟨w, sw, P, h1, h2, h3⟩, -⟩ := h.vs
  exact ⟨w, sw, P, ⟨⟨h.ci, h.2.1, h1.1, sw, h2⟩, ⟨h.mi, h1⟩, h2.1.1, h2.1.2⟩, h3⟩
theorem REL.sz (h : REL μ) : μ.2.1 15 1 = μ.2.1 66 26 := h.1.2.2.2.1.1.2.1
theorem REL.mn (h : REL μ) : μ.2.1 15 0 = μ.2.1 66 0 := h.1.2.2.2.1.1.1
theorem REL.kk (h : REL μ) {k : Nat} (hk : k < 5) : kC μ (29 + 2 * k) = kR (μ.2.1 66) k ∧ RK (kR (μ.2.1 66) k) := h.vs.1 k hk
theorem VS.fr {s c : Nat} {m : gm_M} {σ τ : Nat → Int32} (h : VS s c μ σ) (hs : (s = 15 ∧ c = 29) ∨ (s = 39 ∧ c = 53)) (ha : AfW μ (μ.2.2 s 6)) (e1 : ∀ r : Nat, (15 ≤ r ∧ r < 63) ∨ 75 ≤ r → m.2.1 r = μ.2.1 r) (e2 : ∀ r : Nat, r < 63 → m.2.2 r = μ.2.2 r) (e3 : τ = σ) : VS s c m τ := by
  subst e3
  have p0 := ha.1
  obtain ⟨h1, h2, h3, h4, h5⟩ := h
  refine ⟨h1.fr (fun k hk => kC_o (by rw [e2 _ (by omega)]) (e1 _ (by omega)) (fun j _ => by rw [e1 _ (by omega)])) (fun _ _ => rfl), h2, h3.fr ⟨by rw [e1 s (by omega)], by rw [e1 s (by omega)]⟩ (e1 _ (by omega)) (fun _ _ => rfl), h4.fr (e1 _ (by omega)) (e1 _ (by omega)) (fun _ _ => rfl) (Int.le_refl _), h5.fr (by rw [e2 s (by omega)]) (fun d hd => e1 _ (by omega)) (fun _ _ => rfl)⟩
theorem REL.kc {m : gm_M} (h : REL μ) (g : kc μ m) : REL m := by
  have rw1 : ∀ r : Nat, (r ≠ 1 ∧ r ≠ 5 ∧ r ≠ 6 ∧ r ≠ 7 ∧ r ≠ 63 ∧ r ≠ 64) → m.2.1 r = μ.2.1 r := fun r hr => g.row hr
  have e66 := rw1 66 (by decide)
  have e67 := rw1 67 (by decide)
  have e13 : m.2.1 1 3 = μ.2.1 1 3 := g.2.2.1 3 (by decide)
  refine ⟨h.1.kc g, fun i hi => by rw [rw1 _ (by omega)]; exact h.2.1 i hi, h.vs.fr (Or.inl ⟨rfl, rfl⟩) h.aw (fun r hr => rw1 r (by omega)) (fun r hr => g.ref (by omega)) e66, fun q => ?_⟩
  rw [e13] at q
  exact (h.2.2.2 q).fr (Or.inr ⟨rfl, rfl⟩) h.aw2 (fun r hr => rw1 r (by omega)) (fun r hr => g.ref (by omega)) e67
theorem REL.qm {m : gm_M} (h : REL μ) (g : qm μ m) : REL m := by
  have hA := h.1.qm g
  obtain ⟨g1, g2, g3, g5, g6, g7⟩ := g
  have row : ∀ r : Nat, (r ≠ 65 ∧ r ≠ 68 ∧ r ≠ 69 ∧ r ≠ 70 ∧ r ≠ 71 ∧ r ≠ 72 ∧ r ≠ 73) → m.2.1 r = μ.2.1 r := fun r q => g3 r q.1 q.2.1 q.2.2.1 q.2.2.2.1 q.2.2.2.2.1 q.2.2.2.2.2.1 q.2.2.2.2.2.2
  refine ⟨hA, fun i hi => by rw [row _ (by omega)]; exact h.2.1 i hi, h.vs.fr (Or.inl ⟨rfl, rfl⟩) h.aw (fun r hr => row r (by omega)) (fun r _ => by rw [g2]) (row 66 (by decide)), fun q => ?_⟩
  rw [row 1 (by decide)] at q
  exact (h.2.2.2 q).fr (Or.inr ⟨rfl, rfl⟩) h.aw2 (fun r hr => row r (by omega)) (fun r _ => by rw [g2]) (row 67 (by decide))
/-- rows that an operation leaves alone: kinds, afternoons, what is kept -/
def Qr (r : Nat) : Prop := (8 ≤ r ∧ r ≤ 14) ∨ (18 ≤ r ∧ r ≤ 22) ∨ (39 ≤ r ∧ r < 63) ∨ r = 67 ∨ 75 ≤ r
theorem REL.of {m : gm_M} (h : REL μ) (ha : ALL m) (hq : ∀ r : Nat, Qr r → m.2.1 r = μ.2.1 r) (hf : m.2.1 1 3 = μ.2.1 1 3) (h2 : ∀ r : Nat, (39 ≤ r ∧ r < 63) → m.2.2 r = μ.2.2 r) (v : VS 15 29 m (m.2.1 66)) : REL m := by
  have p0 := h.aw2.1
  refine ⟨ha, fun i hi => by rw [hq _ (by unfold Qr; omega)]; exact h.2.1 i hi, v, fun q => ?_⟩
  rw [hf] at q
  obtain ⟨v1, v2, v3, v4, v5⟩ := h.2.2.2 q
  have e67 := hq 67 (by unfold Qr; omega)
  rw [e67]
  exact ⟨v1.fr (fun k hk => kC_o (by rw [h2 _ (by omega)]) (hq _ (by unfold Qr; omega)) (fun j _ => by rw [hq _ (by unfold Qr; omega)])) (fun _ _ => rfl), v2, v3.fr ⟨by rw [hq 39 (by unfold Qr; omega)], by rw [hq 39 (by unfold Qr; omega)]⟩ (hq _ (by unfold Qr; omega)) (fun _ _ => rfl), v4.fr (hq _ (by unfold Qr; omega)) (hq _ (by unfold Qr; omega)) (fun _ _ => rfl) (Int.le_refl _), v5.fr (by rw [h2 39 (by omega)]) (fun d hd => hq _ (by unfold Qr; omega)) (fun _ _ => rfl)⟩
/-- what holds an afternoon stays with 'now' -/
theorem REL.va {m : gm_M} (h : REL μ) (hq : ∀ r : Nat, Qr r → m.2.1 r = μ.2.1 r) (h6 : m.2.2 15 6 = μ.2.2 15 6) (e3 : ∀ i : Nat, i = 27 ∨ i = 32 ∨ 210 ≤ i → m.2.1 66 i = μ.2.1 66 i) : VA 15 m (m.2.1 66) := by
  have p0 := h.aw.1
  exact h.vs.2.2.2.2.fr h6 (fun d hd => hq _ (by unfold Qr; omega)) e3
/-! guards -/
def isC (μ : gm_M) (a : Int32) : Prop := 0 ≤ a.toInt ∧ a.toInt < (μ.2.1 15 1).toInt ∧ a.toInt < 5
theorem gw_nob {β : Type} {Q : β → Prop} (h : REL μ) {a : Int32} {f : Int32 → gm_M → Option β} (h1 : isC μ a → gw (f 0 μ) Q) (h2 : ¬ isC μ a → gw (f 1 μ) Q) : gw (gm_bI (f_X11_isNobody 1 a μ) f) Q := by
  refine gw_bI (s_X11_isNobody h.ci) (fun x m ⟨em, hx⟩ => ?_)
  subst em
  rcases hx with ⟨ex, a1, a2, a3⟩ | ⟨ex, a1⟩
  · rw [show x = 0 from Int32.toInt_inj.mp ex]; exact h1 ⟨a1, a2, a3⟩
  · rw [show x = 1 from Int32.toInt_inj.mp ex]; exact h2 (fun g => by unfold isC at g; omega)
theorem gw_out {β : Type} {Q : β → Prop} {a lo hi : Int32} {f : Int32 → gm_M → Option β} (h1 : lo.toInt ≤ a.toInt ∧ a.toInt ≤ hi.toInt → gw (f 0 μ) Q) (h2 : ¬ (lo.toInt ≤ a.toInt ∧ a.toInt ≤ hi.toInt) → gw (f 1 μ) Q) : gw (gm_bI (f_X11_isOutside a lo hi μ) f) Q := by
  refine gw_bI s_X11_isOutside (fun x m ⟨em, hx⟩ => ?_)
  subst em
  rcases hx with ⟨ex, a1⟩ | ⟨ex, a1, a2⟩
  · rw [show x = 1 from Int32.toInt_inj.mp ex]; exact h2 (by omega)
  · rw [show x = 0 from Int32.toInt_inj.mp ex]; exact h1 ⟨a1, a2⟩
theorem gw_isc {β : Type} {Q : β → Prop} {m : gm_M} (hm : MI m) (e26 : m.2.1 66 26 = μ.2.1 15 1) {a : Int32} {f : Int32 → gm_M → Option β} (h1 : isC μ a → gw (f 1 m) Q) (h2 : ¬ isC μ a → gw (f 0 m) Q) : gw (gm_bI (f_X12_isChild 65 a m) f) Q := by
  refine gw_bI (s_X12_isChild hm) (fun x m' ⟨em, hx⟩ => ?_)
  subst em
  rw [e26] at hx
  rcases hx with ⟨ex, a1, a2, a3⟩ | ⟨ex, a1⟩
  · rw [show x = 1 from Int32.toInt_inj.mp ex]; exact h1 ⟨a1, a2, a3⟩
  · rw [show x = 0 from Int32.toInt_inj.mp ex]; exact h2 (fun g => by unfold isC at g; omega)
theorem gw_inn {β : Type} {Q : β → Prop} {a lo hi : Int32} {f : Int32 → gm_M → Option β} (h1 : lo.toInt ≤ a.toInt ∧ a.toInt ≤ hi.toInt → gw (f 1 μ) Q) (h2 : ¬ (lo.toInt ≤ a.toInt ∧ a.toInt ≤ hi.toInt) → gw (f 0 μ) Q) : gw (gm_bI (f_X12_in a lo hi μ) f) Q := m_in (fun a b => h1 ⟨a, b⟩) (fun g => h2 (by omega))
/-- a child that there is, by its number -/
theorem isC.at {a : Int32} (h : isC μ a) : ∃ c : Nat, c < 5 ∧ a = Int32.ofNat c ∧ (Int32.ofNat c).toInt = c := ⟨a.toInt.toNat, by unfold isC at h; omega, (gx_of h.1).symm, ofn (by unfold isC at h; omega)⟩
/-- the class's way to a child -/
theorem gw_kid {β : Type} {Q : β → Prop} {m : gm_M} (hg : gS m) {c : Nat} (hc : c < 5) {f : Nat → Option β} (k : gw (f (29 + 2 * c)) Q) : gw (gm_gR m [16] 1 1 (fun v3 => gm_gR m [13] v3 2 (fun v4 => gm_aR m 4 v4 (Int32.ofNat c) f))) Q := by
  have oc := ofn (k := c) (by omega)
  refine gw_gRa 15 (hg.c (r := 1) rfl) (hg.r (by decide)) ?_
  refine gw_gRa 16 (hg.c (r := 15) rfl) (hg.r (by decide)) ?_
  refine gw_aR (i := Int32.ofNat c) (hg.t (r := 16) rfl) (hg.l (r := 16) rfl) (by omega) (by omega) (fun v ev => ?_)
  rw [ev, oc, Int.toNat_natCast, isch.at hg hc]
  exact k
theorem isch_c {c : Nat} (hc : c < 5) : isch (29 + 2 * c) := by unfold isch; omega
theorem ict_c {c : Nat} (hc : c < 5) : ict (29 + 2 * c) := Or.inl (isch_c hc)
end
