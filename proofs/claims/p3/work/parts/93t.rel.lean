section
/-! the two sides agree on all that is seen -/
def VK (c : Nat) (μ : gm_M) (σ : Nat → Int32) : Prop := ∀ k : Nat, k < 5 → kC μ (c + 2 * k) = kR σ k ∧ RK (kR σ k)
def VT (s : Nat) (μ : gm_M) (σ : Nat → Int32) : Prop := μ.2.1 s 4 = σ 31 ∧ μ.2.1 s 5 = σ 27 ∧ ∀ i : Nat, (i : Int) < (σ 31).toInt → μ.2.1 (s + 2) i = σ (110 + i) ∧ 0 ≤ (σ (110 + i)).toInt ∧ (σ (110 + i)).toInt ≤ 127
def VR (s : Nat) (μ : gm_M) (σ : Nat → Int32) : Prop := (∀ i : Nat, i < 5 → (i : Int) < (σ 28).toInt → μ.2.1 (s + 9) (3 * i) = σ (63 + i) ∧ μ.2.1 (s + 9) (3 * i + 1) = σ (68 + i) ∧ μ.2.1 (s + 9) (3 * i + 2) = σ (73 + i) ∧ (0 ≤ (σ (73 + i)).toInt ∧ (σ (73 + i)).toInt ≤ 20) ∧ (σ (63 + i)).toInt < (σ 26).toInt) ∧ ∀ i : Nat, i < 8 → (i : Int) < (σ 30).toInt → μ.2.1 (s + 13) (3 * i) = σ (94 + i) ∧ μ.2.1 (s + 13) (3 * i + 1) = σ (102 + i) ∧ (σ (94 + i)).toInt < (σ 26).toInt
def VA (s : Nat) (μ : gm_M) (σ : Nat → Int32) : Prop := (∃ (w sw : Int32) (P : List (List Int32 × Int32)), HR σ w sw P ∧ AFC μ (μ.2.2 s 6) w sw (fl P) ∧ (0 ≤ w.toInt ∧ w.toInt ≤ 99) ∧ 0 ≤ sw.toInt ∧ sw.toInt ≤ 99) ∧ (σ 32).toInt < (σ 27).toInt
def VS (s c : Nat) (μ : gm_M) (σ : Nat → Int32) : Prop := VK c μ σ ∧ (0 ≤ (σ 0).toInt ∧ (σ 0).toInt ≤ 9999) ∧ VT s μ σ ∧ VR s μ σ ∧ VA s μ σ
def REL (μ : gm_M) : Prop := ALL μ ∧ KD μ ∧ VS 15 29 μ (μ.2.1 66) ∧ (μ.2.1 1 3 = 1 → VS 39 53 μ (μ.2.1 67))
theorem VK.fr {c : Nat} {μ m : gm_M} {σ τ : Nat → Int32} (h : VK c μ σ) (e1 : ∀ k : Nat, k < 5 → kC m (c + 2 * k) = kC μ (c + 2 * k)) (e2 : ∀ i : Nat, (1 ≤ i ∧ i < 26) ∨ (33 ≤ i ∧ i < 63) → τ i = σ i) : VK c m τ := fun k hk => by
  have e : kR τ k = kR σ k := by
    funext j
    unfold kR
    by_cases h0 : j = 0
    · rw [if_pos h0, if_pos h0]
    · rw [if_neg h0, if_neg h0]
      by_cases h1 : j = 1
      · rw [if_pos h1, if_pos h1, e2 _ (by omega)]
      · rw [if_neg h1, if_neg h1]
        by_cases h2 : j = 2
        · rw [if_pos h2, if_pos h2, e2 _ (by omega)]
        · rw [if_neg h2, if_neg h2]
          by_cases h8 : j < 8
          · rw [if_pos h8, if_pos h8, e2 _ (by omega)]
          · rw [if_neg h8, if_neg h8]
            by_cases h12 : j < 12
            · rw [if_pos h12, if_pos h12, e2 _ (by omega)]
            · rw [if_neg h12, if_neg h12]
  rw [e1 k hk, e]
  exact h k hk
theorem VT.fr {s : Nat} {μ m : gm_M} {σ τ : Nat → Int32} (h : VT s μ σ) (e1 : m.2.1 s 4 = μ.2.1 s 4 ∧ m.2.1 s 5 = μ.2.1 s 5) (e2 : m.2.1 (s + 2) = μ.2.1 (s + 2)) (e3 : ∀ i : Nat, i = 27 ∨ i = 31 ∨ 110 ≤ i → τ i = σ i) : VT s m τ := by
  obtain ⟨h1, h2, h3⟩ := h
  refine ⟨by rw [e1.1, e3 31 (by omega)]; exact h1, by rw [e1.2, e3 27 (by omega)]; exact h2, fun i hi => ?_⟩
  rw [e3 31 (by omega)] at hi
  rw [e2, e3 _ (by omega)]
  exact h3 i hi
theorem VR.fr {s : Nat} {μ m : gm_M} {σ τ : Nat → Int32} (h : VR s μ σ) (e1 : m.2.1 (s + 9) = μ.2.1 (s + 9)) (e2 : m.2.1 (s + 13) = μ.2.1 (s + 13)) (e3 : ∀ i : Nat, i = 28 ∨ i = 30 ∨ (63 ≤ i ∧ i < 78) ∨ (94 ≤ i ∧ i < 110) → τ i = σ i) (e26 : (σ 26).toInt ≤ (τ 26).toInt) : VR s m τ := by
  obtain ⟨h1, h2⟩ := h
  refine ⟨fun i h5 hi => ?_, fun i h8 hi => ?_⟩
  · rw [e3 28 (by omega)] at hi
    rw [e1, e3 (63 + i) (by omega), e3 (68 + i) (by omega), e3 (73 + i) (by omega)]
    obtain ⟨a1, a2, a3, a4, a5⟩ := h1 i h5 hi
    exact ⟨a1, a2, a3, a4, by omega⟩
  · rw [e3 30 (by omega)] at hi
    rw [e2, e3 (94 + i) (by omega), e3 (102 + i) (by omega)]
    obtain ⟨a1, a2, a3⟩ := h2 i h8 hi
    exact ⟨a1, a2, by omega⟩
theorem VA.fr {s : Nat} {μ m : gm_M} {σ τ : Nat → Int32} (h : VA s μ σ) (e1 : m.2.2 s 6 = μ.2.2 s 6) (e2 : ∀ d : Nat, d < 4 → m.2.1 (μ.2.2 s 6 + d) = μ.2.1 (μ.2.2 s 6 + d)) (e3 : ∀ i : Nat, i = 27 ∨ i = 32 ∨ 210 ≤ i → τ i = σ i) : VA s m τ := by
  obtain ⟨⟨w, sw, P, h1, h2, h3⟩, h4⟩ := h
  refine ⟨⟨w, sw, P, h1.of (fun k hk => e3 k (by omega)), ?_, h3⟩, by rw [e3 32 (by omega), e3 27 (by omega)]; exact h4⟩
  rw [e1]
  unfold AFC
  have a0 := e2 0 (by omega)
  rw [Nat.add_zero] at a0
  rw [a0, e2 1 (by omega), e2 2 (by omega), e2 3 (by omega)]
  exact h2
section
variable {μ : gm_M}
theorem REL.a (h : REL μ) : ALL μ := h.1
theorem REL.ci (h : REL μ) : CI μ := h.1.2.2.1
theorem REL.mi (h : REL μ) : MI μ := h.1.1
theorem REL.vs (h : REL μ) : VS 15 29 μ (μ.2.1 66) := h.2.2.1
theorem REL.aw (h : REL μ) : AfW μ (μ.2.2 15 6) := h.ci.2.1.2.2.2.1
theorem REL.aw2 (h : REL μ) : AfW μ (μ.2.2 39 6) := h.ci.2.2.1.2.2.2.1
theorem REL.ex (h : REL μ) : ∃ (w sw : Int32) (P : List (List Int32 × Int32)), (CW w P μ ∧ MW w sw P μ ∧ μ.2.1 (μ.2.2 15 6) 0 = w ∧ μ.2.1 (μ.2.2 15 6) 1 = sw) ∧ (0 ≤ w.toInt ∧ w.toInt ≤ 99) ∧ 0 ≤ sw.toInt ∧ sw.toInt ≤ 99 := by
  obtain ⟨-, -, -, -, ⟨w, sw, P, h1, h2, h3⟩, -⟩ := h.vs
  exact ⟨w, sw, P, ⟨⟨h.ci, h.2.1, h1.1, sw, h2⟩, ⟨h.mi, h1⟩, h2.1.1, h2.1.2⟩, h3⟩
theorem REL.sz (h : REL μ) : μ.2.1 15 1 = μ.2.1 66 26 := h.1.2.2.2.1.1.2.1
theorem REL.mn (h : REL μ) : μ.2.1 15 0 = μ.2.1 66 0 := h.1.2.2.2.1.1.1
theorem REL.kk (h : REL μ) {k : Nat} (hk : k < 5) : kC μ (29 + 2 * k) = kR (μ.2.1 66) k ∧ RK (kR (μ.2.1 66) k) := h.vs.1 k hk
theorem VS.fr {s c : Nat} {m : gm_M} {σ τ : Nat → Int32} (h : VS s c μ σ) (hs : (s = 15 ∧ c = 29) ∨ (s = 39 ∧ c = 53)) (ha : AfW μ (μ.2.2 s 6)) (e1 : ∀ r : Nat, (15 ≤ r ∧ r < 63) ∨ 75 ≤ r → m.2.1 r = μ.2.1 r) (e2 : ∀ r : Nat, r < 63 → m.2.2 r = μ.2.2 r) (e3 : τ = σ) : VS s c m τ := by
  subst e3
  have p0 := ha.1
  obtain ⟨h1, h2, h3, h4, h5⟩ := h
  refine ⟨h1.fr (fun k hk => kC_o (by rw [e2 _ (by omega)]) (e1 _ (by omega)) (fun j _ => by rw [e1 _ (by omega)])) (fun _ _ => rfl), h2, h3.fr ⟨by rw [e1 s (by omega)], by rw [e1 s (by omega)]⟩ (e1 _ (by omega)) (fun _ _ => rfl), h4.fr (e1 _ (by omega)) (e1 _ (by omega)) (fun _ _ => rfl) (Int.le_refl _), h5.fr (by rw [e2 s (by omega)]) (fun d hd => e1 _ (by omega)) (fun _ _ => rfl)⟩
theorem REL.kc {m : gm_M} (h : REL μ) (g : kc μ m) : REL m := by
  have rw1 : ∀ r : Nat, (r ≠ 1 ∧ r ≠ 5 ∧ r ≠ 6 ∧ r ≠ 7 ∧ r ≠ 63 ∧ r ≠ 64) → m.2.1 r = μ.2.1 r := fun r hr => g.row hr
  have e66 := rw1 66 (by decide)
  have e67 := rw1 67 (by decide)
  have e13 : m.2.1 1 3 = μ.2.1 1 3 := g.2.2.1 3 (by decide)
  refine ⟨h.1.kc g, fun i hi => by rw [rw1 _ (by omega)]; exact h.2.1 i hi, h.vs.fr (Or.inl ⟨rfl, rfl⟩) h.aw (fun r hr => rw1 r (by omega)) (fun r hr => g.ref (by omega)) e66, fun q => ?_⟩
  rw [e13] at q
  exact (h.2.2.2 q).fr (Or.inr ⟨rfl, rfl⟩) h.aw2 (fun r hr => rw1 r (by omega)) (fun r hr => g.ref (by omega)) e67
theorem REL.qm {m : gm_M} (h : REL μ) (g : qm μ m) : REL m := by
  have hA := h.1.qm g
  obtain ⟨g1, g2, g3, g5, g6, g7⟩ := g
  have row : ∀ r : Nat, (r ≠ 65 ∧ r ≠ 68 ∧ r ≠ 69 ∧ r ≠ 70 ∧ r ≠ 71 ∧ r ≠ 72 ∧ r ≠ 73) → m.2.1 r = μ.2.1 r := fun r q => g3 r q.1 q.2.1 q.2.2.1 q.2.2.2.1 q.2.2.2.2.1 q.2.2.2.2.2.1 q.2.2.2.2.2.2
  refine ⟨hA, fun i hi => by rw [row _ (by omega)]; exact h.2.1 i hi, h.vs.fr (Or.inl ⟨rfl, rfl⟩) h.aw (fun r hr => row r (by omega)) (fun r _ => by rw [g2]) (row 66 (by decide)), fun q => ?_⟩
  rw [row 1 (by decide)] at q
  exact (h.2.2.2 q).fr (Or.inr ⟨rfl, rfl⟩) h.aw2 (fun r hr => row r (by omega)) (fun r _ => by rw [g2]) (row 67 (by decide))
/-- rows that an operation leaves alone: kinds, afternoons, what is kept -/
def Qr (r : Nat) : Prop := (8 ≤ r ∧ r ≤ 14) ∨ (18 ≤ r ∧ r ≤ 22) ∨ (39 ≤ r ∧ r < 63) ∨ r = 67 ∨ 75 ≤ r
theorem REL.of {m : gm_M} (h : REL μ) (ha : ALL m) (hq : ∀ r : Nat, Qr r → m.2.1 r = μ.2.1 r) (hf : m.2.1 1 3 = μ.2.1 1 3) (h2 : ∀ r : Nat, (39 ≤ r ∧ r < 63) → m.2.2 r = μ.2.2 r) (v : VS 15 29 m (m.2.1 66)) : REL m := by
  have p0 := h.aw2.1
  refine ⟨ha, fun i hi => by rw [hq _ (by unfold Qr; omega)]; exact h.2.1 i hi, v, fun q => ?_⟩
  rw [hf] at q
  obtain ⟨v1, v2, v3, v4, v5⟩ := h.2.2.2 q
  have e67 := hq 67 (by unfold Qr; omega)
  rw [e67]
  exact ⟨v1.fr (fun k hk => kC_o (by rw [h2 _ (by omega)]) (hq _ (by unfold Qr; omega)) (fun j _ => by rw [hq _ (by unfold Qr; omega)])) (fun _ _ => rfl), v2, v3.fr ⟨by rw [hq 39 (by unfold Qr; omega)], by rw [hq 39 (by unfold Qr; omega)]⟩ (hq _ (by unfold Qr; omega)) (fun _ _ => rfl), v4.fr (hq _ (by unfold Qr; omega)) (hq _ (by unfold Qr; omega)) (fun _ _ => rfl) (Int.le_refl _), v5.fr (by rw [h2 39 (by omega)]) (fun d hd => hq _ (by unfold Qr; omega)) (fun _ _ => rfl)⟩
/-- what holds an afternoon stays with 'now' -/
theorem REL.va {m : gm_M} (h : REL μ) (hq : ∀ r : Nat, Qr r → m.2.1 r = μ.2.1 r) (h6 : m.2.2 15 6 = μ.2.2 15 6) (e3 : ∀ i : Nat, i = 27 ∨ i = 32 ∨ 210 ≤ i → m.2.1 66 i = μ.2.1 66 i) : VA 15 m (m.2.1 66) := by
  have p0 := h.aw.1
  exact h.vs.2.2.2.2.fr h6 (fun d hd => hq _ (by unfold Qr; omega)) e3
/-! guards -/
def isC (μ : gm_M) (a : Int32) : Prop := 0 ≤ a.toInt ∧ a.toInt < (μ.2.1 15 1).toInt ∧ a.toInt < 5
theorem gw_nob {β : Type} {Q : β → Prop} (h : REL μ) {a : Int32} {f : Int32 → gm_M → Option β} (h1 : isC μ a → gw (f 0 μ) Q) (h2 : ¬ isC μ a → gw (f 1 μ) Q) : gw (gm_bI (f_X11_isNobody 1 a μ) f) Q := by
  refine gw_bI (s_X11_isNobody h.ci) (fun x m ⟨em, hx⟩ => ?_)
  subst em
  rcases hx with ⟨ex, a1, a2, a3⟩ | ⟨ex, a1⟩
  · rw [show x = 0 from Int32.toInt_inj.mp ex]; exact h1 ⟨a1, a2, a3⟩
  · rw [show x = 1 from Int32.toInt_inj.mp ex]; exact h2 (fun g => by unfold isC at g; omega)
theorem gw_out {β : Type} {Q : β → Prop} {a lo hi : Int32} {f : Int32 → gm_M → Option β} (h1 : lo.toInt ≤ a.toInt ∧ a.toInt ≤ hi.toInt → gw (f 0 μ) Q) (h2 : ¬ (lo.toInt ≤ a.toInt ∧ a.toInt ≤ hi.toInt) → gw (f 1 μ) Q) : gw (gm_bI (f_X11_isOutside a lo hi μ) f) Q := by
  refine gw_bI s_X11_isOutside (fun x m ⟨em, hx⟩ => ?_)
  subst em
  rcases hx with ⟨ex, a1⟩ | ⟨ex, a1, a2⟩
  · rw [show x = 1 from Int32.toInt_inj.mp ex]; exact h2 (by omega)
  · rw [show x = 0 from Int32.toInt_inj.mp ex]; exact h1 ⟨a1, a2⟩
theorem gw_isc {β : Type} {Q : β → Prop} {m : gm_M} (hm : MI m) (e26 : m.2.1 66 26 = μ.2.1 15 1) {a : Int32} {f : Int32 → gm_M → Option β} (h1 : isC μ a → gw (f 1 m) Q) (h2 : ¬ isC μ a → gw (f 0 m) Q) : gw (gm_bI (f_X12_isChild 65 a m) f) Q := by
  refine gw_bI (s_X12_isChild hm) (fun x m' ⟨em, hx⟩ => ?_)
  subst em
  rw [e26] at hx
  rcases hx with ⟨ex, a1, a2, a3⟩ | ⟨ex, a1⟩
  · rw [show x = 1 from Int32.toInt_inj.mp ex]; exact h1 ⟨a1, a2, a3⟩
  · rw [show x = 0 from Int32.toInt_inj.mp ex]; exact h2 (fun g => by unfold isC at g; omega)
theorem gw_inn {β : Type} {Q : β → Prop} {a lo hi : Int32} {f : Int32 → gm_M → Option β} (h1 : lo.toInt ≤ a.toInt ∧ a.toInt ≤ hi.toInt → gw (f 1 μ) Q) (h2 : ¬ (lo.toInt ≤ a.toInt ∧ a.toInt ≤ hi.toInt) → gw (f 0 μ) Q) : gw (gm_bI (f_X12_in a lo hi μ) f) Q := m_in (fun a b => h1 ⟨a, b⟩) (fun g => h2 (by omega))
/-- a child that there is, by its number -/
theorem isC.at {a : Int32} (h : isC μ a) : ∃ c : Nat, c < 5 ∧ a = Int32.ofNat c ∧ (Int32.ofNat c).toInt = c := ⟨a.toInt.toNat, by unfold isC at h; omega, (gx_of h.1).symm, ofn (by unfold isC at h; omega)⟩
/-- the class's way to a child -/
theorem gw_kid {β : Type} {Q : β → Prop} {m : gm_M} (hg : gS m) {c : Nat} (hc : c < 5) {f : Nat → Option β} (k : gw (f (29 + 2 * c)) Q) : gw (gm_gR m [16] 1 1 (fun v3 => gm_gR m [13] v3 2 (fun v4 => gm_aR m 4 v4 (Int32.ofNat c) f))) Q := by
  have oc := ofn (k := c) (by omega)
  refine gw_gRa 15 (hg.c (r := 1) rfl) (hg.r (by decide)) ?_
  refine gw_gRa 16 (hg.c (r := 15) rfl) (hg.r (by decide)) ?_
  refine gw_aR (i := Int32.ofNat c) (hg.t (r := 16) rfl) (hg.l (r := 16) rfl) (by omega) (by omega) (fun v ev => ?_)
  rw [ev, oc, Int.toNat_natCast, isch.at hg hc]
  exact k
theorem isch_c {c : Nat} (hc : c < 5) : isch (29 + 2 * c) := by unfold isch; omega
theorem ict_c {c : Nat} (hc : c < 5) : ict (29 + 2 * c) := Or.inl (isch_c hc)
end
end
section
/-! operations: alike, and agreed behind them -/
def PR (z : Option (Option Value × gm_M)) (g : gm_M → Option (Option Value × gm_M)) : Prop := gwI z (fun x m => gm_tag m 65 = 17 ∧ gwI (g m) (fun y m2 => y = x ∧ REL m2))
def QR (z : Option (Option Value × gm_M)) (g : gm_M → Option (Option Value × gm_M)) : Prop := gwI z (fun _ m => gm_tag m 65 = 17 ∧ gwI (g m) (fun _ m2 => REL m2))
def PRL (z : Option (Option Value × gm_M)) (g : gm_M → Option (Option Value × gm_M)) : Prop := gwL z (fun x m => gm_tag m 65 = 17 ∧ gwL (g m) (fun y m2 => y = x ∧ REL m2))
def QRL (z : Option (Option Value × gm_M)) (g : gm_M → Option (Option Value × gm_M)) : Prop := gwL z (fun _ m => gm_tag m 65 = 17 ∧ gwL (g m) (fun _ m2 => REL m2))
theorem PR.q {z : Option (Option Value × gm_M)} {g : gm_M → Option (Option Value × gm_M)} (h : PR z g) : QR z g := gwI_mono h (fun _ _ ⟨a, b⟩ => ⟨a, gwI_mono b (fun _ _ c => c.2)⟩)
theorem QR.kq {μ : gm_M} {z : Option (Option Value × gm_M)} {g : gm_M → Option (Option Value × gm_M)} (h : REL μ) (h1 : gwI z (fun _ m => kc μ m)) (h2 : ∀ m, MI m → gwI (g m) (fun _ m2 => qm m m2)) : QR z g := by
  refine gwI_mono h1 (fun x m a => ?_)
  have hm := h.kc a
  exact ⟨hm.1.t65, gwI_mono (h2 m hm.mi) (fun y m2 b => hm.qm b)⟩
theorem QRL.kq {μ : gm_M} {z : Option (Option Value × gm_M)} {g : gm_M → Option (Option Value × gm_M)} (h : REL μ) (h1 : gwL z (fun _ m => kc μ m)) (h2 : ∀ m, MI m → gwL (g m) (fun _ m2 => qm m m2)) : QRL z g := by
  obtain ⟨x, m, e, a⟩ := h1
  have hm := h.kc a
  obtain ⟨y, m2, e2, b⟩ := h2 m hm.mi
  exact ⟨x, m, e, hm.1.t65, y, m2, e2, hm.qm b⟩
/-- askings: the class's answer a, the reference's from what the class leaves -/
theorem PR.kq {μ : gm_M} {z : Option (Option Value × gm_M)} {g : gm_M → Option (Option Value × gm_M)} {V : Int32 → Prop} (h : REL μ) (h1 : gwI z (fun x m => kc μ m ∧ V x)) (h2 : ∀ m, REL m → kc μ m → gwI (g m) (fun y m2 => qm m m2 ∧ ∀ x, V x → y = x)) : PR z g := by
  refine gwI_mono h1 (fun x m ⟨a, v⟩ => ?_)
  have hm := h.kc a
  exact ⟨hm.1.t65, gwI_mono (h2 m hm a) (fun y m2 ⟨b, c⟩ => ⟨c x v, hm.qm b⟩)⟩
/-- changes: what both do apart, and how it goes on -/
theorem PR.mk {z : Option (Option Value × gm_M)} {g : gm_M → Option (Option Value × gm_M)} (h1 : gwI z (fun _ m => ALL m)) (h2 : ∀ m, ALL m → gwI (g m) (fun _ m2 => ALL m2)) (h3 : gwI z (fun x m => ALL m → gwI (g m) (fun y m2 => y = x ∧ (ALL m2 → REL m2)))) : PR z g := by
  refine gwI_mono (gwI_and h1 h3) (fun x m ⟨a, b⟩ => ⟨a.t65, ?_⟩)
  exact gwI_mono (gwI_and (h2 m a) (b a)) (fun y m2 ⟨c, d⟩ => ⟨d.1, d.2 c⟩)
theorem PR.mk2 {z : Option (Option Value × gm_M)} {g : gm_M → Option (Option Value × gm_M)} (h1 : PI z g) (h3 : gwI z (fun _ m => gwI (g m) (fun _ m2 => ALL m2 → REL m2))) : PR z g := by
  refine gwI_mono (gwI_and h1 h3) (fun x m ⟨⟨a, b⟩, c⟩ => ⟨a, ?_⟩)
  exact gwI_mono (gwI_and b c) (fun y m2 ⟨d, e⟩ => ⟨d.1, e d.2⟩)
section
variable {μ : gm_M}
/-- one child alone has changed -/
theorem REL.one (h : REL μ) {m : gm_M} {k : Nat} (hk : k < 5) (ha : ALL m) (e1 : ∀ r : Nat, r ≠ 29 + 2 * k → r ≠ 29 + 2 * k + 1 → (r < 63 ∨ r = 67 ∨ 75 ≤ r) → m.2.1 r = μ.2.1 r) (e2 : m.2.2 = μ.2.2) (e3 : ∀ i : Nat, i = 0 ∨ (26 ≤ i ∧ i < 33) ∨ 63 ≤ i → m.2.1 66 i = μ.2.1 66 i) (e4 : ∀ d : Nat, d < 5 → d ≠ k → kR (m.2.1 66) d = kR (μ.2.1 66) d) (e5 : kC m (29 + 2 * k) = kR (m.2.1 66) k ∧ RK (kR (m.2.1 66) k)) : REL m := by
  obtain ⟨v1, v2, v3, v4, -⟩ := h.vs
  refine h.of ha (fun r hr => e1 r (by unfold Qr at hr; omega) (by unfold Qr at hr; omega) (by unfold Qr at hr; omega)) (by rw [e1 1 (by omega) (by omega) (by omega)]) (fun r _ => by rw [e2]) ⟨fun d hd => ?_, by rw [e3 0 (by omega)]; exact v2, v3.fr ⟨by rw [e1 15 (by omega) (by omega) (by omega)], by rw [e1 15 (by omega) (by omega) (by omega)]⟩ (e1 17 (by omega) (by omega) (by omega)) (fun i hi => e3 i (by omega)), v4.fr (e1 24 (by omega) (by omega) (by omega)) (e1 28 (by omega) (by omega) (by omega)) (fun i hi => e3 i (by omega)) (by rw [e3 26 (by omega)]; exact Int.le_refl _), h.va (fun r hr => e1 r (by unfold Qr at hr; omega) (by unfold Qr at hr; omega) (by unfold Qr at hr; omega)) (by rw [e2]) (fun i hi => e3 i (by omega))⟩
  by_cases e : d = k
  · subst e; exact e5
  · rw [e4 d hd e, kC_o (by rw [e2]) (e1 _ (by omega) (by omega) (by omega)) (fun j _ => by rw [e1 _ (by omega) (by omega) (by omega)])]
    exact v1 d hd
def hiS (b : Int32) : Int32 := if b = 0 then 6 else if b = 1 then 999 else 99
theorem N_set (h : REL μ) {a b n : Int32} : PR (f_X11_set 1 a b n μ) (f_X12_set 65 a b n) := by
  refine PR.mk (c_set h.1) (fun m hm => m_set hm) ?_
  have hg := h.ci.1
  have e26 := h.sz.symm
  obtain ⟨l0, l1, l2, l3, l4, l5, l6, l10, l99⟩ := i_lit
  have l999 : (999 : Int32).toInt = 999 := rfl
  refine gwI_of ?_
  unfold f_X11_set
  refine gw_if (hg.t (r := 1) rfl) ?_
  refine gw_nob h (fun hC => ?_) (fun nC => ?_)
  · rw [if_neg (by decide)]
    refine gw_out (fun hb => ?_) (fun nb => ?_)
    · rw [if_pos rfl]
      obtain ⟨c, hc, ea, oc⟩ := hC.at
      subst ea
      refine gw_kid hg hc ?_
      refine gw_j (fun s => s = hiS b) (fun s es => ?_) (fun j hj => ?_)
      · subst es
        refine gw_out (fun hn => ?_) (fun nn => ?_)
        · rw [if_pos rfl]
          -- it changes
          have tc := ict.c hg (ict_c hc)
          have go : ∀ j : Nat, b.toInt = j → gw (some (some (.int (μ.2.1 (29 + 2 * c) (3 + j))), wI μ (29 + 2 * c) (3 + j) n)) (gqI (fun x m => ALL m → gwI (f_X12_set 65 (Int32.ofNat c) b n m) (fun y m2 => y = x ∧ (ALL m2 → REL m2)))) := fun j ej => by
            have hj : j < 3 := by omega
            refine gw_some (gq_I (fun hA => gwI_of ?_))
            unfold f_X12_set
            have r26 : (wI μ (29 + 2 * c) (3 + j) n).2.1 66 = μ.2.1 66 := wI_o _ _ _ _ (by omega)
            refine gw_if hA.t65 ?_
            refine gw_isc (μ := μ) hA.1 (by rw [r26]; exact e26) (fun _ => ?_) (fun q => absurd hC q)
            rw [if_neg (by decide)]
            refine gw_inn (fun _ => ?_) (fun q => absurd hb q)
            rw [if_pos (by decide)]
            refine gw_j (fun s => s = hiS b) (fun s es => ?_) (fun j6 hj6 => ?_)
            · subst es
              refine gw_inn (fun _ => ?_) (fun q => absurd hn q)
              rw [if_pos (by decide)]
              have n5 : ((5 : Int32) * b).toInt = 5 * b.toInt := gx_mul 5 rfl (by omega) (by omega)
              have n1 : ((1 : Int32) + (5 : Int32) * b).toInt = (1 : Int32).toInt + ((5 : Int32) * b).toInt := gx_add (by omega) (by omega)
              have n2 : ((1 : Int32) + (5 : Int32) * b + Int32.ofNat c).toInt = ((1 : Int32) + (5 : Int32) * b).toInt + (Int32.ofNat c).toInt := gx_add (by omega) (by omega)
              have ei : 1 + 5 * j + c = 5 * (3 + j) - 14 + c := by omega
              refine gw_gRa 66 (hA.1.1.c (r := 65) rfl) (hA.1.1.r (by decide)) ?_
              refine gw_aIw (1 + 5 * j + c) (hA.1.1.t (r := 66) rfl) (hA.1.1.l (r := 66) rfl) (by omega) (by omega) ?_
              refine gw_gRa 66 (hA.1.1.c (r := 65) rfl) (hA.1.1.r (by decide)) ?_
              refine gw_sIw (1 + 5 * j + c) (hA.1.1.t (r := 66) rfl) (hA.1.1.l (r := 66) rfl) (by omega) (by omega) ?_
              have k0 := h.kk hc
              have kc1 : kC (wI (wI μ (29 + 2 * c) (3 + j) n) 66 (1 + 5 * j + c) n) (29 + 2 * c) = kud (kC μ (29 + 2 * c)) (3 + j) n := by
                rw [kC_o (μ := wI μ (29 + 2 * c) (3 + j) n) (m := wI (wI μ (29 + 2 * c) (3 + j) n) 66 (1 + 5 * j + c) n) (t := 29 + 2 * c) rfl (wI_o _ _ _ _ (by omega)) (fun i _ => by rw [wI_o _ _ _ _ (by omega)]), kC_w (by omega) (by omega)]
              have kr1 : kR ((wI (wI μ (29 + 2 * c) (3 + j) n) 66 (1 + 5 * j + c) n).2.1 66) c = kud (kR (μ.2.1 66) c) (3 + j) n := by
                rw [kR_w hc hc (by omega) (by omega) ei, if_pos rfl, r26]
              refine gw_some (gq_I ⟨?_, fun hB => ?_⟩)
              · rw [r26]
                have e1 : kC μ (29 + 2 * c) (3 + j) = μ.2.1 (29 + 2 * c) (3 + j) := by unfold kC; rw [if_neg (by omega), if_pos (by omega)]
                have e2 : kR (μ.2.1 66) c (3 + j) = μ.2.1 66 (1 + 5 * j + c) := by
                  unfold kR; rw [if_neg (by omega), if_neg (by omega), if_neg (by omega), if_pos (by omega), ei]
                rw [← e1, ← e2, k0.1]
              · refine h.one hc hB (fun r r1 r2 r3 => by rw [wI_o _ _ _ _ (by omega), wI_o _ _ _ _ r1]) rfl (fun i hi => by rw [wI_n _ _ _ _ (by omega), r26]) (fun d hd hdc => by rw [kR_w hc hd (by omega) (by omega) ei, if_neg hdc, r26]) ⟨by rw [kc1, kr1, k0.1], ?_⟩
                rw [kr1]
                refine k0.2.u ?_
                have hh : n.toInt ≤ (hiS b).toInt := hn.2
                unfold hiS at hh
                obtain rfl | rfl | rfl : j = 0 ∨ j = 1 ∨ j = 2 := by omega
                · rw [if_pos (Int32.toInt_inj.mp (by omega))] at hh
                  exact Or.inr (Or.inl ⟨rfl, by omega, by omega⟩)
                · rw [if_neg (fun e => by rw [e] at ej; omega), if_pos (Int32.toInt_inj.mp (by omega))] at hh
                  exact Or.inr (Or.inr (Or.inl ⟨rfl, by omega, by omega⟩))
                · rw [if_neg (fun e => by rw [e] at ej; omega), if_neg (fun e => by rw [e] at ej; omega)] at hh
                  exact Or.inr (Or.inr (Or.inr (Or.inl ⟨rfl, by omega, by omega⟩)))
            · unfold hiS at hj6
              refine gw_ite (fun g => gw_ite (fun g2 => hj6 _ ?_) (fun g2 => hj6 _ ?_)) (fun g => hj6 _ ?_)
              · rw [if_neg g, if_neg g2]
              · rw [if_neg g, if_pos (Decidable.not_not.mp g2)]
              · rw [if_pos (Decidable.not_not.mp g)]
          refine gw_ite (fun g => gw_ite (fun g2 => ?_) (fun g2 => ?_)) (fun g => ?_)
          · refine gw_gIw tc ?_
            refine gw_pIw tc ?_
            have g' : b.toInt ≠ 0 := fun e => g (Int32.toInt_inj.mp (by omega))
            have g2' : b.toInt ≠ 1 := fun e => g2 (Int32.toInt_inj.mp (by omega))
            exact go 2 (by omega)
          · refine gw_gIw tc ?_
            refine gw_pIw tc ?_
            exact go 1 (by rw [Decidable.not_not.mp g2]; rfl)
          · refine gw_gIw tc ?_
            refine gw_pIw tc ?_
            exact go 0 (by rw [Decidable.not_not.mp g]; rfl)
        · rw [if_neg (by decide)]
          refine gw_some (gq_I (fun hA => gwI_of ?_))
          unfold f_X12_set
          refine gw_if hA.t65 ?_
          refine gw_isc hA.1 e26 (fun _ => ?_) (fun q => absurd hC q)
          rw [if_neg (by decide)]
          refine gw_inn (fun _ => ?_) (fun q => absurd hb q)
          rw [if_pos (by decide)]
          refine gw_j (fun s => s = hiS b) (fun s es => ?_) (fun j6 hj6 => ?_)
          · subst es
            refine gw_inn (fun q => absurd q nn) (fun _ => ?_)
            rw [if_neg (by decide)]
            exact gw_some (gq_I ⟨rfl, fun _ => h⟩)
          · unfold hiS at hj6
            refine gw_ite (fun g => gw_ite (fun g2 => hj6 _ ?_) (fun g2 => hj6 _ ?_)) (fun g => hj6 _ ?_)
            · rw [if_neg g, if_neg g2]
            · rw [if_neg g, if_pos (Decidable.not_not.mp g2)]
            · rw [if_pos (Decidable.not_not.mp g)]
      · unfold hiS at hj
        refine gw_ite (fun g => gw_ite (fun g2 => hj _ ?_) (fun g2 => hj _ ?_)) (fun g => hj _ ?_)
        · rw [if_neg g, if_neg g2]
        · rw [if_neg g, if_pos (Decidable.not_not.mp g2)]
        · rw [if_pos (Decidable.not_not.mp g)]
    · rw [if_neg (by decide)]
      refine gw_some (gq_I (fun hA => gwI_of ?_))
      unfold f_X12_set
      refine gw_if hA.t65 ?_
      refine gw_isc hA.1 e26 (fun _ => ?_) (fun q => absurd hC q)
      rw [if_neg (by decide)]
      refine gw_inn (fun q => absurd q nb) (fun _ => ?_)
      rw [if_neg (by decide)]
      exact gw_some (gq_I ⟨rfl, fun _ => h⟩)
  · rw [if_pos (by decide)]
    refine gw_some (gq_I (fun hA => gwI_of ?_))
    unfold f_X12_set
    refine gw_if hA.t65 ?_
    refine gw_isc hA.1 e26 (fun q => absurd q nC) (fun _ => ?_)
    rw [if_pos rfl]
    exact gw_some (gq_I ⟨rfl, fun _ => h⟩)
theorem kC_r {t j : Nat} {x : Int32} (hj : j < 4) : kC (wI μ (t + 1) j x) t = kud (kC μ t) (8 + j) x := by
  funext i
  unfold kud kC
  by_cases e1 : i = 1
  · rw [if_pos e1, if_neg (show ¬ i = 8 + j by omega), if_pos e1]; rfl
  · rw [if_neg e1]
    by_cases e2 : i < 8
    · rw [if_pos e2, if_neg (show ¬ i = 8 + j by omega), if_neg e1, if_pos e2, wI_o _ _ _ _ (by omega)]
    · rw [if_neg e2]
      by_cases e3 : i < 12
      · rw [if_pos e3]
        by_cases e : i = 8 + j
        · rw [if_pos e, show i - 8 = j by omega, wI_e]
        · rw [if_neg e, wI_n _ _ _ _ (by omega), if_neg e1, if_neg e2, if_pos e3]
      · rw [if_neg e3, if_neg (show ¬ i = 8 + j by omega), if_neg e1, if_neg e2, if_neg e3]
theorem kR_r {c d j i : Nat} {x : Int32} (hc : c < 5) (hd : d < 5) (hj : j < 4) (hi : i = 43 + 4 * c + j) : kR ((wI μ 66 i x).2.1 66) d = (if d = c then kud (kR (μ.2.1 66) c) (8 + j) x else kR (μ.2.1 66) d) := by
  subst hi
  funext k
  have e : (wI μ 66 (43 + 4 * c + j) x).2.1 66 = fun q => if q = 43 + 4 * c + j then x else μ.2.1 66 q := by
    funext q
    by_cases h : q = 43 + 4 * c + j
    · rw [h, wI_e, if_pos rfl]
    · rw [wI_n _ _ _ _ h, if_neg h]
  rw [e]
  by_cases hdc : d = c
  · rw [if_pos hdc, hdc]
    unfold kud kR
    dsimp only
    by_cases h0 : k = 0
    · rw [if_pos h0, if_neg (show ¬ k = 8 + j by omega), if_pos h0]
    · rw [if_neg h0]
      by_cases h1 : k = 1
      · rw [if_pos h1, if_neg (show ¬ k = 8 + j by omega), if_neg h0, if_pos h1, if_neg (by omega)]
      · rw [if_neg h1]
        by_cases h2 : k = 2
        · rw [if_pos h2, if_neg (show ¬ k = 8 + j by omega), if_neg h0, if_neg h1, if_pos h2, if_neg (by omega)]
        · rw [if_neg h2]
          by_cases h8 : k < 8
          · rw [if_pos h8, if_neg (show ¬ k = 8 + j by omega), if_neg h0, if_neg h1, if_neg h2, if_pos h8, if_neg (by omega)]
          · rw [if_neg h8]
            by_cases h12 : k < 12
            · rw [if_pos h12]
              by_cases hk : k = 8 + j
              · rw [if_pos hk, if_pos (by omega)]
              · rw [if_neg hk, if_neg (by omega), if_neg h0, if_neg h1, if_neg h2, if_neg h8, if_pos h12]
            · rw [if_neg h12, if_neg (show ¬ k = 8 + j by omega), if_neg h0, if_neg h1, if_neg h2, if_neg h8, if_neg h12]
  · rw [if_neg hdc]
    unfold kR
    dsimp only
    by_cases h0 : k = 0
    · rw [if_pos h0, if_pos h0]
    · rw [if_neg h0, if_neg h0]
      by_cases h1 : k = 1
      · rw [if_pos h1, if_pos h1, if_neg (by omega)]
      · rw [if_neg h1, if_neg h1]
        by_cases h2 : k = 2
        · rw [if_pos h2, if_pos h2, if_neg (by omega)]
        · rw [if_neg h2, if_neg h2]
          by_cases h8 : k < 8
          · rw [if_pos h8, if_pos h8, if_neg (by omega)]
          · rw [if_neg h8, if_neg h8]
            by_cases h12 : k < 12
            · rw [if_pos h12, if_pos h12, if_neg (by omega)]
            · rw [if_neg h12, if_neg h12]
theorem RK.r {k : Nat → Int32} (h : RK k) {j : Nat} {x : Int32} (h0 : 0 ≤ x.toInt ∧ x.toInt ≤ 9) : RK (kud k (8 + j) x) := by
  obtain ⟨⟨h1, h2, h3⟩, ⟨h4, h5, h6, h7⟩, h8⟩ := h
  unfold RK kud
  refine ⟨⟨?_, ?_, ?_⟩, ⟨?_, ?_, ?_, ?_⟩, fun i hi => ?_⟩
  · rw [if_neg (by omega)]; exact h1
  · rw [if_neg (by omega)]; exact h2
  · rw [if_neg (by omega)]; exact h3
  · rw [if_neg (by omega)]; exact h4
  · rw [if_neg (by omega)]; exact h5
  · rw [if_neg (by omega)]; exact h6
  · rw [if_neg (by omega)]; exact h7
  · split
    · exact h0
    · exact h8 i hi
theorem N_row (h : REL μ) {a b n : Int32} : PR (f_X11_row 1 a b n μ) (f_X12_row 65 a b n) := by
  refine PR.mk2 (L_row h.1) ?_
  have hg := h.ci.1
  have e26 := h.sz.symm
  obtain ⟨l0, l1, l2, l3, l4, l5, l6, l10, l99⟩ := i_lit
  have l9 : (9 : Int32).toInt = 9 := rfl
  have l43 : (43 : Int32).toInt = 43 := rfl
  refine gwI_of ?_
  unfold f_X11_row
  -- a refusal stays one
  have no : ∀ (y : Int32), ¬ (isC μ a ∧ ((0 : Int32).toInt ≤ b.toInt ∧ b.toInt ≤ (3 : Int32).toInt) ∧ ((0 : Int32).toInt ≤ n.toInt ∧ n.toInt ≤ (9 : Int32).toInt) ∧ μ.2.1 66 (33 + a.toInt.toNat) = 6) → gw (some (some (.int y), μ)) (gqI (fun x m => gwI (f_X12_row 65 a b n m) (fun _ m2 => ALL m2 → REL m2))) := fun y hno => by
    refine gw_some (gq_I (gwI_of ?_))
    unfold f_X12_row
    refine gw_if h.1.t65 ?_
    refine gw_isc h.mi e26 (fun hC => ?_) (fun _ => by rw [if_pos rfl]; exact gw_some (gq_I (fun _ => h)))
    rw [if_neg (by decide)]
    refine gw_inn (fun hb => ?_) (fun _ => by rw [if_neg (by decide)]; exact gw_some (gq_I (fun _ => h)))
    rw [if_pos (by decide)]
    refine gw_inn (fun hn => ?_) (fun _ => by rw [if_neg (by decide)]; exact gw_some (gq_I (fun _ => h)))
    rw [if_pos (by decide)]
    obtain ⟨c, hc, ea, oc⟩ := hC.at
    subst ea
    refine gw_rd h.mi hc 33 rfl (by decide) ?_
    refine gw_ite (fun g => ?_) (fun _ => gw_some (gq_I (fun _ => h)))
    exact absurd ⟨hC, hb, hn, by rw [oc, Int.toNat_natCast]; exact g⟩ hno
  refine gw_if (hg.t (r := 1) rfl) ?_
  refine gw_nob h (fun hC => ?_) (fun nC => by rw [if_pos (by decide)]; exact no _ (fun q => nC q.1))
  rw [if_neg (by decide)]
  refine gw_out (fun hb => ?_) (fun nb => by rw [if_neg (by decide)]; exact no _ (fun q => nb q.2.1))
  rw [if_pos rfl]
  refine gw_out (fun hn => ?_) (fun nn => by rw [if_neg (by decide)]; exact no _ (fun q => nn q.2.2.1))
  rw [if_pos rfl]
  obtain ⟨c, hc, ea, oc⟩ := hC.at
  subst ea
  refine gw_kid hg hc ?_
  have tc := ict.c hg (ict_c hc)
  refine gw_gR tc (fun q eq => ?_)
  have hq : kid q := by rw [eq]; exact h.ci.2.2.2.1 _ (Or.inl (ict_c hc))
  refine gw_io (by rcases kid.t hg hq with q | q | q | q | q | q | q <;> rw [q] <;> decide) (fun x ix => ?_)
  have k15 := kid15 hg hq ix
  have kd := h.1.kd c hc
  rw [← eq] at kd
  refine gw_ite (fun g => ?_) (fun g => ?_)
  · obtain ⟨j, hj, ej⟩ : ∃ j : Nat, j < 4 ∧ b.toInt = j := ⟨b.toInt.toNat, by omega, by omega⟩
    have q14 : q = 14 := by
      rcases k15 with ⟨-, e⟩ | ⟨e, -⟩
      · exact e
      · exact absurd (Int32.toInt_inj.mp (by omega)) g
    refine gw_gRa (29 + 2 * c + 1) tc (ict.row hg (ict_c hc)) ?_
    refine gw_aIw j (ict.rt hg (ict_c hc)) (ict.rl hg (ict_c hc)) ej hj ?_
    refine gw_gRa (29 + 2 * c + 1) tc (ict.row hg (ict_c hc)) ?_
    refine gw_sIw j (ict.rt hg (ict_c hc)) (ict.rl hg (ict_c hc)) ej hj ?_
    have r26 : (wI μ (29 + 2 * c + 1) j n).2.1 66 = μ.2.1 66 := wI_o _ _ _ _ (by omega)
    have hM : MI (wI μ (29 + 2 * c + 1) j n) := ⟨hg, by rw [r26]; exact h.mi.2⟩
    refine gw_some (gq_I (gwI_of ?_))
    unfold f_X12_row
    refine gw_if (hM.1.t (r := 65) rfl) ?_
    refine gw_isc (μ := μ) hM (by rw [r26]; exact e26) (fun _ => ?_) (fun q => absurd hC q)
    rw [if_neg (by decide)]
    refine gw_inn (fun _ => ?_) (fun q => absurd hb q)
    rw [if_pos (by decide)]
    refine gw_inn (fun _ => ?_) (fun q => absurd hn q)
    rw [if_pos (by decide)]
    refine gw_rd hM hc 33 rfl (by decide) ?_
    rw [r26]
    refine gw_ite (fun g => ?_) (fun g6 => ?_)
    · have n1 : ((4 : Int32) * Int32.ofNat c).toInt = 4 * (Int32.ofNat c).toInt := gx_mul 4 rfl (by omega) (by omega)
      have n2 : ((43 : Int32) + (4 : Int32) * Int32.ofNat c).toInt = (43 : Int32).toInt + ((4 : Int32) * Int32.ofNat c).toInt := gx_add (by omega) (by omega)
      have n3 : ((43 : Int32) + (4 : Int32) * Int32.ofNat c + b).toInt = ((43 : Int32) + (4 : Int32) * Int32.ofNat c).toInt + b.toInt := gx_add (by omega) (by omega)
      refine gw_gRa 66 (hM.1.c (r := 65) rfl) (hM.1.r (by decide)) ?_
      refine gw_aIw (43 + 4 * c + j) (hM.1.t (r := 66) rfl) (hM.1.l (r := 66) rfl) (by omega) (by omega) ?_
      refine gw_gRa 66 (hM.1.c (r := 65) rfl) (hM.1.r (by decide)) ?_
      refine gw_sIw (43 + 4 * c + j) (hM.1.t (r := 66) rfl) (hM.1.l (r := 66) rfl) (by omega) (by omega) ?_
      refine gw_some (gq_I (fun hB => ?_))
      have k0 := h.kk hc
      have kr1 : kR ((wI (wI μ (29 + 2 * c + 1) j n) 66 (43 + 4 * c + j) n).2.1 66) c = kud (kR (μ.2.1 66) c) (8 + j) n := by
        rw [kR_r hc hc hj rfl, if_pos rfl, r26]
      refine h.one hc hB (fun r r1 r2 r3 => by rw [wI_o _ _ _ _ (by omega), wI_o _ _ _ _ r2]) rfl (fun i hi => by rw [wI_n _ _ _ _ (by omega), r26]) (fun d hd hdc => by rw [kR_r hc hd hj rfl, if_neg hdc, r26]) ⟨?_, by rw [kr1]; exact k0.2.r ⟨by omega, by omega⟩⟩
      rw [kr1, kC_o (μ := wI μ (29 + 2 * c + 1) j n) (m := wI (wI μ (29 + 2 * c + 1) j n) 66 (43 + 4 * c + j) n) (t := 29 + 2 * c) rfl (wI_o _ _ _ _ (by omega)) (fun i _ => by rw [wI_o _ _ _ _ (by omega)]), kC_r hj, k0.1]
    · exact absurd (Int32.toInt_inj.mp (by omega)) g6
  · refine no _ (fun z => ?_)
    have z4 := z.2.2.2
    rw [oc, Int.toNat_natCast] at z4
    rw [z4] at kd
    rcases k15 with ⟨e, -⟩ | ⟨-, e⟩
    · exact g (fun q => by rw [q] at e; omega)
    · omega
end
end
section
/-! a letter, an afternoon: agreed behind them -/
def rg (w sw : Int32) : Prop := (0 ≤ w.toInt ∧ w.toInt ≤ 99) ∧ 0 ≤ sw.toInt ∧ sw.toInt ≤ 99
theorem pM_rg {tx : Nat → Int32} {n : Nat} {u : UInt32} {kd : Int32} {p : Nat} {w sw : Int32} {L : List Int32} : (pM tx n u kd p w sw L).2.2.1 = w ∧ (pM tx n u kd p w sw L).2.2.2.1 = sw := by
  unfold pM
  split
  · split <;> exact ⟨rfl, rfl⟩
  · exact ⟨rfl, rfl⟩
theorem pK_rg {tx : Nat → Int32} {n p : Nat} {w sw : Int32} {L : List Int32} (h : rg w sw) (h1 : (pK tx n p w sw L).1 = true) : rg (pK tx n p w sw L).2.2.1 (pK tx n p w sw L).2.2.2.1 := by
  unfold pK at h1 ⊢
  by_cases e1 : pd tx n p = 119
  · rw [if_pos e1] at h1 ⊢
    have q : p < n := pd_lt (tx := tx) (by rw [e1]; decide)
    exact ⟨((pWN_g (tx := tx) (n := n) (u := 1) (p := p) (by decide) (by omega)).2.2 h1).2, h.2⟩
  · rw [if_neg e1] at h1 ⊢
    by_cases e2 : pd tx n p = 115
    · rw [if_pos e2] at h1 ⊢
      by_cases e3 : pd tx n (p + 1) = 119
      · rw [if_pos e3] at h1 ⊢
        have q : p + 1 < n := pd_lt (tx := tx) (by rw [e3]; decide)
        exact ⟨h.1, ((pWN_g (tx := tx) (n := n) (u := 2) (p := p + 1) (by decide) (by omega)).2.2 h1).2⟩
      · rw [if_neg e3] at h1 ⊢
        by_cases e4 : pd tx n (p + 1) = 116
        · rw [if_pos e4]
          by_cases e5 : pd tx n (p + 2) = 114
          · rw [if_pos e5, pM_rg.1, pM_rg.2]; exact h
          · rw [if_neg e5, pM_rg.1, pM_rg.2]; exact h
        · rw [if_neg e4] at h1; cases h1
    · rw [if_neg e2] at h1; cases h1
theorem pR_rg {tx : Nat → Int32} {n : Nat} : ∀ (k : Nat) (r : pB), rg r.2.2.1 r.2.2.2.1 → (pR tx n k r).1 = true → rg (pR tx n k r).2.2.1 (pR tx n k r).2.2.2.1
  | 0, r, h, h1 => by
    unfold pR at h1 ⊢
    split at h1
    · rename_i g; rw [if_pos g]; exact h
    · cases h1
  | k + 1, r, h, h1 => by
    unfold pR at h1 ⊢
    split at h1
    · rename_i g; rw [if_pos g]; exact h
    · rename_i g
      rw [if_neg g]
      split at h1
      · rename_i g2
        rw [if_pos g2]
        split at h1
        · rename_i g3
          rw [if_pos g3]
          exact pR_rg k _ (pK_rg h g3) h1
        · rename_i g3; exact absurd h1 g3
      · cases h1
theorem pAft_rg {tx : Nat → Int32} {n : Nat} (h : (pAft tx n).1 = true) : rg (pAft tx n).2.2.1 (pAft tx n).2.2.2.1 := by
  have h0 : rg (0 : Int32) 20 := ⟨⟨by decide, by decide⟩, by decide, by decide⟩
  unfold pAft at h ⊢
  split at h
  · rename_i g; rw [if_pos g]; exact pR_rg 9 _ (pK_rg h0 g) h
  · rename_i g; exact absurd h g
theorem AfW.lt {μ : gm_M} {q : Nat} (p : AfW μ q) : q + 3 < μ.1.length := (List.getElem?_eq_some_iff.mp p.2.1.2.2.2).1
section
variable {μ : gm_M}
theorem REL.of2 {m : gm_M} (h : REL μ) (ha : ALL m) (hq : ∀ r : Nat, Qr r → r < μ.1.length → m.2.1 r = μ.2.1 r) (hf : m.2.1 1 3 = μ.2.1 1 3) (h2 : ∀ r : Nat, (39 ≤ r ∧ r < 63) → m.2.2 r = μ.2.2 r) (v : VS 15 29 m (m.2.1 66)) : REL m := by
  have p0 := h.aw2.1
  have p1 := h.aw2.lt
  have hL := h.ci.1.len
  refine ⟨ha, fun i hi => by rw [hq _ (by unfold Qr; omega) (by omega)]; exact h.2.1 i hi, v, fun q => ?_⟩
  rw [hf] at q
  obtain ⟨v1, v2, v3, v4, v5⟩ := h.2.2.2 q
  have e67 := hq 67 (by unfold Qr; omega) (by omega)
  rw [e67]
  exact ⟨v1.fr (fun k hk => kC_o (by rw [h2 _ (by omega)]) (hq _ (by unfold Qr; omega) (by omega)) (fun j _ => by rw [hq _ (by unfold Qr; omega) (by omega)])) (fun _ _ => rfl), v2, v3.fr ⟨by rw [hq 39 (by unfold Qr; omega) (by omega)], by rw [hq 39 (by unfold Qr; omega) (by omega)]⟩ (hq _ (by unfold Qr; omega) (by omega)) (fun _ _ => rfl), v4.fr (hq _ (by unfold Qr; omega) (by omega)) (hq _ (by unfold Qr; omega) (by omega)) (fun _ _ => rfl) (Int.le_refl _), v5.fr (by rw [h2 39 (by omega)]) (fun d hd => hq _ (by unfold Qr; omega) (by omega)) (fun _ _ => rfl)⟩
set_option maxHeartbeats 4000000 in
theorem N_feed (h : REL μ) {a : Int32} : PR (f_X11_feed 1 a μ) (f_X12_feed 65 a) := by
  refine PR.mk (c_feed h.1) (fun m k => m_feed k) ?_
  have hg := h.ci.1
  have n4 := h.ci.n4
  obtain ⟨v1, v2, ⟨t1, t2, t3⟩, v4, v5⟩ := h.vs
  obtain ⟨n, en, hn⟩ : ∃ n : Nat, μ.2.1 15 4 = Int32.ofNat n ∧ n ≤ 100 := ⟨(μ.2.1 15 4).toInt.toNat, (gx_of n4.1).symm, by omega⟩
  have on := ofn (k := n) (by omega)
  have en2 : μ.2.1 66 31 = Int32.ofNat n := by rw [← t1]; exact en
  have l0 : (0 : Int32).toInt = 0 := rfl
  have l31 : (31 : Int32).toInt = 31 := rfl
  have l100 : (100 : Int32).toInt = 100 := rfl
  have l110 : (110 : Int32).toInt = 110 := rfl
  have l127 : (127 : Int32).toInt = 127 := rfl
  have lo4 : (Int32.ofNat 100).toInt = 100 := rfl
  refine gwI_of ?_
  unfold f_X11_feed
  refine gw_out (fun hb => ?_) (fun nb => ?_)
  · rw [if_pos rfl]
    refine gw_gRa 15 (hg.c (r := 1) rfl) (hg.r (by decide)) ?_
    refine gw_gIw (hg.c (r := 15) rfl) ?_
    refine gw_gRa 15 (hg.c (r := 1) rfl) (hg.r (by decide)) ?_
    refine gw_gRa 17 (hg.c (r := 15) rfl) (hg.r (by decide)) ?_
    refine gw_al (hg.t (r := 17) rfl) (hg.l (r := 17) rfl) ?_
    rw [en]
    refine gw_lt (fun g => ?_) (fun g => ?_)
    · refine gw_gRa 15 (hg.c (r := 1) rfl) (hg.r (by decide)) ?_
      refine gw_gRa 17 (hg.c (r := 15) rfl) (hg.r (by decide)) ?_
      refine gw_gRa 15 (hg.c (r := 1) rfl) (hg.r (by decide)) ?_
      refine gw_gIw (hg.c (r := 15) rfl) ?_
      refine gw_sIw n (hg.t (r := 17) rfl) (hg.l (r := 17) rfl) (by rw [en]; exact on) (by omega) ?_
      refine gw_gRa 15 (hg.c (r := 1) rfl) (hg.r (by decide)) ?_
      refine gw_gIw (hg.c (r := 15) rfl) ?_
      refine gw_pIw (hg.c (r := 15) rfl) ?_
      refine gw_gRa 15 (hg.c (r := 1) rfl) (hg.r (by decide)) ?_
      refine gw_gIw (hg.c (r := 15) rfl) ?_
      rw [wI_e, wI_o _ _ _ _ (show (15 : Nat) ≠ 17 by decide), en, ofn1 (by omega)]
      refine gw_some (gq_I (fun hA => gwI_of ?_))
      have r66 : (wI (wI μ 17 n a) 15 4 (Int32.ofNat (n + 1))).2.1 66 = μ.2.1 66 := by rw [wI_o _ _ _ _ (by decide), wI_o _ _ _ _ (by decide)]
      have row : ∀ r : Nat, r ≠ 15 → r ≠ 17 → (wI (wI μ 17 n a) 15 4 (Int32.ofNat (n + 1))).2.1 r = μ.2.1 r := fun r r1 r2 => by rw [wI_o _ _ _ _ r1, wI_o _ _ _ _ r2]
      have c4 : (wI (wI μ 17 n a) 15 4 (Int32.ofNat (n + 1))).2.1 15 4 = Int32.ofNat (n + 1) := wI_e _ _ _ _
      have c5 : (wI (wI μ 17 n a) 15 4 (Int32.ofNat (n + 1))).2.1 15 5 = μ.2.1 15 5 := by rw [wI_n _ _ _ _ (by decide), wI_o _ _ _ _ (by decide)]
      have c17 : ∀ i : Nat, i ≠ n → (wI (wI μ 17 n a) 15 4 (Int32.ofNat (n + 1))).2.1 17 i = μ.2.1 17 i := fun i hi => by rw [wI_o _ _ _ _ (by decide), wI_n _ _ _ _ hi]
      have c17n : (wI (wI μ 17 n a) 15 4 (Int32.ofNat (n + 1))).2.1 17 n = a := by rw [wI_o _ _ _ _ (by decide), wI_e]
      have rf : (wI (wI μ 17 n a) 15 4 (Int32.ofNat (n + 1))).2.2 = μ.2.2 := rfl
      generalize wI (wI μ 17 n a) 15 4 (Int32.ofNat (n + 1)) = m at *
      have hm := hA.1.1
      unfold f_X12_feed
      refine gw_inn (fun _ => ?_) (fun q => absurd hb q)
      rw [if_pos (by decide)]
      refine gw_gRa 66 (hm.c (r := 65) rfl) (hm.r (by decide)) ?_
      refine gw_aIw 31 (hm.t (r := 66) rfl) (hm.l (r := 66) rfl) l31 (by omega) ?_
      rw [r66, en2]
      refine gw_if (fun e => by have := congrArg Int32.toInt e; omega) ?_
      refine gw_gRa 66 (hm.c (r := 65) rfl) (hm.r (by decide)) ?_
      refine gw_gRa 66 (hm.c (r := 65) rfl) (hm.r (by decide)) ?_
      refine gw_aIw 31 (hm.t (r := 66) rfl) (hm.l (r := 66) rfl) l31 (by omega) ?_
      rw [r66, en2]
      have n1 : ((110 : Int32) + Int32.ofNat n).toInt = (110 : Int32).toInt + (Int32.ofNat n).toInt := gx_add (by omega) (by omega)
      refine gw_sIw (110 + n) (hm.t (r := 66) rfl) (hm.l (r := 66) rfl) (by omega) (by omega) ?_
      refine gw_gRa 66 (hm.c (r := 65) rfl) (hm.r (by decide)) ?_
      refine gw_aIw 31 (hm.t (r := 66) rfl) (hm.l (r := 66) rfl) l31 (by omega) ?_
      rw [wI_n _ _ _ _ (show (31 : Nat) ≠ 110 + n by omega), r66, en2, ofn1 (by omega)]
      refine gw_sIw 31 (hm.t (r := 66) rfl) (hm.l (r := 66) rfl) l31 (by omega) ?_
      refine gw_gRa 66 (hm.c (r := 65) rfl) (hm.r (by decide)) ?_
      refine gw_aIw 31 (hm.t (r := 66) rfl) (hm.l (r := 66) rfl) l31 (by omega) ?_
      rw [wI_e]
      refine gw_some (gq_I ⟨rfl, fun hB => ?_⟩)
      have C31 : (wI (wI m 66 (110 + n) a) 66 31 (Int32.ofNat (n + 1))).2.1 66 31 = Int32.ofNat (n + 1) := wI_e _ _ _ _
      have Cn : (wI (wI m 66 (110 + n) a) 66 31 (Int32.ofNat (n + 1))).2.1 66 (110 + n) = a := by rw [wI_n _ _ _ _ (by omega), wI_e]
      have Ck : ∀ k : Nat, k ≠ 31 → k ≠ 110 + n → (wI (wI m 66 (110 + n) a) 66 31 (Int32.ofNat (n + 1))).2.1 66 k = μ.2.1 66 k := fun k k1 k2 => by rw [wI_n _ _ _ _ k1, wI_n _ _ _ _ k2, r66]
      have Ro : ∀ r : Nat, r ≠ 66 → (wI (wI m 66 (110 + n) a) 66 31 (Int32.ofNat (n + 1))).2.1 r = m.2.1 r := fun r r1 => by rw [wI_o _ _ _ _ r1, wI_o _ _ _ _ r1]
      have Rf : (wI (wI m 66 (110 + n) a) 66 31 (Int32.ofNat (n + 1))).2.2 = μ.2.2 := rf
      generalize wI (wI m 66 (110 + n) a) 66 31 (Int32.ofNat (n + 1)) = M at *
      have Row : ∀ r : Nat, r ≠ 15 → r ≠ 17 → r ≠ 66 → M.2.1 r = μ.2.1 r := fun r r1 r2 r3 => (Ro r r3).trans (row r r1 r2)
      have o1 := ofn (k := n + 1) (by omega)
      refine h.of hB (fun r hr => Row r (by unfold Qr at hr; omega) (by unfold Qr at hr; omega) (by unfold Qr at hr; omega)) (by rw [Row 1 (by omega) (by omega) (by omega)]) (fun r _ => by rw [Rf]) ⟨v1.fr (fun k hk => kC_o (by rw [Rf]) (Row _ (by omega) (by omega) (by omega)) (fun j _ => by rw [Row _ (by omega) (by omega) (by omega)])) (fun i hi => Ck i (by omega) (by omega)), by rw [Ck 0 (by omega) (by omega)]; exact v2, ⟨by rw [Ro 15 (by omega), c4, C31], by rw [Ro 15 (by omega), c5, Ck 27 (by omega) (by omega)]; exact t2, fun i hi => ?_⟩, v4.fr (Row 24 (by omega) (by omega) (by omega)) (Row 28 (by omega) (by omega) (by omega)) (fun i hi => Ck i (by omega) (by omega)) (by rw [Ck 26 (by omega) (by omega)]; exact Int.le_refl _), h.va (fun r hr => Row r (by unfold Qr at hr; omega) (by unfold Qr at hr; omega) (by unfold Qr at hr; omega)) (by rw [Rf]) (fun i hi => Ck i (by omega) (by omega))⟩
      rw [C31, o1] at hi
      rw [Ro 17 (by omega)]
      by_cases q : i = n
      · rw [q, c17n, Cn]; exact ⟨rfl, by omega, by omega⟩
      · rw [c17 i q, Ck _ (by omega) (by omega)]
        exact t3 i (by rw [en2, on]; omega)
    · refine gw_some (gq_I (fun hA => gwI_of ?_))
      unfold f_X12_feed
      refine gw_inn (fun _ => ?_) (fun q => absurd hb q)
      rw [if_pos (by decide)]
      refine gw_gRa 66 (hg.c (r := 65) rfl) (hg.r (by decide)) ?_
      refine gw_aIw 31 (hg.t (r := 66) rfl) (hg.l (r := 66) rfl) l31 (by omega) ?_
      rw [en2, show n = 100 by omega, if_neg (by decide)]
      exact gw_some (gq_I ⟨rfl, fun _ => h⟩)
  · rw [if_neg (by decide)]
    refine gw_some (gq_I (fun hA => gwI_of ?_))
    unfold f_X12_feed
    refine gw_inn (fun q => absurd q nb) (fun _ => ?_)
    rw [if_neg (by decide)]
    exact gw_some (gq_I ⟨rfl, fun _ => h⟩)
set_option maxHeartbeats 4000000 in
theorem N_afternoon (h : REL μ) : PR (f_X11_afternoon 1 μ) (f_X12_afternoon 65) := by
  refine PR.mk (c_afternoon h.1) (fun m k => m_afternoon k) ?_
  have hg := h.ci.1
  have hL := hg.len
  have n4 := h.ci.n4
  have n5 := h.ci.n5
  obtain ⟨v1, v2, ⟨t1, t2, t3⟩, v4, v5⟩ := h.vs
  obtain ⟨n, en, hn⟩ : ∃ n : Nat, μ.2.1 15 4 = Int32.ofNat n ∧ n ≤ 100 := ⟨(μ.2.1 15 4).toInt.toNat, (gx_of n4.1).symm, by omega⟩
  obtain ⟨a, ea, ha⟩ : ∃ a : Nat, μ.2.1 15 5 = Int32.ofNat a ∧ a ≤ 5 := ⟨(μ.2.1 15 5).toInt.toNat, (gx_of n5.1).symm, by omega⟩
  have on := ofn (k := n) (by omega)
  have oa := ofn (k := a) (by omega)
  have en2 : μ.2.1 66 31 = Int32.ofNat n := by rw [← t1]; exact en
  have ea2 : μ.2.1 66 27 = Int32.ofNat a := by rw [← t2]; exact ea
  obtain ⟨tx, ht, hr⟩ : ∃ tx : Nat → Int32, (∀ i : Nat, i < n → μ.2.1 17 i = tx i ∧ μ.2.1 66 (110 + i) = tx i) ∧ ∀ i : Nat, 0 ≤ (tx i).toInt ∧ (tx i).toInt ≤ 127 := by
    refine ⟨fun i => if i < n then μ.2.1 66 (110 + i) else 0, fun i hi => ?_, fun i => ?_⟩
    · have := t3 i (by rw [en2, on]; omega)
      dsimp only
      rw [if_pos hi]
      exact ⟨this.1, rfl⟩
    · dsimp only
      by_cases hi : i < n
      · rw [if_pos hi]; exact (t3 i (by rw [en2, on]; omega)).2
      · rw [if_neg hi]; decide
  refine gwI_mono (v_afternoon h.1 hn en (fun i hi => (ht i hi).1) hr) (fun x m hc hA => ?_)
  have rc : ∀ q : Nat, q < μ.1.length → q ≠ 15 → m.2.1 q = μ.2.1 q := by
    rcases hc with ⟨-, -, e⟩ | ⟨-, c, -⟩
    · intro q _ _; rw [e]
    · exact c
  have e66 := rc 66 (by omega) (by omega)
  refine gwI_mono (m_aft hA hn ha (by rw [e66]; exact en2) (by rw [e66]; exact ea2) (fun i hi => by rw [e66]; exact (ht i hi).2) hr) (fun y m2 hm => ?_)
  rw [e66, ea2, oa] at hm
  rw [ea, oa] at hc
  rcases hc with ⟨c1, c2, c3⟩ | ⟨c1, c2, c3, c4, c5, c6⟩
  · rcases hm with ⟨g1, g2, g3⟩ | ⟨g1, -⟩
    · exact ⟨by rw [g2, c2], fun _ => by rw [g3, c3]; exact h⟩
    · omega
  · rcases hm with ⟨g1, -⟩ | ⟨g1, d1, d2, d3, d4, d5⟩
    · omega
    · have a5 : a < 5 := by omega
      have row : ∀ r : Nat, r < μ.1.length → r ≠ 15 → r ≠ 65 → r ≠ 66 → m2.2.1 r = μ.2.1 r := fun r r1 r2 r3 r4 => (d1 r r3 r4).trans (c2 r r1 r2)
      have rf : ∀ q j : Nat, q < μ.1.length → ¬ (q = 15 ∧ j = 6) → m2.2.2 q j = μ.2.2 q j := fun q j q1 q2 => by rw [d2]; exact c5 q j q1 q2
      have r66 : ∀ k : Nat, (k ≠ 27 ∧ k ≠ 31 ∧ k ≠ 32 ∧ k ≠ 210 + a ∧ k ≠ 215 + a ∧ k ≠ 220 + a ∧ ¬ (225 + 140 * a ≤ k ∧ k < 365 + 140 * a)) → m2.2.1 66 k = μ.2.1 66 k := fun k q => by rw [d3 k q.1 q.2.1 q.2.2.1 q.2.2.2.1 q.2.2.2.2.1 q.2.2.2.2.2.1 q.2.2.2.2.2.2, e66]
      have r15 : m2.2.1 15 = m.2.1 15 := d1 15 (by omega) (by omega)
      have fin : ALL m2 → VA 15 m2 (m2.2.1 66) → m2.2.1 15 5 = m2.2.1 66 27 → REL m2 := fun hB u1 u2 => by
        refine h.of2 hB (fun r hr hl => row r hl (by unfold Qr at hr; omega) (by unfold Qr at hr; omega) (by unfold Qr at hr; omega)) (by rw [row 1 (by omega) (by omega) (by omega) (by omega)]) (fun r hr => funext fun j => rf r j (by omega) (by omega)) ⟨v1.fr (fun k hk => kC_o (rf _ 1 (by omega) (by omega)) (row _ (by omega) (by omega) (by omega) (by omega)) (fun j _ => by rw [row _ (by omega) (by omega) (by omega) (by omega)])) (fun i hi => r66 i (by omega)), by rw [r66 0 (by omega)]; exact v2, ⟨by rw [r15, c4, d4], u2, fun i hi => ?_⟩, v4.fr (row 24 (by omega) (by omega) (by omega) (by omega)) (row 28 (by omega) (by omega) (by omega) (by omega)) (fun i hi => r66 i (by omega)) (by rw [r66 26 (by omega)]; exact Int.le_refl _), u1⟩
        rw [d4] at hi
        have l0 : (0 : Int32).toInt = 0 := rfl
        omega
      rcases c6 with ⟨s1, s2, s3, s4, s5, s6⟩ | ⟨s1, s2, s3, s4⟩
      · rcases d5 with ⟨q1, q2, q3, q4, q5⟩ | ⟨q1, -⟩
        · refine ⟨by rw [q2, s2, e66]; exact t2.symm, fun hB => fin hB ?_ (by rw [r15, s3, q3, e66, t2])⟩
          obtain ⟨P, e, p1, p2⟩ := pAft_wf s1
          refine ⟨⟨(pAft tx n).2.2.1, (pAft tx n).2.2.2.1, P, ⟨⟨p1, p2, by rw [← e]; exact s6⟩, Or.inr ⟨a, a5, by rw [q4, e66]; exact ea2, by rw [← e]; exact q5⟩⟩, ?_, pAft_rg s1⟩, ?_⟩
          · rw [d2, s4, ← e]
            unfold AFC at s5 ⊢
            rw [d1 μ.1.length (by omega) (by omega), d1 (μ.1.length + 1) (by omega) (by omega), d1 (μ.1.length + 2) (by omega) (by omega), d1 (μ.1.length + 3) (by omega) (by omega)]
            exact s5
          · rw [q4, q3, e66, ea2, ofn1 (by omega), oa, ofn (k := a + 1) (by omega)]; omega
        · rw [s1] at q1; cases q1
      · rcases d5 with ⟨q1, -⟩ | ⟨q1, q2, q3, q4⟩
        · rw [s1] at q1; cases q1
        · refine ⟨by rw [q2, s2], fun hB => fin hB ?_ (by rw [r15, s3, q3, e66, t2])⟩
          obtain ⟨⟨w, sw, P, ⟨o1, o2⟩, o3, o4⟩, o5⟩ := v5
          have pl := h.aw.lt
          have p0 := h.aw.1
          refine ⟨⟨w, sw, P, ⟨o1, ?_⟩, ?_, o4⟩, by rw [q4, q3, e66]; exact o5⟩
          · rcases o2 with ⟨b1, b2⟩ | ⟨b, hb, b1, ⟨b2, b3⟩, b4, b5⟩
            · exact Or.inl ⟨by rw [q4, e66]; exact b1, b2⟩
            · have hba : b < a := by rw [b1, ea2, oa, ofn (k := b) (by omega)] at o5; omega
              have hl := o1.2.2
              exact Or.inr ⟨b, hb, by rw [q4, e66]; exact b1, ⟨by rw [r66 (210 + b) (by omega)]; exact b2, by rw [r66 (215 + b) (by omega)]; exact b3⟩, by rw [r66 (220 + b) (by omega)]; exact b4, fun i hi => by rw [r66 (225 + 140 * b + i) (by omega)]; exact b5 i hi⟩
          · rw [d2, s4]
            unfold AFC at o3 ⊢
            rw [row _ (by omega) (by omega) (by omega) (by omega), row _ (by omega) (by omega) (by omega) (by omega), row _ (by omega) (by omega) (by omega) (by omega), row _ (by omega) (by omega) (by omega) (by omega)]
            exact o3
end
end
section
/-! rows told: agreed behind them -/
theorem ad_z {μ : gm_M} {r : Nat} {a b c : Int32} (k : Nat) : (ad μ r a b c).2.1 (r + 1) (3 * k) = if k = (μ.2.1 r 2).toInt.toNat then a else μ.2.1 (r + 1) (3 * k) := by
  unfold ad
  rw [wI_o _ _ _ _ (show r + 1 ≠ r by omega), wI_n _ _ _ _ (by omega), wI_n _ _ _ _ (by omega)]
  by_cases h : k = (μ.2.1 r 2).toInt.toNat
  · rw [if_pos h, h, wI_e]
  · rw [if_neg h, wI_n _ _ _ _ (by omega)]
theorem ad_y {μ : gm_M} {r : Nat} {a b c : Int32} (k : Nat) : (ad μ r a b c).2.1 (r + 1) (3 * k + 1) = if k = (μ.2.1 r 2).toInt.toNat then b else μ.2.1 (r + 1) (3 * k + 1) := by
  unfold ad
  rw [wI_o _ _ _ _ (show r + 1 ≠ r by omega), wI_n _ _ _ _ (by omega)]
  by_cases h : k = (μ.2.1 r 2).toInt.toNat
  · rw [if_pos h, h, wI_e]
  · rw [if_neg h, wI_n _ _ _ _ (by omega), wI_n _ _ _ _ (by omega)]
section
variable {μ : gm_M}
/-- rows of 'now' have changed, and cells of the reference that the rest doesn't look at -/
theorem REL.rws (h : REL μ) {m : gm_M} {q : Nat} (hq : q = 23 ∨ q = 25 ∨ q = 27) (hB : ALL m) (e2 : m.2.2 = μ.2.2) (ro : ∀ r : Nat, r ≠ q → r ≠ q + 1 → r ≠ 66 → m.2.1 r = μ.2.1 r) (ce : ∀ k : Nat, k = 0 ∨ (1 ≤ k ∧ k < 28) ∨ (31 ≤ k ∧ k < 63) ∨ 110 ≤ k → m.2.1 66 k = μ.2.1 66 k) (v : VR 15 m (m.2.1 66)) : REL m := by
  obtain ⟨v1, v2, v3, -, -⟩ := h.vs
  exact h.of hB (fun r hr => ro r (by unfold Qr at hr; omega) (by unfold Qr at hr; omega) (by unfold Qr at hr; omega)) (by rw [ro 1 (by omega) (by omega) (by omega)]) (fun r _ => by rw [e2]) ⟨v1.fr (fun k hk => kC_o (by rw [e2]) (ro _ (by omega) (by omega) (by omega)) (fun j _ => by rw [ro _ (by omega) (by omega) (by omega)])) (fun i hi => ce i (by omega)), by rw [ce 0 (by omega)]; exact v2, v3.fr ⟨by rw [ro 15 (by omega) (by omega) (by omega)], by rw [ro 15 (by omega) (by omega) (by omega)]⟩ (ro 17 (by omega) (by omega) (by omega)) (fun i hi => ce i (by omega)), v, h.va (fun r hr => ro r (by unfold Qr at hr; omega) (by unfold Qr at hr; omega) (by unfold Qr at hr; omega)) (by rw [e2]) (fun i hi => ce i (by omega))⟩
theorem R_clr (h : REL μ) {r s : Nat} (hr : (r = 23 ∧ s = 28) ∨ (r = 25 ∧ s = 29) ∨ (r = 27 ∧ s = 30)) (hB : ALL (wI (wI μ r 2 0) 66 s 0)) : REL (wI (wI μ r 2 0) 66 s 0) := by
  have ro : ∀ q : Nat, q ≠ r → q ≠ 66 → (wI (wI μ r 2 0) 66 s 0).2.1 q = μ.2.1 q := fun q q1 q2 => by rw [wI_o _ _ _ _ q2, wI_o _ _ _ _ q1]
  have ce : ∀ k : Nat, k ≠ s → (wI (wI μ r 2 0) 66 s 0).2.1 66 k = μ.2.1 66 k := fun k hk => by rw [wI_n _ _ _ _ hk, wI_o _ _ _ _ (by omega)]
  have cs : (wI (wI μ r 2 0) 66 s 0).2.1 66 s = 0 := wI_e _ _ _ _
  have l0 : (0 : Int32).toInt = 0 := rfl
  obtain ⟨-, -, -, ⟨w1, w2⟩, -⟩ := h.vs
  refine h.rws (q := r) (by omega) hB rfl (fun q q1 _ q2 => ro q q1 q2) (fun k hk => ce k (by omega)) ⟨fun i h5 hi => ?_, fun i h8 hi => ?_⟩
  · by_cases e : s = 28
    · rw [e] at cs; rw [e] at hi; rw [cs] at hi; omega
    · rw [ce 28 (by omega)] at hi
      rw [ro (15 + 9) (by omega) (by omega), ce (63 + i) (by omega), ce (68 + i) (by omega), ce (73 + i) (by omega), ce 26 (by omega)]
      exact w1 i h5 hi
  · by_cases e : s = 30
    · rw [e] at cs; rw [e] at hi; rw [cs] at hi; omega
    · rw [ce 30 (by omega)] at hi
      rw [ro (15 + 13) (by omega) (by omega), ce (94 + i) (by omega), ce (102 + i) (by omega), ce 26 (by omega)]
      exact w2 i h8 hi
theorem R_see (h : REL μ) {a b c : Int32} {N : Nat} (hN : (μ.2.1 66 28).toInt = N) (n : N < 5) (hc : 0 ≤ c.toInt ∧ c.toInt ≤ 20) (ha : a.toInt < (μ.2.1 66 26).toInt) (hB : ALL (wI (wI (wI (wI (ad μ 23 a b c) 66 (63 + N) a) 66 (68 + N) b) 66 (73 + N) c) 66 28 (μ.2.1 66 28 + 1))) : REL (wI (wI (wI (wI (ad μ 23 a b c) 66 (63 + N) a) 66 (68 + N) b) 66 (73 + N) c) 66 28 (μ.2.1 66 28 + 1)) := by
  have ro : ∀ q : Nat, q ≠ 66 → (wI (wI (wI (wI (ad μ 23 a b c) 66 (63 + N) a) 66 (68 + N) b) 66 (73 + N) c) 66 28 (μ.2.1 66 28 + 1)).2.1 q = (ad μ 23 a b c).2.1 q := fun q q2 => by rw [wI_o _ _ _ _ q2, wI_o _ _ _ _ q2, wI_o _ _ _ _ q2, wI_o _ _ _ _ q2]
  have ce : ∀ k : Nat, k ≠ 28 → k ≠ 63 + N → k ≠ 68 + N → k ≠ 73 + N → (wI (wI (wI (wI (ad μ 23 a b c) 66 (63 + N) a) 66 (68 + N) b) 66 (73 + N) c) 66 28 (μ.2.1 66 28 + 1)).2.1 66 k = μ.2.1 66 k := fun k k1 k2 k3 k4 => by rw [wI_n _ _ _ _ k1, wI_n _ _ _ _ k4, wI_n _ _ _ _ k3, wI_n _ _ _ _ k2, ad_o (by omega) (by omega)]
  have c28 : (wI (wI (wI (wI (ad μ 23 a b c) 66 (63 + N) a) 66 (68 + N) b) 66 (73 + N) c) 66 28 (μ.2.1 66 28 + 1)).2.1 66 28 = μ.2.1 66 28 + 1 := wI_e _ _ _ _
  have ca : (wI (wI (wI (wI (ad μ 23 a b c) 66 (63 + N) a) 66 (68 + N) b) 66 (73 + N) c) 66 28 (μ.2.1 66 28 + 1)).2.1 66 (63 + N) = a := by rw [wI_n _ _ _ _ (by omega), wI_n _ _ _ _ (by omega), wI_n _ _ _ _ (by omega), wI_e]
  have cb : (wI (wI (wI (wI (ad μ 23 a b c) 66 (63 + N) a) 66 (68 + N) b) 66 (73 + N) c) 66 28 (μ.2.1 66 28 + 1)).2.1 66 (68 + N) = b := by rw [wI_n _ _ _ _ (by omega), wI_n _ _ _ _ (by omega), wI_e]
  have cc : (wI (wI (wI (wI (ad μ 23 a b c) 66 (63 + N) a) 66 (68 + N) b) 66 (73 + N) c) 66 28 (μ.2.1 66 28 + 1)).2.1 66 (73 + N) = c := by rw [wI_n _ _ _ _ (by omega), wI_e]
  have e2 : (wI (wI (wI (wI (ad μ 23 a b c) 66 (63 + N) a) 66 (68 + N) b) 66 (73 + N) c) 66 28 (μ.2.1 66 28 + 1)).2.2 = μ.2.2 := rfl
  generalize wI (wI (wI (wI (ad μ 23 a b c) 66 (63 + N) a) 66 (68 + N) b) 66 (73 + N) c) 66 28 (μ.2.1 66 28 + 1) = m at *
  have l1 : (1 : Int32).toInt = 1 := rfl
  have np : (μ.2.1 66 28 + 1).toInt = (μ.2.1 66 28).toInt + (1 : Int32).toInt := gx_add (by omega) (by omega)
  have hn : (μ.2.1 23 2).toInt.toNat = N := by have := h.1.n28; omega
  obtain ⟨-, -, -, ⟨w1, w2⟩, -⟩ := h.vs
  refine h.rws (q := 23) (by omega) hB e2 (fun q q1 q2 q3 => (ro q q3).trans (ad_o q1 q2)) (fun k hk => ce k (by omega) (by omega) (by omega) (by omega)) ⟨fun i h5 hi => ?_, fun i h8 hi => ?_⟩
  · rw [c28] at hi
    rw [ro (15 + 9) (by omega)]
    show (ad μ 23 a b c).2.1 (23 + 1) (3 * i) = _ ∧ (ad μ 23 a b c).2.1 (23 + 1) (3 * i + 1) = _ ∧ (ad μ 23 a b c).2.1 (23 + 1) (3 * i + 2) = _ ∧ _
    rw [ad_z, ad_y, ad_2, hn]
    by_cases e : i = N
    · rw [if_pos e, if_pos e, if_pos e, e, ca, cb, cc, ce 26 (by omega) (by omega) (by omega) (by omega)]; exact ⟨rfl, rfl, rfl, hc, ha⟩
    · rw [if_neg e, if_neg e, if_neg e, ce (63 + i) (by omega) (by omega) (by omega) (by omega), ce (68 + i) (by omega) (by omega) (by omega) (by omega), ce (73 + i) (by omega) (by omega) (by omega) (by omega), ce 26 (by omega) (by omega) (by omega) (by omega)]
      exact w1 i h5 (by omega)
  · rw [ce 30 (by omega) (by omega) (by omega) (by omega)] at hi
    rw [ro (15 + 13) (by omega), ad_o (by omega) (by omega), ce (94 + i) (by omega) (by omega) (by omega) (by omega), ce (102 + i) (by omega) (by omega) (by omega) (by omega), ce 26 (by omega) (by omega) (by omega) (by omega)]
    exact w2 i h8 hi
theorem R_plan (h : REL μ) {a b c : Int32} {N : Nat} (n : N < 8) (hB : ALL (wI (wI (wI (ad μ 25 a b c) 66 (78 + N) a) 66 (86 + N) b) 66 29 (μ.2.1 66 29 + 1))) : REL (wI (wI (wI (ad μ 25 a b c) 66 (78 + N) a) 66 (86 + N) b) 66 29 (μ.2.1 66 29 + 1)) := by
  have ro : ∀ q : Nat, q ≠ 66 → (wI (wI (wI (ad μ 25 a b c) 66 (78 + N) a) 66 (86 + N) b) 66 29 (μ.2.1 66 29 + 1)).2.1 q = (ad μ 25 a b c).2.1 q := fun q q2 => by rw [wI_o _ _ _ _ q2, wI_o _ _ _ _ q2, wI_o _ _ _ _ q2]
  have ce : ∀ k : Nat, k ≠ 29 → k ≠ 78 + N → k ≠ 86 + N → (wI (wI (wI (ad μ 25 a b c) 66 (78 + N) a) 66 (86 + N) b) 66 29 (μ.2.1 66 29 + 1)).2.1 66 k = μ.2.1 66 k := fun k k1 k2 k3 => by rw [wI_n _ _ _ _ k1, wI_n _ _ _ _ k3, wI_n _ _ _ _ k2, ad_o (by omega) (by omega)]
  obtain ⟨-, -, -, w, -⟩ := h.vs
  exact h.rws (q := 25) (by omega) hB rfl (fun q q1 q2 q3 => (ro q q3).trans (ad_o q1 q2)) (fun k hk => ce k (by omega) (by omega) (by omega)) (w.fr ((ro _ (by omega)).trans (ad_o (by omega) (by omega))) ((ro _ (by omega)).trans (ad_o (by omega) (by omega))) (fun k hk => ce k (by omega) (by omega) (by omega)) (by rw [ce 26 (by omega) (by omega) (by omega)]; exact Int.le_refl _))
theorem R_book (h : REL μ) {a b c : Int32} {N : Nat} (hN : (μ.2.1 66 30).toInt = N) (n : N < 8) (ha : a.toInt < (μ.2.1 66 26).toInt) (hB : ALL (wI (wI (wI (ad μ 27 a b c) 66 (94 + N) a) 66 (102 + N) b) 66 30 (μ.2.1 66 30 + 1))) : REL (wI (wI (wI (ad μ 27 a b c) 66 (94 + N) a) 66 (102 + N) b) 66 30 (μ.2.1 66 30 + 1)) := by
  have ro : ∀ q : Nat, q ≠ 66 → (wI (wI (wI (ad μ 27 a b c) 66 (94 + N) a) 66 (102 + N) b) 66 30 (μ.2.1 66 30 + 1)).2.1 q = (ad μ 27 a b c).2.1 q := fun q q2 => by rw [wI_o _ _ _ _ q2, wI_o _ _ _ _ q2, wI_o _ _ _ _ q2]
  have ce : ∀ k : Nat, k ≠ 30 → k ≠ 94 + N → k ≠ 102 + N → (wI (wI (wI (ad μ 27 a b c) 66 (94 + N) a) 66 (102 + N) b) 66 30 (μ.2.1 66 30 + 1)).2.1 66 k = μ.2.1 66 k := fun k k1 k2 k3 => by rw [wI_n _ _ _ _ k1, wI_n _ _ _ _ k3, wI_n _ _ _ _ k2, ad_o (by omega) (by omega)]
  have c30 : (wI (wI (wI (ad μ 27 a b c) 66 (94 + N) a) 66 (102 + N) b) 66 30 (μ.2.1 66 30 + 1)).2.1 66 30 = μ.2.1 66 30 + 1 := wI_e _ _ _ _
  have ca : (wI (wI (wI (ad μ 27 a b c) 66 (94 + N) a) 66 (102 + N) b) 66 30 (μ.2.1 66 30 + 1)).2.1 66 (94 + N) = a := by rw [wI_n _ _ _ _ (by omega), wI_n _ _ _ _ (by omega), wI_e]
  have cb : (wI (wI (wI (ad μ 27 a b c) 66 (94 + N) a) 66 (102 + N) b) 66 30 (μ.2.1 66 30 + 1)).2.1 66 (102 + N) = b := by rw [wI_n _ _ _ _ (by omega), wI_e]
  have e2 : (wI (wI (wI (ad μ 27 a b c) 66 (94 + N) a) 66 (102 + N) b) 66 30 (μ.2.1 66 30 + 1)).2.2 = μ.2.2 := rfl
  generalize wI (wI (wI (ad μ 27 a b c) 66 (94 + N) a) 66 (102 + N) b) 66 30 (μ.2.1 66 30 + 1) = m at *
  have l1 : (1 : Int32).toInt = 1 := rfl
  have np : (μ.2.1 66 30 + 1).toInt = (μ.2.1 66 30).toInt + (1 : Int32).toInt := gx_add (by omega) (by omega)
  have hn : (μ.2.1 27 2).toInt.toNat = N := by have := h.1.n30; omega
  obtain ⟨-, -, -, ⟨w1, w2⟩, -⟩ := h.vs
  refine h.rws (q := 27) (by omega) hB e2 (fun q q1 q2 q3 => (ro q q3).trans (ad_o q1 q2)) (fun k hk => ce k (by omega) (by omega) (by omega)) ⟨fun i h5 hi => ?_, fun i h8 hi => ?_⟩
  · rw [ce 28 (by omega) (by omega) (by omega)] at hi
    rw [ro (15 + 9) (by omega), ad_o (by omega) (by omega), ce (63 + i) (by omega) (by omega) (by omega), ce (68 + i) (by omega) (by omega) (by omega), ce (73 + i) (by omega) (by omega) (by omega), ce 26 (by omega) (by omega) (by omega)]
    exact w1 i h5 hi
  · rw [c30] at hi
    rw [ro (15 + 13) (by omega)]
    show (ad μ 27 a b c).2.1 (27 + 1) (3 * i) = _ ∧ (ad μ 27 a b c).2.1 (27 + 1) (3 * i + 1) = _ ∧ _
    rw [ad_z, ad_y, hn]
    by_cases e : i = N
    · rw [if_pos e, if_pos e, e, ca, cb, ce 26 (by omega) (by omega) (by omega)]; exact ⟨rfl, rfl, ha⟩
    · rw [if_neg e, if_neg e, ce (94 + i) (by omega) (by omega) (by omega), ce (102 + i) (by omega) (by omega) (by omega), ce 26 (by omega) (by omega) (by omega)]
      exact w2 i h8 (by omega)
/-! rows of words run -/
theorem R_act (h : REL μ) {l : List Int32} {m1 m2 : gm_M} (t : tk μ l m1) (f : ft m1 l m2) (hB : ALL m2) : REL m2 := by
  have ro : ∀ r : Nat, r ≠ 3 → r ≠ 4 → r ≠ 65 → r ≠ 74 → m2.2.1 r = μ.2.1 r := fun r r1 r2 r3 r4 => (f.1.2.2.1 r r3 r4).trans (t.1.2.2.1 r r1 r2)
  have e2 : m2.2.2 = μ.2.2 := f.1.2.1.trans t.1.2.1
  exact h.of hB (fun r hr => ro r (by unfold Qr at hr; omega) (by unfold Qr at hr; omega) (by unfold Qr at hr; omega) (by unfold Qr at hr; omega)) (by rw [ro 1 (by omega) (by omega) (by omega) (by omega)]) (fun r _ => by rw [e2]) (by
    have p0 := h.aw.1
    rw [ro 66 (by omega) (by omega) (by omega) (by omega)]
    exact h.vs.fr (Or.inl ⟨rfl, rfl⟩) h.aw (fun r hr => ro r (by omega) (by omega) (by omega) (by omega)) (fun r _ => by rw [e2]) rfl)
theorem PR.of {z : Option (Option Value × gm_M)} {g : gm_M → Option (Option Value × gm_M)} (h1 : PI z g) (h2 : QR z g) : PR z g := by
  refine gwI_mono (gwI_and h1 h2) (fun x m ⟨⟨a, b⟩, ⟨_, c⟩⟩ => ⟨a, ?_⟩)
  exact gwI_mono (gwI_and b c) (fun y m2 ⟨d, e⟩ => ⟨d.1, e⟩)
theorem PR.v {z : Option (Option Value × gm_M)} {g : gm_M → Option (Option Value × gm_M)} (h : REL μ) (v : Int32) (h1 : gwI z (fun x m => kc μ m ∧ x = v)) (h2 : ∀ m, REL m → kc μ m → gwI (g m) (fun y m2 => qm m m2 ∧ y = v)) : PR z g := PR.kq (V := fun x => x = v) h h1 (fun m hm hk => gwI_mono (h2 m hm hk) (fun y m2 ⟨a, b⟩ => ⟨a, fun x ex => b.trans ex.symm⟩))
theorem PR.u {z : Option (Option Value × gm_M)} {g : gm_M → Option (Option Value × gm_M)} (h : REL μ) (v : Int32) (h1 : gwI z (fun x m => m = μ ∧ x = v)) (h2 : gwI (g μ) (fun y m2 => qm μ m2 ∧ y = v)) : PR z g := by
  refine gwI_mono h1 (fun x m ⟨e, ex⟩ => ?_)
  subst e
  exact ⟨h.1.t65, gwI_mono h2 (fun y m2 ⟨a, b⟩ => ⟨b.trans ex.symm, h.qm a⟩)⟩
/-- a leaf: the class has answered v -/
theorem leaf {g : gm_M → Option (Option Value × gm_M)} {m : gm_M} (h : REL m) {v : Int32} (h2 : gwI (g m) (fun y m2 => qm m m2 ∧ y = v)) : gw (some (some (.int v), m)) (gqI (fun x m => gm_tag m 65 = 17 ∧ gwI (g m) (fun y m2 => y = x ∧ REL m2))) :=
  gw_some (gq_I ⟨h.1.t65, gwI_mono h2 (fun y m2 ⟨a, b⟩ => ⟨b, h.qm a⟩)⟩)
theorem N_as (h : REL μ) {a b : Int32} : PR (f_X11_as 1 a b μ) (f_X12_as 65 a b) := PR.of (L_as h.1) (QR.kq h (s_X11_as h.ci) (fun _ k => s_X12_as k))
end
end
