/-! rows told: agreed behind them -/
theorem ad_z {μ : gm_M} {r : Nat} {a b c : Int32} (k : Nat) : (ad μ r a b c).2.1 (r + 1) (3 * k) = if k = (μ.2.1 r 2).toInt.toNat then a else μ.2.1 (r + 1) (3 * k) := by
  unfold ad
  rw [wI_o _ _ _ _ (show r + 1 ≠ r by omega), wI_n _ _ _ _ (by omega), wI_n _ _ _ _ (by omega)]
  by_cases h : k = (μ.2.1 r 2).toInt.toNat
  · rw [if_pos h, h, wI_e]
  · rw [if_neg h, wI_n _ _ _ _ (by omega)]
theorem ad_y {μ : gm_M} {r : Nat} {a b c : Int32} (k : Nat) : (ad μ r a b c).2.1 (r + 1) (3 * k + 1) = if k = (μ.2.1 r 2).toInt.toNat then b else μ.2.1 (r + 1) (3 * k + 1) := by
  unfold ad
  rw [wI_o _ _ _ _ (show r + 1 ≠ r by omega), wI_n _ _ _ _ (by omega)]
  by_cases h : k = (μ.2.1 r 2).toInt.toNat
  · rw [if_pos h, h, wI_e]
  · rw [if_neg h, wI_n _ _ _ _ (by omega), wI_n _ _ _ _ (by omega)]
section
variable {μ : gm_M}
/-- rows of 'now' have changed, and cells of the reference that the rest doesn't look at -/
theorem REL.rws (h : REL μ) {m : gm_M} {q : Nat} (hq : q = 23 ∨ q = 25 ∨ q = 27) (hB : ALL m) (e2 : m.2.2 = μ.2.2) (ro : ∀ r : Nat, r ≠ q → r ≠ q + 1 → r ≠ 66 → m.2.1 r = μ.2.1 r) (ce : ∀ k : Nat, k = 0 ∨ (1 ≤ k ∧ k < 28) ∨ (31 ≤ k ∧ k < 63) ∨ 110 ≤ k → m.2.1 66 k = μ.2.1 66 k) (v : VR 15 m (m.2.1 66)) : REL m := by
  obtain ⟨v1, v2, v3, -, -⟩ := h.vs
  exact h.of hB (fun r hr => ro r (by unfold Qr at hr; omega) (by unfold Qr at hr; omega) (by unfold Qr at hr; omega)) (by rw [ro 1 (by omega) (by omega) (by omega)]) (fun r _ => by rw [e2]) ⟨v1.fr (fun k hk => kC_o (by rw [e2]) (ro _ (by omega) (by omega) (by omega)) (fun j _ => by rw [ro _ (by omega) (by omega) (by omega)])) (fun i hi => ce i (by omega)), by rw [ce 0 (by omega)]; exact v2, v3.fr ⟨by rw [ro 15 (by omega) (by omega) (by omega)], by rw [ro 15 (by omega) (by omega) (by omega)]⟩ (ro 17 (by omega) (by omega) (by omega)) (fun i hi => ce i (by omega)), v, h.va (fun r hr => ro r (by unfold Qr at hr; omega) (by unfold Qr at hr; omega) (by unfold Qr at hr; omega)) (by rw [e2]) (fun i hi => ce i (by omega))⟩
theorem R_clr (h : REL μ) {r s : Nat} (hr : (r = 23 ∧ s = 28) ∨ (r = 25 ∧ s = 29) ∨ (r = 27 ∧ s = 30)) (hB : ALL (wI (wI μ r 2 0) 66 s 0)) : REL (wI (wI μ r 2 0) 66 s 0) := by
  have ro : ∀ q : Nat, q ≠ r → q ≠ 66 → (wI (wI μ r 2 0) 66 s 0).2.1 q = μ.2.1 q := fun q q1 q2 => by rw [wI_o _ _ _ _ q2, wI_o _ _ _ _ q1]
  have ce : ∀ k : Nat, k ≠ s → (wI (wI μ r 2 0) 66 s 0).2.1 66 k = μ.2.1 66 k := fun k hk => by rw [wI_n _ _ _ _ hk, wI_o _ _ _ _ (by omega)]
  have cs : (wI (wI μ r 2 0) 66 s 0).2.1 66 s = 0 := wI_e _ _ _ _
  have l0 : (0 : Int32).toInt = 0 := rfl
  obtain ⟨-, -, -, ⟨w1, w2⟩, -⟩ := h.vs
  refine h.rws (q := r) (by omega) hB rfl (fun q q1 _ q2 => ro q q1 q2) (fun k hk => ce k (by omega)) ⟨fun i h5 hi => ?_, fun i h8 hi => ?_⟩
  · by_cases e : s = 28
    · rw [e] at cs; rw [e] at hi; rw [cs] at hi; omega
    · rw [ce 28 (by omega)] at hi
      rw [ro (15 + 9) (by omega) (by omega), ce (63 + i) (by omega), ce (68 + i) (by omega), ce (73 + i) (by omega), ce 26 (by omega)]
      exact w1 i h5 hi
  · by_cases e : s = 30
    · rw [e] at cs; rw [e] at hi; rw [cs] at hi; omega
    · rw [ce 30 (by omega)] at hi
      rw [ro (15 + 13) (by omega) (by omega), ce (94 + i) (by omega), ce (102 + i) (by omega), ce 26 (by omega)]
      exact w2 i h8 hi
theorem R_see (h : REL μ) {a b c : Int32} {N : Nat} (hN : (μ.2.1 66 28).toInt = N) (n : N < 5) (hc : 0 ≤ c.toInt ∧ c.toInt ≤ 20) (ha : a.toInt < (μ.2.1 66 26).toInt) (hB : ALL (wI (wI (wI (wI (ad μ 23 a b c) 66 (63 + N) a) 66 (68 + N) b) 66 (73 + N) c) 66 28 (μ.2.1 66 28 + 1))) : REL (wI (wI (wI (wI (ad μ 23 a b c) 66 (63 + N) a) 66 (68 + N) b) 66 (73 + N) c) 66 28 (μ.2.1 66 28 + 1)) := by
  have ro : ∀ q : Nat, q ≠ 66 → (wI (wI (wI (wI (ad μ 23 a b c) 66 (63 + N) a) 66 (68 + N) b) 66 (73 + N) c) 66 28 (μ.2.1 66 28 + 1)).2.1 q = (ad μ 23 a b c).2.1 q := fun q q2 => by rw [wI_o _ _ _ _ q2, wI_o _ _ _ _ q2, wI_o _ _ _ _ q2, wI_o _ _ _ _ q2]
  have ce : ∀ k : Nat, k ≠ 28 → k ≠ 63 + N → k ≠ 68 + N → k ≠ 73 + N → (wI (wI (wI (wI (ad μ 23 a b c) 66 (63 + N) a) 66 (68 + N) b) 66 (73 + N) c) 66 28 (μ.2.1 66 28 + 1)).2.1 66 k = μ.2.1 66 k := fun k k1 k2 k3 k4 => by rw [wI_n _ _ _ _ k1, wI_n _ _ _ _ k4, wI_n _ _ _ _ k3, wI_n _ _ _ _ k2, ad_o (by omega) (by omega)]
  have c28 : (wI (wI (wI (wI (ad μ 23 a b c) 66 (63 + N) a) 66 (68 + N) b) 66 (73 + N) c) 66 28 (μ.2.1 66 28 + 1)).2.1 66 28 = μ.2.1 66 28 + 1 := wI_e _ _ _ _
  have ca : (wI (wI (wI (wI (ad μ 23 a b c) 66 (63 + N) a) 66 (68 + N) b) 66 (73 + N) c) 66 28 (μ.2.1 66 28 + 1)).2.1 66 (63 + N) = a := by rw [wI_n _ _ _ _ (by omega), wI_n _ _ _ _ (by omega), wI_n _ _ _ _ (by omega), wI_e]
  have cb : (wI (wI (wI (wI (ad μ 23 a b c) 66 (63 + N) a) 66 (68 + N) b) 66 (73 + N) c) 66 28 (μ.2.1 66 28 + 1)).2.1 66 (68 + N) = b := by rw [wI_n _ _ _ _ (by omega), wI_n _ _ _ _ (by omega), wI_e]
  have cc : (wI (wI (wI (wI (ad μ 23 a b c) 66 (63 + N) a) 66 (68 + N) b) 66 (73 + N) c) 66 28 (μ.2.1 66 28 + 1)).2.1 66 (73 + N) = c := by rw [wI_n _ _ _ _ (by omega), wI_e]
  have e2 : (wI (wI (wI (wI (ad μ 23 a b c) 66 (63 + N) a) 66 (68 + N) b) 66 (73 + N) c) 66 28 (μ.2.1 66 28 + 1)).2.2 = μ.2.2 := rfl
  generalize wI (wI (wI (wI (ad μ 23 a b c) 66 (63 + N) a) 66 (68 + N) b) 66 (73 + N) c) 66 28 (μ.2.1 66 28 + 1) = m at *
  have l1 : (1 : Int32).toInt = 1 := rfl
  have np : (μ.2.1 66 28 + 1).toInt = (μ.2.1 66 28).toInt + (1 : Int32).toInt := gx_add (by omega) (by omega)
  have hn : (μ.2.1 23 2).toInt.toNat = N := by have := h.1.n28; omega
  obtain ⟨-, -, -, ⟨w1, w2⟩, -⟩ := h.vs
  refine h.rws (q := 23) (by omega) hB e2 (fun q q1 q2 q3 => (ro q q3).trans (ad_o q1 q2)) (fun k hk => ce k (by omega) (by omega) (by omega) (by omega)) ⟨fun i h5 hi => ?_, fun i h8 hi => ?_⟩
  · rw [c28] at hi
    rw [ro (15 + 9) (by omega)]
    show (ad μ 23 a b c).2.1 (23 + 1) (3 * i) = _ ∧ (ad μ 23 a b c).2.1 (23 + 1) (3 * i + 1) = _ ∧ (ad μ 23 a b c).2.1 (23 + 1) (3 * i + 2) = _ ∧ _
    rw [ad_z, ad_y, ad_2, hn]
    by_cases e : i = N
    · rw [if_pos e, if_pos e, if_pos e, e, ca, cb, cc, ce 26 (by omega) (by omega) (by omega) (by omega)]; exact ⟨rfl, rfl, rfl, hc, ha⟩
    · rw [if_neg e, if_neg e, if_neg e, ce (63 + i) (by omega) (by omega) (by omega) (by omega), ce (68 + i) (by omega) (by omega) (by omega) (by omega), ce (73 + i) (by omega) (by omega) (by omega) (by omega), ce 26 (by omega) (by omega) (by omega) (by omega)]
      exact w1 i h5 (by omega)
  · rw [ce 30 (by omega) (by omega) (by omega) (by omega)] at hi
    rw [ro (15 + 13) (by omega), ad_o (by omega) (by omega), ce (94 + i) (by omega) (by omega) (by omega) (by omega), ce (102 + i) (by omega) (by omega) (by omega) (by omega), ce 26 (by omega) (by omega) (by omega) (by omega)]
    exact w2 i h8 hi
theorem R_plan (h : REL μ) {a b c : Int32} {N : Nat} (n : N < 8) (hB : ALL (wI (wI (wI (ad μ 25 a b c) 66 (78 + N) a) 66 (86 + N) b) 66 29 (μ.2.1 66 29 + 1))) : REL (wI (wI (wI (ad μ 25 a b c) 66 (78 + N) a) 66 (86 + N) b) 66 29 (μ.2.1 66 29 + 1)) := by
  have ro : ∀ q : Nat, q ≠ 66 → (wI (wI (wI (ad μ 25 a b c) 66 (78 + N) a) 66 (86 + N) b) 66 29 (μ.2.1 66 29 + 1)).2.1 q = (ad μ 25 a b c).2.1 q := fun q q2 => by rw [wI_o _ _ _ _ q2, wI_o _ _ _ _ q2, wI_o _ _ _ _ q2]
  have ce : ∀ k : Nat, k ≠ 29 → k ≠ 78 + N → k ≠ 86 + N → (wI (wI (wI (ad μ 25 a b c) 66 (78 + N) a) 66 (86 + N) b) 66 29 (μ.2.1 66 29 + 1)).2.1 66 k = μ.2.1 66 k := fun k k1 k2 k3 => by rw [wI_n _ _ _ _ k1, wI_n _ _ _ _ k3, wI_n _ _ _ _ k2, ad_o (by omega) (by omega)]
  obtain ⟨-, -, -, w, -⟩ := h.vs
  exact h.rws (q := 25) (by omega) hB rfl (fun q q1 q2 q3 => (ro q q3).trans (ad_o q1 q2)) (fun k hk => ce k (by omega) (by omega) (by omega)) (w.fr ((ro _ (by omega)).trans (ad_o (by omega) (by omega))) ((ro _ (by omega)).trans (ad_o (by omega) (by omega))) (fun k hk => ce k (by omega) (by omega) (by omega)) (by rw [ce 26 (by omega) (by omega) (by omega)]; exact Int.le_refl _))
theorem R_book (h : REL μ) {a b c : Int32} {N : Nat} (hN : (μ.2.1 66 30).toInt = N) (n : N < 8) (ha : a.toInt < (μ.2.1 66 26).toInt) (hB : ALL (wI (wI (wI (ad μ 27 a b c) 66 (94 + N) a) 66 (102 + N) b) 66 30 (μ.2.1 66 30 + 1))) : REL (wI (wI (wI (ad μ 27 a b c) 66 (94 + N) a) 66 (102 + N) b) 66 30 (μ.2.1 66 30 + 1)) := by
  have ro : ∀ q : Nat, q ≠ 66 → (wI (wI (wI (ad μ 27 a b c) 66 (94 + N) a) 66 (102 + N) b) 66 30 (μ.2.1 66 30 + 1)).2.1 q = (ad μ 27 a b c).2.1 q := fun q q2 => by rw [wI_o _ _ _ _ q2, wI_o _ _ _ _ q2, wI_o _ _ _ _ q2]
  have ce : ∀ k : Nat, k ≠ 30 → k ≠ 94 + N → k ≠ 102 + N → (wI (wI (wI (ad μ 27 a b c) 66 (94 + N) a) 66 (102 + N) b) 66 30 (μ.2.1 66 30 + 1)).2.1 66 k = μ.2.1 66 k := fun k k1 k2 k3 => by rw [wI_n _ _ _ _ k1, wI_n _ _ _ _ k3, wI_n _ _ _ _ k2, ad_o (by omega) (by omega)]
  have c30 : (wI (wI (wI (ad μ 27 a b c) 66 (94 + N) a) 66 (102 + N) b) 66 30 (μ.2.1 66 30 + 1)).2.1 66 30 = μ.2.1 66 30 + 1 := wI_e _ _ _ _
  have ca : (wI (wI (wI (ad μ 27 a b c) 66 (94 + N) a) 66 (102 + N) b) 66 30 (μ.2.1 66 30 + 1)).2.1 66 (94 + N) = a := by rw [wI_n _ _ _ _ (by omega), wI_n _ _ _ _ (by omega), wI_e]
  have cb : (wI (wI (wI (ad μ 27 a b c) 66 (94 + N) a) 66 (102 + N) b) 66 30 (μ.2.1 66 30 + 1)).2.1 66 (102 + N) = b := by rw [wI_n _ _ _ _ (by omega), wI_e]
  have e2 : (wI (wI (wI (ad μ 27 a b c) 66 (94 + N) a) 66 (102 + N) b) 66 30 (μ.2.1 66 30 + 1)).2.2 = μ.2.2 := rfl
  generalize wI (wI (wI (ad μ 27 a b c) 66 (94 + N) a) 66 (102 + N) b) 66 30 (μ.2.1 66 30 + 1) = m at *
  have l1 : (1 : Int32).toInt = 1 := rfl
  have np : (μ.2.1 66 30 + 1).toInt = (μ.2.1 66 30).toInt + (1 : Int32).toInt := gx_add (by omega) (by omega)
  have hn : (μ.2.1 27 2).toInt.toNat = N := by have := h.1.n30; omega
  obtain ⟨-, -, -, ⟨w1, w2⟩, -⟩ := h.vs
  refine h.rws (q := 27) (by omega) hB e2 (fun q q1 q2 q3 => (ro q q3).trans (ad_o q1 q2)) (fun k hk => ce k (by omega) (by omega) (by omega)) ⟨fun i h5 hi => ?_, fun i h8 hi => ?_⟩
  · rw [ce 28 (by omega) (by omega) (by omega)] at hi
    rw [ro (15 + 9) (by omega), ad_o (by omega) (by omega), ce (63 + i) (by omega) (by omega) (by omega), ce (68 + i) (by omega) (by omega) (by omega), ce (73 + i) (by omega) (by omega) (by omega), ce 26 (by omega) (by omega) (by omega)]
    exact w1 i h5 hi
  · rw [c30] at hi
    rw [ro (15 + 13) (by omega)]
    show (ad μ 27 a b c).2.1 (27 + 1) (3 * i) = _ ∧ (ad μ 27 a b c).2.1 (27 + 1) (3 * i + 1) = _ ∧ _
    rw [ad_z, ad_y, hn]
    by_cases e : i = N
    · rw [if_pos e, if_pos e, e, ca, cb, ce 26 (by omega) (by omega) (by omega)]; exact ⟨rfl, rfl, ha⟩
    · rw [if_neg e, if_neg e, ce (94 + i) (by omega) (by omega) (by omega), ce (102 + i) (by omega) (by omega) (by omega), ce 26 (by omega) (by omega) (by omega)]
      exact w2 i h8 (by omega)
/-! rows of words run -/
theorem R_act (h : REL μ) {l : List Int32} {m1 m2 : gm_M} (t : tk μ l m1) (f : ft m1 l m2) (hB : ALL m2) : REL m2 := by
  have ro : ∀ r : Nat, r ≠ 3 → r ≠ 4 → r ≠ 65 → r ≠ 74 → m2.2.1 r = μ.2.1 r := fun r r1 r2 r3 r4 => (f.1.2.2.1 r r3 r4).trans (t.1.2.2.1 r r1 r2)
  have e2 : m2.2.2 = μ.2.2 := f.1.2.1.trans t.1.2.1
  exact h.of hB (fun r hr => ro r (by unfold Qr at hr; omega) (by unfold Qr at hr; omega) (by unfold Qr at hr; omega) (by unfold Qr at hr; omega)) (by rw [ro 1 (by omega) (by omega) (by omega) (by omega)]) (fun r _ => by rw [e2]) (by
    have p0 := h.aw.1
    rw [ro 66 (by omega) (by omega) (by omega) (by omega)]
    exact h.vs.fr (Or.inl ⟨rfl, rfl⟩) h.aw (fun r hr => ro r (by omega) (by omega) (by omega) (by omega)) (fun r _ => by rw [e2]) rfl)
theorem PR.of {z : Option (Option Value × gm_M)} {g : gm_M → Option (Option Value × gm_M)} (h1 : PI z g) (h2 : QR z g) : PR z g := by
  refine gwI_mono (gwI_and h1 h2) (fun x m ⟨⟨a, b⟩, ⟨_, c⟩⟩ => ⟨a, ?_⟩)
  exact gwI_mono (gwI_and b c) (fun y m2 ⟨d, e⟩ => ⟨d.1, e⟩)
theorem PR.v {z : Option (Option Value × gm_M)} {g : gm_M → Option (Option Value × gm_M)} (h : REL μ) (v : Int32) (h1 : gwI z (fun x m => kc μ m ∧ x = v)) (h2 : ∀ m, REL m → kc μ m → gwI (g m) (fun y m2 => qm m m2 ∧ y = v)) : PR z g := PR.kq (V := fun x => x = v) h h1 (fun m hm hk => gwI_mono (h2 m hm hk) (fun y m2 ⟨a, b⟩ => ⟨a, fun x ex => b.trans ex.symm⟩))
theorem PR.u {z : Option (Option Value × gm_M)} {g : gm_M → Option (Option Value × gm_M)} (h : REL μ) (v : Int32) (h1 : gwI z (fun x m => m = μ ∧ x = v)) (h2 : gwI (g μ) (fun y m2 => qm μ m2 ∧ y = v)) : PR z g := by
  refine gwI_mono h1 (fun x m ⟨e, ex⟩ => ?_)
  subst e
  exact ⟨h.1.t65, gwI_mono h2 (fun y m2 ⟨a, b⟩ => ⟨b.trans ex.symm, h.qm a⟩)⟩
/-- a leaf: the class has answered v -/
theorem leaf {g : gm_M → Option (Option Value × gm_M)} {m : gm_M} (h : REL m) {v : Int32} (h2 : gwI (g m) (fun y m2 => qm m m2 ∧ y = v)) : gw (some (some (.int v), m)) (gqI (fun x m => gm_tag m 65 = 17 ∧ gwI (g m) (fun y m2 => y = x ∧ REL m2))) :=
  gw_some (gq_I ⟨h.1.t65, gwI_mono h2 (fun y m2 ⟨a, b⟩ => ⟨b, h.qm a⟩)⟩)
theorem N_as (h : REL μ) {a b : Int32} : PR (f_X11_as 1 a b μ) (f_X12_as 65 a b) := PR.of (L_as h.1) (QR.kq h (s_X11_as h.ci) (fun _ k => s_X12_as k))
end
