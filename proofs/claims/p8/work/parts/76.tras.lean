theorem s_kept {μ : gm_M} (hS : gS μ) (h0 : 0 ≤ (μ.2.1 3 2).toInt) (hL : (μ.2.1 3 0).toInt = 20) {i : Int32} : gwI (f_X7_isKept 3 i μ) (fun x m => m = μ ∧ ((x.toInt = 1 ∧ 0 ≤ i.toInt ∧ i.toInt < (μ.2.1 3 2).toInt ∧ i.toInt < 20) ∨ (x.toInt = 0 ∧ ¬ (0 ≤ i.toInt ∧ i.toInt < (μ.2.1 3 2).toInt ∧ i.toInt < 20)))) := by
  refine gwI_of ?_
  unfold f_X7_isKept
  have l0 : (0 : Int32).toInt = 0 := rfl
  have l1 : (1 : Int32).toInt = 1 := rfl
  refine gw_lt (fun g => gw_z Iff.rfl (by omega) (gq_I ⟨rfl, by omega⟩)) (fun g => ?_)
  refine gw_gIw (hS.c (r := 3) rfl) ?_
  refine gw_le (fun g => gw_z Iff.rfl (by omega) (gq_I ⟨rfl, by omega⟩)) (fun g => ?_)
  refine gw_gIw (hS.c (r := 3) rfl) ?_
  refine gw_le (fun g => gw_z Iff.rfl (by omega) (gq_I ⟨rfl, by omega⟩)) (fun g => ?_)
  exact gw_z Iff.rfl (by omega) (gq_I ⟨rfl, by omega⟩)
theorem p_trace {μ : gm_M} (h : ALL μ) {a1 : Int32} : gwI (f_X11_trace 1 a1 μ) (fun x m => gwI (f_X12_trace 65 a1 m) (fun y m2 => y = x ∧ ALL m2)) := by
  have hc := h.2.2.1
  have hg := hc.1
  have n3 := hc.n3
  have l3 := hc.l3
  obtain ⟨t1, t2⟩ := h.2.2.2.2.2.2
  have l0 : (0 : Int32).toInt = 0 := rfl
  have l1 : (1 : Int32).toInt = 1 := rfl
  have lk : (3 : Int32).toInt = 3 := rfl
  have l20 : (20 : Int32).toInt = 20 := rfl
  have M : (0 ≤ a1.toInt ∧ a1.toInt < (μ.2.1 3 2).toInt ∧ a1.toInt < 20 → gwI (f_X12_trace 65 a1 μ) (fun y m2 => y = μ.2.1 74 a1.toInt.toNat ∧ ALL m2)) ∧ (¬ (0 ≤ a1.toInt ∧ a1.toInt < (μ.2.1 3 2).toInt ∧ a1.toInt < 20) → gwI (f_X12_trace 65 a1 μ) (fun y m2 => y = -1 ∧ ALL m2)) := by
    rw [t1] at n3 ⊢
    have body : ∀ (R : Int32 → gm_M → Prop), (0 ≤ a1.toInt ∧ a1.toInt < (μ.2.1 65 19).toInt ∧ a1.toInt < 20 → R (μ.2.1 74 a1.toInt.toNat) μ) → (¬ (0 ≤ a1.toInt ∧ a1.toInt < (μ.2.1 65 19).toInt ∧ a1.toInt < 20) → R (-1) μ) → gwI (f_X12_trace 65 a1 μ) R := by
      intro R r1 r2
      refine gwI_of ?_
      unfold f_X12_trace
      refine gw_gIw (hg.c (r := 65) rfl) ?_
      refine gw_j (fun s => (s.toInt = 20 ∧ 20 ≤ (μ.2.1 65 19).toInt) ∨ (s.toInt = (μ.2.1 65 19).toInt ∧ (μ.2.1 65 19).toInt < 20)) (fun s hs => ?_) (fun j hj => ?_)
      · have n : (s - (1 : Int32)).toInt = s.toInt - (1 : Int32).toInt := gx_sub (by omega) (by omega)
        refine gw_bI s_X12_in (fun x m ⟨z, f⟩ => ?_)
        replace z := z.symm
        subst z
        refine gw_eq (fun g => gw_some (gq_I (r2 (by omega)))) (fun g => ?_)
        refine gw_gRa 74 (hg.c (r := 65) rfl) (hg.r (by decide)) ?_
        refine gw_aIw a1.toInt.toNat (hg.t (r := 74) rfl) (hg.l (r := 74) rfl) (by omega) (by omega) ?_
        exact gw_some (gq_I (r1 (by omega)))
      · refine gw_le (fun g => hj _ (Or.inl ⟨l20, by omega⟩)) (fun g => ?_)
        refine gw_gIw (hg.c (r := 65) rfl) ?_
        exact hj _ (Or.inr ⟨rfl, by omega⟩)
    exact ⟨fun q => body _ (fun _ => ⟨rfl, h⟩) (fun q2 => absurd q q2), fun q => body _ (fun q2 => absurd q2 q) (fun _ => ⟨rfl, h⟩)⟩
  refine gwI_of ?_
  unfold f_X11_trace
  refine gw_gRa 3 (hg.c (r := 1) rfl) (hg.r (by decide)) ?_
  refine gw_if (hg.t (r := 3) rfl) ?_
  refine gw_bI (s_kept hg n3.1 l3) (fun x m ⟨z, f⟩ => ?_)
  replace z := z.symm
  subst z
  refine gw_eq (fun g => gw_some (gq_I (M.2 (by omega)))) (fun g => ?_)
  refine gw_gRa 3 (hg.c (r := 1) rfl) (hg.r (by decide)) ?_
  refine gw_if (hg.t (r := 3) rfl) ?_
  have hin : 0 ≤ a1.toInt ∧ a1.toInt < (μ.2.1 3 2).toInt ∧ a1.toInt < 20 := by omega
  have C : gwI (f_X7_cell 3 a1 0 μ) (fun x m => m = μ ∧ x = μ.2.1 4 (3 * a1.toInt.toNat)) := by
    refine gwI_of ?_
    unfold f_X7_cell
    refine gw_if (hg.t (r := 3) rfl) ?_
    refine gw_bI (s_kept hg n3.1 l3) (fun x m ⟨z, f2⟩ => ?_)
    replace z := z.symm
    subst z
    refine gw_eq (fun g => ?_) (fun g => ?_)
    · exfalso; omega
    refine gw_lt (fun g => ?_) (fun g => ?_)
    · exfalso; omega
    refine gw_lt (fun g => ?_) (fun g => ?_)
    · refine gw_gRa 4 (hg.c (r := 3) rfl) (hg.r (by decide)) ?_
      have n1 : (a1 * (3 : Int32)).toInt = 3 * a1.toInt := gx_mulr 3 rfl (by omega) (by omega)
      have n2 : (a1 * (3 : Int32) + (0 : Int32)).toInt = (a1 * (3 : Int32)).toInt + (0 : Int32).toInt := gx_add (by omega) (by omega)
      refine gw_aIw (3 * a1.toInt.toNat) (hg.t (r := 4) rfl) (hg.l (r := 4) rfl) (by omega) (by omega) ?_
      exact gw_some (gq_I ⟨rfl, rfl⟩)
    · exfalso; omega
  refine gw_bI C (fun x6 m5 ⟨z, e⟩ => ?_)
  replace z := z.symm
  subst z
  refine gw_some (gq_I ?_)
  rw [e, t2 a1.toInt.toNat (by omega) (by omega)]
  exact M.1 hin
/-- who is under which kind -/
theorem s_und {μ : gm_M} (hS : gS μ) {k : Nat} (hk : k < 7) {b : Int32} (hb : 0 ≤ b.toInt ∧ b.toInt ≤ 6) : gwI (f_X11_isUnder (8 + k) b μ) (fun x m => m = μ ∧ ((x.toInt = 1 ∧ (b.toInt = 0 ∨ b.toInt = k ∨ (0 < b.toInt ∧ b.toInt < 4 ∧ (k : Int) = b.toInt + 3))) ∨ (x.toInt = 0 ∧ ¬ (b.toInt = 0 ∨ b.toInt = k ∨ (0 < b.toInt ∧ b.toInt < 4 ∧ (k : Int) = b.toInt + 3))))) := by
  refine gwI_of ?_
  unfold f_X11_isUnder
  have l0 : (0 : Int32).toInt = 0 := rfl
  have l1 : (1 : Int32).toInt = 1 := rfl
  have l2 : (2 : Int32).toInt = 2 := rfl
  have l3 : (3 : Int32).toInt = 3 := rfl
  have l4 : (4 : Int32).toInt = 4 := rfl
  have l5 : (5 : Int32).toInt = 5 := rfl
  have l6 : (6 : Int32).toInt = 6 := rfl
  have fin : ∀ (ys ns : List Nat) (Q : Option Value × gm_M → Prop) (t : Nat), gm_tag μ (8 + k) = t → (ys.contains t = true ∨ ns.contains t = true) → (ys.contains t = true → Q (some (.int 1), μ)) → (¬ ys.contains t = true → Q (some (.int 0), μ)) → gw (gm_io μ ys ns (8 + k) (fun v1 => if v1 = 0 ∨ v1 = 1 then some (some (.int v1), μ) else none)) Q := by
    intro ys ns Q t ht hy q1 q0
    unfold gm_io
    rw [ht]
    by_cases e : ys.contains t = true
    · rw [if_pos e]; exact gw_if (P := (1 : Int32) = 0 ∨ (1 : Int32) = 1) (Or.inr rfl) (gw_some (q1 e))
    · rw [if_neg e, if_pos (hy.resolve_left e)]; exact gw_if (P := (0 : Int32) = 0 ∨ (0 : Int32) = 1) (Or.inl rfl) (gw_some (q0 e))
  refine gw_eq (fun g => gw_z Iff.rfl (by omega) (gq_I ⟨rfl, by omega⟩)) (fun g0 => ?_)
  obtain rfl | rfl | rfl | rfl | rfl | rfl | rfl : k = 0 ∨ k = 1 ∨ k = 2 ∨ k = 3 ∨ k = 4 ∨ k = 5 ∨ k = 6 := by omega
  all_goals (
    refine gw_eq (fun g => ?_) (fun g1 => ?_)
    · exact fin _ _ _ _ (hS.t rfl) (by decide) (fun q => gq_I ⟨rfl, by revert q; simp; try omega⟩) (fun q => gq_I ⟨rfl, by revert q; simp; try omega⟩)
    refine gw_eq (fun g => ?_) (fun g2 => ?_)
    · exact fin _ _ _ _ (hS.t rfl) (by decide) (fun q => gq_I ⟨rfl, by revert q; simp; try omega⟩) (fun q => gq_I ⟨rfl, by revert q; simp; try omega⟩)
    refine gw_eq (fun g => ?_) (fun g3 => ?_)
    · exact fin _ _ _ _ (hS.t rfl) (by decide) (fun q => gq_I ⟨rfl, by revert q; simp; try omega⟩) (fun q => gq_I ⟨rfl, by revert q; simp; try omega⟩)
    refine gw_eq (fun g => ?_) (fun g4 => ?_)
    · exact fin _ _ _ _ (hS.t rfl) (by decide) (fun q => gq_I ⟨rfl, by revert q; simp; try omega⟩) (fun q => gq_I ⟨rfl, by revert q; simp; try omega⟩)
    refine gw_eq (fun g => ?_) (fun g5 => ?_)
    · exact fin _ _ _ _ (hS.t rfl) (by decide) (fun q => gq_I ⟨rfl, by revert q; simp; try omega⟩) (fun q => gq_I ⟨rfl, by revert q; simp; try omega⟩)
    refine gw_eq (fun g => ?_) (fun g6 => ?_)
    · exact fin _ _ _ _ (hS.t rfl) (by decide) (fun q => gq_I ⟨rfl, by revert q; simp; try omega⟩) (fun q => gq_I ⟨rfl, by revert q; simp; try omega⟩)
    exfalso; omega)
theorem p_as {μ : gm_M} (h : ALL μ) {a1 a2 : Int32} : gwI (f_X11_as 1 a1 a2 μ) (fun x m => gwI (f_X12_as 65 a1 a2 m) (fun y m2 => y = x ∧ ALL m2)) := by
  have hc := h.2.2.1
  have hg := hc.1
  have hM := h.1
  have L26 := h.n26
  have b26 := hM.n26
  have l0 : (0 : Int32).toInt = 0 := rfl
  have l1 : (1 : Int32).toInt = 1 := rfl
  have l6 : (6 : Int32).toInt = 6 := rfl
  have l33 : (33 : Int32).toInt = 33 := rfl
  have l38 : (38 : Int32).toInt = 38 := rfl
  refine gwI_of ?_
  unfold f_X11_as
  refine gw_if (hg.t (r := 1) rfl) ?_
  refine gw_bI (s_X11_isNobody hc) (fun x2 m ⟨z, f2⟩ => ?_)
  replace z := z.symm
  subst z
  have MM : ∀ R : Int32 → gm_M → Prop, (¬ (0 ≤ a1.toInt ∧ a1.toInt < (μ.2.1 66 26).toInt ∧ 0 ≤ a2.toInt ∧ a2.toInt ≤ 6) → R (-1) μ) → (∀ k : Nat, (μ.2.1 66 (33 + a1.toInt.toNat)).toInt = k → (0 ≤ a1.toInt ∧ a1.toInt < (μ.2.1 66 26).toInt ∧ 0 ≤ a2.toInt ∧ a2.toInt ≤ 6) → ((a2.toInt = 0 ∨ a2.toInt = k ∨ (0 < a2.toInt ∧ a2.toInt < 4 ∧ (k : Int) = a2.toInt + 3)) → R (μ.2.1 66 (38 + a1.toInt.toNat)) μ) ∧ (¬ (a2.toInt = 0 ∨ a2.toInt = k ∨ (0 < a2.toInt ∧ a2.toInt < 4 ∧ (k : Int) = a2.toInt + 3)) → R (-6) μ)) → gwI (f_X12_as 65 a1 a2 μ) R := by
    intro R r1 r2
    refine gwI_of ?_
    unfold f_X12_as
    refine gw_if (hg.t (r := 65) rfl) ?_
    refine gw_bI (s_X12_isChild hM) (fun y2 m ⟨z, f3⟩ => ?_)
    replace z := z.symm
    subst z
    refine gw_eq (fun g => gw_some (gq_I (r1 (by omega)))) (fun g => ?_)
    refine gw_bI s_X12_in (fun y3 m ⟨z, f4⟩ => ?_)
    replace z := z.symm
    subst z
    refine gw_ne (fun g2 => ?_) (fun g2 => gw_some (gq_I (r1 (by omega))))
    have kd := h.kd a1.toInt.toNat (by omega)
    have kk := hc.kd (a := 29 + 2 * a1.toInt.toNat) (Or.inl (by unfold isch; omega))
    unfold kid at kk
    obtain ⟨k, hk⟩ : ∃ k : Nat, (μ.2.1 66 (33 + a1.toInt.toNat)).toInt = k := ⟨(μ.2.1 66 (33 + a1.toInt.toNat)).toInt.toNat, by omega⟩
    have rr := r2 k hk (by omega)
    have n33 : ((33 : Int32) + a1).toInt = (33 : Int32).toInt + a1.toInt := gx_add (by omega) (by omega)
    have n38 : ((38 : Int32) + a1).toInt = (38 : Int32).toInt + a1.toInt := gx_add (by omega) (by omega)
    refine gw_gRa 66 (hg.c (r := 65) rfl) (hg.r (by decide)) ?_
    refine gw_aIw (33 + a1.toInt.toNat) (hg.t (r := 66) rfl) (hg.l (r := 66) rfl) (by omega) (by omega) ?_
    refine gw_bI s_under (fun y4 m ⟨z, f5⟩ => ?_)
    replace z := z.symm
    subst z
    rw [hk] at f5
    refine gw_eq (fun g3 => gw_some (gq_I (rr.2 (by omega)))) (fun g3 => ?_)
    refine gw_gRa 66 (hg.c (r := 65) rfl) (hg.r (by decide)) ?_
    refine gw_aIw (38 + a1.toInt.toNat) (hg.t (r := 66) rfl) (hg.l (r := 66) rfl) (by omega) (by omega) ?_
    exact gw_some (gq_I (rr.1 (by omega)))
  refine gw_ne (fun g => gw_some (gq_I (MM _ (fun _ => ⟨rfl, h⟩) (fun k _ q => absurd q (by omega))))) (fun g => ?_)
  refine gw_bI s_X11_isOutside (fun x4 m ⟨z, f4⟩ => ?_)
  replace z := z.symm
  subst z
  refine gw_eq (fun g2 => ?_) (fun g2 => gw_some (gq_I (MM _ (fun _ => ⟨rfl, h⟩) (fun k _ q => absurd q (by omega)))))
  refine gw_gRa 15 (hg.c (r := 1) rfl) (hg.r (by decide)) ?_
  refine gw_gRa 16 (hg.c (r := 15) rfl) (hg.r (by decide)) ?_
  refine gw_aR (i := a1) (hg.t (r := 16) rfl) (hg.l (r := 16) rfl) (by omega) (by omega) (fun v ev => ?_)
  have hv : v = 29 + 2 * a1.toInt.toNat := by rw [ev]; exact isch.at hg (by omega)
  have iv : isch v := by rw [hv]; unfold isch; omega
  have kd := h.kd a1.toInt.toNat (by omega)
  have kk := hc.kd (a := v) (Or.inl iv)
  rw [hv] at kk
  unfold kid at kk
  have kr : μ.2.2 v 1 = 8 + (μ.2.1 66 (33 + a1.toInt.toNat)).toInt.toNat := by rw [hv]; omega
  refine gw_gRa _ (ict.c hg (Or.inl iv)) kr ?_
  refine gw_bI (s_und hg (by omega) (by omega)) (fun x10 m ⟨z, f5⟩ => ?_)
  replace z := z.symm
  subst z
  refine gw_eq (fun g3 => gw_some (gq_I (MM _ (fun q => absurd (by omega) q) (fun k hk q => ⟨fun q2 => absurd q2 (by omega), fun _ => ⟨rfl, h⟩⟩)))) (fun g3 => ?_)
  refine gw_gIw (ict.c hg (Or.inl iv)) ?_
  refine gw_some (gq_I (MM _ (fun q => absurd (by omega) q) (fun k hk q => ⟨fun _ => ⟨by rw [hv]; exact (h.vv _ (by omega)).symm, h⟩, fun q2 => absurd q2 (by omega)⟩)))
