theorem nw_1 (μ : gm_M) (t n : Nat) : (gm_nw μ t n).1 = μ.1 ++ [(t, n)] := rfl
theorem nw_i {μ : gm_M} {t n r : Nat} (h : r ≠ μ.1.length) : (gm_nw μ t n).2.1 r = μ.2.1 r := by
  funext k; exact congrFun (gm_z_ne μ.2.1 μ.1.length 0 r h) k
theorem nw_r {μ : gm_M} {t n r : Nat} (h : r ≠ μ.1.length) : (gm_nw μ t n).2.2 r = μ.2.2 r := by
  funext k; exact congrFun (gm_z_ne μ.2.2 μ.1.length 0 r h) k
theorem nw_z {μ : gm_M} {t n k : Nat} : (gm_nw μ t n).2.1 μ.1.length k = 0 := by
  show gm_z μ.2.1 μ.1.length 0 μ.1.length k = 0
  unfold gm_z; rw [if_pos rfl]
/-- an afternoon made anew -/
def nwA (μ m : gm_M) : Prop := m.1 = μ.1 ++ [(5, 10), (1, 10), (1, 10), (1, 100), (1, 0)] ∧ (∀ r : Nat, r < μ.1.length → m.2.1 r = μ.2.1 r) ∧ (∀ r : Nat, r < μ.1.length → m.2.2 r = μ.2.2 r) ∧ (m.2.2 μ.1.length 3 = μ.1.length + 1 ∧ m.2.2 μ.1.length 4 = μ.1.length + 2 ∧ m.2.2 μ.1.length 5 = μ.1.length + 3) ∧ (m.2.1 μ.1.length 9 = 0 ∧ m.2.1 μ.1.length 6 = 0 ∧ m.2.1 μ.1.length 2 = 0) ∧ ∀ k : Nat, m.2.1 (μ.1.length + 2) k = 0
theorem gw_nA {β : Type} {μ : gm_M} {t B n : Nat} {i : Int32} {f : Nat → gm_M → Option β} {Q : β → Prop} (h : i.toInt = n) (hn : n ≤ B) (k : gw (f μ.1.length (gm_nw μ t n)) Q) : gw (gm_nA μ t i B f) Q := by
  unfold gm_nA
  have e : i.toNatClampNeg = n := by show i.toInt.toNat = n; omega
  have h0 := (gw_ix (i := i) (n := n + 1) (by omega) (by omega)).1
  rw [if_pos ⟨h0, by omega⟩, e]
  exact k
set_option maxHeartbeats 8000000 in
theorem s_ainit {μ : gm_M} : gwV (f_X0_init μ.1.length (gm_nw μ 5 10)) (fun m => nwA μ m) := by
  refine gwV_of ?_
  unfold f_X0_init
  generalize hA : μ.1.length = A
  have l10 : (10 : Int32).toInt = (10 : Nat) := rfl
  have l100 : (100 : Int32).toInt = (100 : Nat) := rfl
  have l0 : (0 : Int32).toInt = (0 : Nat) := rfl
  have tg : ∀ (m : gm_M) (l : List (Nat × Nat)), m.1 = μ.1 ++ (5, 10) :: l → gm_tag m A = 5 := fun m l e => by
    unfold gm_tag; rw [e, ← hA, List.getElem?_append_right (Nat.le_refl _), Nat.sub_self]; rfl
  have t5 : ∀ (m : gm_M) (l : List (Nat × Nat)), m.1 = μ.1 ++ (5, 10) :: l → [5].contains (gm_tag m A) = true := fun m l e => by rw [tg m l e]; rfl
  have len : ∀ (m : gm_M) (l : List (Nat × Nat)), m.1 = μ.1 ++ l → m.1.length = A + l.length := fun m l e => by rw [e, List.length_append, hA]
  refine gw_if (by rw [tg _ [] rfl]; decide) ?_
  refine gw_pIw (t5 _ [] rfl) ?_
  refine gw_pIw (t5 _ [] rfl) ?_
  generalize h1 : wI (wI (gm_nw μ 5 10) A 0 0) A 1 20 = m1
  have a1 : m1.1 = μ.1 ++ [(5, 10)] := by rw [← h1]; rfl
  have i1 : ∀ r : Nat, r ≠ A → m1.2.1 r = μ.2.1 r := fun r hr => by rw [← h1, wI_o _ _ _ _ hr, wI_o _ _ _ _ hr, nw_i (by omega)]
  have r1 : ∀ r : Nat, r ≠ A → m1.2.2 r = μ.2.2 r := fun r hr => by rw [← h1]; show (gm_nw μ 5 10).2.2 r = _; exact nw_r (by omega)
  have z1 : ∀ j : Nat, j ≠ 0 → j ≠ 1 → m1.2.1 A j = 0 := fun j j0 j1 => by rw [← h1, wI_n _ _ _ _ j1, wI_n _ _ _ _ j0, ← hA]; exact nw_z
  clear h1
  refine gw_nA l10 (Nat.le_refl _) ?_
  have e1 : m1.1.length = A + 1 := len _ _ a1
  rw [e1]
  refine gw_pRw (t5 _ [(1, 10)] (by rw [nw_1, a1, List.append_assoc]; rfl)) ?_
  generalize h2 : wR (gm_nw m1 1 10) A 3 (A + 1) = m2
  have a2 : m2.1 = μ.1 ++ [(5, 10), (1, 10)] := by rw [← h2]; show (gm_nw m1 1 10).1 = _; rw [nw_1, a1, List.append_assoc]; rfl
  have i2 : ∀ r : Nat, r ≠ A + 1 → m2.2.1 r = m1.2.1 r := fun r hr => by rw [← h2]; show (gm_nw m1 1 10).2.1 r = _; exact nw_i (by omega)
  have r2 : ∀ r : Nat, r ≠ A → r ≠ A + 1 → m2.2.2 r = m1.2.2 r := fun r hr hr2 => by rw [← h2]; show gm_u (gm_nw m1 1 10).2.2 A 3 (A + 1) r = _; rw [gu_row hr]; exact nw_r (by omega)
  have q2 : m2.2.2 A 3 = A + 1 := by rw [← h2]; show gm_u (gm_nw m1 1 10).2.2 A 3 (A + 1) A 3 = _; exact gu_eq
  clear h2
  refine gw_nA l10 (Nat.le_refl _) ?_
  have e2 : m2.1.length = A + 2 := len _ _ a2
  rw [e2]
  refine gw_pRw (t5 _ [(1, 10), (1, 10)] (by rw [nw_1, a2, List.append_assoc]; rfl)) ?_
  generalize h3 : wR (gm_nw m2 1 10) A 4 (A + 2) = m3
  have a3 : m3.1 = μ.1 ++ [(5, 10), (1, 10), (1, 10)] := by rw [← h3]; show (gm_nw m2 1 10).1 = _; rw [nw_1, a2, List.append_assoc]; rfl
  have i3 : ∀ r : Nat, r ≠ A + 2 → m3.2.1 r = m2.2.1 r := fun r hr => by rw [← h3]; show (gm_nw m2 1 10).2.1 r = _; exact nw_i (by omega)
  have z3 : ∀ k : Nat, m3.2.1 (A + 2) k = 0 := fun k => by rw [← h3]; show (gm_nw m2 1 10).2.1 (A + 2) k = 0; rw [← e2]; exact nw_z
  have r3 : ∀ r : Nat, r ≠ A → r ≠ A + 2 → m3.2.2 r = m2.2.2 r := fun r hr hr2 => by rw [← h3]; show gm_u (gm_nw m2 1 10).2.2 A 4 (A + 2) r = _; rw [gu_row hr]; exact nw_r (by omega)
  have q3 : m3.2.2 A 4 = A + 2 ∧ m3.2.2 A 3 = A + 1 := by
    rw [← h3]
    exact ⟨(show gm_u (gm_nw m2 1 10).2.2 A 4 (A + 2) A 4 = _ from gu_eq), by show gm_u (gm_nw m2 1 10).2.2 A 4 (A + 2) A 3 = _; rw [gu_ne (by decide), nw_r (by omega)]; exact q2⟩
  clear h3
  refine gw_nA l100 (Nat.le_refl _) ?_
  have e3 : m3.1.length = A + 3 := len _ _ a3
  rw [e3]
  refine gw_pRw (t5 _ [(1, 10), (1, 10), (1, 100)] (by rw [nw_1, a3, List.append_assoc]; rfl)) ?_
  generalize h4 : wR (gm_nw m3 1 100) A 5 (A + 3) = m4
  have a4 : m4.1 = μ.1 ++ [(5, 10), (1, 10), (1, 10), (1, 100)] := by rw [← h4]; show (gm_nw m3 1 100).1 = _; rw [nw_1, a3, List.append_assoc]; rfl
  have i4 : ∀ r : Nat, r ≠ A + 3 → m4.2.1 r = m3.2.1 r := fun r hr => by rw [← h4]; show (gm_nw m3 1 100).2.1 r = _; exact nw_i (by omega)
  have r4 : ∀ r : Nat, r ≠ A → r ≠ A + 3 → m4.2.2 r = m3.2.2 r := fun r hr hr2 => by rw [← h4]; show gm_u (gm_nw m3 1 100).2.2 A 5 (A + 3) r = _; rw [gu_row hr]; exact nw_r (by omega)
  have q4 : m4.2.2 A 5 = A + 3 ∧ m4.2.2 A 4 = A + 2 ∧ m4.2.2 A 3 = A + 1 := by
    rw [← h4]
    exact ⟨(show gm_u (gm_nw m3 1 100).2.2 A 5 (A + 3) A 5 = _ from gu_eq), by show gm_u (gm_nw m3 1 100).2.2 A 5 (A + 3) A 4 = _; rw [gu_ne (by decide), nw_r (by omega)]; exact q3.1, by show gm_u (gm_nw m3 1 100).2.2 A 5 (A + 3) A 3 = _; rw [gu_ne (by decide), nw_r (by omega)]; exact q3.2⟩
  clear h4
  refine gw_nA l0 (Nat.le_refl _) ?_
  have e4 : m4.1.length = A + 4 := len _ _ a4
  rw [e4]
  refine gw_pRw (t5 _ [(1, 10), (1, 10), (1, 100), (1, 0)] (by rw [nw_1, a4, List.append_assoc]; rfl)) ?_
  generalize h5 : wR (gm_nw m4 1 0) A 7 (A + 4) = m5
  have a5 : m5.1 = μ.1 ++ [(5, 10), (1, 10), (1, 10), (1, 100), (1, 0)] := by rw [← h5]; show (gm_nw m4 1 0).1 = _; rw [nw_1, a4, List.append_assoc]; rfl
  have i5 : ∀ r : Nat, r ≠ A + 4 → m5.2.1 r = m4.2.1 r := fun r hr => by rw [← h5]; show (gm_nw m4 1 0).2.1 r = _; exact nw_i (by omega)
  have r5 : ∀ r : Nat, r ≠ A → r ≠ A + 4 → m5.2.2 r = m4.2.2 r := fun r hr hr2 => by rw [← h5]; show gm_u (gm_nw m4 1 0).2.2 A 7 (A + 4) r = _; rw [gu_row hr]; exact nw_r (by omega)
  have q5 : m5.2.2 A 5 = A + 3 ∧ m5.2.2 A 4 = A + 2 ∧ m5.2.2 A 3 = A + 1 := by
    rw [← h5]
    refine ⟨?_, ?_, ?_⟩
    · show gm_u (gm_nw m4 1 0).2.2 A 7 (A + 4) A 5 = _; rw [gu_ne (by decide), nw_r (by omega)]; exact q4.1
    · show gm_u (gm_nw m4 1 0).2.2 A 7 (A + 4) A 4 = _; rw [gu_ne (by decide), nw_r (by omega)]; exact q4.2.1
    · show gm_u (gm_nw m4 1 0).2.2 A 7 (A + 4) A 3 = _; rw [gu_ne (by decide), nw_r (by omega)]; exact q4.2.2
  clear h5
  refine gw_some (gq_V ?_)
  have zA : ∀ j : Nat, j ≠ 0 → j ≠ 1 → m5.2.1 A j = 0 := fun j j0 j1 => by rw [i5 A (by omega), i4 A (by omega), i3 A (by omega), i2 A (by omega)]; exact z1 j j0 j1
  unfold nwA
  rw [hA]
  exact ⟨a5, fun r hr => by rw [i5 r (by omega), i4 r (by omega), i3 r (by omega), i2 r (by omega), i1 r (by omega)], fun r hr => by rw [r5 r (by omega) (by omega), r4 r (by omega) (by omega), r3 r (by omega) (by omega), r2 r (by omega) (by omega), r1 r (by omega)], ⟨q5.2.2, q5.2.1, q5.1⟩, ⟨zA 9 (by decide) (by decide), zA 6 (by decide) (by decide), zA 2 (by decide) (by decide)⟩, fun k => by rw [i5 _ (by omega), i4 _ (by omega)]; exact z3 k⟩
