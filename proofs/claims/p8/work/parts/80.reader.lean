/-! an afternoon that reads -/
def RW (A : Nat) (m : gm_M) : Prop := 75 ≤ A ∧ (m.1[A]? = some (5, 10) ∧ m.1[A + 1]? = some (1, 10) ∧ m.1[A + 2]? = some (1, 10) ∧ m.1[A + 3]? = some (1, 100)) ∧ (m.2.2 A 3 = A + 1 ∧ m.2.2 A 4 = A + 2 ∧ m.2.2 A 5 = A + 3 ∧ m.2.2 A 7 = 17) ∧ (0 ≤ (m.2.1 A 8).toInt ∧ (m.2.1 A 8).toInt ≤ 100) ∧ (0 ≤ (m.2.1 A 9).toInt ∧ (m.2.1 A 9).toInt ≤ (m.2.1 A 8).toInt) ∧ (0 ≤ (m.2.1 A 6).toInt ∧ (m.2.1 A 6).toInt ≤ 100) ∧ (0 ≤ (m.2.1 A 2).toInt ∧ (m.2.1 A 2).toInt ≤ 10) ∧ ∀ k : Nat, k < 10 → 0 ≤ (m.2.1 (A + 2) k).toInt ∧ (m.2.1 (A + 2) k).toInt ≤ 100
def RI (A : Nat) (m : gm_M) : Prop := gS m ∧ RW A m
def RR (A : Nat) (μ m : gm_M) : Prop := m.1 = μ.1 ∧ m.2.2 = μ.2.2 ∧ (∀ r : Nat, r ≠ A → r ≠ A + 1 → r ≠ A + 2 → r ≠ A + 3 → m.2.1 r = μ.2.1 r) ∧ m.2.1 A 8 = μ.2.1 A 8 ∧ RI A m
theorem RR.refl {A : Nat} {μ : gm_M} (h : RI A μ) : RR A μ μ := ⟨rfl, rfl, fun _ _ _ _ _ => rfl, rfl, h⟩
theorem RR.trans {A : Nat} {a b c : gm_M} (h : RR A a b) (g : RR A b c) : RR A a c := by
  obtain ⟨h1, h2, h3, h4, h5⟩ := h
  obtain ⟨g1, g2, g3, g4, g5⟩ := g
  exact ⟨g1.trans h1, g2.trans h2, fun r r1 r2 r3 r4 => (g3 r r1 r2 r3 r4).trans (h3 r r1 r2 r3 r4), g4.trans h4, g5⟩
theorem RR.ri {A : Nat} {μ m : gm_M} (k : RR A μ m) : RI A m := k.2.2.2.2
theorem RR.s8 {A : Nat} {μ m : gm_M} (k : RR A μ m) : (m.2.1 A 8).toInt = (μ.2.1 A 8).toInt := by rw [k.2.2.2.1]
theorem RI.tc {A : Nat} {m : gm_M} (h : RI A m) : [5].contains (gm_tag m A) = true := by unfold gm_tag; rw [h.2.2.1.1]; rfl
theorem RI.t {A : Nat} {m : gm_M} (h : RI A m) : gm_tag m A = 5 := by unfold gm_tag; rw [h.2.2.1.1]
theorem RI.t1 {A : Nat} {m : gm_M} (h : RI A m) : gm_tag m (A + 1) = 1 := by unfold gm_tag; rw [h.2.2.1.2.1]
theorem RI.t2 {A : Nat} {m : gm_M} (h : RI A m) : gm_tag m (A + 2) = 1 := by unfold gm_tag; rw [h.2.2.1.2.2.1]
theorem RI.t3 {A : Nat} {m : gm_M} (h : RI A m) : gm_tag m (A + 3) = 1 := by unfold gm_tag; rw [h.2.2.1.2.2.2]
theorem RI.l1 {A : Nat} {m : gm_M} (h : RI A m) : gm_len m (A + 1) = 10 := by unfold gm_len; rw [h.2.2.1.2.1]
theorem RI.l2 {A : Nat} {m : gm_M} (h : RI A m) : gm_len m (A + 2) = 10 := by unfold gm_len; rw [h.2.2.1.2.2.1]
theorem RI.l3 {A : Nat} {m : gm_M} (h : RI A m) : gm_len m (A + 3) = 100 := by unfold gm_len; rw [h.2.2.1.2.2.2]
theorem RI.r1 {A : Nat} {m : gm_M} (h : RI A m) : m.2.2 A 3 = A + 1 := h.2.2.2.1.1
theorem RI.r2 {A : Nat} {m : gm_M} (h : RI A m) : m.2.2 A 4 = A + 2 := h.2.2.2.1.2.1
theorem RI.r3 {A : Nat} {m : gm_M} (h : RI A m) : m.2.2 A 5 = A + 3 := h.2.2.2.1.2.2.1
theorem RI.r7 {A : Nat} {m : gm_M} (h : RI A m) : m.2.2 A 7 = 17 := h.2.2.2.1.2.2.2
theorem RR.b8 {A : Nat} {μ m : gm_M} (k : RR A μ m) : 0 ≤ (μ.2.1 A 8).toInt ∧ (μ.2.1 A 8).toInt ≤ 100 := by rw [← k.s8]; exact k.ri.2.2.2.2.1
theorem RR.b9 {A : Nat} {μ m : gm_M} (k : RR A μ m) : 0 ≤ (m.2.1 A 9).toInt ∧ (m.2.1 A 9).toInt ≤ (μ.2.1 A 8).toInt := by rw [← k.s8]; exact k.ri.2.2.2.2.2.1
theorem RR.b6 {A : Nat} {μ m : gm_M} (k : RR A μ m) : 0 ≤ (m.2.1 A 6).toInt ∧ (m.2.1 A 6).toInt ≤ 100 := k.ri.2.2.2.2.2.2.1
theorem RR.b2 {A : Nat} {μ m : gm_M} (k : RR A μ m) : 0 ≤ (m.2.1 A 2).toInt ∧ (m.2.1 A 2).toInt ≤ 10 := k.ri.2.2.2.2.2.2.2.1
theorem RR.w {A j : Nat} {μ b m : gm_M} {x : Int32} (k : RR A μ b) (e : m = (b.1, gm_u b.2.1 A j x, b.2.2)) (h8 : j ≠ 8) (h9 : j = 9 → 0 ≤ x.toInt ∧ x.toInt ≤ (μ.2.1 A 8).toInt) (h6 : j = 6 → 0 ≤ x.toInt ∧ x.toInt ≤ 100) (h2 : j = 2 → 0 ≤ x.toInt ∧ x.toInt ≤ 10) : RR A μ m := by
  have s8 := k.s8
  subst e
  obtain ⟨k1, k2, k3, k4, k5, q0, q1, q2, q3, q4, q5, q6, q7⟩ := k
  have rd : ∀ i : Nat, gm_u b.2.1 A j x A i = if i = j then x else b.2.1 A i := fun i => by
    by_cases e : i = j
    · subst e; rw [gu_eq, if_pos rfl]
    · rw [gu_ne e, if_neg e]
  refine ⟨k1, k2, fun r r1 r2 r3 r4 => ?_, ?_, k5, q0, q1, q2, ?_, ?_, ?_, ?_, fun i hi => ?_⟩
  · show gm_u b.2.1 A j x r = μ.2.1 r
    rw [gu_row r1]; exact k3 r r1 r2 r3 r4
  · show gm_u b.2.1 A j x A 8 = μ.2.1 A 8
    rw [rd, if_neg (Ne.symm h8)]; exact k4
  · show 0 ≤ (gm_u b.2.1 A j x A 8).toInt ∧ (gm_u b.2.1 A j x A 8).toInt ≤ 100
    rw [rd, if_neg (Ne.symm h8)]; exact q3
  · show 0 ≤ (gm_u b.2.1 A j x A 9).toInt ∧ (gm_u b.2.1 A j x A 9).toInt ≤ (gm_u b.2.1 A j x A 8).toInt
    rw [rd, rd, if_neg (Ne.symm h8)]
    by_cases e : 9 = j
    · rw [if_pos e, s8]; exact h9 e.symm
    · rw [if_neg e]; exact q4
  · show 0 ≤ (gm_u b.2.1 A j x A 6).toInt ∧ (gm_u b.2.1 A j x A 6).toInt ≤ 100
    rw [rd]
    by_cases e : 6 = j
    · rw [if_pos e]; exact h6 e.symm
    · rw [if_neg e]; exact q5
  · show 0 ≤ (gm_u b.2.1 A j x A 2).toInt ∧ (gm_u b.2.1 A j x A 2).toInt ≤ 10
    rw [rd]
    by_cases e : 2 = j
    · rw [if_pos e]; exact h2 e.symm
    · rw [if_neg e]; exact q6
  · show 0 ≤ (gm_u b.2.1 A j x (A + 2) i).toInt ∧ (gm_u b.2.1 A j x (A + 2) i).toInt ≤ 100
    rw [gu_row (by omega)]; exact q7 i hi
theorem RR.wa {A r j : Nat} {μ b m : gm_M} {x : Int32} (k : RR A μ b) (e : m = (b.1, gm_u b.2.1 r j x, b.2.2)) (hr : r = A + 1 ∨ r = A + 3 ∨ (r = A + 2 ∧ 0 ≤ x.toInt ∧ x.toInt ≤ 100)) : RR A μ m := by
  subst e
  obtain ⟨k1, k2, k3, k4, k5, q0, q1, q2, q3, q4, q5, q6, q7⟩ := k
  have rA : gm_u b.2.1 r j x A = b.2.1 A := gu_row (by omega)
  refine ⟨k1, k2, fun p r1 r2 r3 r4 => ?_, ?_, k5, q0, q1, q2, ?_, ?_, ?_, ?_, fun i hi => ?_⟩
  · show gm_u b.2.1 r j x p = μ.2.1 p
    rw [gu_row (by omega)]; exact k3 p r1 r2 r3 r4
  · show gm_u b.2.1 r j x A 8 = μ.2.1 A 8
    rw [rA]; exact k4
  · show 0 ≤ (gm_u b.2.1 r j x A 8).toInt ∧ (gm_u b.2.1 r j x A 8).toInt ≤ 100
    rw [rA]; exact q3
  · show 0 ≤ (gm_u b.2.1 r j x A 9).toInt ∧ (gm_u b.2.1 r j x A 9).toInt ≤ (gm_u b.2.1 r j x A 8).toInt
    rw [rA]; exact q4
  · show 0 ≤ (gm_u b.2.1 r j x A 6).toInt ∧ (gm_u b.2.1 r j x A 6).toInt ≤ 100
    rw [rA]; exact q5
  · show 0 ≤ (gm_u b.2.1 r j x A 2).toInt ∧ (gm_u b.2.1 r j x A 2).toInt ≤ 10
    rw [rA]; exact q6
  · show 0 ≤ (gm_u b.2.1 r j x (A + 2) i).toInt ∧ (gm_u b.2.1 r j x (A + 2) i).toInt ≤ 100
    by_cases e : A + 2 = r ∧ i = j
    · obtain ⟨e1, e2⟩ := e
      subst e1; subst e2
      rw [gu_eq]; omega
    · by_cases e1 : A + 2 = r
      · subst e1
        rw [gu_ne (fun z => e ⟨rfl, z⟩)]; exact q7 i hi
      · rw [gu_row e1]; exact q7 i hi
/-! texts: six, by number -/
theorem tx_len {μ : gm_M} {u : UInt32} (hu : gm_isS u) : f_J0_length_8abf5 u μ = some (some (.int (Int32.ofNat (gm_bn (u + 6)))), μ) ∧ gm_bn (u + 6) ≤ 6 := by
  have e : u = 1 ∨ u = 2 ∨ u = 3 ∨ u = 4 ∨ u = 5 ∨ u = 6 := by
    obtain ⟨h1, h2⟩ := hu
    have : u.toNat = 1 ∨ u.toNat = 2 ∨ u.toNat = 3 ∨ u.toNat = 4 ∨ u.toNat = 5 ∨ u.toNat = 6 := by omega
    rcases this with q | q | q | q | q | q
    · exact Or.inl (UInt32.toNat_inj.mp q)
    · exact Or.inr (Or.inl (UInt32.toNat_inj.mp q))
    · exact Or.inr (Or.inr (Or.inl (UInt32.toNat_inj.mp q)))
    · exact Or.inr (Or.inr (Or.inr (Or.inl (UInt32.toNat_inj.mp q))))
    · exact Or.inr (Or.inr (Or.inr (Or.inr (Or.inl (UInt32.toNat_inj.mp q)))))
    · exact Or.inr (Or.inr (Or.inr (Or.inr (Or.inr (UInt32.toNat_inj.mp q)))))
  rcases e with rfl | rfl | rfl | rfl | rfl | rfl <;> exact ⟨rfl, by decide⟩
theorem tx_char {μ : gm_M} {u : UInt32} (hu : gm_isS u) {i : Int32} (h0 : 0 ≤ i.toInt) (h1 : i.toInt < gm_bn (u + 6)) : f_J0_charAt_5068e u i μ = some (some (.int (gm_bb (u + 6) i.toInt.toNat)), μ) ∧ 0 ≤ (gm_bb (u + 6) i.toInt.toNat).toInt := by
  have e : u = 1 ∨ u = 2 ∨ u = 3 ∨ u = 4 ∨ u = 5 ∨ u = 6 := by
    obtain ⟨h1, h2⟩ := hu
    have : u.toNat = 1 ∨ u.toNat = 2 ∨ u.toNat = 3 ∨ u.toNat = 4 ∨ u.toNat = 5 ∨ u.toNat = 6 := by omega
    rcases this with q | q | q | q | q | q
    · exact Or.inl (UInt32.toNat_inj.mp q)
    · exact Or.inr (Or.inl (UInt32.toNat_inj.mp q))
    · exact Or.inr (Or.inr (Or.inl (UInt32.toNat_inj.mp q)))
    · exact Or.inr (Or.inr (Or.inr (Or.inl (UInt32.toNat_inj.mp q))))
    · exact Or.inr (Or.inr (Or.inr (Or.inr (Or.inl (UInt32.toNat_inj.mp q)))))
    · exact Or.inr (Or.inr (Or.inr (Or.inr (Or.inr (UInt32.toNat_inj.mp q)))))
  have hi : ∀ n : Nat, i.toInt = n → i = Int32.ofNat n := fun n hn => by
    rw [← gx_of h0, hn]; rfl
  have six : gm_bn (u + 6) ≤ 6 := (tx_len (μ := μ) hu).2
  have c : i = Int32.ofNat 0 ∨ i = Int32.ofNat 1 ∨ i = Int32.ofNat 2 ∨ i = Int32.ofNat 3 ∨ i = Int32.ofNat 4 ∨ i = Int32.ofNat 5 := by
    have : i.toInt = 0 ∨ i.toInt = 1 ∨ i.toInt = 2 ∨ i.toInt = 3 ∨ i.toInt = 4 ∨ i.toInt = 5 := by omega
    rcases this with q | q | q | q | q | q
    · exact Or.inl (hi 0 q)
    · exact Or.inr (Or.inl (hi 1 q))
    · exact Or.inr (Or.inr (Or.inl (hi 2 q)))
    · exact Or.inr (Or.inr (Or.inr (Or.inl (hi 3 q))))
    · exact Or.inr (Or.inr (Or.inr (Or.inr (Or.inl (hi 4 q)))))
    · exact Or.inr (Or.inr (Or.inr (Or.inr (Or.inr (hi 5 q)))))
  rcases e with rfl | rfl | rfl | rfl | rfl | rfl <;> rcases c with rfl | rfl | rfl | rfl | rfl | rfl <;> first | exact ⟨rfl, by decide⟩ | exact absurd h1 (by decide)
theorem tx_idx {μ : gm_M} {u : UInt32} (hu : gm_isS u) {c : Int32} : gwI (f_J0_indexOf_0f7a4 u c μ) (fun x m => m = μ ∧ -1 ≤ x.toInt ∧ x.toInt < 6) := by
  have hl := tx_len (μ := μ) hu
  have hb : gm_isB (u + 6) := by
    obtain ⟨h1, h2⟩ := hu
    have e : (u + 6).toNat = u.toNat + 6 := by
      rw [UInt32.toNat_add, show (6 : UInt32).toNat = 6 from rfl]
      omega
    constructor <;> omega
  have l0 : (0 : Int32).toInt = 0 := rfl
  have l1 : (1 : Int32).toInt = 1 := rfl
  have lm : (-1 : Int32).toInt = -1 := rfl
  have ln : (Int32.ofNat (gm_bn (u + 6))).toInt = gm_bn (u + 6) := Int32.toInt_ofNat_of_lt (by omega)
  have C : gwI (f_J1_indexOfChar_4cfef (u + 6) c 0 (Int32.ofNat (gm_bn (u + 6))) μ) (fun x m => m = μ ∧ -1 ≤ x.toInt ∧ x.toInt < 6) := by
    refine gwI_of ?_
    unfold f_J1_indexOfChar_4cfef
    refine gw_loop (fun s => 0 ≤ s.toInt ∧ s.toInt ≤ ((gm_bn (u + 6) : Nat) : Int)) (fun s => 6 - s.toInt) (fun s ⟨h1, h2⟩ => ?_) 5000 (0 : Int32) ⟨by omega, by omega⟩ (by omega) (by omega)
    refine gw_le (fun g => gw_some (gs_inr (gq_I ⟨rfl, by omega, by omega⟩))) (fun g => ?_)
    unfold gm_bl
    rw [if_pos ⟨hb, (gw_ix (n := gm_bn (u + 6)) h1 (by omega)).1, (gw_ix (n := gm_bn (u + 6)) h1 (by omega)).2⟩]
    have n : (s + (1 : Int32)).toInt = s.toInt + (1 : Int32).toInt := gx_add (by omega) (by omega)
    refine gw_ne (fun _ => gw_some (gs_inl ⟨by omega, by omega⟩ (by omega) (by omega))) (fun _ => gw_some (gs_inr (gq_I ⟨rfl, by omega, by omega⟩)))
  have D : gwI (f_J1_indexOf_4cfef (u + 6) c 0 (Int32.ofNat (gm_bn (u + 6))) μ) (fun x m => m = μ ∧ -1 ≤ x.toInt ∧ x.toInt < 6) := by
    refine gwI_of ?_
    unfold f_J1_indexOf_4cfef
    have E : gwI (f_J1_canEncode_9a6ad c μ) (fun x m => m = μ) := by
      refine gwI_of ?_
      unfold f_J1_canEncode_9a6ad
      exact gw_lt (fun _ => gw_z Iff.rfl (Or.inl rfl) (gq_I rfl)) (fun _ => gw_lt (fun _ => gw_z Iff.rfl (Or.inl rfl) (gq_I rfl)) (fun _ => gw_z Iff.rfl (Or.inr rfl) (gq_I rfl)))
    refine gw_bI E (fun x m z => ?_)
    replace z := z.symm
    subst z
    refine gw_ne (fun _ => ?_) (fun _ => gw_some (gq_I ⟨rfl, by omega, by omega⟩))
    refine gw_if hb ?_
    have q1 : (if (0 : Int32) < (0 : Int32) then (0 : Int32) else 0) = 0 := by split <;> rfl
    have q2 : (if Int32.ofNat (gm_bn (u + 6)) < Int32.ofNat (gm_bn (u + 6)) then Int32.ofNat (gm_bn (u + 6)) else Int32.ofNat (gm_bn (u + 6))) = Int32.ofNat (gm_bn (u + 6)) := by split <;> rfl
    rw [q1, q2]
    refine gw_lt (fun _ => ?_) (fun _ => gw_some (gq_I ⟨rfl, by omega, by omega⟩))
    refine gw_bI C (fun x m ⟨z, b⟩ => ?_)
    exact gw_some (gq_I ⟨z, b⟩)
  refine gwI_of ?_
  unfold f_J0_indexOf_0f7a4
  refine gw_if hu ?_
  have F : gwI (f_J0_indexOf_7cf53 u c 0 μ) (fun x m => m = μ ∧ -1 ≤ x.toInt ∧ x.toInt < 6) := by
    refine gwI_of ?_
    unfold f_J0_indexOf_7cf53
    refine gw_if hu ?_
    have L : f_J0_isLatin1_aae02 u μ = some (some (.int 1), μ) := by
      unfold f_J0_isLatin1_aae02
      rw [if_neg (by decide), if_pos hu, if_neg (by decide), if_pos (by decide)]
    refine gw_bI (R := fun x m => m = μ ∧ x = 1) ⟨1, μ, L, rfl, rfl⟩ (fun x m ⟨z, ex⟩ => ?_)
    replace z := z.symm
    subst z
    subst ex
    refine gw_eq (fun g => absurd g (by decide)) (fun _ => ?_)
    refine gw_if hu ?_
    refine gw_if hu ?_
    refine gw_bI (R := fun x m => m = μ ∧ x = Int32.ofNat (gm_bn (u + 6))) ⟨_, μ, hl.1, rfl, rfl⟩ (fun x m ⟨z, ex⟩ => ?_)
    replace z := z.symm
    subst z
    subst ex
    refine gw_bI D (fun x m ⟨z, b⟩ => ?_)
    exact gw_some (gq_I ⟨z, b⟩)
  refine gw_bI F (fun x m ⟨z, b⟩ => ?_)
  exact gw_some (gq_I ⟨z, b⟩)
