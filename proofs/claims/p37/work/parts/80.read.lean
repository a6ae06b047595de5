section
/-! an afternoon that reads -/
def RW (A : Nat) (m : gm_M) : Prop := 75 ≤ A ∧ (m.1[A]? = some (5, 10) ∧ m.1[A + 1]? = some (1, 10) ∧ m.1[A + 2]? = some (1, 10) ∧ m.1[A + 3]? = some (1, 100)) ∧ (m.2.2 A 3 = A + 1 ∧ m.2.2 A 4 = A + 2 ∧ m.2.2 A 5 = A + 3 ∧ m.2.2 A 7 = 17) ∧ (0 ≤ (m.2.1 A 8).toInt ∧ (m.2.1 A 8).toInt ≤ 100) ∧ (0 ≤ (m.2.1 A 9).toInt ∧ (m.2.1 A 9).toInt ≤ (m.2.1 A 8).toInt) ∧ (0 ≤ (m.2.1 A 6).toInt ∧ (m.2.1 A 6).toInt ≤ 100) ∧ (0 ≤ (m.2.1 A 2).toInt ∧ (m.2.1 A 2).toInt ≤ 10) ∧ ∀ k : Nat, k < 10 → 0 ≤ (m.2.1 (A + 2) k).toInt ∧ (m.2.1 (A + 2) k).toInt ≤ 100
def RI (A : Nat) (m : gm_M) : Prop := gS m ∧ RW A m
def RR (A : Nat) (μ m : gm_M) : Prop := m.1 = μ.1 ∧ m.2.2 = μ.2.2 ∧ (∀ r : Nat, r ≠ A → r ≠ A + 1 → r ≠ A + 2 → r ≠ A + 3 → m.2.1 r = μ.2.1 r) ∧ m.2.1 A 8 = μ.2.1 A 8 ∧ RI A m
theorem RR.refl {A : Nat} {μ : gm_M} (h : RI A μ) : RR A μ μ := ⟨rfl, rfl, fun _ _ _ _ _ => rfl, rfl, h⟩
theorem RR.trans {A : Nat} {a b c : gm_M} (h : RR A a b) (g : RR A b c) : RR A a c := by
  obtain ⟨h1, h2, h3, h4, h5⟩ := h
  obtain ⟨g1, g2, g3, g4, g5⟩ := g
  exact ⟨g1.trans h1, g2.trans h2, fun r r1 r2 r3 r4 => (g3 r r1 r2 r3 r4).trans (h3 r r1 r2 r3 r4), g4.trans h4, g5⟩
theorem RR.ri {A : Nat} {μ m : gm_M} (k : RR A μ m) : RI A m := k.2.2.2.2
theorem RR.s8 {A : Nat} {μ m : gm_M} (k : RR A μ m) : (m.2.1 A 8).toInt = (μ.2.1 A 8).toInt := by rw [k.2.2.2.1]
theorem RI.tc {A : Nat} {m : gm_M} (h : RI A m) : [5].contains (gm_tag m A) = true := by unfold gm_tag; rw [h.2.2.1.1]; rfl
theorem RI.t {A : Nat} {m : gm_M} (h : RI A m) : gm_tag m A = 5 := by unfold gm_tag; rw [h.2.2.1.1]
theorem RI.t1 {A : Nat} {m : gm_M} (h : RI A m) : gm_tag m (A + 1) = 1 := by unfold gm_tag; rw [h.2.2.1.2.1]
theorem RI.t2 {A : Nat} {m : gm_M} (h : RI A m) : gm_tag m (A + 2) = 1 := by unfold gm_tag; rw [h.2.2.1.2.2.1]
theorem RI.t3 {A : Nat} {m : gm_M} (h : RI A m) : gm_tag m (A + 3) = 1 := by unfold gm_tag; rw [h.2.2.1.2.2.2]
theorem RI.l1 {A : Nat} {m : gm_M} (h : RI A m) : gm_len m (A + 1) = 10 := by unfold gm_len; rw [h.2.2.1.2.1]
theorem RI.l2 {A : Nat} {m : gm_M} (h : RI A m) : gm_len m (A + 2) = 10 := by unfold gm_len; rw [h.2.2.1.2.2.1]
theorem RI.l3 {A : Nat} {m : gm_M} (h : RI A m) : gm_len m (A + 3) = 100 := by unfold gm_len; rw [h.2.2.1.2.2.2]
theorem RI.r1 {A : Nat} {m : gm_M} (h : RI A m) : m.2.2 A 3 = A + 1 := h.2.2.2.1.1
theorem RI.r2 {A : Nat} {m : gm_M} (h : RI A m) : m.2.2 A 4 = A + 2 := h.2.2.2.1.2.1
theorem RI.r3 {A : Nat} {m : gm_M} (h : RI A m) : m.2.2 A 5 = A + 3 := h.2.2.2.1.2.2.1
theorem RI.r7 {A : Nat} {m : gm_M} (h : RI A m) : m.2.2 A 7 = 17 := h.2.2.2.1.2.2.2
theorem RR.b8 {A : Nat} {μ m : gm_M} (k : RR A μ m) : 0 ≤ (μ.2.1 A 8).toInt ∧ (μ.2.1 A 8).toInt ≤ 100 := by rw [← k.s8]; exact k.ri.2.2.2.2.1
theorem RR.b9 {A : Nat} {μ m : gm_M} (k : RR A μ m) : 0 ≤ (m.2.1 A 9).toInt ∧ (m.2.1 A 9).toInt ≤ (μ.2.1 A 8).toInt := by rw [← k.s8]; exact k.ri.2.2.2.2.2.1
theorem RR.b6 {A : Nat} {μ m : gm_M} (k : RR A μ m) : 0 ≤ (m.2.1 A 6).toInt ∧ (m.2.1 A 6).toInt ≤ 100 := k.ri.2.2.2.2.2.2.1
theorem RR.b2 {A : Nat} {μ m : gm_M} (k : RR A μ m) : 0 ≤ (m.2.1 A 2).toInt ∧ (m.2.1 A 2).toInt ≤ 10 := k.ri.2.2.2.2.2.2.2.1
theorem RR.w {A j : Nat} {μ b m : gm_M} {x : Int32} (k : RR A μ b) (e : m = (b.1, gm_u b.2.1 A j x, b.2.2)) (h8 : j ≠ 8) (h9 : j = 9 → 0 ≤ x.toInt ∧ x.toInt ≤ (μ.2.1 A 8).toInt) (h6 : j = 6 → 0 ≤ x.toInt ∧ x.toInt ≤ 100) (h2 : j = 2 → 0 ≤ x.toInt ∧ x.toInt ≤ 10) : RR A μ m := by
  have s8 := k.s8
  subst e
  obtain ⟨k1, k2, k3, k4, k5, q0, q1, q2, q3, q4, q5, q6, q7⟩ := k
  have rd : ∀ i : Nat, gm_u b.2.1 A j x A i = if i = j then x else b.2.1 A i := fun i => by
    by_cases e : i = j
    · subst e; rw [gu_eq, if_pos rfl]
    · rw [gu_ne e, if_neg e]
  refine ⟨k1, k2, fun r r1 r2 r3 r4 => ?_, ?_, k5, q0, q1, q2, ?_, ?_, ?_, ?_, fun i hi => ?_⟩
  · show gm_u b.2.1 A j x r = μ.2.1 r
    rw [gu_row r1]; exact k3 r r1 r2 r3 r4
  · show gm_u b.2.1 A j x A 8 = μ.2.1 A 8
    rw [rd, if_neg (Ne.symm h8)]; exact k4
  · show 0 ≤ (gm_u b.2.1 A j x A 8).toInt ∧ (gm_u b.2.1 A j x A 8).toInt ≤ 100
    rw [rd, if_neg (Ne.symm h8)]; exact q3
  · show 0 ≤ (gm_u b.2.1 A j x A 9).toInt ∧ (gm_u b.2.1 A j x A 9).toInt ≤ (gm_u b.2.1 A j x A 8).toInt
    rw [rd, rd, if_neg (Ne.symm h8)]
    by_cases e : 9 = j
    · rw [if_pos e, s8]; exact h9 e.symm
    · rw [if_neg e]; exact q4
  · show 0 ≤ (gm_u b.2.1 A j x A 6).toInt ∧ (gm_u b.2.1 A j x A 6).toInt ≤ 100
    rw [rd]
    by_cases e : 6 = j
    · rw [if_pos e]; exact h6 e.symm
    · rw [if_neg e]; exact q5
  · show 0 ≤ (gm_u b.2.1 A j x A 2).toInt ∧ (gm_u b.2.1 A j x A 2).toInt ≤ 10
    rw [rd]
    by_cases e : 2 = j
    · rw [if_pos e]; exact h2 e.symm
    · rw [if_neg e]; exact q6
  · show 0 ≤ (gm_u b.2.1 A j x (A + 2) i).toInt ∧ (gm_u b.2.1 A j x (A + 2) i).toInt ≤ 100
    rw [gu_row (by omega)]; exact q7 i hi
theorem RR.wa {A r j : Nat} {μ b m : gm_M} {x : Int32} (k : RR A μ b) (e : m = (b.1, gm_u b.2.1 r j x, b.2.2)) (hr : r = A + 1 ∨ r = A + 3 ∨ (r = A + 2 ∧ 0 ≤ x.toInt ∧ x.toInt ≤ 100)) : RR A μ m := by
  subst e
  obtain ⟨k1, k2, k3, k4, k5, q0, q1, q2, q3, q4, q5, q6, q7⟩ := k
  have rA : gm_u b.2.1 r j x A = b.2.1 A := gu_row (by omega)
  refine ⟨k1, k2, fun p r1 r2 r3 r4 => ?_, ?_, k5, q0, q1, q2, ?_, ?_, ?_, ?_, fun i hi => ?_⟩
  · show gm_u b.2.1 r j x p = μ.2.1 p
    rw [gu_row (by omega)]; exact k3 p r1 r2 r3 r4
  · show gm_u b.2.1 r j x A 8 = μ.2.1 A 8
    rw [rA]; exact k4
  · show 0 ≤ (gm_u b.2.1 r j x A 8).toInt ∧ (gm_u b.2.1 r j x A 8).toInt ≤ 100
    rw [rA]; exact q3
  · show 0 ≤ (gm_u b.2.1 r j x A 9).toInt ∧ (gm_u b.2.1 r j x A 9).toInt ≤ (gm_u b.2.1 r j x A 8).toInt
    rw [rA]; exact q4
  · show 0 ≤ (gm_u b.2.1 r j x A 6).toInt ∧ (gm_u b.2.1 r j x A 6).toInt ≤ 100
    rw [rA]; exact q5
  · show 0 ≤ (gm_u b.2.1 r j x A 2).toInt ∧ (gm_u b.2.1 r j x A 2).toInt ≤ 10
    rw [rA]; exact q6
  · show 0 ≤ (gm_u b.2.1 r j x (A + 2) i).toInt ∧ (gm_u b.2.1 r j x (A + 2) i).toInt ≤ 100
    by_cases e : A + 2 = r ∧ i = j
    · obtain ⟨e1, e2⟩ := e
      subst e1; subst e2
      rw [gu_eq]; omega
    · by_cases e1 : A + 2 = r
      · subst e1
        rw [gu_ne (fun z => e ⟨rfl, z⟩)]; exact q7 i hi
      · rw [gu_row e1]; exact q7 i hi
/-! texts: six, by number -/
theorem tx_len {μ : gm_M} {u : UInt32} (hu : gm_isS u) : f_J0_length_8abf5 u μ = some (some (.int (Int32.ofNat (gm_bn (u + 6)))), μ) ∧ gm_bn (u + 6) ≤ 6 := by
  have e : u = 1 ∨ u = 2 ∨ u = 3 ∨ u = 4 ∨ u = 5 ∨ u = 6 := by
    obtain ⟨h1, h2⟩ := hu
    have : u.toNat = 1 ∨ u.toNat = 2 ∨ u.toNat = 3 ∨ u.toNat = 4 ∨ u.toNat = 5 ∨ u.toNat = 6 := by omega
    rcases this with q | q | q | q | q | q
    · exact Or.inl (UInt32.toNat_inj.mp q)
    · exact Or.inr (Or.inl (UInt32.toNat_inj.mp q))
    · exact Or.inr (Or.inr (Or.inl (UInt32.toNat_inj.mp q)))
    · exact Or.inr (Or.inr (Or.inr (Or.inl (UInt32.toNat_inj.mp q))))
    · exact Or.inr (Or.inr (Or.inr (Or.inr (Or.inl (UInt32.toNat_inj.mp q)))))
    · exact Or.inr (Or.inr (Or.inr (Or.inr (Or.inr (UInt32.toNat_inj.mp q)))))
  rcases e with rfl | rfl | rfl | rfl | rfl | rfl <;> exact ⟨rfl, by decide⟩
theorem tx_char {μ : gm_M} {u : UInt32} (hu : gm_isS u) {i : Int32} (h0 : 0 ≤ i.toInt) (h1 : i.toInt < gm_bn (u + 6)) : f_J0_charAt_5068e u i μ = some (some (.int (gm_bb (u + 6) i.toInt.toNat)), μ) ∧ 0 ≤ (gm_bb (u + 6) i.toInt.toNat).toInt := by
  have e : u = 1 ∨ u = 2 ∨ u = 3 ∨ u = 4 ∨ u = 5 ∨ u = 6 := by
    obtain ⟨h1, h2⟩ := hu
    have : u.toNat = 1 ∨ u.toNat = 2 ∨ u.toNat = 3 ∨ u.toNat = 4 ∨ u.toNat = 5 ∨ u.toNat = 6 := by omega
    rcases this with q | q | q | q | q | q
    · exact Or.inl (UInt32.toNat_inj.mp q)
    · exact Or.inr (Or.inl (UInt32.toNat_inj.mp q))
    · exact Or.inr (Or.inr (Or.inl (UInt32.toNat_inj.mp q)))
    · exact Or.inr (Or.inr (Or.inr (Or.inl (UInt32.toNat_inj.mp q))))
    · exact Or.inr (Or.inr (Or.inr (Or.inr (Or.inl (UInt32.toNat_inj.mp q)))))
    · exact Or.inr (Or.inr (Or.inr (Or.inr (Or.inr (UInt32.toNat_inj.mp q)))))
  have hi : ∀ n : Nat, i.toInt = n → i = Int32.ofNat n := fun n hn => by
    rw [← gx_of h0, hn]; rfl
  have six : gm_bn (u + 6) ≤ 6 := (tx_len (μ := μ) hu).2
  have c : i = Int32.ofNat 0 ∨ i = Int32.ofNat 1 ∨ i = Int32.ofNat 2 ∨ i = Int32.ofNat 3 ∨ i = Int32.ofNat 4 ∨ i = Int32.ofNat 5 := by
    have : i.toInt = 0 ∨ i.toInt = 1 ∨ i.toInt = 2 ∨ i.toInt = 3 ∨ i.toInt = 4 ∨ i.toInt = 5 := by omega
    rcases this with q | q | q | q | q | q
    · exact Or.inl (hi 0 q)
    · exact Or.inr (Or.inl (hi 1 q))
    · exact Or.inr (Or.inr (Or.inl (hi 2 q)))
    · exact Or.inr (Or.inr (Or.inr (Or.inl (hi 3 q))))
    · exact Or.inr (Or.inr (Or.inr (Or.inr (Or.inl (hi 4 q)))))
    · exact Or.inr (Or.inr (Or.inr (Or.inr (Or.inr (hi 5 q)))))
  rcases e with rfl | rfl | rfl | rfl | rfl | rfl <;> rcases c with rfl | rfl | rfl | rfl | rfl | rfl <;> first | exact ⟨rfl, by decide⟩ | exact absurd h1 (by decide)
theorem tx_idx {μ : gm_M} {u : UInt32} (hu : gm_isS u) {c : Int32} : gwI (f_J0_indexOf_0f7a4 u c μ) (fun x m => m = μ ∧ -1 ≤ x.toInt ∧ x.toInt < 6) := by
  have hl := tx_len (μ := μ) hu
  have hb : gm_isB (u + 6) := by
    obtain ⟨h1, h2⟩ := hu
    have e : (u + 6).toNat = u.toNat + 6 := by
      rw [UInt32.toNat_add, show (6 : UInt32).toNat = 6 from rfl]
      omega
    constructor <;> omega
  have l0 : (0 : Int32).toInt = 0 := rfl
  have l1 : (1 : Int32).toInt = 1 := rfl
  have lm : (-1 : Int32).toInt = -1 := rfl
  have ln : (Int32.ofNat (gm_bn (u + 6))).toInt = gm_bn (u + 6) := Int32.toInt_ofNat_of_lt (by omega)
  have C : gwI (f_J1_indexOfChar_4cfef (u + 6) c 0 (Int32.ofNat (gm_bn (u + 6))) μ) (fun x m => m = μ ∧ -1 ≤ x.toInt ∧ x.toInt < 6) := by
    refine gwI_of ?_
    unfold f_J1_indexOfChar_4cfef
    refine gw_loop (fun s => 0 ≤ s.toInt ∧ s.toInt ≤ ((gm_bn (u + 6) : Nat) : Int)) (fun s => 6 - s.toInt) (fun s ⟨h1, h2⟩ => ?_) 5000 (0 : Int32) ⟨by omega, by omega⟩ (by omega) (by omega)
    refine gw_le (fun g => gw_some (gs_inr (gq_I ⟨rfl, by omega, by omega⟩))) (fun g => ?_)
    unfold gm_bl
    rw [if_pos ⟨hb, (gw_ix (n := gm_bn (u + 6)) h1 (by omega)).1, (gw_ix (n := gm_bn (u + 6)) h1 (by omega)).2⟩]
    have n : (s + (1 : Int32)).toInt = s.toInt + (1 : Int32).toInt := gx_add (by omega) (by omega)
    refine gw_ne (fun _ => gw_some (gs_inl ⟨by omega, by omega⟩ (by omega) (by omega))) (fun _ => gw_some (gs_inr (gq_I ⟨rfl, by omega, by omega⟩)))
  have D : gwI (f_J1_indexOf_4cfef (u + 6) c 0 (Int32.ofNat (gm_bn (u + 6))) μ) (fun x m => m = μ ∧ -1 ≤ x.toInt ∧ x.toInt < 6) := by
    refine gwI_of ?_
    unfold f_J1_indexOf_4cfef
    have E : gwI (f_J1_canEncode_9a6ad c μ) (fun x m => m = μ) := by
      refine gwI_of ?_
      unfold f_J1_canEncode_9a6ad
      exact gw_lt (fun _ => gw_z Iff.rfl (Or.inl rfl) (gq_I rfl)) (fun _ => gw_lt (fun _ => gw_z Iff.rfl (Or.inl rfl) (gq_I rfl)) (fun _ => gw_z Iff.rfl (Or.inr rfl) (gq_I rfl)))
    refine gw_bI E (fun x m z => ?_)
    replace z := z.symm
    subst z
    refine gw_ne (fun _ => ?_) (fun _ => gw_some (gq_I ⟨rfl, by omega, by omega⟩))
    refine gw_if hb ?_
    have q1 : (if (0 : Int32) < (0 : Int32) then (0 : Int32) else 0) = 0 := by split <;> rfl
    have q2 : (if Int32.ofNat (gm_bn (u + 6)) < Int32.ofNat (gm_bn (u + 6)) then Int32.ofNat (gm_bn (u + 6)) else Int32.ofNat (gm_bn (u + 6))) = Int32.ofNat (gm_bn (u + 6)) := by split <;> rfl
    rw [q1, q2]
    refine gw_lt (fun _ => ?_) (fun _ => gw_some (gq_I ⟨rfl, by omega, by omega⟩))
    refine gw_bI C (fun x m ⟨z, b⟩ => ?_)
    exact gw_some (gq_I ⟨z, b⟩)
  refine gwI_of ?_
  unfold f_J0_indexOf_0f7a4
  refine gw_if hu ?_
  have F : gwI (f_J0_indexOf_7cf53 u c 0 μ) (fun x m => m = μ ∧ -1 ≤ x.toInt ∧ x.toInt < 6) := by
    refine gwI_of ?_
    unfold f_J0_indexOf_7cf53
    refine gw_if hu ?_
    have L : f_J0_isLatin1_aae02 u μ = some (some (.int 1), μ) := by
      unfold f_J0_isLatin1_aae02
      rw [if_neg (by decide), if_pos hu, if_neg (by decide), if_pos (by decide)]
    refine gw_bI (R := fun x m => m = μ ∧ x = 1) ⟨1, μ, L, rfl, rfl⟩ (fun x m ⟨z, ex⟩ => ?_)
    replace z := z.symm
    subst z
    subst ex
    refine gw_eq (fun g => absurd g (by decide)) (fun _ => ?_)
    refine gw_if hu ?_
    refine gw_if hu ?_
    refine gw_bI (R := fun x m => m = μ ∧ x = Int32.ofNat (gm_bn (u + 6))) ⟨_, μ, hl.1, rfl, rfl⟩ (fun x m ⟨z, ex⟩ => ?_)
    replace z := z.symm
    subst z
    subst ex
    refine gw_bI D (fun x m ⟨z, b⟩ => ?_)
    exact gw_some (gq_I ⟨z, b⟩)
  refine gw_bI F (fun x m ⟨z, b⟩ => ?_)
  exact gw_some (gq_I ⟨z, b⟩)
end
section
set_option maxHeartbeats 1000000 in
theorem s_X0_next {μ : gm_M} {a0 : Nat} (h : RI a0 μ)  : gwI (f_X0_next a0 μ) (fun x m => m = μ ∧ (x.toInt = -1 ∨ (μ.2.1 a0 9).toInt < (μ.2.1 a0 8).toInt)) := by
  refine gwI_of ?_
  unfold f_X0_next
  have lm1 : (-1 : Int32).toInt = -1 := rfl
  have l0 : (0 : Int32).toInt = 0 := rfl
  refine gw_gI h.tc (fun v1 ev1 => ?_)
  have bbv1 := (RR.refl h).b8
  have bv1 := (RR.refl h).b9
  have dv1 : v1.toInt = (μ.2.1 a0 9).toInt := by rw [ev1]
  refine gw_lt (fun h4_2 => ?_) (fun h4_2 => ?_)
  ·
    exact gw_some (gq_I ⟨rfl, by omega⟩)
  ·
    refine gw_gI h.tc (fun v3 ev3 => ?_)
    have bbv3 := (RR.refl h).b8
    have bv3 := (RR.refl h).b9
    have dv3 : v3.toInt = (μ.2.1 a0 9).toInt := by rw [ev3]
    refine gw_gI h.tc (fun v4 ev4 => ?_)
    have bv4 := (RR.refl h).b8
    have dv4 : v4.toInt = (μ.2.1 a0 8).toInt := (congrArg Int32.toInt ev4).trans rfl
    refine gw_le (fun h15_5 => ?_) (fun h15_5 => ?_)
    ·
      exact gw_some (gq_I ⟨rfl, by omega⟩)
    ·
      refine gw_gRa 17 h.tc h.r7 ?_
      refine gw_gI h.tc (fun v6 ev6 => ?_)
      have bbv6 := (RR.refl h).b8
      have bv6 := (RR.refl h).b9
      have dv6 : v6.toInt = (μ.2.1 a0 9).toInt := by rw [ev6]
      refine gw_aI (i := v6) (h.1.t (r := 17) rfl) (h.1.l (r := 17) rfl) (by omega) (by omega) (fun v7 ev7 => ?_)
      exact gw_some (gq_I ⟨rfl, by omega⟩)
set_option maxHeartbeats 1000000 in
theorem s_X0_put {μ : gm_M} {a0 : Nat} {a1 : Int32} (h : RI a0 μ)  : gwV (f_X0_put a0 a1 μ) (fun m => RR a0 μ m) := by
  refine gwV_of ?_
  unfold f_X0_put
  have l1 : (1 : Int32).toInt = 1 := rfl
  have l100 : (100 : Int32).toInt = 100 := rfl
  have k0 := RR.refl h
  refine gw_gI k0.ri.tc (fun v1 ev1 => ?_)
  have bv1 := k0.b6
  have dv1 : v1.toInt = (μ.2.1 a0 6).toInt := by rw [ev1]
  refine gw_lt (fun h6_2 => ?_) (fun h6_2 => ?_)
  ·
    refine gw_gRa (a0 + 3) k0.ri.tc k0.ri.r3 ?_
    refine gw_gI k0.ri.tc (fun v3 ev3 => ?_)
    have bv3 := k0.b6
    have dv3 : v3.toInt = (μ.2.1 a0 6).toInt := by rw [ev3]
    refine gw_sI (i := v3) k0.ri.t3 k0.ri.l3 (by omega) (by omega) (fun m4 em4 => ?_)
    have km4 := k0.wa em4 (Or.inr (Or.inl rfl))
    have pm4 : ∀ j : Nat, m4.2.1 a0 j = μ.2.1 a0 j := fun j => by rw [rdo em4 (by omega)]
    refine gw_gI km4.ri.tc (fun v5 ev5 => ?_)
    have bv5 := km4.b6
    have dv5 : v5.toInt = (m4.2.1 a0 6).toInt := by rw [ev5]
    have dv5_1 : v5.toInt = (μ.2.1 a0 6).toInt := by rw [dv5, pm4 6]
    have n6 : (v5 + (1 : Int32)).toInt = v5.toInt + (1 : Int32).toInt := gx_add (by omega) (by omega)
    refine gw_pI km4.ri.tc (fun m7 em7 => ?_)
    have km7 := km4.w em7 (by decide) (by intro q; exact absurd q (by decide)) (by intro _; omega) (by intro q; exact absurd q (by decide))
    exact gw_some (gq_V km7)
  ·
    exact gw_some (gq_V k0)
set_option maxHeartbeats 1000000 in
theorem s_X0_addChange {μ : gm_M} {a0 : Nat} {a1 : Int32} (h : RI a0 μ)  : gwV (f_X0_addChange a0 a1 μ) (fun m => RR a0 μ m) := by
  refine gwV_of ?_
  unfold f_X0_addChange
  have l1 : (1 : Int32).toInt = 1 := rfl
  have l10 : (10 : Int32).toInt = 10 := rfl
  have k0 := RR.refl h
  refine gw_gI k0.ri.tc (fun v1 ev1 => ?_)
  have bv1 := k0.b2
  have dv1 : v1.toInt = (μ.2.1 a0 2).toInt := by rw [ev1]
  refine gw_lt (fun h6_2 => ?_) (fun h6_2 => ?_)
  ·
    refine gw_gRa (a0 + 1) k0.ri.tc k0.ri.r1 ?_
    refine gw_gI k0.ri.tc (fun v3 ev3 => ?_)
    have bv3 := k0.b2
    have dv3 : v3.toInt = (μ.2.1 a0 2).toInt := by rw [ev3]
    refine gw_sI (i := v3) k0.ri.t1 k0.ri.l1 (by omega) (by omega) (fun m4 em4 => ?_)
    have km4 := k0.wa em4 (Or.inl rfl)
    have pm4 : ∀ j : Nat, m4.2.1 a0 j = μ.2.1 a0 j := fun j => by rw [rdo em4 (by omega)]
    refine gw_gRa (a0 + 2) km4.ri.tc km4.ri.r2 ?_
    refine gw_gI km4.ri.tc (fun v5 ev5 => ?_)
    have bv5 := km4.b2
    have dv5 : v5.toInt = (m4.2.1 a0 2).toInt := by rw [ev5]
    have dv5_1 : v5.toInt = (μ.2.1 a0 2).toInt := by rw [dv5, pm4 2]
    refine gw_gI km4.ri.tc (fun v6 ev6 => ?_)
    have bv6 := km4.b6
    have dv6 : v6.toInt = (m4.2.1 a0 6).toInt := by rw [ev6]
    have dv6_1 : v6.toInt = (μ.2.1 a0 6).toInt := by rw [dv6, pm4 6]
    refine gw_sI (i := v5) km4.ri.t2 km4.ri.l2 (by omega) (by omega) (fun m7 em7 => ?_)
    have km7 := km4.wa em7 (Or.inr (Or.inr ⟨rfl, by omega, by omega⟩))
    have pm7 : ∀ j : Nat, m7.2.1 a0 j = m4.2.1 a0 j := fun j => by rw [rdo em7 (by omega)]
    refine gw_gI km7.ri.tc (fun v8 ev8 => ?_)
    have bv8 := km7.b2
    have dv8 : v8.toInt = (m7.2.1 a0 2).toInt := by rw [ev8]
    have dv8_1 : v8.toInt = (m4.2.1 a0 2).toInt := by rw [dv8, pm7 2]
    have dv8_2 : v8.toInt = (μ.2.1 a0 2).toInt := by rw [dv8_1, pm4 2]
    have n9 : (v8 + (1 : Int32)).toInt = v8.toInt + (1 : Int32).toInt := gx_add (by omega) (by omega)
    refine gw_pI km7.ri.tc (fun m10 em10 => ?_)
    have km10 := km7.w em10 (by decide) (by intro q; exact absurd q (by decide)) (by intro q; exact absurd q (by decide)) (by intro _; omega)
    exact gw_some (gq_V km10)
  ·
    exact gw_some (gq_V k0)
set_option maxHeartbeats 1000000 in
theorem s_X0_take {μ : gm_M} {a0 : Nat} {a1 : Int32} (h : RI a0 μ) (q0 : 0 ≤ a1.toInt) : gwI (f_X0_take a0 a1 μ) (fun x m => RR a0 μ m ∧ (x.toInt = 0 ∨ x.toInt = 1)) := by
  refine gwI_of ?_
  unfold f_X0_take
  have l0 : (0 : Int32).toInt = 0 := rfl
  have l1 : (1 : Int32).toInt = 1 := rfl
  have k0 := RR.refl h
  refine gw_if k0.ri.t ?_
  refine gw_bI (s_X0_next k0.ri ) (fun x1 m1 ⟨z1, f1⟩ => ?_)
  replace z1 := z1.symm
  subst z1
  have z8_1 : (μ.2.1 a0 8).toInt = (μ.2.1 a0 8).toInt := k0.s8
  refine gw_eq (fun h5_2 => ?_) (fun h5_2 => ?_)
  ·
    refine gw_gI k0.ri.tc (fun v3 ev3 => ?_)
    have bbv3 := k0.b8
    have bv3 := k0.b9
    have dv3 : v3.toInt = (μ.2.1 a0 9).toInt := by rw [ev3]
    have n4 : (v3 + (1 : Int32)).toInt = v3.toInt + (1 : Int32).toInt := gx_add (by omega) (by omega)
    refine gw_pI k0.ri.tc (fun m5 em5 => ?_)
    have km5 := k0.w em5 (by decide) (by intro _; omega) (by intro q; exact absurd q (by decide)) (by intro q; exact absurd q (by decide))
    refine gw_z Iff.rfl (by omega) (gq_I ⟨km5, by omega⟩)
  ·
    refine gw_z Iff.rfl (by omega) (gq_I ⟨k0, by omega⟩)
set_option maxHeartbeats 1000000 in
theorem s_X0_readNumber {μ : gm_M} {a0 : Nat} (h : RI a0 μ)  : gwI (f_X0_readNumber a0 μ) (fun x m => RR a0 μ m) := by
  refine gwI_of ?_
  unfold f_X0_readNumber
  have lm1 : (-1 : Int32).toInt = -1 := rfl
  have l1 : (1 : Int32).toInt = 1 := rfl
  have l10 : (10 : Int32).toInt = 10 := rfl
  have l48 : (48 : Int32).toInt = 48 := rfl
  have l57 : (57 : Int32).toInt = 57 := rfl
  have k0 := RR.refl h
  refine gw_if k0.ri.t ?_
  refine gw_bI (s_X0_next k0.ri ) (fun x1 m1 ⟨z1, f1⟩ => ?_)
  replace z1 := z1.symm
  subst z1
  have z8_1 : (μ.2.1 a0 8).toInt = (μ.2.1 a0 8).toInt := k0.s8
  refine gw_lt (fun h8_2 => ?_) (fun h8_2 => ?_)
  ·
    exact gw_some (gq_I k0)
  ·
    refine gw_le (fun h14_3 => ?_) (fun h14_3 => ?_)
    ·
      refine gw_gI k0.ri.tc (fun v4 ev4 => ?_)
      have bbv4 := k0.b8
      have bv4 := k0.b9
      have dv4 : v4.toInt = (μ.2.1 a0 9).toInt := by rw [ev4]
      have n5 : (v4 + (1 : Int32)).toInt = v4.toInt + (1 : Int32).toInt := gx_add (by omega) (by omega)
      refine gw_pI k0.ri.tc (fun m6 em6 => ?_)
      have km6 := k0.w em6 (by decide) (by intro _; omega) (by intro q; exact absurd q (by decide)) (by intro q; exact absurd q (by decide))
      refine gw_if km6.ri.t ?_
      refine gw_bI (s_X0_next km6.ri ) (fun x7 m7 ⟨z7, f7⟩ => ?_)
      replace z7 := z7.symm
      subst z7
      have z8_7 : (m6.2.1 a0 8).toInt = (μ.2.1 a0 8).toInt := km6.s8
      refine gw_ji ?_
      refine gw_eq (fun h37_8 => ?_) (fun h37_8 => ?_)
      ·
        exact gw_some (gq_I km6)
      ·
        refine gw_lt (fun h43_9 => ?_) (fun h43_9 => ?_)
        ·
          exact gw_some (gq_I km6)
        ·
          refine gw_le (fun h49_10 => ?_) (fun h49_10 => ?_)
          ·
            refine gw_gI km6.ri.tc (fun v11 ev11 => ?_)
            have bbv11 := km6.b8
            have bv11 := km6.b9
            have dv11 : v11.toInt = (m6.2.1 a0 9).toInt := by rw [ev11]
            have n12 : (v11 + (1 : Int32)).toInt = v11.toInt + (1 : Int32).toInt := gx_add (by omega) (by omega)
            refine gw_pI km6.ri.tc (fun m13 em13 => ?_)
            have km13 := km6.w em13 (by decide) (by intro _; omega) (by intro q; exact absurd q (by decide)) (by intro q; exact absurd q (by decide))
            exact gw_some (gq_I km13)
          ·
            exact gw_some (gq_I km6)
    ·
      exact gw_some (gq_I k0)
set_option maxHeartbeats 1000000 in
theorem s_X0_readOneOf {μ : gm_M} {a0 : Nat} {a1 : UInt32} (h : RI a0 μ) (q0 : gm_isS a1) : gwI (f_X0_readOneOf a0 a1 μ) (fun x m => RR a0 μ m ∧ (-1 ≤ x.toInt ∧ x.toInt < 6)) := by
  refine gwI_of ?_
  unfold f_X0_readOneOf
  have lm1 : (-1 : Int32).toInt = -1 := rfl
  have l0 : (0 : Int32).toInt = 0 := rfl
  have l1 : (1 : Int32).toInt = 1 := rfl
  have k0 := RR.refl h
  refine gw_gI k0.ri.tc (fun v1 ev1 => ?_)
  have bbv1 := k0.b8
  have bv1 := k0.b9
  have dv1 : v1.toInt = (μ.2.1 a0 9).toInt := by rw [ev1]
  refine gw_gI k0.ri.tc (fun v2 ev2 => ?_)
  have bv2 := k0.b8
  have dv2 : v2.toInt = (μ.2.1 a0 8).toInt := (congrArg Int32.toInt ev2).trans k0.s8
  refine gw_lt (fun h8_3 => ?_) (fun h8_3 => ?_)
  ·
    refine gw_gRa 17 k0.ri.tc k0.ri.r7 ?_
    refine gw_gI k0.ri.tc (fun v4 ev4 => ?_)
    have bbv4 := k0.b8
    have bv4 := k0.b9
    have dv4 : v4.toInt = (μ.2.1 a0 9).toInt := by rw [ev4]
    refine gw_aI (i := v4) (k0.ri.1.t (r := 17) rfl) (k0.ri.1.l (r := 17) rfl) (by omega) (by omega) (fun v5 ev5 => ?_)
    refine gw_if q0 ?_
    refine gw_bI (tx_idx q0) (fun x6 m6 ⟨z6, f6⟩ => ?_)
    replace z6 := z6.symm
    subst z6
    refine gw_lt (fun h29_7 => ?_) (fun h29_7 => ?_)
    ·
      exact gw_some (gq_I ⟨k0, by omega⟩)
    ·
      refine gw_gI k0.ri.tc (fun v8 ev8 => ?_)
      have bbv8 := k0.b8
      have bv8 := k0.b9
      have dv8 : v8.toInt = (μ.2.1 a0 9).toInt := by rw [ev8]
      have n9 : (v8 + (1 : Int32)).toInt = v8.toInt + (1 : Int32).toInt := gx_add (by omega) (by omega)
      refine gw_pI k0.ri.tc (fun m10 em10 => ?_)
      have km10 := k0.w em10 (by decide) (by intro _; omega) (by intro q; exact absurd q (by decide)) (by intro q; exact absurd q (by decide))
      exact gw_some (gq_I ⟨km10, by omega⟩)
  ·
    exact gw_some (gq_I ⟨k0, by omega⟩)
set_option maxHeartbeats 1000000 in
theorem s_X0_readTest {μ : gm_M} {a0 : Nat} (h : RI a0 μ)  : gwI (f_X0_readTest a0 μ) (fun x m => RR a0 μ m ∧ (x.toInt = 0 ∨ x.toInt = 1)) := by
  refine gwI_of ?_
  unfold f_X0_readTest
  have l0 : (0 : Int32).toInt = 0 := rfl
  have l1 : (1 : Int32).toInt = 1 := rfl
  have l100 : (100 : Int32).toInt = 100 := rfl
  have l1000 : (1000 : Int32).toInt = 1000 := rfl
  have k0 := RR.refl h
  refine gw_if k0.ri.t ?_
  refine gw_bI (s_X0_readOneOf k0.ri (by decide)) (fun x1 m1 ⟨g1, f1⟩ => ?_)
  have kk1 := k0.trans g1
  refine gw_le (fun h8_2 => ?_) (fun h8_2 => ?_)
  ·
    refine gw_if kk1.ri.t ?_
    refine gw_bI (s_X0_readOneOf kk1.ri (by decide)) (fun x3 m3 ⟨g3, f3⟩ => ?_)
    have kk3 := kk1.trans g3
    refine gw_le (fun h21_4 => ?_) (fun h21_4 => ?_)
    ·
      refine gw_if kk3.ri.t ?_
      refine gw_bI (s_X0_readNumber kk3.ri ) (fun x5 m5 g5 => ?_)
      have kk5 := kk3.trans g5
      refine gw_le (fun h32_6 => ?_) (fun h32_6 => ?_)
      ·
        refine gw_if kk5.ri.t ?_
        refine gw_bV (s_X0_put kk5.ri ) (fun m7 g7 => ?_)
        have kk7 := kk5.trans g7
        refine gw_z Iff.rfl (by omega) (gq_I ⟨kk7, by omega⟩)
      ·
        refine gw_z Iff.rfl (by omega) (gq_I ⟨kk5, by omega⟩)
    ·
      refine gw_z Iff.rfl (by omega) (gq_I ⟨kk3, by omega⟩)
  ·
    refine gw_z Iff.rfl (by omega) (gq_I ⟨kk1, by omega⟩)
set_option maxHeartbeats 1000000 in
theorem s_X0_readWordAndNumber {μ : gm_M} {a0 : Nat} {a1 : UInt32} (h : RI a0 μ) (q0 : gm_isS a1) : gwI (f_X0_readWordAndNumber a0 a1 μ) (fun x m => RR a0 μ m) := by
  refine gwI_of ?_
  unfold f_X0_readWordAndNumber
  have lm1 : (-1 : Int32).toInt = -1 := rfl
  have l0 : (0 : Int32).toInt = 0 := rfl
  have l1 : (1 : Int32).toInt = 1 := rfl
  have k0 := RR.refl h
  refine gw_loop (fun s1 => RR a0 μ s1.2 ∧ (0 ≤ s1.1.toInt ∧ s1.1.toInt ≤ 6)) (fun s1 => (6 - s1.1.toInt)) (fun s1 ⟨k2, u3⟩ => ?_) 5000 ((0 : Int32), μ) ⟨k0, (by show 0 ≤ (0 : Int32).toInt ∧ (0 : Int32).toInt ≤ 6; omega)⟩ (by show (6 - (0 : Int32).toInt) < ((5000 : Nat) : Int); omega) (by show 0 ≤ (6 - (0 : Int32).toInt); omega)
  refine gw_if q0 ?_
  refine gw_bI (R := fun x m => m = s1.2 ∧ x = Int32.ofNat (gm_bn (a1 + 6))) ⟨_, _, (tx_len q0).1, rfl, rfl⟩ (fun x4 m4 ⟨z4, f4⟩ => ?_)
  replace z4 := z4.symm
  subst z4
  have tl4 := (tx_len (μ := μ) q0).2
  have dl4 : x4.toInt = ((gm_bn (a1 + 6) : Nat) : Int) := by rw [f4]; exact Int32.toInt_ofNat_of_lt (by omega)
  refine gw_le (fun h7_5 => ?_) (fun h7_5 => ?_)
  ·
    refine gw_if k2.ri.t ?_
    refine gw_bI (s_X0_readNumber k2.ri ) (fun x6 m6 g6 => ?_)
    have kk6 := k2.trans g6
    exact gw_some (gs_inr (gq_I kk6))
  ·
    refine gw_if q0 ?_
    have tc7 := tx_char (μ := s1.2) q0 (i := s1.1) (by omega) (by omega)
    refine gw_bI (R := fun x m => m = s1.2 ∧ x = gm_bb (a1 + 6) s1.1.toInt.toNat) ⟨_, _, tc7.1, rfl, rfl⟩ (fun x7 m7 ⟨z7, f7⟩ => ?_)
    replace z7 := z7.symm
    subst z7
    have dc7 : 0 ≤ x7.toInt := by rw [f7]; exact tc7.2
    refine gw_if k2.ri.t ?_
    refine gw_bI (s_X0_take k2.ri (by omega)) (fun x8 m8 ⟨g8, f8⟩ => ?_)
    have kk8 := k2.trans g8
    refine gw_ne (fun h19_9 => ?_) (fun h19_9 => ?_)
    ·
      have n10 : (s1.1 + (1 : Int32)).toInt = s1.1.toInt + (1 : Int32).toInt := gx_add (by omega) (by omega)
      exact gw_some (gs_inl ⟨kk8, (by show 0 ≤ (s1.1 + (1 : Int32)).toInt ∧ (s1.1 + (1 : Int32)).toInt ≤ 6; omega)⟩ (by show (6 - (s1.1 + (1 : Int32)).toInt) < (6 - s1.1.toInt); omega) (by show 0 ≤ (6 - (s1.1 + (1 : Int32)).toInt); omega))
    ·
      exact gw_some (gs_inr (gq_I kk8))
set_option maxHeartbeats 1000000 in
theorem s_b_readEither {R0 : Nat → Int32 → gm_M → Option (Option Value × gm_M)} {R1 : Nat → Int32 → gm_M → Option (Option Value × gm_M)} (d : Nat) (hR0 : ∀ {m : gm_M} {a0 : Nat} {b : Int32} (h : RI a0 m), 0 ≤ b.toInt ∧ b.toInt ≤ 5 → 2 * (5 - b.toInt) + 2 ≤ d → gwI (R0 a0 b m) (fun x m1 => RR a0 m m1 ∧ (x.toInt = 0 ∨ x.toInt = 1))) (hR1 : ∀ {m : gm_M} {a0 : Nat} {b : Int32} (h : RI a0 m), 0 ≤ b.toInt ∧ b.toInt ≤ 5 → 2 * (5 - b.toInt) + 1 ≤ d → gwI (R1 a0 b m) (fun x m1 => RR a0 m m1 ∧ (x.toInt = 0 ∨ x.toInt = 1))) {μ : gm_M} {a0 : Nat} {a1 : Int32} (h : RI a0 μ) (q0 : 0 ≤ a1.toInt ∧ a1.toInt ≤ 5) (q1 : 2 * (5 - a1.toInt) + 2 ≤ d + 1) : gwI (b_X0_readEither R0 R1 a0 a1 μ) (fun x m => RR a0 μ m ∧ (x.toInt = 0 ∨ x.toInt = 1)) := by
  refine gwI_of ?_
  unfold b_X0_readEither
  have lm3 : (-3 : Int32).toInt = -3 := rfl
  have lm2 : (-2 : Int32).toInt = -2 := rfl
  have l0 : (0 : Int32).toInt = 0 := rfl
  have l1 : (1 : Int32).toInt = 1 := rfl
  have l38 : (38 : Int32).toInt = 38 := rfl
  have l124 : (124 : Int32).toInt = 124 := rfl
  have k0 := RR.refl h
  refine gw_if k0.ri.t ?_
  refine gw_bI (hR1 k0.ri (by omega) (by omega)) (fun x1 m1 ⟨g1, f1⟩ => ?_)
  have kk1 := k0.trans g1
  refine gw_ne (fun h5_2 => ?_) (fun h5_2 => ?_)
  ·
    refine gw_gI kk1.ri.tc (fun v3 ev3 => ?_)
    have bbv3 := kk1.b8
    have bv3 := kk1.b9
    have dv3 : v3.toInt = (m1.2.1 a0 9).toInt := by rw [ev3]
    refine gw_loop (fun s4 => RR a0 μ s4.2.2 ∧ (0 ≤ s4.2.1.toInt ∧ s4.2.1.toInt ≤ 100)) (fun s4 => (100 - s4.2.1.toInt)) (fun s4 ⟨k5, u6⟩ => ?_) 5000 ((0 : Int32), v3, m1) ⟨kk1, (by show 0 ≤ v3.toInt ∧ v3.toInt ≤ 100; omega)⟩ (by show (100 - v3.toInt) < ((5000 : Nat) : Int); omega) (by show 0 ≤ (100 - v3.toInt); omega)
    refine gw_gI k5.ri.tc (fun v7 ev7 => ?_)
    have bv7 := k5.b8
    have dv7 : v7.toInt = (μ.2.1 a0 8).toInt := (congrArg Int32.toInt ev7).trans k5.s8
    refine gw_j (fun s8 => RR a0 μ s8) (fun s8 k10 => ?_) (fun j9 hj9 => ?_)
    ·
      refine gw_eq (fun h91_11 => ?_) (fun h91_11 => ?_)
      ·
        refine gw_z Iff.rfl (by omega) (gs_inr (gq_I ⟨k10, by omega⟩))
      ·
        refine gw_if k10.ri.t ?_
        refine gw_bV (s_X0_put k10.ri ) (fun m12 g12 => ?_)
        have kk12 := k10.trans g12
        refine gw_z Iff.rfl (by omega) (gs_inr (gq_I ⟨kk12, by omega⟩))
    ·
      refine gw_le (fun h22_13 => ?_) (fun h22_13 => ?_)
      ·
        exact hj9 _ k5
      ·
        refine gw_if k5.ri.t ?_
        refine gw_bI (s_X0_take k5.ri (by omega)) (fun x14 m14 ⟨g14, f14⟩ => ?_)
        have kk14 := k5.trans g14
        refine gw_j (fun s15 => RR a0 μ s15.2) (fun s15 k17 => ?_) (fun j16 hj16 => ?_)
        ·
          have n18 : (s4.2.1 + (1 : Int32)).toInt = s4.2.1.toInt + (1 : Int32).toInt := gx_add (by omega) (by omega)
          exact gw_some (gs_inl ⟨k17, (by show 0 ≤ (s4.2.1 + (1 : Int32)).toInt ∧ (s4.2.1 + (1 : Int32)).toInt ≤ 100; omega)⟩ (by show (100 - (s4.2.1 + (1 : Int32)).toInt) < (100 - s4.2.1.toInt); omega) (by show 0 ≤ (100 - (s4.2.1 + (1 : Int32)).toInt); omega))
        ·
          refine gw_eq (fun h31_19 => ?_) (fun h31_19 => ?_)
          ·
            refine gw_if kk14.ri.t ?_
            refine gw_bI (s_X0_take kk14.ri (by omega)) (fun x20 m20 ⟨g20, f20⟩ => ?_)
            have kk20 := kk14.trans g20
            refine gw_eq (fun h59_21 => ?_) (fun h59_21 => ?_)
            ·
              exact hj9 _ kk20
            ·
              refine gw_j (fun s22 => RR a0 μ s22) (fun s22 k24 => ?_) (fun j23 hj23 => ?_)
              ·
                refine gw_if k24.ri.t ?_
                refine gw_bI (hR1 k24.ri (by omega) (by omega)) (fun x25 m25 ⟨g25, f25⟩ => ?_)
                have kk25 := k24.trans g25
                refine gw_ne (fun h79_26 => ?_) (fun h79_26 => ?_)
                ·
                  exact hj16 _ kk25
                ·
                  refine gw_z Iff.rfl (by omega) (gs_inr (gq_I ⟨kk25, by omega⟩))
              ·
                refine gw_eq (fun h63_27 => ?_) (fun h63_27 => ?_)
                ·
                  exact hj23 _ kk20
                ·
                  refine gw_if kk20.ri.t ?_
                  refine gw_bV (s_X0_put kk20.ri ) (fun m28 g28 => ?_)
                  have kk28 := kk20.trans g28
                  exact hj23 _ kk28
          ·
            refine gw_if kk14.ri.t ?_
            refine gw_bI (hR1 kk14.ri (by omega) (by omega)) (fun x29 m29 ⟨g29, f29⟩ => ?_)
            have kk29 := kk14.trans g29
            refine gw_ne (fun h39_30 => ?_) (fun h39_30 => ?_)
            ·
              refine gw_if kk29.ri.t ?_
              refine gw_bV (s_X0_put kk29.ri ) (fun m31 g31 => ?_)
              have kk31 := kk29.trans g31
              exact hj16 _ kk31
            ·
              refine gw_z Iff.rfl (by omega) (gs_inr (gq_I ⟨kk29, by omega⟩))
  ·
    refine gw_z Iff.rfl (by omega) (gq_I ⟨kk1, by omega⟩)
set_option maxHeartbeats 1000000 in
theorem s_b_readFactor {R0 : Nat → Int32 → gm_M → Option (Option Value × gm_M)} {R1 : Nat → Int32 → gm_M → Option (Option Value × gm_M)} (d : Nat) (hR0 : ∀ {m : gm_M} {a0 : Nat} {b : Int32} (h : RI a0 m), 0 ≤ b.toInt ∧ b.toInt ≤ 5 → 2 * (5 - b.toInt) + 2 ≤ d → gwI (R0 a0 b m) (fun x m1 => RR a0 m m1 ∧ (x.toInt = 0 ∨ x.toInt = 1))) (hR1 : ∀ {m : gm_M} {a0 : Nat} {b : Int32} (h : RI a0 m), 0 ≤ b.toInt ∧ b.toInt ≤ 5 → 2 * (5 - b.toInt) + 1 ≤ d → gwI (R1 a0 b m) (fun x m1 => RR a0 m m1 ∧ (x.toInt = 0 ∨ x.toInt = 1))) {μ : gm_M} {a0 : Nat} {a1 : Int32} (h : RI a0 μ) (q0 : 0 ≤ a1.toInt ∧ a1.toInt ≤ 5) (q1 : 2 * (5 - a1.toInt) + 1 ≤ d + 1) : gwI (b_X0_readFactor R0 R1 a0 a1 μ) (fun x m => RR a0 μ m ∧ (x.toInt = 0 ∨ x.toInt = 1)) := by
  refine gwI_of ?_
  unfold b_X0_readFactor
  have lm1 : (-1 : Int32).toInt = -1 := rfl
  have l0 : (0 : Int32).toInt = 0 := rfl
  have l1 : (1 : Int32).toInt = 1 := rfl
  have l5 : (5 : Int32).toInt = 5 := rfl
  have l33 : (33 : Int32).toInt = 33 := rfl
  have l40 : (40 : Int32).toInt = 40 := rfl
  have l41 : (41 : Int32).toInt = 41 := rfl
  have k0 := RR.refl h
  refine gw_if k0.ri.t ?_
  refine gw_bI (s_X0_next k0.ri ) (fun x1 m1 ⟨z1, f1⟩ => ?_)
  replace z1 := z1.symm
  subst z1
  have z8_1 : (μ.2.1 a0 8).toInt = (μ.2.1 a0 8).toInt := k0.s8
  refine gw_j (fun s2 => (x1.toInt ≠ -1)) (fun s2 u4 => ?_) (fun j3 hj3 => ?_)
  ·
    refine gw_lt (fun h24_5 => ?_) (fun h24_5 => ?_)
    ·
      refine gw_gI k0.ri.tc (fun v6 ev6 => ?_)
      have bbv6 := k0.b8
      have bv6 := k0.b9
      have dv6 : v6.toInt = (μ.2.1 a0 9).toInt := by rw [ev6]
      have n7 : (v6 + (1 : Int32)).toInt = v6.toInt + (1 : Int32).toInt := gx_add (by omega) (by omega)
      refine gw_pI k0.ri.tc (fun m8 em8 => ?_)
      have km8 := k0.w em8 (by decide) (by intro _; omega) (by intro q; exact absurd q (by decide)) (by intro q; exact absurd q (by decide))
      refine gw_ne (fun h42_9 => ?_) (fun h42_9 => ?_)
      ·
        refine gw_if km8.ri.t ?_
        have n10 : (a1 + (1 : Int32)).toInt = a1.toInt + (1 : Int32).toInt := gx_add (by omega) (by omega)
        refine gw_bI (hR1 km8.ri (by omega) (by omega)) (fun x11 m11 ⟨g11, f11⟩ => ?_)
        have kk11 := km8.trans g11
        refine gw_ne (fun h77_12 => ?_) (fun h77_12 => ?_)
        ·
          refine gw_if kk11.ri.t ?_
          refine gw_bV (s_X0_put kk11.ri ) (fun m13 g13 => ?_)
          have kk13 := kk11.trans g13
          refine gw_z Iff.rfl (by omega) (gq_I ⟨kk13, by omega⟩)
        ·
          refine gw_z Iff.rfl (by omega) (gq_I ⟨kk11, by omega⟩)
      ·
        refine gw_if km8.ri.t ?_
        have n14 : (a1 + (1 : Int32)).toInt = a1.toInt + (1 : Int32).toInt := gx_add (by omega) (by omega)
        refine gw_bI (hR0 km8.ri (by omega) (by omega)) (fun x15 m15 ⟨g15, f15⟩ => ?_)
        have kk15 := km8.trans g15
        refine gw_eq (fun h52_16 => ?_) (fun h52_16 => ?_)
        ·
          refine gw_z Iff.rfl (by omega) (gq_I ⟨kk15, by omega⟩)
        ·
          refine gw_if kk15.ri.t ?_
          refine gw_bI (s_X0_take kk15.ri (by omega)) (fun x17 m17 ⟨g17, f17⟩ => ?_)
          have kk17 := kk15.trans g17
          refine gw_eq (fun h61_18 => ?_) (fun h61_18 => ?_)
          ·
            refine gw_z Iff.rfl (by omega) (gq_I ⟨kk17, by omega⟩)
          ·
            refine gw_z Iff.rfl (by omega) (gq_I ⟨kk17, by omega⟩)
    ·
      refine gw_z Iff.rfl (by omega) (gq_I ⟨k0, by omega⟩)
  ·
    refine gw_eq (fun h8_19 => ?_) (fun h8_19 => ?_)
    ·
      exact hj3 _ (by show x1.toInt ≠ -1; omega)
    ·
      refine gw_eq (fun h14_20 => ?_) (fun h14_20 => ?_)
      ·
        exact hj3 _ (by show x1.toInt ≠ -1; omega)
      ·
        refine gw_if k0.ri.t ?_
        refine gw_bI (s_X0_readTest k0.ri ) (fun x21 m21 ⟨g21, f21⟩ => ?_)
        have kk21 := k0.trans g21
        refine gw_z Iff.rfl (by omega) (gq_I ⟨kk21, by omega⟩)
theorem sr_read : ∀ d : Nat, (∀ {m : gm_M} {a0 : Nat} {b : Int32} (h : RI a0 m), 0 ≤ b.toInt ∧ b.toInt ≤ 5 → 2 * (5 - b.toInt) + 2 ≤ d → gwI ((r_X0_readEither d).1 a0 b m) (fun x m1 => RR a0 m m1 ∧ (x.toInt = 0 ∨ x.toInt = 1))) ∧ (∀ {m : gm_M} {a0 : Nat} {b : Int32} (h : RI a0 m), 0 ≤ b.toInt ∧ b.toInt ≤ 5 → 2 * (5 - b.toInt) + 1 ≤ d → gwI ((r_X0_readEither d).2 a0 b m) (fun x m1 => RR a0 m m1 ∧ (x.toInt = 0 ∨ x.toInt = 1)))
  | 0 => ⟨fun h q0 q1 => by omega, fun h q0 q1 => by omega⟩
  | d + 1 => ⟨fun h q0 q1 => s_b_readEither d (sr_read d).1 (sr_read d).2 h q0 (by omega), fun h q0 q1 => s_b_readFactor d (sr_read d).1 (sr_read d).2 h q0 (by omega)⟩
theorem s_X0_readEither {μ : gm_M} {a0 : Nat} {a1 : Int32} (h : RI a0 μ) (q0 : 0 ≤ a1.toInt ∧ a1.toInt ≤ 5) : gwI (f_X0_readEither a0 a1 μ) (fun x m => RR a0 μ m ∧ (x.toInt = 0 ∨ x.toInt = 1)) := (sr_read 64).1 h q0 (by omega)
end
section
set_option maxHeartbeats 1000000 in
theorem s_X0_readClause {μ : gm_M} {a0 : Nat} (h : RI a0 μ)  : gwI (f_X0_readClause a0 μ) (fun x m => RR a0 μ m ∧ (x.toInt = 0 ∨ x.toInt = 1)) := by
  refine gwI_of ?_
  unfold f_X0_readClause
  have l0 : (0 : Int32).toInt = 0 := rfl
  have l1 : (1 : Int32).toInt = 1 := rfl
  have l32 : (32 : Int32).toInt = 32 := rfl
  have l114 : (114 : Int32).toInt = 114 := rfl
  have l115 : (115 : Int32).toInt = 115 := rfl
  have l116 : (116 : Int32).toInt = 116 := rfl
  have l119 : (119 : Int32).toInt = 119 := rfl
  have k0 := RR.refl h
  refine gw_if k0.ri.t ?_
  refine gw_bI (s_X0_next k0.ri ) (fun x1 m1 ⟨z1, f1⟩ => ?_)
  replace z1 := z1.symm
  subst z1
  have z8_1 : (μ.2.1 a0 8).toInt = (μ.2.1 a0 8).toInt := k0.s8
  refine gw_ne (fun h6_2 => ?_) (fun h6_2 => ?_)
  ·
    refine gw_if k0.ri.t ?_
    refine gw_bI (s_X0_take k0.ri (by omega)) (fun x3 m3 ⟨g3, f3⟩ => ?_)
    have kk3 := k0.trans g3
    refine gw_ne (fun h37_4 => ?_) (fun h37_4 => ?_)
    ·
      refine gw_if kk3.ri.t ?_
      refine gw_bI (s_X0_next kk3.ri ) (fun x5 m5 ⟨z5, f5⟩ => ?_)
      replace z5 := z5.symm
      subst z5
      have z8_5 : (m3.2.1 a0 8).toInt = (μ.2.1 a0 8).toInt := kk3.s8
      refine gw_ne (fun h48_6 => ?_) (fun h48_6 => ?_)
      ·
        refine gw_if kk3.ri.t ?_
        refine gw_bI (s_X0_take kk3.ri (by omega)) (fun x7 m7 ⟨g7, f7⟩ => ?_)
        have kk7 := kk3.trans g7
        refine gw_ne (fun h79_8 => ?_) (fun h79_8 => ?_)
        ·
          refine gw_if kk7.ri.t ?_
          refine gw_bI (s_X0_next kk7.ri ) (fun x9 m9 ⟨z9, f9⟩ => ?_)
          replace z9 := z9.symm
          subst z9
          have z8_9 : (m7.2.1 a0 8).toInt = (μ.2.1 a0 8).toInt := kk7.s8
          refine gw_j (fun s10 => (s10.toInt = 0 ∨ s10.toInt = 1)) (fun s10 u12 => ?_) (fun j11 hj11 => ?_)
          ·
            refine gw_j (fun s13 => (gm_isS s13)) (fun s13 u15 => ?_) (fun j14 hj14 => ?_)
            ·
              refine gw_if kk7.ri.t ?_
              refine gw_bI (s_X0_readWordAndNumber kk7.ri (by assumption)) (fun x16 m16 g16 => ?_)
              have kk16 := kk7.trans g16
              refine gw_lt (fun h116_17 => ?_) (fun h116_17 => ?_)
              ·
                refine gw_z Iff.rfl (by omega) (gq_I ⟨kk16, by omega⟩)
              ·
                refine gw_if kk16.ri.t ?_
                refine gw_bI (s_X0_take kk16.ri (by omega)) (fun x18 m18 ⟨g18, f18⟩ => ?_)
                have kk18 := kk16.trans g18
                refine gw_eq (fun h125_19 => ?_) (fun h125_19 => ?_)
                ·
                  refine gw_z Iff.rfl (by omega) (gq_I ⟨kk18, by omega⟩)
                ·
                  refine gw_if kk18.ri.t ?_
                  refine gw_bI (s_X0_readEither kk18.ri (by omega)) (fun x20 m20 ⟨g20, f20⟩ => ?_)
                  have kk20 := kk18.trans g20
                  refine gw_ne (fun h133_21 => ?_) (fun h133_21 => ?_)
                  ·
                    refine gw_j (fun s22 => True) (fun s22 _ => ?_) (fun j23 hj23 => ?_)
                    ·
                      refine gw_if kk20.ri.t ?_
                      refine gw_bV (s_X0_addChange kk20.ri ) (fun m24 g24 => ?_)
                      have kk24 := kk20.trans g24
                      refine gw_z Iff.rfl (by omega) (gq_I ⟨kk24, by omega⟩)
                    ·
                      refine gw_eq (fun h140_25 => ?_) (fun h140_25 => ?_)
                      ·
                        exact hj23 _ trivial
                      ·
                        exact hj23 _ trivial
                  ·
                    refine gw_z Iff.rfl (by omega) (gq_I ⟨kk20, by omega⟩)
            ·
              refine gw_eq (fun h101_26 => ?_) (fun h101_26 => ?_)
              ·
                exact hj14 _ (by show gm_isS (4 : UInt32); decide)
              ·
                exact hj14 _ (by show gm_isS (3 : UInt32); decide)
          ·
            refine gw_ne (fun h90_27 => ?_) (fun h90_27 => ?_)
            ·
              exact hj11 _ (by show (0 : Int32).toInt = 0 ∨ (0 : Int32).toInt = 1; omega)
            ·
              exact hj11 _ (by show (1 : Int32).toInt = 0 ∨ (1 : Int32).toInt = 1; omega)
        ·
          refine gw_z Iff.rfl (by omega) (gq_I ⟨kk7, by omega⟩)
      ·
        refine gw_if kk3.ri.t ?_
        refine gw_bI (s_X0_readWordAndNumber kk3.ri (by decide)) (fun x28 m28 g28 => ?_)
        have kk28 := kk3.trans g28
        refine gw_pI kk28.ri.tc (fun m29 em29 => ?_)
        have km29 := kk28.w em29 (by decide) (by intro q; exact absurd q (by decide)) (by intro q; exact absurd q (by decide)) (by intro q; exact absurd q (by decide))
        refine gw_lt (fun h64_30 => ?_) (fun h64_30 => ?_)
        ·
          refine gw_z Iff.rfl (by omega) (gq_I ⟨km29, by omega⟩)
        ·
          refine gw_z Iff.rfl (by omega) (gq_I ⟨km29, by omega⟩)
    ·
      refine gw_z Iff.rfl (by omega) (gq_I ⟨kk3, by omega⟩)
  ·
    refine gw_if k0.ri.t ?_
    refine gw_bI (s_X0_readWordAndNumber k0.ri (by decide)) (fun x31 m31 g31 => ?_)
    have kk31 := k0.trans g31
    refine gw_pI kk31.ri.tc (fun m32 em32 => ?_)
    have km32 := kk31.w em32 (by decide) (by intro q; exact absurd q (by decide)) (by intro q; exact absurd q (by decide)) (by intro q; exact absurd q (by decide))
    refine gw_lt (fun h22_33 => ?_) (fun h22_33 => ?_)
    ·
      refine gw_z Iff.rfl (by omega) (gq_I ⟨km32, by omega⟩)
    ·
      refine gw_z Iff.rfl (by omega) (gq_I ⟨km32, by omega⟩)
end
section
theorem nw_1 (μ : gm_M) (t n : Nat) : (gm_nw μ t n).1 = μ.1 ++ [(t, n)] := rfl
theorem nw_i {μ : gm_M} {t n r : Nat} (h : r ≠ μ.1.length) : (gm_nw μ t n).2.1 r = μ.2.1 r := by
  funext k; exact congrFun (gm_z_ne μ.2.1 μ.1.length 0 r h) k
theorem nw_r {μ : gm_M} {t n r : Nat} (h : r ≠ μ.1.length) : (gm_nw μ t n).2.2 r = μ.2.2 r := by
  funext k; exact congrFun (gm_z_ne μ.2.2 μ.1.length 0 r h) k
theorem nw_z {μ : gm_M} {t n k : Nat} : (gm_nw μ t n).2.1 μ.1.length k = 0 := by
  show gm_z μ.2.1 μ.1.length 0 μ.1.length k = 0
  unfold gm_z; rw [if_pos rfl]
/-- an afternoon made anew -/
def nwA (μ m : gm_M) : Prop := m.1 = μ.1 ++ [(5, 10), (1, 10), (1, 10), (1, 100), (1, 0)] ∧ (∀ r : Nat, r < μ.1.length → m.2.1 r = μ.2.1 r) ∧ (∀ r : Nat, r < μ.1.length → m.2.2 r = μ.2.2 r) ∧ (m.2.2 μ.1.length 3 = μ.1.length + 1 ∧ m.2.2 μ.1.length 4 = μ.1.length + 2 ∧ m.2.2 μ.1.length 5 = μ.1.length + 3) ∧ (m.2.1 μ.1.length 9 = 0 ∧ m.2.1 μ.1.length 6 = 0 ∧ m.2.1 μ.1.length 2 = 0) ∧ ∀ k : Nat, m.2.1 (μ.1.length + 2) k = 0
theorem gw_nA {β : Type} {μ : gm_M} {t B n : Nat} {i : Int32} {f : Nat → gm_M → Option β} {Q : β → Prop} (h : i.toInt = n) (hn : n ≤ B) (k : gw (f μ.1.length (gm_nw μ t n)) Q) : gw (gm_nA μ t i B f) Q := by
  unfold gm_nA
  have e : i.toNatClampNeg = n := by show i.toInt.toNat = n; omega
  have h0 := (gw_ix (i := i) (n := n + 1) (by omega) (by omega)).1
  rw [if_pos ⟨h0, by omega⟩, e]
  exact k
set_option maxHeartbeats 8000000 in
theorem s_ainit {μ : gm_M} : gwV (f_X0_init μ.1.length (gm_nw μ 5 10)) (fun m => nwA μ m) := by
  refine gwV_of ?_
  unfold f_X0_init
  generalize hA : μ.1.length = A
  have l10 : (10 : Int32).toInt = (10 : Nat) := rfl
  have l100 : (100 : Int32).toInt = (100 : Nat) := rfl
  have l0 : (0 : Int32).toInt = (0 : Nat) := rfl
  have tg : ∀ (m : gm_M) (l : List (Nat × Nat)), m.1 = μ.1 ++ (5, 10) :: l → gm_tag m A = 5 := fun m l e => by
    unfold gm_tag; rw [e, ← hA, List.getElem?_append_right (Nat.le_refl _), Nat.sub_self]; rfl
  have t5 : ∀ (m : gm_M) (l : List (Nat × Nat)), m.1 = μ.1 ++ (5, 10) :: l → [5].contains (gm_tag m A) = true := fun m l e => by rw [tg m l e]; rfl
  have len : ∀ (m : gm_M) (l : List (Nat × Nat)), m.1 = μ.1 ++ l → m.1.length = A + l.length := fun m l e => by rw [e, List.length_append, hA]
  refine gw_if (by rw [tg _ [] rfl]; decide) ?_
  refine gw_pIw (t5 _ [] rfl) ?_
  refine gw_pIw (t5 _ [] rfl) ?_
  generalize h1 : wI (wI (gm_nw μ 5 10) A 0 0) A 1 20 = m1
  have a1 : m1.1 = μ.1 ++ [(5, 10)] := by rw [← h1]; rfl
  have i1 : ∀ r : Nat, r ≠ A → m1.2.1 r = μ.2.1 r := fun r hr => by rw [← h1, wI_o _ _ _ _ hr, wI_o _ _ _ _ hr, nw_i (by omega)]
  have r1 : ∀ r : Nat, r ≠ A → m1.2.2 r = μ.2.2 r := fun r hr => by rw [← h1]; show (gm_nw μ 5 10).2.2 r = _; exact nw_r (by omega)
  have z1 : ∀ j : Nat, j ≠ 0 → j ≠ 1 → m1.2.1 A j = 0 := fun j j0 j1 => by rw [← h1, wI_n _ _ _ _ j1, wI_n _ _ _ _ j0, ← hA]; exact nw_z
  clear h1
  refine gw_nA l10 (Nat.le_refl _) ?_
  have e1 : m1.1.length = A + 1 := len _ _ a1
  rw [e1]
  refine gw_pRw (t5 _ [(1, 10)] (by rw [nw_1, a1, List.append_assoc]; rfl)) ?_
  generalize h2 : wR (gm_nw m1 1 10) A 3 (A + 1) = m2
  have a2 : m2.1 = μ.1 ++ [(5, 10), (1, 10)] := by rw [← h2]; show (gm_nw m1 1 10).1 = _; rw [nw_1, a1, List.append_assoc]; rfl
  have i2 : ∀ r : Nat, r ≠ A + 1 → m2.2.1 r = m1.2.1 r := fun r hr => by rw [← h2]; show (gm_nw m1 1 10).2.1 r = _; exact nw_i (by omega)
  have r2 : ∀ r : Nat, r ≠ A → r ≠ A + 1 → m2.2.2 r = m1.2.2 r := fun r hr hr2 => by rw [← h2]; show gm_u (gm_nw m1 1 10).2.2 A 3 (A + 1) r = _; rw [gu_row hr]; exact nw_r (by omega)
  have q2 : m2.2.2 A 3 = A + 1 := by rw [← h2]; show gm_u (gm_nw m1 1 10).2.2 A 3 (A + 1) A 3 = _; exact gu_eq
  clear h2
  refine gw_nA l10 (Nat.le_refl _) ?_
  have e2 : m2.1.length = A + 2 := len _ _ a2
  rw [e2]
  refine gw_pRw (t5 _ [(1, 10), (1, 10)] (by rw [nw_1, a2, List.append_assoc]; rfl)) ?_
  generalize h3 : wR (gm_nw m2 1 10) A 4 (A + 2) = m3
  have a3 : m3.1 = μ.1 ++ [(5, 10), (1, 10), (1, 10)] := by rw [← h3]; show (gm_nw m2 1 10).1 = _; rw [nw_1, a2, List.append_assoc]; rfl
  have i3 : ∀ r : Nat, r ≠ A + 2 → m3.2.1 r = m2.2.1 r := fun r hr => by rw [← h3]; show (gm_nw m2 1 10).2.1 r = _; exact nw_i (by omega)
  have z3 : ∀ k : Nat, m3.2.1 (A + 2) k = 0 := fun k => by rw [← h3]; show (gm_nw m2 1 10).2.1 (A + 2) k = 0; rw [← e2]; exact nw_z
  have r3 : ∀ r : Nat, r ≠ A → r ≠ A + 2 → m3.2.2 r = m2.2.2 r := fun r hr hr2 => by rw [← h3]; show gm_u (gm_nw m2 1 10).2.2 A 4 (A + 2) r = _; rw [gu_row hr]; exact nw_r (by omega)
  have q3 : m3.2.2 A 4 = A + 2 ∧ m3.2.2 A 3 = A + 1 := by
    rw [← h3]
    exact ⟨(show gm_u (gm_nw m2 1 10).2.2 A 4 (A + 2) A 4 = _ from gu_eq), by show gm_u (gm_nw m2 1 10).2.2 A 4 (A + 2) A 3 = _; rw [gu_ne (by decide), nw_r (by omega)]; exact q2⟩
  clear h3
  refine gw_nA l100 (Nat.le_refl _) ?_
  have e3 : m3.1.length = A + 3 := len _ _ a3
  rw [e3]
  refine gw_pRw (t5 _ [(1, 10), (1, 10), (1, 100)] (by rw [nw_1, a3, List.append_assoc]; rfl)) ?_
  generalize h4 : wR (gm_nw m3 1 100) A 5 (A + 3) = m4
  have a4 : m4.1 = μ.1 ++ [(5, 10), (1, 10), (1, 10), (1, 100)] := by rw [← h4]; show (gm_nw m3 1 100).1 = _; rw [nw_1, a3, List.append_assoc]; rfl
  have i4 : ∀ r : Nat, r ≠ A + 3 → m4.2.1 r = m3.2.1 r := fun r hr => by rw [← h4]; show (gm_nw m3 1 100).2.1 r = _; exact nw_i (by omega)
  have r4 : ∀ r : Nat, r ≠ A → r ≠ A + 3 → m4.2.2 r = m3.2.2 r := fun r hr hr2 => by rw [← h4]; show gm_u (gm_nw m3 1 100).2.2 A 5 (A + 3) r = _; rw [gu_row hr]; exact nw_r (by omega)
  have q4 : m4.2.2 A 5 = A + 3 ∧ m4.2.2 A 4 = A + 2 ∧ m4.2.2 A 3 = A + 1 := by
    rw [← h4]
    exact ⟨(show gm_u (gm_nw m3 1 100).2.2 A 5 (A + 3) A 5 = _ from gu_eq), by show gm_u (gm_nw m3 1 100).2.2 A 5 (A + 3) A 4 = _; rw [gu_ne (by decide), nw_r (by omega)]; exact q3.1, by show gm_u (gm_nw m3 1 100).2.2 A 5 (A + 3) A 3 = _; rw [gu_ne (by decide), nw_r (by omega)]; exact q3.2⟩
  clear h4
  refine gw_nA l0 (Nat.le_refl _) ?_
  have e4 : m4.1.length = A + 4 := len _ _ a4
  rw [e4]
  refine gw_pRw (t5 _ [(1, 10), (1, 10), (1, 100), (1, 0)] (by rw [nw_1, a4, List.append_assoc]; rfl)) ?_
  generalize h5 : wR (gm_nw m4 1 0) A 7 (A + 4) = m5
  have a5 : m5.1 = μ.1 ++ [(5, 10), (1, 10), (1, 10), (1, 100), (1, 0)] := by rw [← h5]; show (gm_nw m4 1 0).1 = _; rw [nw_1, a4, List.append_assoc]; rfl
  have i5 : ∀ r : Nat, r ≠ A + 4 → m5.2.1 r = m4.2.1 r := fun r hr => by rw [← h5]; show (gm_nw m4 1 0).2.1 r = _; exact nw_i (by omega)
  have r5 : ∀ r : Nat, r ≠ A → r ≠ A + 4 → m5.2.2 r = m4.2.2 r := fun r hr hr2 => by rw [← h5]; show gm_u (gm_nw m4 1 0).2.2 A 7 (A + 4) r = _; rw [gu_row hr]; exact nw_r (by omega)
  have q5 : m5.2.2 A 5 = A + 3 ∧ m5.2.2 A 4 = A + 2 ∧ m5.2.2 A 3 = A + 1 := by
    rw [← h5]
    refine ⟨?_, ?_, ?_⟩
    · show gm_u (gm_nw m4 1 0).2.2 A 7 (A + 4) A 5 = _; rw [gu_ne (by decide), nw_r (by omega)]; exact q4.1
    · show gm_u (gm_nw m4 1 0).2.2 A 7 (A + 4) A 4 = _; rw [gu_ne (by decide), nw_r (by omega)]; exact q4.2.1
    · show gm_u (gm_nw m4 1 0).2.2 A 7 (A + 4) A 3 = _; rw [gu_ne (by decide), nw_r (by omega)]; exact q4.2.2
  clear h5
  refine gw_some (gq_V ?_)
  have zA : ∀ j : Nat, j ≠ 0 → j ≠ 1 → m5.2.1 A j = 0 := fun j j0 j1 => by rw [i5 A (by omega), i4 A (by omega), i3 A (by omega), i2 A (by omega)]; exact z1 j j0 j1
  unfold nwA
  rw [hA]
  have f1 : ∀ r : Nat, r < A → m5.2.1 r = μ.2.1 r := fun r hr => by rw [i5 r (Nat.ne_of_lt (Nat.lt_add_right 4 hr)), i4 r (Nat.ne_of_lt (Nat.lt_add_right 3 hr)), i3 r (Nat.ne_of_lt (Nat.lt_add_right 2 hr)), i2 r (Nat.ne_of_lt (Nat.lt_add_right 1 hr)), i1 r (Nat.ne_of_lt hr)]
  have f2 : ∀ r : Nat, r < A → m5.2.2 r = μ.2.2 r := fun r hr => by
    have h0 := Nat.ne_of_lt hr
    rw [r5 r h0 (Nat.ne_of_lt (Nat.lt_add_right 4 hr)), r4 r h0 (Nat.ne_of_lt (Nat.lt_add_right 3 hr)), r3 r h0 (Nat.ne_of_lt (Nat.lt_add_right 2 hr)), r2 r h0 (Nat.ne_of_lt (Nat.lt_add_right 1 hr)), r1 r h0]
  have f3 : ∀ k : Nat, m5.2.1 (A + 2) k = 0 := fun k => by rw [i5 (A + 2) (by omega), i4 (A + 2) (by omega)]; exact z3 k
  have f4 : m5.2.1 A 9 = 0 ∧ m5.2.1 A 6 = 0 ∧ m5.2.1 A 2 = 0 := ⟨zA 9 (by decide) (by decide), zA 6 (by decide) (by decide), zA 2 (by decide) (by decide)⟩
  exact ⟨a5, f1, f2, ⟨q5.2.2, q5.2.1, q5.1⟩, f4, f3⟩
end
section
theorem s_read {μ : gm_M} (hS : gS μ) {A : Nat} (hA : 75 ≤ A) (hT : μ.1[A]? = some (5, 10) ∧ μ.1[A + 1]? = some (1, 10) ∧ μ.1[A + 2]? = some (1, 10) ∧ μ.1[A + 3]? = some (1, 100)) (hR : μ.2.2 A 3 = A + 1 ∧ μ.2.2 A 4 = A + 2 ∧ μ.2.2 A 5 = A + 3) (h9 : μ.2.1 A 9 = 0 ∧ μ.2.1 A 6 = 0 ∧ μ.2.1 A 2 = 0) (hz : ∀ k : Nat, μ.2.1 (A + 2) k = 0) {n : Int32} (hn : 0 ≤ n.toInt ∧ n.toInt ≤ 100) : gwI (f_X0_read A 17 n μ) (fun _ m => m.1 = μ.1 ∧ (∀ r : Nat, r ≠ A → m.2.2 r = μ.2.2 r) ∧ (∀ r : Nat, r ≠ A → r ≠ A + 1 → r ≠ A + 2 → r ≠ A + 3 → m.2.1 r = μ.2.1 r) ∧ RI A m) := by
  refine gwI_of ?_
  unfold f_X0_read
  have l0 : (0 : Int32).toInt = 0 := rfl
  have l1 : (1 : Int32).toInt = 1 := rfl
  have l10 : (10 : Int32).toInt = 10 := rfl
  have l59 : (59 : Int32).toInt = 59 := rfl
  have lo : (Int32.ofNat 100).toInt = 100 := rfl
  have t5 : [5].contains (gm_tag μ A) = true := by unfold gm_tag; rw [hT.1]; rfl
  refine gw_pRw t5 ?_
  refine gw_al (hS.t (r := 17) rfl) (hS.l (r := 17) rfl) ?_
  refine gw_pIw t5 ?_
  generalize hx : (if Int32.ofNat 100 < n then Int32.ofNat 100 else n) = x
  have bx : 0 ≤ x.toInt ∧ x.toInt ≤ 100 := by
    rw [← hx]
    split
    · omega
    · exact hn
  clear hx
  generalize hB : wI (wR μ A 7 17) A 8 x = B
  have B1 : B.1 = μ.1 := by rw [← hB]; rfl
  have B2 : ∀ r : Nat, r ≠ A → B.2.2 r = μ.2.2 r := fun r hr => by rw [← hB]; show gm_u μ.2.2 A 7 17 r = _; exact gu_row hr
  have B2n : ∀ j : Nat, j ≠ 7 → B.2.2 A j = μ.2.2 A j := fun j hj => by rw [← hB]; show gm_u μ.2.2 A 7 17 A j = _; exact gu_ne hj
  have B27 : B.2.2 A 7 = 17 := by rw [← hB]; show gm_u μ.2.2 A 7 17 A 7 = _; exact gu_eq
  have Bo : ∀ r : Nat, r ≠ A → B.2.1 r = μ.2.1 r := fun r hr => by rw [← hB, wI_o _ _ _ _ hr]; rfl
  have Bn : ∀ j : Nat, j ≠ 8 → B.2.1 A j = μ.2.1 A j := fun j hj => by rw [← hB, wI_n _ _ _ _ hj]; rfl
  have B8 : B.2.1 A 8 = x := by rw [← hB, wI_e]
  clear hB
  have hSB : gS B := by
    refine ⟨fun r q e => by rw [B1]; exact hS.1 r q e, fun q hq => ?_⟩
    have hlt : q.1 < 75 := by
      have : ∀ q ∈ gRl, q.1 < 75 := by decide
      exact this q hq
    rw [B2 q.1 (by omega)]; exact hS.2 q hq
  have hI : RI A B := ⟨hSB, hA, by rw [B1]; exact hT, ⟨by rw [B2n 3 (by decide)]; exact hR.1, by rw [B2n 4 (by decide)]; exact hR.2.1, by rw [B2n 5 (by decide)]; exact hR.2.2, B27⟩, by rw [B8]; exact bx, by rw [B8, Bn 9 (by decide), h9.1]; exact ⟨by decide, by have : (0 : Int32).toInt = 0 := rfl; omega⟩, by rw [Bn 6 (by decide), h9.2.1]; exact ⟨by decide, by decide⟩, by rw [Bn 2 (by decide), h9.2.2]; exact ⟨by decide, by decide⟩, fun k _ => by rw [Bo (A + 2) (by omega), hz k]; exact ⟨by decide, by decide⟩⟩
  have fin : ∀ (y : Int32) (m : gm_M), RR A B m → gqI (fun _ m => m.1 = μ.1 ∧ (∀ r : Nat, r ≠ A → m.2.2 r = μ.2.2 r) ∧ (∀ r : Nat, r ≠ A → r ≠ A + 1 → r ≠ A + 2 → r ≠ A + 3 → m.2.1 r = μ.2.1 r) ∧ RI A m) (some (.int y), m) := fun y m k => gq_I ⟨k.1.trans B1, fun r hr => by rw [k.2.1]; exact B2 r hr, fun r r1 r2 r3 r4 => by rw [k.2.2.1 r r1 r2 r3 r4]; exact Bo r r1, k.ri⟩
  refine gw_loop (fun s => RR A B s.2 ∧ 0 ≤ s.1.toInt ∧ s.1.toInt ≤ 10) (fun s => 10 - s.1.toInt) (fun s ⟨k, u1, u2⟩ => ?_) 5000 ((0 : Int32), B) ⟨RR.refl hI, by show 0 ≤ (0 : Int32).toInt; omega, by show (0 : Int32).toInt ≤ 10; omega⟩ (by show 10 - (0 : Int32).toInt < ((5000 : Nat) : Int); omega) (by show 0 ≤ 10 - (0 : Int32).toInt; omega)
  refine gw_le (fun g => ?_) (fun g => ?_)
  · refine gw_gIw k.ri.tc ?_
    exact gw_some (gs_inr (fin _ _ k))
  · refine gw_j (fun m => RR A B m) (fun m km => ?_) (fun j hj => ?_)
    · refine gw_if km.ri.t ?_
      refine gw_bI (s_X0_readClause km.ri) (fun x10 m9 ⟨g9, f9⟩ => ?_)
      have k9 := km.trans g9
      refine gw_ne (fun _ => ?_) (fun _ => ?_)
      · refine gw_gIw k9.ri.tc ?_
        refine gw_gIw k9.ri.tc ?_
        refine gw_lt (fun _ => ?_) (fun _ => ?_)
        · have n : (s.1 + (1 : Int32)).toInt = s.1.toInt + (1 : Int32).toInt := gx_add (by omega) (by omega)
          exact gw_some (gs_inl ⟨k9, by show 0 ≤ (s.1 + (1 : Int32)).toInt; omega, by show (s.1 + (1 : Int32)).toInt ≤ 10; omega⟩ (by show 10 - (s.1 + (1 : Int32)).toInt < 10 - s.1.toInt; omega) (by show 0 ≤ 10 - (s.1 + (1 : Int32)).toInt; omega))
        · exact gw_some (gs_inr (fin _ _ k9))
      · refine gw_gIw k9.ri.tc ?_
        exact gw_some (gs_inr (fin _ _ k9))
    · refine gw_le (fun _ => hj _ k) (fun _ => ?_)
      refine gw_if k.ri.t ?_
      refine gw_bI (s_X0_take k.ri (by omega)) (fun x15 m14 ⟨g14, f14⟩ => ?_)
      have k14 := k.trans g14
      refine gw_ne (fun _ => hj _ k14) (fun _ => ?_)
      refine gw_gIw k14.ri.tc ?_
      exact gw_some (gs_inr (fin _ _ k14))
theorem gS.len {μ : gm_M} (h : gS μ) : 75 ≤ μ.1.length := by
  have := h.1 74 (1, 20) rfl
  have := (List.getElem?_eq_some_iff.mp this).1
  omega
set_option maxHeartbeats 2000000 in
theorem c_afternoon {μ : gm_M} (h : ALL μ) : gwI (f_X11_afternoon 1 μ) (fun _ m => ALL m) := by
  have hc := h.2.2.1
  have hg := hc.1
  have n4 := hc.n4
  have n5 := hc.n5
  have hL := hg.len
  have l5 : (5 : Int32).toInt = 5 := rfl
  have l1 : (1 : Int32).toInt = 1 := rfl
  have l0 : (0 : Int32).toInt = 0 := rfl
  refine gwI_of ?_
  unfold f_X11_afternoon
  refine gw_gRa 15 (hg.c (r := 1) rfl) (hg.r (by decide)) ?_
  refine gw_gIw (hg.c (r := 15) rfl) ?_
  refine gw_lt (fun g5 => ?_) (fun g5 => gw_some (gq_I h))
  show gw (gm_mk μ 5 10 _) _
  unfold gm_mk
  have tq : gm_tag (gm_nw μ 5 10) μ.1.length = 5 := by
    unfold gm_tag; rw [nw_1, List.getElem?_append_right (Nat.le_refl _), Nat.sub_self]; rfl
  refine gw_if (by rw [tq]; decide) ?_
  refine gw_bV s_ainit (fun m5 ⟨a1, a2, a3, a4, a5, a6⟩ => ?_)
  generalize hA : μ.1.length = A at *
  have up : ∀ (r : Nat) (q : Nat × Nat), μ.1[r]? = some q → m5.1[r]? = some q := fun r q e => by
    rw [a1, List.getElem?_append_left (List.getElem?_eq_some_iff.mp e).1]; exact e
  have lt75 : ∀ q ∈ gRl, q.1 < 75 := by decide
  have hS5 : gS m5 := ⟨fun r q e => up r q (hg.1 r q e), fun q hq => by rw [a3 q.1 (by have := lt75 q hq; omega)]; exact hg.2 q hq⟩
  have hT : m5.1[A]? = some (5, 10) ∧ m5.1[A + 1]? = some (1, 10) ∧ m5.1[A + 2]? = some (1, 10) ∧ m5.1[A + 3]? = some (1, 100) := by
    rw [a1, ← hA]
    refine ⟨?_, ?_, ?_, ?_⟩
    · rw [List.getElem?_append_right (Nat.le_refl _), Nat.sub_self]; rfl
    · rw [List.getElem?_append_right (Nat.le_add_right _ _), Nat.add_sub_cancel_left]; rfl
    · rw [List.getElem?_append_right (Nat.le_add_right _ _), Nat.add_sub_cancel_left]; rfl
    · rw [List.getElem?_append_right (Nat.le_add_right _ _), Nat.add_sub_cancel_left]; rfl
  refine gw_gRa 15 (hS5.c (r := 1) rfl) (hS5.r (by decide)) ?_
  refine gw_gRa 17 (hS5.c (r := 15) rfl) (hS5.r (by decide)) ?_
  refine gw_gRa 15 (hS5.c (r := 1) rfl) (hS5.r (by decide)) ?_
  refine gw_gIw (hS5.c (r := 15) rfl) ?_
  rw [a2 15 (by omega)]
  have t5 : gm_tag m5 A = 5 := by unfold gm_tag; rw [hT.1]
  refine gw_if t5 ?_
  refine gw_bI (s_read hS5 hL hT a4 a5 a6 n4) (fun x m ⟨b1, b2, b3, b4⟩ => ?_)
  have hS := b4.1
  have ir : ∀ r : Nat, r < A → m.2.1 r = μ.2.1 r := fun r hr => by rw [b3 r (by omega) (by omega) (by omega) (by omega), a2 r hr]
  have rr : ∀ r : Nat, r < A → m.2.2 r = μ.2.2 r := fun r hr => by rw [b2 r (by omega), a3 r hr]
  have ut : ∀ (r : Nat) (q : Nat × Nat), μ.1[r]? = some q → m.1[r]? = some q := fun r q e => by rw [b1]; exact up r q e
  -- what there was stays
  have old : ∀ q : Nat, AfW μ q → q + 3 < A := fun q p => by
    have := (List.getElem?_eq_some_iff.mp p.2.1.2.2.2).1
    omega
  have fin : ∀ (y : Int32) (M : gm_M), M.1 = m.1 → (∀ r : Nat, r ≠ 15 → M.2.1 r = m.2.1 r) → (∀ j : Nat, j ≠ 4 → j ≠ 5 → M.2.1 15 j = m.2.1 15 j) → (0 ≤ (M.2.1 15 4).toInt ∧ (M.2.1 15 4).toInt ≤ 100) → (0 ≤ (M.2.1 15 5).toInt ∧ (M.2.1 15 5).toInt ≤ 5) → (∀ r j : Nat, ¬ (r = 15 ∧ j = 6) → M.2.2 r j = m.2.2 r j) → (M.2.2 15 6 = μ.2.2 15 6 ∨ M.2.2 15 6 = A) → gqI (fun _ m => ALL m) (some (.int y), M) := by
    intro y M c1 c2 c3 c4 c5 c6 c7
    have cs : gS M := by
      refine ⟨fun r q e => by rw [c1]; exact hS.1 r q e, fun q hq => ?_⟩
      have : ∀ q ∈ gRl, ¬ (q.1 = 15 ∧ q.2.1 = 6) := by decide
      rw [c6 q.1 q.2.1 (this q hq)]; exact hS.2 q hq
    have row : ∀ r : Nat, r < A → r ≠ 15 → M.2.1 r = μ.2.1 r := fun r r1 r2 => (c2 r r2).trans (ir r r1)
    have rf : ∀ r j : Nat, r < A → ¬ (r = 15 ∧ j = 6) → M.2.2 r j = μ.2.2 r j := fun r j r1 r2 => by rw [c6 r j r2, rr r r1]
    have hO : ∀ q : Nat, AfW μ q → AfW M q := fun q p => by
      have p0 := p.1
      have p1 := old q p
      exact p.same (fun r z e => by rw [c1]; exact ut r z e) (funext fun j => rf q j (by omega) (by omega)) (row q (by omega) (by omega)) (row (q + 2) (by omega) (by omega))
    have hN : AfW M A := by
      obtain ⟨-, w0, w1, w2, w3, w4, w5, w6, w7⟩ := b4
      refine ⟨Or.inr (Or.inr w0), ⟨by rw [c1]; exact w1.1, by rw [c1]; exact w1.2.1, by rw [c1]; exact w1.2.2.1, by rw [c1]; exact w1.2.2.2⟩, ⟨by rw [c6 A 3 (by omega)]; exact w2.1, by rw [c6 A 4 (by omega)]; exact w2.2.1, by rw [c6 A 5 (by omega)]; exact w2.2.2.1⟩, by rw [c2 A (by omega)]; exact w6, fun k hk => by rw [c2 (A + 2) (by omega)]; exact w7 k hk⟩
    obtain ⟨h1, h2, -, h4, h5, h6, h7⟩ := h
    obtain ⟨-, s15, s39, kd, tr⟩ := hc
    refine gq_I ⟨⟨cs, by rw [row 66 (by omega) (by omega)]; exact h1.2⟩, by rw [row 67 (by omega) (by omega)]; exact h2, ⟨cs, ?_, ?_, fun a ha => ?_, by rw [row 3 (by omega) (by omega)]; exact tr⟩, ?_, ?_, ?_, ?_⟩
    · obtain ⟨p1, p2, p3, p4, p5, p6, p7, p8, p9, p10, p11⟩ := s15
      unfold scI
      rw [c3 1 (by decide) (by decide), ir 15 (by omega), row (15 + 8) (by omega) (by omega), row (15 + 9) (by omega) (by omega), row (15 + 10) (by omega) (by omega), row (15 + 12) (by omega) (by omega)]
      refine ⟨p1, c4, c5, ?_, p5, p6, p7, p8, p9, p10, p11⟩
      rcases c7 with e | e
      · rw [e]; exact hO _ p4
      · rw [e]; exact hN
    · exact s39.same (fun r q e => by rw [c1]; exact ut r q e) (fun j _ => by rw [row 39 (by omega) (by omega)]) (rf 39 6 (by omega) (by omega)) (fun r hr => row r (by omega) (by omega)) (hO _)
    · have := (show icl a from ha).odd
      rw [rf a 1 (by omega) (by omega)]; exact kd a ha
    · exact h4.fr (by rw [c3 0 (by decide) (by decide), ir 15 (by omega)]) (by rw [c3 1 (by decide) (by decide), ir 15 (by omega)]) ⟨by rw [row (15 + 8) (by omega) (by omega)], by rw [row (15 + 10) (by omega) (by omega)], by rw [row (15 + 12) (by omega) (by omega)]⟩ (fun k hk => ⟨by rw [row _ (by omega) (by omega)], by rw [row _ (by omega) (by omega)], rf _ 1 (by omega) (by omega), fun j _ => by rw [row _ (by omega) (by omega)]⟩) (fun i _ => by rw [row 66 (by omega) (by omega)])
    · exact h5.fr (by rw [row 39 (by omega) (by omega)]) (by rw [row 39 (by omega) (by omega)]) ⟨by rw [row (39 + 8) (by omega) (by omega)], by rw [row (39 + 10) (by omega) (by omega)], by rw [row (39 + 12) (by omega) (by omega)]⟩ (fun k hk => ⟨by rw [row _ (by omega) (by omega)], by rw [row _ (by omega) (by omega)], rf _ 1 (by omega) (by omega), fun j _ => by rw [row _ (by omega) (by omega)]⟩) (fun i _ => by rw [row 67 (by omega) (by omega)])
    · rw [row 1 (by omega) (by omega), row 65 (by omega) (by omega)]; exact h6
    · unfold LT
      rw [row 3 (by omega) (by omega), row 65 (by omega) (by omega), row 4 (by omega) (by omega), row 74 (by omega) (by omega)]
      exact h7
  refine gw_gRa 15 (hS.c (r := 1) rfl) (hS.r (by decide)) ?_
  refine gw_pIw (hS.c (r := 15) rfl) ?_
  refine gw_lt (fun g => ?_) (fun g => ?_)
  · refine gw_gRa 15 (hS.c (r := 1) rfl) (hS.r (by decide)) ?_
    refine gw_pRw (hS.c (r := 15) rfl) ?_
    have hS6 : gS (wR (wI m 15 4 0) 15 6 A) := gS.w6 (μ := wI m 15 4 0) (s := 15) (v := A) hS (Or.inl rfl) rfl rfl
    refine gw_gRa 15 (hS6.c (r := 1) rfl) (hS6.r (by decide)) ?_
    refine gw_gIw (hS6.c (r := 15) rfl) ?_
    refine gw_pIw (hS6.c (r := 15) rfl) ?_
    refine gw_gRa 15 (hS6.c (r := 1) rfl) (hS6.r (r := 1) (j := 1) (a := 15) (by decide)) ?_
    refine gw_gIw (hS6.c (r := 15) rfl) ?_
    have e5 : (wR (wI m 15 4 0) 15 6 A).2.1 15 5 = μ.2.1 15 5 := by
      show (wI m 15 4 0).2.1 15 5 = _
      rw [wI_n _ _ _ _ (by decide), ir 15 (by omega)]
    rw [e5]
    have hb := cnt1 (x := μ.2.1 15 5) (L := 5) n5.1 (by omega) (by decide)
    refine gw_some (fin _ _ rfl (fun r hr => by rw [wI_o _ _ _ _ hr]; show (wI m 15 4 0).2.1 r = _; exact wI_o _ _ _ _ hr) (fun j j4 j5 => by rw [wI_n _ _ _ _ j5]; show (wI m 15 4 0).2.1 15 j = _; exact wI_n _ _ _ _ j4) ?_ (by rw [wI_e]; exact hb) (fun r j hr => ?_) (Or.inr ?_))
    · rw [wI_n _ _ _ _ (by decide)]
      show 0 ≤ ((wI m 15 4 0).2.1 15 4).toInt ∧ ((wI m 15 4 0).2.1 15 4).toInt ≤ 100
      rw [wI_e]; exact ⟨by decide, by decide⟩
    · show gm_u m.2.2 15 6 A r j = m.2.2 r j
      by_cases e : r = 15
      · subst e; exact gu_ne (fun q => hr ⟨rfl, q⟩)
      · rw [gu_row e]
    · show gm_u m.2.2 15 6 A 15 6 = A
      exact gu_eq
  · refine gw_some (fin _ _ rfl (fun r hr => wI_o _ _ _ _ hr) (fun j j4 _ => wI_n _ _ _ _ j4) (by rw [wI_e]; exact ⟨by decide, by decide⟩) (by rw [wI_n _ _ _ _ (by decide), ir 15 (by omega)]; exact n5) (fun r j hr => rfl) (Or.inl (by show m.2.2 15 6 = _; rw [rr 15 (by omega)])))
end
