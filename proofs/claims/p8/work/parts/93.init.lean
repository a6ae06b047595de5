/-! the memory behind both constructors is in the relation -/
def gi_in (x : Int32) (a b : Int) : Bool := decide (a ≤ x.toInt) && decide (x.toInt ≤ b)
theorem gi_ins {x : Int32} {a b : Int} (h : gi_in x a b = true) : a ≤ x.toInt ∧ x.toInt ≤ b := by
  unfold gi_in at h
  rw [Bool.and_eq_true, decide_eq_true_eq, decide_eq_true_eq] at h
  exact h
def gi_all (n : Nat) (f : Nat → Bool) : Bool := (List.range n).all f
theorem gi_alls {n : Nat} {f : Nat → Bool} (h : gi_all n f = true) (k : Nat) (hk : k < n) : f k = true := by
  unfold gi_all at h
  exact List.all_eq_true.mp h k (List.mem_range.mpr hk)
def gi_mIb (σ : Nat → Int32) : Bool := gi_in (σ 26) 0 5 && gi_in (σ 27) 0 5 && gi_in (σ 28) 0 5 && gi_in (σ 29) 0 8 && gi_in (σ 30) 0 8 && gi_in (σ 31) 0 100 && gi_in (σ 32) (-1) 4 && gi_all 5 (fun k => gi_in (σ (63 + k)) 0 4) && gi_all 8 (fun k => gi_in (σ (78 + k)) 0 3 && gi_in (σ (86 + k)) 0 4) && gi_all 8 (fun k => gi_in (σ (94 + k)) 0 4) && gi_all 5 (fun k => gi_in (σ (220 + k)) 0 0)
theorem gi_mI {σ : Nat → Int32} (h : gi_mIb σ = true) : mI σ := by
  unfold gi_mIb at h
  simp only [Bool.and_eq_true] at h
  obtain ⟨⟨⟨⟨⟨⟨⟨⟨⟨⟨h1, h2⟩, h3⟩, h4⟩, h5⟩, h6⟩, h7⟩, h8⟩, h9⟩, h10⟩, h11⟩ := h
  refine ⟨gi_ins h1, gi_ins h2, gi_ins h3, gi_ins h4, gi_ins h5, gi_ins h6, gi_ins h7, fun k hk => gi_ins (gi_alls h8 k hk), fun k hk => ?_, fun k hk => gi_ins (gi_alls h10 k hk), fun k hk => ?_⟩
  · have q := gi_alls h9 k hk
    rw [Bool.and_eq_true] at q
    exact ⟨gi_ins q.1, fun _ => gi_ins q.2⟩
  · have q := gi_ins (gi_alls h11 k hk)
    exact ⟨q.1, by omega, fun _ => 0, rfl, fun i hi => by omega⟩
def gi_afb (μ : gm_M) (a : Nat) : Bool := decide (a = 18 ∨ a = 42 ∨ 75 ≤ a) && decide (μ.1[a]? = some (5, 10)) && decide (μ.1[a + 1]? = some (1, 10)) && decide (μ.1[a + 2]? = some (1, 10)) && decide (μ.1[a + 3]? = some (1, 100)) && decide (μ.2.2 a 3 = a + 1) && decide (μ.2.2 a 4 = a + 2) && decide (μ.2.2 a 5 = a + 3) && gi_in (μ.2.1 a 2) 0 10 && gi_all 10 (fun k => gi_in (μ.2.1 (a + 2) k) 0 100)
theorem gi_af {μ : gm_M} {a : Nat} (h : gi_afb μ a = true) : AfW μ a := by
  unfold gi_afb at h
  simp only [Bool.and_eq_true, decide_eq_true_eq] at h
  obtain ⟨⟨⟨⟨⟨⟨⟨⟨⟨h1, h2⟩, h3⟩, h4⟩, h5⟩, h6⟩, h7⟩, h8⟩, h9⟩, h10⟩ := h
  exact ⟨h1, ⟨h2, h3, h4, h5⟩, ⟨h6, h7, h8⟩, gi_ins h9, fun k hk => gi_ins (gi_alls h10 k hk)⟩
def gi_scb (μ : gm_M) (s : Nat) : Bool := gi_in (μ.2.1 s 1) 0 5 && gi_in (μ.2.1 s 4) 0 100 && gi_in (μ.2.1 s 5) 0 5 && gi_afb μ (μ.2.2 s 6) && gi_in (μ.2.1 (s + 8) 2) 0 5 && gi_in (μ.2.1 (s + 10) 2) 0 8 && gi_in (μ.2.1 (s + 12) 2) 0 8 && gi_in (μ.2.1 (s + 8) 0) 5 5 && gi_in (μ.2.1 (s + 10) 0) 8 8 && gi_in (μ.2.1 (s + 12) 0) 8 8 && gi_all 5 (fun k => decide ((μ.2.1 (s + 9) (3 * k + 2)).toInt ≤ 60))
theorem gi_eq {x : Int32} {a : Int} (h : gi_in x a a = true) : x.toInt = a := by
  have := gi_ins h
  omega
theorem gi_sc {μ : gm_M} {s : Nat} (h : gi_scb μ s = true) : scI μ s := by
  unfold gi_scb at h
  simp only [Bool.and_eq_true] at h
  obtain ⟨⟨⟨⟨⟨⟨⟨⟨⟨⟨h1, h2⟩, h3⟩, h4⟩, h5⟩, h6⟩, h7⟩, h8⟩, h9⟩, h10⟩, h11⟩ := h
  exact ⟨gi_ins h1, gi_ins h2, gi_ins h3, gi_af h4, gi_ins h5, gi_ins h6, gi_ins h7, gi_eq h8, gi_eq h9, gi_eq h10, fun k hk => of_decide_eq_true (gi_alls h11 k hk)⟩
def gi_nmb (μ : gm_M) (s c : Nat) (σ : Nat → Int32) : Bool := decide (μ.2.1 s 0 = σ 0) && decide (μ.2.1 s 1 = σ 26) && decide (μ.2.1 (s + 8) 2 = σ 28) && decide (μ.2.1 (s + 10) 2 = σ 29) && decide (μ.2.1 (s + 12) 2 = σ 30) && gi_all 5 (fun k => decide (μ.2.1 (c + 2 * k) 0 = Int32.ofNat k) && decide (((μ.2.2 (c + 2 * k) 1 : Nat) : Int) = 8 + (σ (33 + k)).toInt) && decide (μ.2.1 (c + 2 * k) 2 = σ (38 + k)) && gi_all 4 (fun j => decide (μ.2.1 (c + 2 * k + 1) j = σ (43 + 4 * k + j))))
theorem gi_nm {μ : gm_M} {s c : Nat} {σ : Nat → Int32} (h : gi_nmb μ s c σ = true) : nm μ s c σ := by
  unfold gi_nmb at h
  simp only [Bool.and_eq_true, decide_eq_true_eq] at h
  obtain ⟨⟨⟨⟨⟨h1, h2⟩, h3⟩, h4⟩, h5⟩, h6⟩ := h
  refine ⟨⟨h1, h2, h3, h4, h5⟩, fun k hk => ?_⟩
  have q := gi_alls h6 k hk
  simp only [Bool.and_eq_true, decide_eq_true_eq] at q
  obtain ⟨⟨⟨q1, q2⟩, q3⟩, q4⟩ := q
  exact ⟨⟨q1, q2, q3⟩, fun j hj => of_decide_eq_true (gi_alls q4 j hj)⟩
theorem ALL_0 : ALL gi5 := by
  have h3 : (gi5.2.1 3 2).toInt = 0 := by decide +kernel
  refine ⟨⟨gS_0, gi_mI (by decide +kernel)⟩, gi_mI (by decide +kernel), ⟨gS_0, gi_sc (by decide +kernel), gi_sc (by decide +kernel), fun a ha => ?_, ⟨by omega, by omega⟩, by decide +kernel⟩, gi_nm (by decide +kernel), gi_nm (by decide +kernel), ⟨by decide +kernel, Or.inl (by decide +kernel)⟩, by decide +kernel, fun i _ hi => by omega⟩
  unfold icl ict isch at ha
  have hk : ∀ b : Nat, [29, 31, 33, 35, 37, 63, 53, 55, 57, 59, 61].contains b = true → kid (gi5.2.2 b 1) := fun b hb => by
    have q : ([29, 31, 33, 35, 37, 63, 53, 55, 57, 59, 61] : List Nat).all (fun b => decide (8 ≤ gi5.2.2 b 1) && decide (gi5.2.2 b 1 ≤ 14)) = true := by decide +kernel
    have r := List.all_eq_true.mp q b (by simpa using hb)
    rw [Bool.and_eq_true, decide_eq_true_eq, decide_eq_true_eq] at r
    exact r
  refine hk a ?_
  rcases ha with ((rfl | rfl | rfl | rfl | rfl) | rfl) | rfl | rfl | rfl | rfl | rfl <;> rfl
