/-! z answers, and of what it answers Q holds -/
def gw {β : Type} (z : Option β) (Q : β → Prop) : Prop := ∃ b, z = some b ∧ Q b
theorem gw_some {β : Type} {b : β} {Q : β → Prop} (h : Q b) : gw (some b) Q := ⟨b, rfl, h⟩
theorem gw_mono {β : Type} {z : Option β} {P Q : β → Prop} (h : gw z P) (k : ∀ b, P b → Q b) : gw z Q := by
  obtain ⟨b, e, hb⟩ := h
  exact ⟨b, e, k b hb⟩
theorem gw_ite {β : Type} {P : Prop} {dc : Decidable P} {a b : Option β} {Q : β → Prop} (h1 : P → gw a Q) (h2 : ¬ P → gw b Q) : gw (@ite _ P dc a b) Q := by
  by_cases h : P
  · rw [if_pos h]; exact h1 h
  · rw [if_neg h]; exact h2 h
theorem gw_if {β : Type} {P : Prop} {dc : Decidable P} {a b : Option β} {Q : β → Prop} (h : P) (k : gw a Q) : gw (@ite _ P dc a b) Q := by
  rw [if_pos h]; exact k
theorem gw_lt {β : Type} {x y : Int32} {dc : Decidable (x < y)} {a b : Option β} {Q : β → Prop} (h1 : x.toInt < y.toInt → gw a Q) (h2 : y.toInt ≤ x.toInt → gw b Q) : gw (@ite _ (x < y) dc a b) Q :=
  gw_ite (fun h => h1 (Int32.lt_iff_toInt_lt.mp h)) (fun h => h2 (by rw [Int32.lt_iff_toInt_lt] at h; omega))
theorem gw_le {β : Type} {x y : Int32} {dc : Decidable (x ≤ y)} {a b : Option β} {Q : β → Prop} (h1 : x.toInt ≤ y.toInt → gw a Q) (h2 : y.toInt < x.toInt → gw b Q) : gw (@ite _ (x ≤ y) dc a b) Q :=
  gw_ite (fun h => h1 (Int32.le_iff_toInt_le.mp h)) (fun h => h2 (by rw [Int32.le_iff_toInt_le] at h; omega))
theorem gw_eq {β : Type} {x y : Int32} {dc : Decidable (x = y)} {a b : Option β} {Q : β → Prop} (h1 : x.toInt = y.toInt → gw a Q) (h2 : x.toInt ≠ y.toInt → gw b Q) : gw (@ite _ (x = y) dc a b) Q :=
  gw_ite (fun h => h1 (by rw [h])) (fun h => h2 (fun e => h (Int32.toInt_inj.mp e)))
theorem gw_ne {β : Type} {x y : Int32} {dc : Decidable (x ≠ y)} {a b : Option β} {Q : β → Prop} (h1 : x.toInt ≠ y.toInt → gw a Q) (h2 : x.toInt = y.toInt → gw b Q) : gw (@ite _ (x ≠ y) dc a b) Q :=
  gw_ite (fun h => h1 (fun e => h (Int32.toInt_inj.mp e))) (fun h => h2 (by
    by_cases e : x = y
    · rw [e]
    · exact absurd e h))
theorem gw_dv {β : Type} {y : Int32} {dc : Decidable (y = 0)} {a b : Option β} {Q : β → Prop} (h : y.toInt ≠ 0) (k : gw b Q) : gw (@ite _ (y = 0) dc a b) Q := by
  rw [if_neg (fun e => h (by rw [e]; rfl))]; exact k
/-- a truth is returned -/
theorem gw_z {β : Type} {x : Int32} {P : Prop} {dc : Decidable P} {a : β} {Q : β → Prop} (hP : P ↔ (x = 0 ∨ x = 1)) (h : x.toInt = 0 ∨ x.toInt = 1) (k : Q a) : gw (@ite _ P dc (some a) none) Q := by
  rw [if_pos (hP.mpr (h.imp (fun e => Int32.toInt_inj.mp e) (fun e => Int32.toInt_inj.mp e)))]
  exact gw_some k
section
variable {β : Type} {μ : gm_M} {ks : List Nat} {r j t a n : Nat} {i x : Int32} {Q : β → Prop}
theorem gw_gI {f : Int32 → Option β} (h : ks.contains (gm_tag μ r) = true) (k : ∀ v : Int32, v = μ.2.1 r j → gw (f v) Q) : gw (gm_gI μ ks r j f) Q := by
  unfold gm_gI; rw [if_pos h]; exact k _ rfl
theorem gw_gR {f : Nat → Option β} (h : ks.contains (gm_tag μ r) = true) (k : ∀ v : Nat, v = μ.2.2 r j → gw (f v) Q) : gw (gm_gR μ ks r j f) Q := by
  unfold gm_gR; rw [if_pos h]; exact k _ rfl
theorem gw_gRa {f : Nat → Option β} (a : Nat) (h : ks.contains (gm_tag μ r) = true) (e : μ.2.2 r j = a) (k : gw (f a) Q) : gw (gm_gR μ ks r j f) Q := by
  unfold gm_gR; rw [if_pos h, e]; exact k
theorem gw_pI {f : gm_M → Option β} (h : ks.contains (gm_tag μ r) = true) (k : ∀ m : gm_M, m = (μ.1, gm_u μ.2.1 r j x, μ.2.2) → gw (f m) Q) : gw (gm_pI μ ks r j x f) Q := by
  unfold gm_pI; rw [if_pos h]; exact k _ rfl
theorem gw_pZ {f : gm_M → Option β} (h : ks.contains (gm_tag μ r) = true) (hx : x.toInt = 0 ∨ x.toInt = 1) (k : ∀ m : gm_M, m = (μ.1, gm_u μ.2.1 r j x, μ.2.2) → gw (f m) Q) : gw (gm_pZ μ ks r j x f) Q := by
  unfold gm_pZ; rw [if_pos h, if_pos (hx.imp (fun e => Int32.toInt_inj.mp e) (fun e => Int32.toInt_inj.mp e))]; exact k _ rfl
theorem gw_pR {f : gm_M → Option β} {y : Nat} (h : ks.contains (gm_tag μ r) = true) (k : ∀ m : gm_M, m = (μ.1, μ.2.1, gm_u μ.2.2 r j y) → gw (f m) Q) : gw (gm_pR μ ks r j y f) Q := by
  unfold gm_pR; rw [if_pos h]; exact k _ rfl
theorem gw_ix {i : Int32} {n : Nat} (h0 : 0 ≤ i.toInt) (h1 : i.toInt < n) : ¬ i < 0 ∧ i.toNatClampNeg < n := by
  refine ⟨fun h => ?_, ?_⟩
  · rw [Int32.lt_iff_toInt_lt] at h
    have : (0 : Int32).toInt = 0 := rfl
    omega
  · show i.toInt.toNat < n
    omega
theorem gw_aI {f : Int32 → Option β} (t : gm_tag μ r = 1) (l : gm_len μ r = n) (h0 : 0 ≤ i.toInt) (h1 : i.toInt < n) (k : ∀ v : Int32, v = μ.2.1 r i.toInt.toNat → gw (f v) Q) : gw (gm_aI μ r i f) Q := by
  unfold gm_aI; rw [if_pos ⟨t, by rw [l]; exact gw_ix h0 h1⟩]; exact k _ rfl
theorem gw_aZ {f : Int32 → Option β} (t : gm_tag μ r = 2) (l : gm_len μ r = n) (h0 : 0 ≤ i.toInt) (h1 : i.toInt < n) (k : ∀ v : Int32, v = μ.2.1 r i.toInt.toNat → gw (f v) Q) : gw (gm_aZ μ r i f) Q := by
  unfold gm_aZ; rw [if_pos ⟨t, by rw [l]; exact gw_ix h0 h1⟩]; exact k _ rfl
theorem gw_aR {f : Nat → Option β} (ht : gm_tag μ r = t) (l : gm_len μ r = n) (h0 : 0 ≤ i.toInt) (h1 : i.toInt < n) (k : ∀ v : Nat, v = μ.2.2 r i.toInt.toNat → gw (f v) Q) : gw (gm_aR μ t r i f) Q := by
  unfold gm_aR; rw [if_pos ⟨ht, by rw [l]; exact gw_ix h0 h1⟩]; exact k _ rfl
theorem gw_sI {f : gm_M → Option β} (t : gm_tag μ r = 1) (l : gm_len μ r = n) (h0 : 0 ≤ i.toInt) (h1 : i.toInt < n) (k : ∀ m : gm_M, m = (μ.1, gm_u μ.2.1 r i.toInt.toNat x, μ.2.2) → gw (f m) Q) : gw (gm_sI μ r i x f) Q := by
  unfold gm_sI; rw [if_pos ⟨t, by rw [l]; exact gw_ix h0 h1⟩]; exact k _ rfl
theorem gw_sZ {f : gm_M → Option β} (t : gm_tag μ r = 2) (l : gm_len μ r = n) (h0 : 0 ≤ i.toInt) (h1 : i.toInt < n) (k : ∀ m : gm_M, m = (μ.1, gm_u μ.2.1 r i.toInt.toNat (x &&& 1), μ.2.2) → gw (f m) Q) : gw (gm_sZ μ r i x f) Q := by
  unfold gm_sZ; rw [if_pos ⟨t, by rw [l]; exact gw_ix h0 h1⟩]; exact k _ rfl
theorem gw_al {f : Int32 → Option β} (ht : gm_tag μ r = t) (l : gm_len μ r = n) (k : gw (f (Int32.ofNat n)) Q) : gw (gm_al μ t r f) Q := by
  unfold gm_al; rw [if_pos ht, l]; exact k
/-- answers of calls -/
def gwI (z : Option (Option Value × gm_M)) (R : Int32 → gm_M → Prop) : Prop := ∃ x m, z = some (some (.int x), m) ∧ R x m
def gwL (z : Option (Option Value × gm_M)) (R : Int64 → gm_M → Prop) : Prop := ∃ x m, z = some (some (.long x), m) ∧ R x m
def gwV (z : Option (Option Value × gm_M)) (R : gm_M → Prop) : Prop := ∃ m, z = some (none, m) ∧ R m
theorem gw_bI {z : Option (Option Value × gm_M)} {R : Int32 → gm_M → Prop} {f : Int32 → gm_M → Option β} (h : gwI z R) (k : ∀ x m, R x m → gw (f x m) Q) : gw (gm_bI z f) Q := by
  obtain ⟨x, m, e, hr⟩ := h; rw [e]; exact k x m hr
theorem gw_bL {z : Option (Option Value × gm_M)} {R : Int64 → gm_M → Prop} {f : Int64 → gm_M → Option β} (h : gwL z R) (k : ∀ x m, R x m → gw (f x m) Q) : gw (gm_bL z f) Q := by
  obtain ⟨x, m, e, hr⟩ := h; rw [e]; exact k x m hr
theorem gw_bV {z : Option (Option Value × gm_M)} {R : gm_M → Prop} {f : gm_M → Option β} (h : gwV z R) (k : ∀ m, R m → gw (f m) Q) : gw (gm_bV z f) Q := by
  obtain ⟨m, e, hr⟩ := h; rw [e]; exact k m hr
/-- what is asked of a method's text, as of any text -/
def gqI (R : Int32 → gm_M → Prop) (b : Option Value × gm_M) : Prop := ∃ x, b.1 = some (.int x) ∧ R x b.2
def gqL (R : Int64 → gm_M → Prop) (b : Option Value × gm_M) : Prop := ∃ x, b.1 = some (.long x) ∧ R x b.2
def gqV (R : gm_M → Prop) (b : Option Value × gm_M) : Prop := b.1 = none ∧ R b.2
theorem gwI_of {z : Option (Option Value × gm_M)} {R : Int32 → gm_M → Prop} (h : gw z (gqI R)) : gwI z R := by
  obtain ⟨⟨v, m⟩, e, x, e1, hr⟩ := h
  cases e1
  exact ⟨x, m, e, hr⟩
theorem gwL_of {z : Option (Option Value × gm_M)} {R : Int64 → gm_M → Prop} (h : gw z (gqL R)) : gwL z R := by
  obtain ⟨⟨v, m⟩, e, x, e1, hr⟩ := h
  cases e1
  exact ⟨x, m, e, hr⟩
theorem gwV_of {z : Option (Option Value × gm_M)} {R : gm_M → Prop} (h : gw z (gqV R)) : gwV z R := by
  obtain ⟨⟨v, m⟩, e, e1, hr⟩ := h
  cases e1
  exact ⟨m, e, hr⟩
theorem gwI_mono {z : Option (Option Value × gm_M)} {R S : Int32 → gm_M → Prop} (h : gwI z R) (k : ∀ x m, R x m → S x m) : gwI z S := by
  obtain ⟨x, m, e, hr⟩ := h; exact ⟨x, m, e, k x m hr⟩
theorem gwV_mono {z : Option (Option Value × gm_M)} {R S : gm_M → Prop} (h : gwV z R) (k : ∀ m, R m → S m) : gwV z S := by
  obtain ⟨m, e, hr⟩ := h; exact ⟨m, e, k m hr⟩
theorem gq_I {R : Int32 → gm_M → Prop} {x : Int32} {m : gm_M} (h : R x m) : gqI R (some (.int x), m) := ⟨x, rfl, h⟩
theorem gq_L {R : Int64 → gm_M → Prop} {x : Int64} {m : gm_M} (h : R x m) : gqL R (some (.long x), m) := ⟨x, rfl, h⟩
theorem gq_V {R : gm_M → Prop} {m : gm_M} (h : R m) : gqV R (none, m) := ⟨rfl, h⟩
/-- joins and loops -/
theorem gw_j {S : Type} {rest : S → Option β} {body : (S → Option β) → Option β} (R : S → Prop) (h1 : ∀ s, R s → gw (rest s) Q) (h2 : ∀ jj : S → Option β, (∀ s, R s → gw (jj s) Q) → gw (body jj) Q) : gw (gm_j rest body) Q := h2 rest h1
theorem gw_ji {S : Type} {rest : S → Option β} {body : (S → Option β) → Option β} (h : gw (body rest) Q) : gw (gm_j rest body) Q := h
/-- what a loop's step may answer -/
def gs_st {S : Type} (I : S → Prop) (ms : S → Int) (s0 : S) (Q : β → Prop) (b : S ⊕ β) : Prop := match b with
  | .inl s => I s ∧ ms s < ms s0 ∧ 0 ≤ ms s
  | .inr b => Q b
theorem gw_loop {S : Type} {step : S → Option (S ⊕ β)} (I : S → Prop) (ms : S → Int) (h : ∀ s, I s → gw (step s) (gs_st I ms s Q)) : ∀ (fu : Nat) (s : S), I s → ms s < fu → 0 ≤ ms s → gw (gm_loop step fu s) Q := by
  intro fu
  induction fu with
  | zero => intro s _ h1 h2; exact absurd h1 (by omega)
  | succ fu ih =>
    intro s hs hm h0
    obtain ⟨b, e, hb⟩ := h s hs
    unfold gm_loop
    rw [e]
    cases b with
    | inl s' =>
      obtain ⟨h1, h2, h3⟩ := hb
      exact ih s' h1 (by omega) h3
    | inr b => exact ⟨b, rfl, hb⟩
end
/-! numbers -/
theorem gx_add {x y : Int32} (h1 : -2147483648 ≤ x.toInt + y.toInt) (h2 : x.toInt + y.toInt ≤ 2147483647) : (x + y).toInt = x.toInt + y.toInt := by
  rw [Int32.toInt_add, Int.bmod_def]
  have e : ((2 : Nat) ^ 32 : Nat) = 4294967296 := by decide
  split <;> omega
theorem gx_sub {x y : Int32} (h1 : -2147483648 ≤ x.toInt - y.toInt) (h2 : x.toInt - y.toInt ≤ 2147483647) : (x - y).toInt = x.toInt - y.toInt := by
  rw [Int32.toInt_sub, Int.bmod_def]
  have e : ((2 : Nat) ^ 32 : Nat) = 4294967296 := by decide
  split <;> omega
theorem gx_mul {x y : Int32} (k : Int) (hk : x.toInt = k) (h1 : -2147483648 ≤ k * y.toInt) (h2 : k * y.toInt ≤ 2147483647) : (x * y).toInt = k * y.toInt := by
  rw [Int32.toInt_mul, hk, Int.bmod_def]
  have e : ((2 : Nat) ^ 32 : Nat) = 4294967296 := by decide
  split <;> omega
theorem gx_mulr {x y : Int32} (k : Int) (hk : y.toInt = k) (h1 : -2147483648 ≤ k * x.toInt) (h2 : k * x.toInt ≤ 2147483647) : (x * y).toInt = k * x.toInt := by
  rw [Int32.mul_comm, gx_mul k hk h1 h2]
theorem gx_lo (x : Int32) : -2147483648 ≤ x.toInt := Int32.le_toInt x
theorem gx_hi (x : Int32) : x.toInt ≤ 2147483647 := by
  have := Int32.toInt_lt x
  omega
theorem gx_div {x y : Int32} (h : y.toInt ≠ -1) : (x / y).toInt = x.toInt.tdiv y.toInt := by
  rw [Int32.toInt_div_of_ne_right]
  intro e
  exact h (by rw [e]; rfl)
