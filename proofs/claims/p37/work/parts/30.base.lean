section
def gi0 : gm_M := ([(0, 0)], fun _ _ => 0, fun _ _ => 0)
def gi1 : gm_M := gm_nw gi0 16 10
def gi2 : gm_M := (gm_bV (f_X11_init 1 gi1) (fun m => some m)).getD gi0
def gi3 : gm_M := gm_nw gi2 17 23
def gi5 : gm_M := (gm_bV (f_X12_init 65 gi3) (fun m => some m)).getD gi0
def gm_isV (z : Option (Option Value × gm_M)) : Bool := match z with
  | some (none, _) => true
  | _ => false
theorem gm_isV_spec {z : Option (Option Value × gm_M)} (h : gm_isV z = true) (d : gm_M) : z = some (none, (gm_bV z (fun m => some m)).getD d) := by
  unfold gm_isV at h
  match z, h with
  | some (none, m), _ => rfl
theorem gi_init : f_X11_init 1 gi1 = some (none, gi2) := gm_isV_spec (by decide +kernel) gi0
theorem gi_len : gi2.1.length = 65 := by decide +kernel
theorem gi_init2 : f_X12_init 65 gi3 = some (none, gi5) := gm_isV_spec (by decide +kernel) gi0
end
section
/-! z answers, and of what it answers Q holds -/
def gw {β : Type} (z : Option β) (Q : β → Prop) : Prop := ∃ b, z = some b ∧ Q b
theorem gw_some {β : Type} {b : β} {Q : β → Prop} (h : Q b) : gw (some b) Q := ⟨b, rfl, h⟩
theorem gw_mono {β : Type} {z : Option β} {P Q : β → Prop} (h : gw z P) (k : ∀ b, P b → Q b) : gw z Q := by
  obtain ⟨b, e, hb⟩ := h
  exact ⟨b, e, k b hb⟩
theorem gw_ite {β : Type} {P : Prop} {dc : Decidable P} {a b : Option β} {Q : β → Prop} (h1 : P → gw a Q) (h2 : ¬ P → gw b Q) : gw (@ite _ P dc a b) Q := by
  by_cases h : P
  · rw [if_pos h]; exact h1 h
  · rw [if_neg h]; exact h2 h
theorem gw_if {β : Type} {P : Prop} {dc : Decidable P} {a b : Option β} {Q : β → Prop} (h : P) (k : gw a Q) : gw (@ite _ P dc a b) Q := by
  rw [if_pos h]; exact k
theorem gw_lt {β : Type} {x y : Int32} {dc : Decidable (x < y)} {a b : Option β} {Q : β → Prop} (h1 : x.toInt < y.toInt → gw a Q) (h2 : y.toInt ≤ x.toInt → gw b Q) : gw (@ite _ (x < y) dc a b) Q :=
  gw_ite (fun h => h1 (Int32.lt_iff_toInt_lt.mp h)) (fun h => h2 (by rw [Int32.lt_iff_toInt_lt] at h; omega))
theorem gw_le {β : Type} {x y : Int32} {dc : Decidable (x ≤ y)} {a b : Option β} {Q : β → Prop} (h1 : x.toInt ≤ y.toInt → gw a Q) (h2 : y.toInt < x.toInt → gw b Q) : gw (@ite _ (x ≤ y) dc a b) Q :=
  gw_ite (fun h => h1 (Int32.le_iff_toInt_le.mp h)) (fun h => h2 (by rw [Int32.le_iff_toInt_le] at h; omega))
theorem gw_eq {β : Type} {x y : Int32} {dc : Decidable (x = y)} {a b : Option β} {Q : β → Prop} (h1 : x.toInt = y.toInt → gw a Q) (h2 : x.toInt ≠ y.toInt → gw b Q) : gw (@ite _ (x = y) dc a b) Q :=
  gw_ite (fun h => h1 (by rw [h])) (fun h => h2 (fun e => h (Int32.toInt_inj.mp e)))
theorem gw_ne {β : Type} {x y : Int32} {dc : Decidable (x ≠ y)} {a b : Option β} {Q : β → Prop} (h1 : x.toInt ≠ y.toInt → gw a Q) (h2 : x.toInt = y.toInt → gw b Q) : gw (@ite _ (x ≠ y) dc a b) Q :=
  gw_ite (fun h => h1 (fun e => h (Int32.toInt_inj.mp e))) (fun h => h2 (by
    by_cases e : x = y
    · rw [e]
    · exact absurd e h))
theorem gw_dv {β : Type} {y : Int32} {dc : Decidable (y = 0)} {a b : Option β} {Q : β → Prop} (h : y.toInt ≠ 0) (k : gw b Q) : gw (@ite _ (y = 0) dc a b) Q := by
  rw [if_neg (fun e => h (by rw [e]; rfl))]; exact k
/-- a truth is returned -/
theorem gw_z {β : Type} {x : Int32} {P : Prop} {dc : Decidable P} {a : β} {Q : β → Prop} (hP : P ↔ (x = 0 ∨ x = 1)) (h : x.toInt = 0 ∨ x.toInt = 1) (k : Q a) : gw (@ite _ P dc (some a) none) Q := by
  rw [if_pos (hP.mpr (h.imp (fun e => Int32.toInt_inj.mp e) (fun e => Int32.toInt_inj.mp e)))]
  exact gw_some k
section
variable {β : Type} {μ : gm_M} {ks : List Nat} {r j t a n : Nat} {i x : Int32} {Q : β → Prop}
theorem gw_gI {f : Int32 → Option β} (h : ks.contains (gm_tag μ r) = true) (k : ∀ v : Int32, v = μ.2.1 r j → gw (f v) Q) : gw (gm_gI μ ks r j f) Q := by
  unfold gm_gI; rw [if_pos h]; exact k _ rfl
theorem gw_gR {f : Nat → Option β} (h : ks.contains (gm_tag μ r) = true) (k : ∀ v : Nat, v = μ.2.2 r j → gw (f v) Q) : gw (gm_gR μ ks r j f) Q := by
  unfold gm_gR; rw [if_pos h]; exact k _ rfl
theorem gw_gRa {f : Nat → Option β} (a : Nat) (h : ks.contains (gm_tag μ r) = true) (e : μ.2.2 r j = a) (k : gw (f a) Q) : gw (gm_gR μ ks r j f) Q := by
  unfold gm_gR; rw [if_pos h, e]; exact k
theorem gw_pI {f : gm_M → Option β} (h : ks.contains (gm_tag μ r) = true) (k : ∀ m : gm_M, m = (μ.1, gm_u μ.2.1 r j x, μ.2.2) → gw (f m) Q) : gw (gm_pI μ ks r j x f) Q := by
  unfold gm_pI; rw [if_pos h]; exact k _ rfl
theorem gw_pZ {f : gm_M → Option β} (h : ks.contains (gm_tag μ r) = true) (hx : x.toInt = 0 ∨ x.toInt = 1) (k : ∀ m : gm_M, m = (μ.1, gm_u μ.2.1 r j x, μ.2.2) → gw (f m) Q) : gw (gm_pZ μ ks r j x f) Q := by
  unfold gm_pZ; rw [if_pos h, if_pos (hx.imp (fun e => Int32.toInt_inj.mp e) (fun e => Int32.toInt_inj.mp e))]; exact k _ rfl
theorem gw_pR {f : gm_M → Option β} {y : Nat} (h : ks.contains (gm_tag μ r) = true) (k : ∀ m : gm_M, m = (μ.1, μ.2.1, gm_u μ.2.2 r j y) → gw (f m) Q) : gw (gm_pR μ ks r j y f) Q := by
  unfold gm_pR; rw [if_pos h]; exact k _ rfl
theorem gw_ix {i : Int32} {n : Nat} (h0 : 0 ≤ i.toInt) (h1 : i.toInt < n) : ¬ i < 0 ∧ i.toNatClampNeg < n := by
  refine ⟨fun h => ?_, ?_⟩
  · rw [Int32.lt_iff_toInt_lt] at h
    have : (0 : Int32).toInt = 0 := rfl
    omega
  · show i.toInt.toNat < n
    omega
theorem gw_aI {f : Int32 → Option β} (t : gm_tag μ r = 1) (l : gm_len μ r = n) (h0 : 0 ≤ i.toInt) (h1 : i.toInt < n) (k : ∀ v : Int32, v = μ.2.1 r i.toInt.toNat → gw (f v) Q) : gw (gm_aI μ r i f) Q := by
  unfold gm_aI; rw [if_pos ⟨t, by rw [l]; exact gw_ix h0 h1⟩]; exact k _ rfl
theorem gw_aZ {f : Int32 → Option β} (t : gm_tag μ r = 2) (l : gm_len μ r = n) (h0 : 0 ≤ i.toInt) (h1 : i.toInt < n) (k : ∀ v : Int32, v = μ.2.1 r i.toInt.toNat → gw (f v) Q) : gw (gm_aZ μ r i f) Q := by
  unfold gm_aZ; rw [if_pos ⟨t, by rw [l]; exact gw_ix h0 h1⟩]; exact k _ rfl
theorem gw_aR {f : Nat → Option β} (ht : gm_tag μ r = t) (l : gm_len μ r = n) (h0 : 0 ≤ i.toInt) (h1 : i.toInt < n) (k : ∀ v : Nat, v = μ.2.2 r i.toInt.toNat → gw (f v) Q) : gw (gm_aR μ t r i f) Q := by
  unfold gm_aR; rw [if_pos ⟨ht, by rw [l]; exact gw_ix h0 h1⟩]; exact k _ rfl
theorem gw_sI {f : gm_M → Option β} (t : gm_tag μ r = 1) (l : gm_len μ r = n) (h0 : 0 ≤ i.toInt) (h1 : i.toInt < n) (k : ∀ m : gm_M, m = (μ.1, gm_u μ.2.1 r i.toInt.toNat x, μ.2.2) → gw (f m) Q) : gw (gm_sI μ r i x f) Q := by
  unfold gm_sI; rw [if_pos ⟨t, by rw [l]; exact gw_ix h0 h1⟩]; exact k _ rfl
theorem gw_sZ {f : gm_M → Option β} (t : gm_tag μ r = 2) (l : gm_len μ r = n) (h0 : 0 ≤ i.toInt) (h1 : i.toInt < n) (k : ∀ m : gm_M, m = (μ.1, gm_u μ.2.1 r i.toInt.toNat (x &&& 1), μ.2.2) → gw (f m) Q) : gw (gm_sZ μ r i x f) Q := by
  unfold gm_sZ; rw [if_pos ⟨t, by rw [l]; exact gw_ix h0 h1⟩]; exact k _ rfl
theorem gw_al {f : Int32 → Option β} (ht : gm_tag μ r = t) (l : gm_len μ r = n) (k : gw (f (Int32.ofNat n)) Q) : gw (gm_al μ t r f) Q := by
  unfold gm_al; rw [if_pos ht, l]; exact k
/-- answers of calls -/
def gwI (z : Option (Option Value × gm_M)) (R : Int32 → gm_M → Prop) : Prop := ∃ x m, z = some (some (.int x), m) ∧ R x m
def gwL (z : Option (Option Value × gm_M)) (R : Int64 → gm_M → Prop) : Prop := ∃ x m, z = some (some (.long x), m) ∧ R x m
def gwV (z : Option (Option Value × gm_M)) (R : gm_M → Prop) : Prop := ∃ m, z = some (none, m) ∧ R m
theorem gw_bI {z : Option (Option Value × gm_M)} {R : Int32 → gm_M → Prop} {f : Int32 → gm_M → Option β} (h : gwI z R) (k : ∀ x m, R x m → gw (f x m) Q) : gw (gm_bI z f) Q := by
  obtain ⟨x, m, e, hr⟩ := h; rw [e]; exact k x m hr
theorem gw_bL {z : Option (Option Value × gm_M)} {R : Int64 → gm_M → Prop} {f : Int64 → gm_M → Option β} (h : gwL z R) (k : ∀ x m, R x m → gw (f x m) Q) : gw (gm_bL z f) Q := by
  obtain ⟨x, m, e, hr⟩ := h; rw [e]; exact k x m hr
theorem gw_bV {z : Option (Option Value × gm_M)} {R : gm_M → Prop} {f : gm_M → Option β} (h : gwV z R) (k : ∀ m, R m → gw (f m) Q) : gw (gm_bV z f) Q := by
  obtain ⟨m, e, hr⟩ := h; rw [e]; exact k m hr
/-- what is asked of a method's text, as of any text -/
def gqI (R : Int32 → gm_M → Prop) (b : Option Value × gm_M) : Prop := ∃ x, b.1 = some (.int x) ∧ R x b.2
def gqL (R : Int64 → gm_M → Prop) (b : Option Value × gm_M) : Prop := ∃ x, b.1 = some (.long x) ∧ R x b.2
def gqV (R : gm_M → Prop) (b : Option Value × gm_M) : Prop := b.1 = none ∧ R b.2
theorem gwI_of {z : Option (Option Value × gm_M)} {R : Int32 → gm_M → Prop} (h : gw z (gqI R)) : gwI z R := by
  obtain ⟨⟨v, m⟩, e, x, e1, hr⟩ := h
  cases e1
  exact ⟨x, m, e, hr⟩
theorem gwL_of {z : Option (Option Value × gm_M)} {R : Int64 → gm_M → Prop} (h : gw z (gqL R)) : gwL z R := by
  obtain ⟨⟨v, m⟩, e, x, e1, hr⟩ := h
  cases e1
  exact ⟨x, m, e, hr⟩
theorem gwV_of {z : Option (Option Value × gm_M)} {R : gm_M → Prop} (h : gw z (gqV R)) : gwV z R := by
  obtain ⟨⟨v, m⟩, e, e1, hr⟩ := h
  cases e1
  exact ⟨m, e, hr⟩
theorem gwI_mono {z : Option (Option Value × gm_M)} {R S : Int32 → gm_M → Prop} (h : gwI z R) (k : ∀ x m, R x m → S x m) : gwI z S := by
  obtain ⟨x, m, e, hr⟩ := h; exact ⟨x, m, e, k x m hr⟩
theorem gwV_mono {z : Option (Option Value × gm_M)} {R S : gm_M → Prop} (h : gwV z R) (k : ∀ m, R m → S m) : gwV z S := by
  obtain ⟨m, e, hr⟩ := h; exact ⟨m, e, k m hr⟩
theorem gq_I {R : Int32 → gm_M → Prop} {x : Int32} {m : gm_M} (h : R x m) : gqI R (some (.int x), m) := ⟨x, rfl, h⟩
theorem gq_L {R : Int64 → gm_M → Prop} {x : Int64} {m : gm_M} (h : R x m) : gqL R (some (.long x), m) := ⟨x, rfl, h⟩
theorem gq_V {R : gm_M → Prop} {m : gm_M} (h : R m) : gqV R (none, m) := ⟨rfl, h⟩
/-- joins and loops -/
theorem gw_j {S : Type} {rest : S → Option β} {body : (S → Option β) → Option β} (R : S → Prop) (h1 : ∀ s, R s → gw (rest s) Q) (h2 : ∀ jj : S → Option β, (∀ s, R s → gw (jj s) Q) → gw (body jj) Q) : gw (gm_j rest body) Q := h2 rest h1
theorem gw_ji {S : Type} {rest : S → Option β} {body : (S → Option β) → Option β} (h : gw (body rest) Q) : gw (gm_j rest body) Q := h
/-- what a loop's step may answer -/
def gs_st {S : Type} (I : S → Prop) (ms : S → Int) (s0 : S) (Q : β → Prop) (b : S ⊕ β) : Prop := match b with
  | .inl s => I s ∧ ms s < ms s0 ∧ 0 ≤ ms s
  | .inr b => Q b
theorem gw_loop {S : Type} {step : S → Option (S ⊕ β)} (I : S → Prop) (ms : S → Int) (h : ∀ s, I s → gw (step s) (gs_st I ms s Q)) : ∀ (fu : Nat) (s : S), I s → ms s < fu → 0 ≤ ms s → gw (gm_loop step fu s) Q := by
  intro fu
  induction fu with
  | zero => intro s _ h1 h2; exact absurd h1 (by omega)
  | succ fu ih =>
    intro s hs hm h0
    obtain ⟨b, e, hb⟩ := h s hs
    unfold gm_loop
    rw [e]
    cases b with
    | inl s' =>
      obtain ⟨h1, h2, h3⟩ := hb
      exact ih s' h1 (by omega) h3
    | inr b => exact ⟨b, rfl, hb⟩
end
/-! numbers -/
theorem gx_add {x y : Int32} (h1 : -2147483648 ≤ x.toInt + y.toInt) (h2 : x.toInt + y.toInt ≤ 2147483647) : (x + y).toInt = x.toInt + y.toInt := by
  rw [Int32.toInt_add, Int.bmod_def]
  have e : ((2 : Nat) ^ 32 : Nat) = 4294967296 := by decide
  split <;> omega
theorem gx_sub {x y : Int32} (h1 : -2147483648 ≤ x.toInt - y.toInt) (h2 : x.toInt - y.toInt ≤ 2147483647) : (x - y).toInt = x.toInt - y.toInt := by
  rw [Int32.toInt_sub, Int.bmod_def]
  have e : ((2 : Nat) ^ 32 : Nat) = 4294967296 := by decide
  split <;> omega
theorem gx_mul {x y : Int32} (k : Int) (hk : x.toInt = k) (h1 : -2147483648 ≤ k * y.toInt) (h2 : k * y.toInt ≤ 2147483647) : (x * y).toInt = k * y.toInt := by
  rw [Int32.toInt_mul, hk, Int.bmod_def]
  have e : ((2 : Nat) ^ 32 : Nat) = 4294967296 := by decide
  split <;> omega
theorem gx_mulr {x y : Int32} (k : Int) (hk : y.toInt = k) (h1 : -2147483648 ≤ k * x.toInt) (h2 : k * x.toInt ≤ 2147483647) : (x * y).toInt = k * x.toInt := by
  rw [Int32.mul_comm, gx_mul k hk h1 h2]
theorem gx_lo (x : Int32) : -2147483648 ≤ x.toInt := Int32.le_toInt x
theorem gx_hi (x : Int32) : x.toInt ≤ 2147483647 := by
  have := Int32.toInt_lt x
  omega
theorem gx_div {x y : Int32} (h : y.toInt ≠ -1) : (x / y).toInt = x.toInt.tdiv y.toInt := by
  rw [Int32.toInt_div_of_ne_right]
  intro e
  exact h (by rw [e]; rfl)
end
section
/-! the memory behind both constructors: tags, lengths, fixed references -/
def gT : List (Nat × Nat) := [(0,0),(16,10),(3,7),(12,3),(1,60),(1,25),(1,5),(1,5),(10,1),(11,1),(14,1),(8,1),(9,1),(6,1),(15,1),(13,10),(4,5),(1,100),(5,10),(1,10),(1,10),(1,100),(1,0),(12,3),(1,15),(12,3),(1,24),(12,3),(1,24),(7,9),(1,4),(7,9),(1,4),(7,9),(1,4),(7,9),(1,4),(7,9),(1,4),(13,10),(4,5),(1,100),(5,10),(1,10),(1,10),(1,100),(1,0),(12,3),(1,15),(12,3),(1,24),(12,3),(1,24),(7,9),(1,4),(7,9),(1,4),(7,9),(1,4),(7,9),(1,4),(7,9),(1,4),(7,9),(1,4),(17,23),(1,925),(1,925),(1,26),(1,6),(2,64),(1,25),(1,5),(1,5),(1,20)]
def gRl : List (Nat × Nat × Nat) := [(1,0,2),(1,1,15),(1,2,39),(1,4,3),(1,5,63),(1,6,5),(1,7,6),(1,8,7),(2,0,8),(2,1,9),(2,2,10),(2,3,11),(2,4,12),(2,5,13),(2,6,14),(3,1,4),(15,2,16),(15,3,17),(15,7,23),(15,8,25),(15,9,27),(16,0,29),(16,1,31),(16,2,33),(16,3,35),(16,4,37),(18,3,19),(18,4,20),(18,5,21),(23,1,24),(25,1,26),(27,1,28),(29,8,30),(31,8,32),(33,8,34),(35,8,36),(37,8,38),(39,2,40),(39,3,41),(39,7,47),(39,8,49),(39,9,51),(40,0,53),(40,1,55),(40,2,57),(40,3,59),(40,4,61),(42,3,43),(42,4,44),(42,5,45),(47,1,48),(49,1,50),(51,1,52),(53,8,54),(55,8,56),(57,8,58),(59,8,60),(61,8,62),(63,8,64),(65,1,66),(65,2,67),(65,3,68),(65,10,69),(65,11,70),(65,14,71),(65,15,72),(65,16,73),(65,18,74)]
theorem gT_ok : gi5.1 = gT := by decide +kernel
theorem gRl_ok : ∀ q ∈ gRl, gi5.2.2 q.1 q.2.1 = q.2.2 := by decide +kernel
def gS (μ : gm_M) : Prop := (∀ (r : Nat) (q : Nat × Nat), gT[r]? = some q → μ.1[r]? = some q) ∧ ∀ q ∈ gRl, μ.2.2 q.1 q.2.1 = q.2.2
theorem gS_0 : gS gi5 := ⟨fun r q h => by rw [gT_ok]; exact h, gRl_ok⟩
theorem gS.t {μ : gm_M} (h : gS μ) {r t n : Nat} (e : gT[r]? = some (t, n)) : gm_tag μ r = t := by
  unfold gm_tag; rw [h.1 r _ e]
theorem gS.l {μ : gm_M} (h : gS μ) {r t n : Nat} (e : gT[r]? = some (t, n)) : gm_len μ r = n := by
  unfold gm_len; rw [h.1 r _ e]
theorem gS.c {μ : gm_M} (h : gS μ) {r t n : Nat} (e : gT[r]? = some (t, n)) : [t].contains (gm_tag μ r) = true := by
  rw [h.t e]; simp
theorem gS.r {μ : gm_M} (h : gS μ) {r j a : Nat} (e : (r, j, a) ∈ gRl) : μ.2.2 r j = a := h.2 _ e
theorem gS.same {μ m : gm_M} (h : gS μ) (e1 : m.1 = μ.1) (e2 : m.2.2 = μ.2.2) : gS m := by
  unfold gS; rw [e1, e2]; exact h
/-! the reference's row -/
def wst (s : Int32) (t t' : Nat) : Prop := t ≤ 64 ∧ ((0 ≤ s.toInt ∧ t < 64 ∧ s.toInt % 8 < 6 ∧ t' = t + 1) ∨ (s.toInt = -1 ∧ 1 ≤ t ∧ t' = t) ∨ (-10 < s.toInt ∧ s.toInt < -1 ∧ 2 ≤ t ∧ t' + 1 = t) ∨ (s.toInt ≤ -10 ∧ t' = 0))
def wfp (σ : Nat → Int32) (a : Nat) : Prop := 0 ≤ (σ (220 + a)).toInt ∧ (σ (220 + a)).toInt ≤ 139 ∧ ∃ tp : Nat → Nat, tp 0 = 0 ∧ ∀ i : Nat, (i : Int) < (σ (220 + a)).toInt → wst (σ (225 + 140 * a + i)) (tp i) (tp (i + 1))
def mI (σ : Nat → Int32) : Prop := (0 ≤ (σ 26).toInt ∧ (σ 26).toInt ≤ 5) ∧ (0 ≤ (σ 27).toInt ∧ (σ 27).toInt ≤ 5) ∧ (0 ≤ (σ 28).toInt ∧ (σ 28).toInt ≤ 5) ∧ (0 ≤ (σ 29).toInt ∧ (σ 29).toInt ≤ 8) ∧ (0 ≤ (σ 30).toInt ∧ (σ 30).toInt ≤ 8) ∧ (0 ≤ (σ 31).toInt ∧ (σ 31).toInt ≤ 100) ∧ (-1 ≤ (σ 32).toInt ∧ (σ 32).toInt ≤ 4) ∧ (∀ k : Nat, k < 5 → 0 ≤ (σ (63 + k)).toInt ∧ (σ (63 + k)).toInt ≤ 4) ∧ (∀ k : Nat, k < 8 → (0 ≤ (σ (78 + k)).toInt ∧ (σ (78 + k)).toInt ≤ 3) ∧ ((σ (78 + k)).toInt ≠ 0 → 0 ≤ (σ (86 + k)).toInt ∧ (σ (86 + k)).toInt ≤ 4)) ∧ (∀ k : Nat, k < 8 → 0 ≤ (σ (94 + k)).toInt ∧ (σ (94 + k)).toInt ≤ 4) ∧ ∀ a : Nat, a < 5 → wfp σ a
/-- the places of which mI speaks -/
def mp (k : Nat) : Prop := (26 ≤ k ∧ k < 33) ∨ (63 ≤ k ∧ k < 68) ∨ (78 ≤ k ∧ k < 102) ∨ (220 ≤ k ∧ k < 925)
theorem mI.same {σ τ : Nat → Int32} (h : mI σ) (e : ∀ k : Nat, mp k → τ k = σ k) : mI τ := by
  obtain ⟨h26, h27, h28, h29, h30, h31, h32, hs, hp, hb, hw⟩ := h
  unfold mp at e
  refine ⟨?_, ?_, ?_, ?_, ?_, ?_, ?_, ?_, ?_, ?_, ?_⟩
  · rw [e 26 (by omega)]; exact h26
  · rw [e 27 (by omega)]; exact h27
  · rw [e 28 (by omega)]; exact h28
  · rw [e 29 (by omega)]; exact h29
  · rw [e 30 (by omega)]; exact h30
  · rw [e 31 (by omega)]; exact h31
  · rw [e 32 (by omega)]; exact h32
  · intro k hk; rw [e (63 + k) (by omega)]; exact hs k hk
  · intro k hk; rw [e (78 + k) (by omega), e (86 + k) (by omega)]; exact hp k hk
  · intro k hk; rw [e (94 + k) (by omega)]; exact hb k hk
  · intro a ha
    obtain ⟨w1, w2, tp, w3, w4⟩ := hw a ha
    unfold wfp
    rw [e (220 + a) (by omega)]
    refine ⟨w1, w2, tp, w3, fun i hi => ?_⟩
    rw [e (225 + 140 * a + i) (by omega)]
    exact w4 i hi
def MI (μ : gm_M) : Prop := gS μ ∧ mI (μ.2.1 66)
/-! what an asking of the reference may change: A: places of its row -/
def km (A : Nat → Prop) (μ m : gm_M) : Prop := m.1 = μ.1 ∧ m.2.2 = μ.2.2 ∧ (∀ r : Nat, r ≠ 65 → r ≠ 66 → r ≠ 69 → r ≠ 70 → r ≠ 71 → r ≠ 72 → r ≠ 73 → m.2.1 r = μ.2.1 r) ∧ (∀ k : Nat, ¬ A k → m.2.1 66 k = μ.2.1 66 k) ∧ m.2.1 65 0 = μ.2.1 65 0 ∧ m.2.1 65 4 = μ.2.1 65 4 ∧ m.2.1 65 19 = μ.2.1 65 19
def A0 (_ : Nat) : Prop := False
def A1 (k : Nat) : Prop := k < 26
def A2 (k : Nat) : Prop := k < 26 ∨ (38 ≤ k ∧ k < 43)
def A3 (k : Nat) : Prop := 1 ≤ k ∧ k < 26
theorem km.refl (A : Nat → Prop) (μ : gm_M) : km A μ μ := ⟨rfl, rfl, fun _ _ _ _ _ _ _ _ => rfl, fun _ _ => rfl, rfl, rfl, rfl⟩
theorem km.trans {A : Nat → Prop} {a b c : gm_M} (h : km A a b) (g : km A b c) : km A a c := by
  obtain ⟨h1, h2, h3, h4, h5, h6, h7⟩ := h
  obtain ⟨g1, g2, g3, g4, g5, g6, g7⟩ := g
  exact ⟨g1.trans h1, g2.trans h2, fun r r1 r2 r3 r4 r5 r6 r7 => (g3 r r1 r2 r3 r4 r5 r6 r7).trans (h3 r r1 r2 r3 r4 r5 r6 r7), fun k hk => (g4 k hk).trans (h4 k hk), g5.trans h5, g6.trans h6, g7.trans h7⟩
theorem km.weak {A B : Nat → Prop} {a b : gm_M} (h : km A a b) (w : ∀ k, A k → B k) : km B a b := by
  obtain ⟨h1, h2, h3, h4, h5, h6, h7⟩ := h
  exact ⟨h1, h2, h3, fun k hk => h4 k (fun q => hk (w k q)), h5, h6, h7⟩
theorem km.w01 {a b : gm_M} (h : km A0 a b) : km A1 a b := h.weak (fun _ q => q.elim)
theorem km.w02 {a b : gm_M} (h : km A0 a b) : km A2 a b := h.weak (fun _ q => q.elim)
theorem km.w12 {a b : gm_M} (h : km A1 a b) : km A2 a b := h.weak (fun _ q => Or.inl q)
theorem km.w03 {a b : gm_M} (h : km A0 a b) : km A3 a b := h.weak (fun _ q => q.elim)
theorem km.w31 {a b : gm_M} (h : km A3 a b) : km A1 a b := h.weak (fun _ q => q.2)
theorem km.w33 {a b : gm_M} (h : km A3 a b) : km A3 a b := h
theorem km.w00 {a b : gm_M} (h : km A0 a b) : km A0 a b := h
theorem km.w11 {a b : gm_M} (h : km A1 a b) : km A1 a b := h
theorem km.w22 {a b : gm_M} (h : km A2 a b) : km A2 a b := h
theorem MI.of {μ m : gm_M} (h : MI μ) (g : km A2 μ m) : MI m := by
  obtain ⟨g1, g2, g3, g4, g5, g6, g7⟩ := g
  exact ⟨h.1.same g1 g2, h.2.same (fun k hk => g4 k (fun q => by unfold A2 at q; unfold mp at hk; omega))⟩
theorem MI.of0 {μ m : gm_M} (h : MI μ) (g : km A0 μ m) : MI m := h.of g.w02
theorem MI.of1 {μ m : gm_M} (h : MI μ) (g : km A1 μ m) : MI m := h.of g.w12
theorem MI.of3 {μ m : gm_M} (h : MI μ) (g : km A3 μ m) : MI m := h.of g.w31.w12
theorem MI.of2 {μ m : gm_M} (h : MI μ) (g : km A2 μ m) : MI m := h.of g
theorem gu_row {α : Type} {f : Nat → Nat → α} {r j : Nat} {x : α} {a : Nat} (h : a ≠ r) : gm_u f r j x a = f a := by
  funext k; unfold gm_u; rw [if_neg h]
theorem gu_ne {α : Type} {f : Nat → Nat → α} {r j : Nat} {x : α} {k : Nat} (h : k ≠ j) : gm_u f r j x r k = f r k := by
  unfold gm_u; rw [if_pos rfl, if_neg h]
theorem gu_eq {α : Type} {f : Nat → Nat → α} {r j : Nat} {x : α} : gm_u f r j x r j = x := by
  unfold gm_u; rw [if_pos rfl, if_pos rfl]
/-- writes -/
theorem km.ws {A : Nat → Prop} {a b m : gm_M} {j : Nat} {x : Int32} (h : km A a b) (e : m = (b.1, gm_u b.2.1 66 j x, b.2.2)) (hj : A j) : km A a m := by
  subst e
  refine h.trans ⟨rfl, rfl, fun r _ r2 _ _ _ _ _ => (show gm_u b.2.1 66 j x r = b.2.1 r from gu_row r2), fun k hk => ?_, ?_, ?_, ?_⟩
  · show gm_u b.2.1 66 j x 66 k = b.2.1 66 k
    exact gu_ne (fun q => hk (by rw [q]; exact hj))
  · show gm_u b.2.1 66 j x 65 0 = b.2.1 65 0
    rw [gu_row (by decide)]
  · show gm_u b.2.1 66 j x 65 4 = b.2.1 65 4
    rw [gu_row (by decide)]
  · show gm_u b.2.1 66 j x 65 19 = b.2.1 65 19
    rw [gu_row (by decide)]
theorem km.wr {A : Nat → Prop} {a b m : gm_M} {r j : Nat} {x : Int32} (h : km A a b) (e : m = (b.1, gm_u b.2.1 r j x, b.2.2)) (hr : r = 69 ∨ r = 70 ∨ r = 71 ∨ r = 72 ∨ r = 73) : km A a m := by
  subst e
  refine h.trans ⟨rfl, rfl, fun q _ _ _ _ _ _ _ => (show gm_u b.2.1 r j x q = b.2.1 q from gu_row (by omega)), fun k hk => ?_, ?_, ?_, ?_⟩
  · show gm_u b.2.1 r j x 66 k = b.2.1 66 k
    rw [gu_row (by omega)]
  · show gm_u b.2.1 r j x 65 0 = b.2.1 65 0
    rw [gu_row (by omega)]
  · show gm_u b.2.1 r j x 65 4 = b.2.1 65 4
    rw [gu_row (by omega)]
  · show gm_u b.2.1 r j x 65 19 = b.2.1 65 19
    rw [gu_row (by omega)]
theorem km.wf {A : Nat → Prop} {a b m : gm_M} {j : Nat} {x : Int32} (h : km A a b) (e : m = (b.1, gm_u b.2.1 65 j x, b.2.2)) (hj : j ≠ 0 ∧ j ≠ 4 ∧ j ≠ 19) : km A a m := by
  subst e
  refine h.trans ⟨rfl, rfl, fun q h1 _ _ _ _ _ _ => (show gm_u b.2.1 65 j x q = b.2.1 q from gu_row h1), fun k hk => ?_, (show gm_u b.2.1 65 j x 65 0 = b.2.1 65 0 from gu_ne (Ne.symm hj.1)), (show gm_u b.2.1 65 j x 65 4 = b.2.1 65 4 from gu_ne (Ne.symm hj.2.1)), (show gm_u b.2.1 65 j x 65 19 = b.2.1 65 19 from gu_ne (Ne.symm hj.2.2))⟩
  show gm_u b.2.1 65 j x 66 k = b.2.1 66 k
  rw [gu_row (by decide)]
/-- the frame: kept, and gone back to -/
def kp (μ m : gm_M) : Prop := m.1 = μ.1 ∧ m.2.2 = μ.2.2 ∧ (∀ r : Nat, r ≠ 68 → m.2.1 r = μ.2.1 r) ∧ ∀ k : Nat, k < 26 → m.2.1 68 k = μ.2.1 66 k
def rs (m : gm_M) : Prop := ∀ k : Nat, k < 26 → m.2.1 66 k = m.2.1 68 k
/-- what an asking as a whole changes -/
def qm (μ m : gm_M) : Prop := m.1 = μ.1 ∧ m.2.2 = μ.2.2 ∧ (∀ r : Nat, r ≠ 65 → r ≠ 68 → r ≠ 69 → r ≠ 70 → r ≠ 71 → r ≠ 72 → r ≠ 73 → m.2.1 r = μ.2.1 r) ∧ m.2.1 65 0 = μ.2.1 65 0 ∧ m.2.1 65 4 = μ.2.1 65 4 ∧ m.2.1 65 19 = μ.2.1 65 19
theorem qm.refl (μ : gm_M) : qm μ μ := ⟨rfl, rfl, fun _ _ _ _ _ _ _ _ => rfl, rfl, rfl, rfl⟩
theorem qm.of0 {μ m : gm_M} (h : km A0 μ m) : qm μ m := by
  obtain ⟨h1, h2, h3, h4, h5, h6, h7⟩ := h
  refine ⟨h1, h2, fun r r1 r2 r3 r4 r5 r6 r7 => ?_, h5, h6, h7⟩
  by_cases e : r = 66
  · subst e; funext k; exact h4 k (fun q => q.elim)
  · exact h3 r r1 e r3 r4 r5 r6 r7
theorem qm.trans {a b c : gm_M} (h : qm a b) (g : qm b c) : qm a c := by
  obtain ⟨h1, h2, h3, h5, h6, h7⟩ := h
  obtain ⟨g1, g2, g3, g5, g6, g7⟩ := g
  exact ⟨g1.trans h1, g2.trans h2, fun r r1 r2 r3 r4 r5 r6 r7 => (g3 r r1 r2 r3 r4 r5 r6 r7).trans (h3 r r1 r2 r3 r4 r5 r6 r7), g5.trans h5, g6.trans h6, g7.trans h7⟩
theorem kp.mi {μ m : gm_M} (h : MI μ) (g : kp μ m) : MI m := by
  obtain ⟨g1, g2, g3, g4⟩ := g
  exact ⟨h.1.same g1 g2, by rw [g3 66 (by decide)]; exact h.2⟩
theorem kp.rs {μ m : gm_M} (g : kp μ m) : rs m := fun k hk => by rw [g.2.2.1 66 (by decide), g.2.2.2 k hk]
theorem qm.kp {μ a m : gm_M} (g : kp μ a) (h : km A1 a m) (hr : rs m) : qm μ m := by
  obtain ⟨g1, g2, g3, g4⟩ := g
  obtain ⟨h1, h2, h3, h4, h5, h6, h7⟩ := h
  have e65 : a.2.1 65 = μ.2.1 65 := g3 65 (by decide)
  refine ⟨h1.trans g1, h2.trans g2, fun r r1 r2 r3 r4 r5 r6 r7 => ?_, h5.trans (by rw [e65]), h6.trans (by rw [e65]), h7.trans (by rw [e65])⟩
  by_cases e : r = 66
  · subst e
    funext k
    by_cases hk : k < 26
    · rw [hr k hk, h3 68 (by decide) (by decide) (by decide) (by decide) (by decide) (by decide) (by decide), g4 k hk]
    · rw [h4 k hk, g3 66 (by decide)]
  · rw [h3 r r1 e r3 r4 r5 r6 r7, g3 r r2]
theorem MI.q {μ m : gm_M} (h : MI μ) (g : qm μ m) : MI m := by
  obtain ⟨g1, g2, g3, -⟩ := g
  exact ⟨h.1.same g1 g2, by rw [g3 66 (by decide) (by decide) (by decide) (by decide) (by decide) (by decide) (by decide)]; exact h.2⟩
theorem MI.eq {μ m : gm_M} (h : MI μ) (e : m = μ) : MI m := by rw [e]; exact h
theorem rs.k0 {a b : gm_M} (h : rs a) (g : km A0 a b) : rs b := fun k hk => by
  rw [g.2.2.2.1 k (fun q => q), g.2.2.1 68 (by decide) (by decide) (by decide) (by decide) (by decide) (by decide) (by decide)]
  exact h k hk
/-- so many times one more -/
def itn : Nat → Int32 → Int32
  | 0, x => x
  | n + 1, x => itn n x + 1
theorem gs_inl {S β : Type} {I : S → Prop} {ms : S → Int} {s0 s : S} {Q : β → Prop} (h1 : I s) (h2 : ms s < ms s0) (h3 : 0 ≤ ms s) : gs_st I ms s0 Q (.inl s) := ⟨h1, h2, h3⟩
theorem gs_inr {S β : Type} {I : S → Prop} {ms : S → Int} {s0 : S} {Q : β → Prop} {b : β} (h : Q b) : gs_st I ms s0 Q (.inr b) := h
theorem MI.n26 {μ : gm_M} (h : MI μ) : 0 ≤ (μ.2.1 66 26).toInt ∧ (μ.2.1 66 26).toInt ≤ 5 := h.2.1
theorem MI.n27 {μ : gm_M} (h : MI μ) : 0 ≤ (μ.2.1 66 27).toInt ∧ (μ.2.1 66 27).toInt ≤ 5 := h.2.2.1
theorem MI.n28 {μ : gm_M} (h : MI μ) : 0 ≤ (μ.2.1 66 28).toInt ∧ (μ.2.1 66 28).toInt ≤ 5 := h.2.2.2.1
theorem MI.n29 {μ : gm_M} (h : MI μ) : 0 ≤ (μ.2.1 66 29).toInt ∧ (μ.2.1 66 29).toInt ≤ 8 := h.2.2.2.2.1
theorem MI.n30 {μ : gm_M} (h : MI μ) : 0 ≤ (μ.2.1 66 30).toInt ∧ (μ.2.1 66 30).toInt ≤ 8 := h.2.2.2.2.2.1
theorem MI.n31 {μ : gm_M} (h : MI μ) : 0 ≤ (μ.2.1 66 31).toInt ∧ (μ.2.1 66 31).toInt ≤ 100 := h.2.2.2.2.2.2.1
theorem MI.n32 {μ : gm_M} (h : MI μ) : -1 ≤ (μ.2.1 66 32).toInt ∧ (μ.2.1 66 32).toInt ≤ 4 := h.2.2.2.2.2.2.2.1
theorem MI.seen {μ : gm_M} (h : MI μ) (k : Nat) (h1 : 63 ≤ k) (h2 : k < 68) : 0 ≤ (μ.2.1 66 k).toInt ∧ (μ.2.1 66 k).toInt ≤ 4 := by
  have := h.2.2.2.2.2.2.2.2.1 (k - 63) (by omega)
  rwa [show 63 + (k - 63) = k by omega] at this
theorem MI.what {μ : gm_M} (h : MI μ) (k : Nat) (h1 : 78 ≤ k) (h2 : k < 86) : 0 ≤ (μ.2.1 66 k).toInt ∧ (μ.2.1 66 k).toInt ≤ 3 := by
  have := (h.2.2.2.2.2.2.2.2.2.1 (k - 78) (by omega)).1
  rwa [show 78 + (k - 78) = k by omega] at this
theorem MI.whom {μ : gm_M} (h : MI μ) (k : Nat) (h1 : 78 ≤ k) (h2 : k < 86) (h0 : (μ.2.1 66 k).toInt ≠ 0) : 0 ≤ (μ.2.1 66 (k + 8)).toInt ∧ (μ.2.1 66 (k + 8)).toInt ≤ 4 := by
  have := (h.2.2.2.2.2.2.2.2.2.1 (k - 78) (by omega)).2
  rw [show 78 + (k - 78) = k by omega, show 86 + (k - 78) = k + 8 by omega] at this
  exact this h0
theorem MI.booked {μ : gm_M} (h : MI μ) (k : Nat) (h1 : 94 ≤ k) (h2 : k < 102) : 0 ≤ (μ.2.1 66 k).toInt ∧ (μ.2.1 66 k).toInt ≤ 4 := by
  have := h.2.2.2.2.2.2.2.2.2.2.1 (k - 94) (by omega)
  rwa [show 94 + (k - 94) = k by omega] at this
theorem MI.prog {μ : gm_M} (h : MI μ) (a : Nat) (ha : a < 5) : wfp (μ.2.1 66) a := h.2.2.2.2.2.2.2.2.2.2.2 a ha
theorem wst_sp {s : Int32} {t t' : Nat} (w : wst s t t') : t ≤ 64 ∧ (0 ≤ s.toInt → t < 64 ∧ s.toInt % 8 < 6 ∧ t' = t + 1) ∧ (s.toInt = (-1 : Int32).toInt → 1 ≤ t ∧ t' = t) ∧ (-10 < s.toInt → s.toInt < -1 → 2 ≤ t ∧ t' + 1 = t) ∧ (s.toInt ≤ (-10 : Int32).toInt → t' = 0) := by
  obtain ⟨w0, w⟩ := w
  have l1 : (-1 : Int32).toInt = -1 := rfl
  have l2 : (-10 : Int32).toInt = -10 := rfl
  refine ⟨w0, fun h => ?_, fun h => ?_, fun h h' => ?_, fun h => ?_⟩
  · rcases w with w | w | w | w <;> omega
  · rcases w with w | w | w | w <;> omega
  · rcases w with w | w | w | w <;> omega
  · rcases w with w | w | w | w <;> omega
theorem wst_A {s : Int32} {t t' : Nat} (w : wst s t t') (h : (0 : Int32).toInt ≤ s.toInt) : t ≤ 64 ∧ t < 64 ∧ s.toInt % 8 < 6 ∧ t' = t + 1 := ⟨(wst_sp w).1, (wst_sp w).2.1 h⟩
theorem wst_B {s : Int32} {t t' : Nat} (w : wst s t t') (h : s.toInt = (-1 : Int32).toInt) : t ≤ 64 ∧ 1 ≤ t ∧ t' = t := ⟨(wst_sp w).1, (wst_sp w).2.2.1 h⟩
theorem wst_C {s : Int32} {t t' : Nat} (w : wst s t t') (h : -10 < s.toInt) (h' : s.toInt < -1) : t ≤ 64 ∧ 2 ≤ t ∧ t' + 1 = t := ⟨(wst_sp w).1, (wst_sp w).2.2.2.1 h h'⟩
theorem wst_D {s : Int32} {t t' : Nat} (w : wst s t t') (h : s.toInt ≤ (-10 : Int32).toInt) : t' = 0 := (wst_sp w).2.2.2.2 h
end
section
theorem gx_mod (x y : Int32) : x - x / y * y = x % y := by
  apply Int32.toInt_inj.mp
  rw [Int32.toInt_sub, Int32.toInt_mul, Int32.toInt_div, Int.bmod_mul_bmod, Int.sub_bmod_bmod]
  have e : x.toInt - x.toInt.tdiv y.toInt * y.toInt = x.toInt.tmod y.toInt := by rw [Int.tmod_def, Int.mul_comm]
  rw [e, ← Int32.toInt_mod]
  exact Int32.toInt_bmod _
theorem gx_mod64 (x y : Int64) : x - x / y * y = x % y := by
  apply Int64.toInt_inj.mp
  rw [Int64.toInt_sub, Int64.toInt_mul, Int64.toInt_div, Int.bmod_mul_bmod, Int.sub_bmod_bmod]
  have e : x.toInt - x.toInt.tdiv y.toInt * y.toInt = x.toInt.tmod y.toInt := by rw [Int.tmod_def, Int.mul_comm]
  rw [e, ← Int64.toInt_mod]
  exact Int64.toInt_bmod _
theorem gx_remk4 (x : Int32) : -3 ≤ (x - x / 4 * 4).toInt ∧ (x - x / 4 * 4).toInt ≤ 3 := by
  rw [gx_mod, Int32.toInt_mod]
  have e : (4 : Int32).toInt = 4 := rfl
  rw [e]
  have h1 := Int.lt_tmod_of_pos x.toInt (b := 4) (by decide)
  have h2 := Int.tmod_lt_of_pos x.toInt (b := 4) (by decide)
  omega
theorem gx_remk8 {x : Int32} (h : 0 ≤ x.toInt) : (x - x / 8 * 8).toInt = x.toInt % 8 := by
  rw [gx_mod, Int32.toInt_mod]
  have e : (8 : Int32).toInt = 8 := rfl
  rw [e]
  exact Int.tmod_eq_emod_of_nonneg h
theorem gx_addw (x y : Int32) : (x + y).toInt = x.toInt + y.toInt ∨ (x + y).toInt = x.toInt + y.toInt + 4294967296 ∨ (x + y).toInt = x.toInt + y.toInt - 4294967296 := by
  have a := gx_lo x
  have b := gx_hi x
  have c := gx_lo y
  have d := gx_hi y
  rw [Int32.toInt_add, Int.bmod_def]
  have e : ((2 : Nat) ^ 32 : Nat) = 4294967296 := by decide
  split <;> omega
theorem gx_subw (x y : Int32) : (x - y).toInt = x.toInt - y.toInt ∨ (x - y).toInt = x.toInt - y.toInt + 4294967296 ∨ (x - y).toInt = x.toInt - y.toInt - 4294967296 := by
  have a := gx_lo x
  have b := gx_hi x
  have c := gx_lo y
  have d := gx_hi y
  rw [Int32.toInt_sub, Int.bmod_def]
  have e : ((2 : Nat) ^ 32 : Nat) = 4294967296 := by decide
  split <;> omega
end
section
set_option maxHeartbeats 1000000 in
theorem s_X12_above {μ : gm_M} {a0 : Int32}  : gwI (f_X12_above a0 μ) (fun x m => m = μ) := by
  refine gwI_of ?_
  unfold f_X12_above
  have l0 : (0 : Int32).toInt = 0 := rfl
  refine gw_le (fun h1_1 => ?_) (fun h1_1 => ?_)
  ·
    exact gw_some (gq_I rfl)
  ·
    exact gw_some (gq_I rfl)
set_option maxHeartbeats 1000000 in
theorem s_X12_within {μ : gm_M} {a0 : Int32} {a1 : Int32} {a2 : Int32}  : gwI (f_X12_within a0 a1 a2 μ) (fun x m => m = μ) := by
  refine gwI_of ?_
  unfold f_X12_within
  refine gw_le (fun h2_1 => ?_) (fun h2_1 => ?_)
  ·
    refine gw_le (fun h11_2 => ?_) (fun h11_2 => ?_)
    ·
      exact gw_some (gq_I rfl)
    ·
      exact gw_some (gq_I rfl)
  ·
    exact gw_some (gq_I rfl)
set_option maxHeartbeats 1000000 in
theorem s_X12_thin {μ : gm_M} {a0 : Int32} {a1 : Int32}  : gwI (f_X12_thin a0 a1 μ) (fun x m => m = μ) := by
  refine gwI_of ?_
  unfold f_X12_thin
  have l5 : (5 : Int32).toInt = 5 := rfl
  refine gw_bI (s_X12_above  ) (fun x1 m1 z1 => ?_)
  replace z1 := z1.symm
  subst z1
  exact gw_some (gq_I rfl)
set_option maxHeartbeats 1000000 in
theorem s_X12_in {μ : gm_M} {a0 : Int32} {a1 : Int32} {a2 : Int32}  : gwI (f_X12_in a0 a1 a2 μ) (fun x m => m = μ ∧ ((x.toInt = 1 ∧ a1.toInt ≤ a0.toInt ∧ a0.toInt ≤ a2.toInt) ∨ (x.toInt = 0 ∧ (a0.toInt < a1.toInt ∨ a2.toInt < a0.toInt)))) := by
  refine gwI_of ?_
  unfold f_X12_in
  have l0 : (0 : Int32).toInt = 0 := rfl
  have l1 : (1 : Int32).toInt = 1 := rfl
  refine gw_lt (fun h2_1 => ?_) (fun h2_1 => ?_)
  ·
    refine gw_z Iff.rfl (by omega) (gq_I ⟨rfl, by omega⟩)
  ·
    refine gw_lt (fun h7_2 => ?_) (fun h7_2 => ?_)
    ·
      refine gw_z Iff.rfl (by omega) (gq_I ⟨rfl, by omega⟩)
    ·
      refine gw_z Iff.rfl (by omega) (gq_I ⟨rfl, by omega⟩)
set_option maxHeartbeats 1000000 in
theorem s_X12_isChild {μ : gm_M} (h : MI μ) {a1 : Int32}  : gwI (f_X12_isChild 65 a1 μ) (fun x m => m = μ ∧ ((x.toInt = 1 ∧ 0 ≤ a1.toInt ∧ a1.toInt < (μ.2.1 66 26).toInt ∧ a1.toInt < 5) ∨ (x.toInt = 0 ∧ (a1.toInt < 0 ∨ (μ.2.1 66 26).toInt ≤ a1.toInt)))) := by
  refine gwI_of ?_
  unfold f_X12_isChild
  have l0 : (0 : Int32).toInt = 0 := rfl
  have l1 : (1 : Int32).toInt = 1 := rfl
  have l26 : (26 : Int32).toInt = 26 := rfl
  have k0 := km.refl A0 μ
  refine gw_gRa 66 (h.1.c (r := 65) rfl) (h.1.r (by decide)) ?_
  refine gw_aI (i := (26 : Int32)) (h.1.t (r := 66) rfl) (h.1.l (r := 66) rfl) (by omega) (by omega) (fun v1 ev1 => ?_)
  have bv1 := h.n26
  have cv1 : v1 = μ.2.1 66 26 := ev1
  have dv1 : v1.toInt = (μ.2.1 66 26).toInt := by rw [cv1]
  have n2 : (v1 - (1 : Int32)).toInt = v1.toInt - (1 : Int32).toInt := gx_sub (by omega) (by omega)
  refine gw_bI (s_X12_in  ) (fun x3 m3 ⟨z3, f3⟩ => ?_)
  replace z3 := z3.symm
  subst z3
  refine gw_z Iff.rfl (by omega) (gq_I ⟨rfl, by (have := h.n26; omega)⟩)
set_option maxHeartbeats 1000000 in
theorem s_X12_isUnder {μ : gm_M} {a0 : Int32} {a1 : Int32}  : gwI (f_X12_isUnder a0 a1 μ) (fun x m => m = μ ∧ (x.toInt = 0 ∨ x.toInt = 1)) := by
  refine gwI_of ?_
  unfold f_X12_isUnder
  have l0 : (0 : Int32).toInt = 0 := rfl
  have l1 : (1 : Int32).toInt = 1 := rfl
  have l3 : (3 : Int32).toInt = 3 := rfl
  have l4 : (4 : Int32).toInt = 4 := rfl
  refine gw_j (fun s1 => True) (fun s1 _ => ?_) (fun j2 hj2 => ?_)
  ·
    refine gw_z Iff.rfl (by omega) (gq_I ⟨rfl, by omega⟩)
  ·
    refine gw_eq (fun h1_3 => ?_) (fun h1_3 => ?_)
    ·
      exact hj2 _ trivial
    ·
      refine gw_eq (fun h6_4 => ?_) (fun h6_4 => ?_)
      ·
        exact hj2 _ trivial
      ·
        refine gw_le (fun h10_5 => ?_) (fun h10_5 => ?_)
        ·
          refine gw_z Iff.rfl (by omega) (gq_I ⟨rfl, by omega⟩)
        ·
          refine gw_le (fun h15_6 => ?_) (fun h15_6 => ?_)
          ·
            refine gw_z Iff.rfl (by omega) (gq_I ⟨rfl, by omega⟩)
          ·
            refine gw_ne (fun h22_7 => ?_) (fun h22_7 => ?_)
            ·
              refine gw_z Iff.rfl (by omega) (gq_I ⟨rfl, by omega⟩)
            ·
              exact hj2 _ trivial
set_option maxHeartbeats 1000000 in
theorem s_X12_likelyOf {μ : gm_M} {a0 : Int32} {a1 : Int32}  : gwI (f_X12_likelyOf a0 a1 μ) (fun x m => m = μ) := by
  refine gwI_of ?_
  unfold f_X12_likelyOf
  have l0 : (0 : Int32).toInt = 0 := rfl
  have l1 : (1 : Int32).toInt = 1 := rfl
  have l10 : (10 : Int32).toInt = 10 := rfl
  refine gw_loop (fun s1 => s1.2.2 = μ ∧ (0 ≤ s1.2.1.toInt ∧ s1.2.1.toInt ≤ 10)) (fun s1 => (10 - s1.2.1.toInt)) (fun s1 ⟨k2, u3⟩ => ?_) 5000 ((0 : Int32), (0 : Int32), μ) ⟨rfl, (by show 0 ≤ (0 : Int32).toInt ∧ (0 : Int32).toInt ≤ 10; omega)⟩ (by show (10 - (0 : Int32).toInt) < ((5000 : Nat) : Int); omega) (by show 0 ≤ (10 - (0 : Int32).toInt); omega)
  refine gw_le (fun h7_4 => ?_) (fun h7_4 => ?_)
  ·
    exact gw_some (gs_inr (gq_I k2))
  ·
    refine gw_bI (s_X12_thin  ) (fun x5 m5 z5 => ?_)
    replace z5 := z5.symm
    subst z5
    refine gw_j (fun s6 => True) (fun s6 _ => ?_) (fun j7 hj7 => ?_)
    ·
      have n8 : (s1.2.1 + (1 : Int32)).toInt = s1.2.1.toInt + (1 : Int32).toInt := gx_add (by omega) (by omega)
      exact gw_some (gs_inl ⟨k2, (by show 0 ≤ (s1.2.1 + (1 : Int32)).toInt ∧ (s1.2.1 + (1 : Int32)).toInt ≤ 10; omega)⟩ (by show (10 - (s1.2.1 + (1 : Int32)).toInt) < (10 - s1.2.1.toInt); omega) (by show 0 ≤ (10 - (s1.2.1 + (1 : Int32)).toInt); omega))
    ·
      refine gw_lt (fun h17_9 => ?_) (fun h17_9 => ?_)
      ·
        exact hj7 _ trivial
      ·
        exact hj7 _ trivial
set_option maxHeartbeats 1000000 in
theorem s_X12_tellsOf {μ : gm_M} (h : MI μ) {a1 : Int32} {a2 : Int32} (q0 : 0 ≤ a1.toInt ∧ a1.toInt ≤ 400) : gwI (f_X12_tellsOf 65 a1 a2 μ) (fun x m => m = μ ∧ (((μ.2.1 66 32).toInt = -1 ∧ x = a2) ∨ (0 ≤ (μ.2.1 66 32).toInt ∧ (μ.2.1 66 32).toInt ≤ 4 ∧ x = μ.2.1 66 (a1.toInt + (μ.2.1 66 32).toInt).toNat))) := by
  refine gwI_of ?_
  unfold f_X12_tellsOf
  have lm1 : (-1 : Int32).toInt = -1 := rfl
  have l32 : (32 : Int32).toInt = 32 := rfl
  have k0 := km.refl A0 μ
  refine gw_gRa 66 (h.1.c (r := 65) rfl) (h.1.r (by decide)) ?_
  refine gw_aI (i := (32 : Int32)) (h.1.t (r := 66) rfl) (h.1.l (r := 66) rfl) (by omega) (by omega) (fun v1 ev1 => ?_)
  have bv1 := h.n32
  have cv1 : v1 = μ.2.1 66 32 := ev1
  have dv1 : v1.toInt = (μ.2.1 66 32).toInt := by rw [cv1]
  refine gw_ne (fun h8_2 => ?_) (fun h8_2 => ?_)
  ·
    refine gw_gRa 66 (h.1.c (r := 65) rfl) (h.1.r (by decide)) ?_
    refine gw_gRa 66 (h.1.c (r := 65) rfl) (h.1.r (by decide)) ?_
    refine gw_aI (i := (32 : Int32)) (h.1.t (r := 66) rfl) (h.1.l (r := 66) rfl) (by omega) (by omega) (fun v3 ev3 => ?_)
    have bv3 := h.n32
    have cv3 : v3 = μ.2.1 66 32 := ev3
    have dv3 : v3.toInt = (μ.2.1 66 32).toInt := by rw [cv3]
    have n4 : (a1 + v3).toInt = a1.toInt + v3.toInt := gx_add (by omega) (by omega)
    refine gw_aI (i := (a1 + v3)) (h.1.t (r := 66) rfl) (h.1.l (r := 66) rfl) (by omega) (by omega) (fun v5 ev5 => ?_)
    exact gw_some (gq_I ⟨rfl, by (first | exact Or.inl ⟨by omega, rfl⟩ | exact Or.inr ⟨by omega, by omega, by rw [ev5, n4, dv3]⟩)⟩)
  ·
    exact gw_some (gq_I ⟨rfl, by (first | exact Or.inl ⟨by omega, rfl⟩ | exact Or.inr ⟨by omega, by omega, by rw [ev5, n4, dv3]⟩)⟩)
set_option maxHeartbeats 1000000 in
theorem s_X12_sweetNow {μ : gm_M} (h : MI μ)   : gwI (f_X12_sweetNow 65 μ) (fun x m => m = μ) := by
  refine gwI_of ?_
  unfold f_X12_sweetNow
  have l20 : (20 : Int32).toInt = 20 := rfl
  have l215 : (215 : Int32).toInt = 215 := rfl
  have k0 := km.refl A0 μ
  refine gw_if (h.1.t (r := 65) rfl) ?_
  refine gw_bI (s_X12_tellsOf h  (by omega)) (fun x1 m1 ⟨z1, f1⟩ => ?_)
  replace z1 := z1.symm
  subst z1
  exact gw_some (gq_I rfl)
set_option maxHeartbeats 1000000 in
theorem s_X12_chewsOf {μ : gm_M} (h : MI μ) {a1 : Int32} (q0 : 0 ≤ a1.toInt ∧ a1.toInt < 5) : gwI (f_X12_chewsOf 65 a1 μ) (fun x m => m = μ) := by
  refine gwI_of ?_
  unfold f_X12_chewsOf
  have l0 : (0 : Int32).toInt = 0 := rfl
  have l1 : (1 : Int32).toInt = 1 := rfl
  have l2 : (2 : Int32).toInt = 2 := rfl
  have l3 : (3 : Int32).toInt = 3 := rfl
  have l4 : (4 : Int32).toInt = 4 := rfl
  have l5 : (5 : Int32).toInt = 5 := rfl
  have l6 : (6 : Int32).toInt = 6 := rfl
  have l33 : (33 : Int32).toInt = 33 := rfl
  have l38 : (38 : Int32).toInt = 38 := rfl
  have l43 : (43 : Int32).toInt = 43 := rfl
  have k0 := km.refl A0 μ
  refine gw_gRa 66 (h.1.c (r := 65) rfl) (h.1.r (by decide)) ?_
  have n1 : ((38 : Int32) + a1).toInt = (38 : Int32).toInt + a1.toInt := gx_add (by omega) (by omega)
  refine gw_aI (i := ((38 : Int32) + a1)) (h.1.t (r := 66) rfl) (h.1.l (r := 66) rfl) (by omega) (by omega) (fun v2 ev2 => ?_)
  refine gw_dv (by omega) ?_
  refine gw_gRa 66 (h.1.c (r := 65) rfl) (h.1.r (by decide)) ?_
  have n3 : ((33 : Int32) + a1).toInt = (33 : Int32).toInt + a1.toInt := gx_add (by omega) (by omega)
  refine gw_aI (i := ((33 : Int32) + a1)) (h.1.t (r := 66) rfl) (h.1.l (r := 66) rfl) (by omega) (by omega) (fun v4 ev4 => ?_)
  refine gw_eq (fun h23_5 => ?_) (fun h23_5 => ?_)
  ·
    exact gw_some (gq_I rfl)
  ·
    refine gw_eq (fun h23_6 => ?_) (fun h23_6 => ?_)
    ·
      refine gw_dv (by omega) ?_
      exact gw_some (gq_I rfl)
    ·
      refine gw_eq (fun h23_7 => ?_) (fun h23_7 => ?_)
      ·
        refine gw_bI (s_X12_above  ) (fun x8 m8 z8 => ?_)
        replace z8 := z8.symm
        subst z8
        exact gw_some (gq_I rfl)
      ·
        refine gw_eq (fun h23_9 => ?_) (fun h23_9 => ?_)
        ·
          refine gw_gRa 66 (h.1.c (r := 65) rfl) (h.1.r (by decide)) ?_
          have n10 : ((1 : Int32) + a1).toInt = (1 : Int32).toInt + a1.toInt := gx_add (by omega) (by omega)
          refine gw_aI (i := ((1 : Int32) + a1)) (h.1.t (r := 66) rfl) (h.1.l (r := 66) rfl) (by omega) (by omega) (fun v11 ev11 => ?_)
          exact gw_some (gq_I rfl)
        ·
          refine gw_eq (fun h23_12 => ?_) (fun h23_12 => ?_)
          ·
            refine gw_dv (by omega) ?_
            exact gw_some (gq_I rfl)
          ·
            refine gw_eq (fun h23_13 => ?_) (fun h23_13 => ?_)
            ·
              refine gw_bI (s_X12_above  ) (fun x14 m14 z14 => ?_)
              replace z14 := z14.symm
              subst z14
              refine gw_gRa 66 (h.1.c (r := 65) rfl) (h.1.r (by decide)) ?_
              refine gw_gRa 66 (h.1.c (r := 65) rfl) (h.1.r (by decide)) ?_
              refine gw_aI (i := (0 : Int32)) (h.1.t (r := 66) rfl) (h.1.l (r := 66) rfl) (by omega) (by omega) (fun v15 ev15 => ?_)
              refine gw_dv (by omega) ?_
              have n16 : ((4 : Int32) * a1).toInt = 4 * a1.toInt := gx_mul 4 rfl (by omega) (by omega)
              have n17 : ((43 : Int32) + ((4 : Int32) * a1)).toInt = (43 : Int32).toInt + ((4 : Int32) * a1).toInt := gx_add (by omega) (by omega)
              have n18 := gx_remk4 v15
              have n19 : (((43 : Int32) + ((4 : Int32) * a1)) + (v15 - v15 / (4 : Int32) * (4 : Int32))).toInt = ((43 : Int32) + ((4 : Int32) * a1)).toInt + (v15 - v15 / (4 : Int32) * (4 : Int32)).toInt := gx_add (by omega) (by omega)
              refine gw_aI (i := (((43 : Int32) + ((4 : Int32) * a1)) + (v15 - v15 / (4 : Int32) * (4 : Int32)))) (h.1.t (r := 66) rfl) (h.1.l (r := 66) rfl) (by omega) (by omega) (fun v20 ev20 => ?_)
              exact gw_some (gq_I rfl)
            ·
              exact gw_some (gq_I rfl)
set_option maxHeartbeats 1000000 in
theorem s_X12_tiresOf {μ : gm_M} (h : MI μ) {a1 : Int32} (q0 : 0 ≤ a1.toInt ∧ a1.toInt < 5) : gwI (f_X12_tiresOf 65 a1 μ) (fun x m => m = μ) := by
  refine gwI_of ?_
  unfold f_X12_tiresOf
  have l1 : (1 : Int32).toInt = 1 := rfl
  have l2 : (2 : Int32).toInt = 2 := rfl
  have l3 : (3 : Int32).toInt = 3 := rfl
  have l4 : (4 : Int32).toInt = 4 := rfl
  have l5 : (5 : Int32).toInt = 5 := rfl
  have l6 : (6 : Int32).toInt = 6 := rfl
  have l33 : (33 : Int32).toInt = 33 := rfl
  have k0 := km.refl A0 μ
  refine gw_gRa 66 (h.1.c (r := 65) rfl) (h.1.r (by decide)) ?_
  have n1 : ((1 : Int32) + a1).toInt = (1 : Int32).toInt + a1.toInt := gx_add (by omega) (by omega)
  refine gw_aI (i := ((1 : Int32) + a1)) (h.1.t (r := 66) rfl) (h.1.l (r := 66) rfl) (by omega) (by omega) (fun v2 ev2 => ?_)
  refine gw_gRa 66 (h.1.c (r := 65) rfl) (h.1.r (by decide)) ?_
  have n3 : ((33 : Int32) + a1).toInt = (33 : Int32).toInt + a1.toInt := gx_add (by omega) (by omega)
  refine gw_aI (i := ((33 : Int32) + a1)) (h.1.t (r := 66) rfl) (h.1.l (r := 66) rfl) (by omega) (by omega) (fun v4 ev4 => ?_)
  refine gw_eq (fun h18_5 => ?_) (fun h18_5 => ?_)
  ·
    exact gw_some (gq_I rfl)
  ·
    refine gw_eq (fun h18_6 => ?_) (fun h18_6 => ?_)
    ·
      exact gw_some (gq_I rfl)
    ·
      refine gw_eq (fun h18_7 => ?_) (fun h18_7 => ?_)
      ·
        exact gw_some (gq_I rfl)
      ·
        refine gw_eq (fun h18_8 => ?_) (fun h18_8 => ?_)
        ·
          refine gw_dv (by omega) ?_
          exact gw_some (gq_I rfl)
        ·
          refine gw_eq (fun h18_9 => ?_) (fun h18_9 => ?_)
          ·
            exact gw_some (gq_I rfl)
          ·
            exact gw_some (gq_I rfl)
set_option maxHeartbeats 1000000 in
theorem s_X12_allOf {μ : gm_M} (h : MI μ) {a1 : Int32} (q0 : 0 ≤ a1.toInt ∧ a1.toInt ≤ 400) : gwI (f_X12_allOf 65 a1 μ) (fun x m => m = μ) := by
  refine gwI_of ?_
  unfold f_X12_allOf
  have l0 : (0 : Int32).toInt = 0 := rfl
  have l1 : (1 : Int32).toInt = 1 := rfl
  have l26 : (26 : Int32).toInt = 26 := rfl
  have k0 := km.refl A0 μ
  refine gw_loop (fun s1 => (0 ≤ s1.2.toInt ∧ s1.2.toInt ≤ 5)) (fun s1 => (5 - s1.2.toInt)) (fun s1 u2 => ?_) 5000 ((0 : Int32), (0 : Int32)) (by show 0 ≤ (0 : Int32).toInt ∧ (0 : Int32).toInt ≤ 5; omega) (by show (5 - (0 : Int32).toInt) < ((5000 : Nat) : Int); omega) (by show 0 ≤ (5 - (0 : Int32).toInt); omega)
  refine gw_gRa 66 (h.1.c (r := 65) rfl) (h.1.r (by decide)) ?_
  refine gw_aI (i := (26 : Int32)) (h.1.t (r := 66) rfl) (h.1.l (r := 66) rfl) (by omega) (by omega) (fun v3 ev3 => ?_)
  have bv3 := h.n26
  have cv3 : v3 = μ.2.1 66 26 := ev3
  have dv3 : v3.toInt = (μ.2.1 66 26).toInt := by rw [cv3]
  refine gw_le (fun h12_4 => ?_) (fun h12_4 => ?_)
  ·
    exact gw_some (gs_inr (gq_I rfl))
  ·
    refine gw_gRa 66 (h.1.c (r := 65) rfl) (h.1.r (by decide)) ?_
    have n5 : (a1 + s1.2).toInt = a1.toInt + s1.2.toInt := gx_add (by omega) (by omega)
    refine gw_aI (i := (a1 + s1.2)) (h.1.t (r := 66) rfl) (h.1.l (r := 66) rfl) (by omega) (by omega) (fun v6 ev6 => ?_)
    have n7 : (s1.2 + (1 : Int32)).toInt = s1.2.toInt + (1 : Int32).toInt := gx_add (by omega) (by omega)
    exact gw_some (gs_inl (by show 0 ≤ (s1.2 + (1 : Int32)).toInt ∧ (s1.2 + (1 : Int32)).toInt ≤ 5; omega) (by show (5 - (s1.2 + (1 : Int32)).toInt) < (5 - s1.2.toInt); omega) (by show 0 ≤ (5 - (s1.2 + (1 : Int32)).toInt); omega))
set_option maxHeartbeats 1000000 in
theorem s_X12_bubbles {μ : gm_M} (h : MI μ)   : gwI (f_X12_bubbles 65 μ) (fun x m => m = μ) := by
  refine gwI_of ?_
  unfold f_X12_bubbles
  have l0 : (0 : Int32).toInt = 0 := rfl
  have l1 : (1 : Int32).toInt = 1 := rfl
  have l16 : (16 : Int32).toInt = 16 := rfl
  have l26 : (26 : Int32).toInt = 26 := rfl
  have k0 := km.refl A0 μ
  refine gw_loop (fun s1 => (0 ≤ s1.2.toInt ∧ s1.2.toInt ≤ 5)) (fun s1 => (5 - s1.2.toInt)) (fun s1 u2 => ?_) 5000 ((0 : Int32), (0 : Int32)) (by show 0 ≤ (0 : Int32).toInt ∧ (0 : Int32).toInt ≤ 5; omega) (by show (5 - (0 : Int32).toInt) < ((5000 : Nat) : Int); omega) (by show 0 ≤ (5 - (0 : Int32).toInt); omega)
  refine gw_gRa 66 (h.1.c (r := 65) rfl) (h.1.r (by decide)) ?_
  refine gw_aI (i := (26 : Int32)) (h.1.t (r := 66) rfl) (h.1.l (r := 66) rfl) (by omega) (by omega) (fun v3 ev3 => ?_)
  have bv3 := h.n26
  have cv3 : v3 = μ.2.1 66 26 := ev3
  have dv3 : v3.toInt = (μ.2.1 66 26).toInt := by rw [cv3]
  refine gw_le (fun h12_4 => ?_) (fun h12_4 => ?_)
  ·
    exact gw_some (gs_inr (gq_I rfl))
  ·
    refine gw_gRa 66 (h.1.c (r := 65) rfl) (h.1.r (by decide)) ?_
    have n5 : ((16 : Int32) + s1.2).toInt = (16 : Int32).toInt + s1.2.toInt := gx_add (by omega) (by omega)
    refine gw_aI (i := ((16 : Int32) + s1.2)) (h.1.t (r := 66) rfl) (h.1.l (r := 66) rfl) (by omega) (by omega) (fun v6 ev6 => ?_)
    refine gw_j (fun s7 => True) (fun s7 _ => ?_) (fun j8 hj8 => ?_)
    ·
      have n9 : (s1.2 + (1 : Int32)).toInt = s1.2.toInt + (1 : Int32).toInt := gx_add (by omega) (by omega)
      exact gw_some (gs_inl (by show 0 ≤ (s1.2 + (1 : Int32)).toInt ∧ (s1.2 + (1 : Int32)).toInt ≤ 5; omega) (by show (5 - (s1.2 + (1 : Int32)).toInt) < (5 - s1.2.toInt); omega) (by show 0 ≤ (5 - (s1.2 + (1 : Int32)).toInt); omega))
    ·
      refine gw_le (fun h25_10 => ?_) (fun h25_10 => ?_)
      ·
        exact hj8 _ trivial
      ·
        exact hj8 _ trivial
end
section
theorem s_X12_keeps {μ : gm_M} (h : MI μ) : gwV (f_X12_keeps 65 μ) (fun m => kp μ m) := by
  refine gwV_of ?_
  unfold f_X12_keeps
  have l0 : (0 : Int32).toInt = 0 := rfl
  have l1 : (1 : Int32).toInt = 1 := rfl
  have l26 : (26 : Int32).toInt = 26 := rfl
  refine gw_loop (fun s => (0 ≤ s.1.toInt ∧ s.1.toInt ≤ 26) ∧ s.2.1 = μ.1 ∧ s.2.2.2 = μ.2.2 ∧ (∀ r : Nat, r ≠ 68 → s.2.2.1 r = μ.2.1 r) ∧ ∀ k : Nat, (k : Int) < s.1.toInt → s.2.2.1 68 k = μ.2.1 66 k) (fun s => 26 - s.1.toInt) (fun s ⟨h1, h2, h3, h4, h5⟩ => ?_) 5000 ((0 : Int32), μ) ⟨⟨by show 0 ≤ (0 : Int32).toInt; omega, by show (0 : Int32).toInt ≤ 26; omega⟩, rfl, rfl, fun _ _ => rfl, fun k hk => by have : (k : Int) < (0 : Int32).toInt := hk; omega⟩ (by show 26 - (0 : Int32).toInt < ((5000 : Nat) : Int); omega) (by show 0 ≤ 26 - (0 : Int32).toInt; omega)
  have hS : gS s.2 := h.1.same h2 h3
  refine gw_le (fun g => ?_) (fun g => ?_)
  · exact gw_some (gs_inr (gq_V ⟨h2, h3, h4, fun k hk => h5 k (by omega)⟩))
  · refine gw_gRa 68 (hS.c (r := 65) rfl) (hS.r (by decide)) ?_
    refine gw_gRa 66 (hS.c (r := 65) rfl) (hS.r (by decide)) ?_
    refine gw_aI (i := s.1) (hS.t (r := 66) rfl) (hS.l (r := 66) rfl) (by omega) (by omega) (fun v ev => ?_)
    refine gw_sI (i := s.1) (hS.t (r := 68) rfl) (hS.l (r := 68) rfl) (by omega) (by omega) (fun m em => ?_)
    subst em
    have n : (s.1 + (1 : Int32)).toInt = s.1.toInt + (1 : Int32).toInt := gx_add (by omega) (by omega)
    refine gw_some (gs_inl ⟨⟨by show 0 ≤ (s.1 + (1 : Int32)).toInt; omega, by show (s.1 + (1 : Int32)).toInt ≤ 26; omega⟩, h2, h3, fun r hr => ?_, fun k hk => ?_⟩ (by show 26 - (s.1 + (1 : Int32)).toInt < 26 - s.1.toInt; omega) (by show 0 ≤ 26 - (s.1 + (1 : Int32)).toInt; omega))
    · show gm_u s.2.2.1 68 s.1.toInt.toNat v r = _
      rw [gu_row hr]; exact h4 r hr
    · have hk : (k : Int) < (s.1 + (1 : Int32)).toInt := hk
      show gm_u s.2.2.1 68 s.1.toInt.toNat v 68 k = _
      by_cases e : k = s.1.toInt.toNat
      · subst e
        rw [gu_eq, ev, h4 66 (by decide)]
      · rw [gu_ne e]; exact h5 k (by omega)
theorem s_X12_goesBack {μ : gm_M} (h : MI μ) : gwV (f_X12_goesBack 65 μ) (fun m => km A1 μ m ∧ rs m) := by
  refine gwV_of ?_
  unfold f_X12_goesBack
  have l0 : (0 : Int32).toInt = 0 := rfl
  have l1 : (1 : Int32).toInt = 1 := rfl
  have l26 : (26 : Int32).toInt = 26 := rfl
  refine gw_loop (fun s => (0 ≤ s.1.toInt ∧ s.1.toInt ≤ 26) ∧ km A1 μ s.2 ∧ ∀ k : Nat, (k : Int) < s.1.toInt → s.2.2.1 66 k = μ.2.1 68 k) (fun s => 26 - s.1.toInt) (fun s ⟨h1, h2, h3⟩ => ?_) 5000 ((0 : Int32), μ) ⟨⟨by show 0 ≤ (0 : Int32).toInt; omega, by show (0 : Int32).toInt ≤ 26; omega⟩, km.refl A1 μ, fun k hk => by have : (k : Int) < (0 : Int32).toInt := hk; omega⟩ (by show 26 - (0 : Int32).toInt < ((5000 : Nat) : Int); omega) (by show 0 ≤ 26 - (0 : Int32).toInt; omega)
  have hS : gS s.2 := (h.of1 h2).1
  have e68 : s.2.2.1 68 = μ.2.1 68 := h2.2.2.1 68 (by decide) (by decide) (by decide) (by decide) (by decide) (by decide) (by decide)
  refine gw_le (fun g => ?_) (fun g => ?_)
  · exact gw_some (gs_inr (gq_V ⟨h2, fun k hk => by rw [h3 k (by omega), e68]⟩))
  · refine gw_gRa 66 (hS.c (r := 65) rfl) (hS.r (by decide)) ?_
    refine gw_gRa 68 (hS.c (r := 65) rfl) (hS.r (by decide)) ?_
    refine gw_aI (i := s.1) (hS.t (r := 68) rfl) (hS.l (r := 68) rfl) (by omega) (by omega) (fun v ev => ?_)
    refine gw_sI (i := s.1) (hS.t (r := 66) rfl) (hS.l (r := 66) rfl) (by omega) (by omega) (fun m em => ?_)
    have hk1 := h2.ws em (by unfold A1; omega)
    subst em
    have n : (s.1 + (1 : Int32)).toInt = s.1.toInt + (1 : Int32).toInt := gx_add (by omega) (by omega)
    refine gw_some (gs_inl ⟨⟨by show 0 ≤ (s.1 + (1 : Int32)).toInt; omega, by show (s.1 + (1 : Int32)).toInt ≤ 26; omega⟩, hk1, fun k hk => ?_⟩ (by show 26 - (s.1 + (1 : Int32)).toInt < 26 - s.1.toInt; omega) (by show 0 ≤ 26 - (s.1 + (1 : Int32)).toInt; omega))
    have hk : (k : Int) < (s.1 + (1 : Int32)).toInt := hk
    show gm_u s.2.2.1 66 s.1.toInt.toNat v 66 k = _
    by_cases e : k = s.1.toInt.toNat
    · subst e
      rw [gu_eq, ev, e68]
    · rw [gu_ne e]; exact h3 k (by omega)
theorem gx_l0 {x : Int64} : x = 0 ↔ x.toInt = 0 := by
  constructor
  · intro e; rw [e]; rfl
  · intro e; exact Int64.toInt_inj.mp e
theorem gx_lcmp (x : Int64) : lg_cmp x 0 = 0 ↔ x.toInt = 0 := by
  rw [← gx_l0]
  constructor
  · intro e
    unfold lg_cmp at e
    by_cases h : x = 0
    · exact h
    · exfalso
      simp only [h, if_false] at e
      split at e <;> first | exact absurd e (by decide) | (split at e <;> exact absurd e (by decide))
  · intro e
    subst e
    simp [lg_cmp]
theorem s_X12_lowest {μ : gm_M} {a0 a1 : Int64} {a2 : Int32} (q0 : 1 ≤ a1.toInt ∧ a1.toInt ≤ 1000) : gwL (f_X12_lowest a0 a1 a2 μ) (fun x m => m = μ) := by
  refine gwL_of ?_
  unfold f_X12_lowest
  refine gw_loop (fun s => s.2.toInt.natAbs ≤ 1000 ∧ (s.2.toInt = 0 → s.1.toInt ≠ 0)) (fun s => (s.2.toInt.natAbs : Int)) (fun s ⟨h1, h2⟩ => ?_) 5000 (a0, a1) ⟨by show a1.toInt.natAbs ≤ 1000; omega, fun e => by have : a1.toInt = 0 := e; omega⟩ (by show (a1.toInt.natAbs : Int) < ((5000 : Nat) : Int); omega) (by show 0 ≤ (a1.toInt.natAbs : Int); omega)
  refine gw_ite (fun g => ?_) (fun g => ?_)
  · rw [gx_lcmp] at g
    have hx := h2 g
    have hne : ¬ s.1 = 0 := fun e => hx (gx_l0.mp e)
    refine gw_j (fun _ => True) (fun s2 _ => ?_) (fun j hj => ?_)
    · rw [if_neg hne]
      exact gw_some (gs_inr (gq_L rfl))
    · exact gw_ite (fun _ => hj _ trivial) (fun _ => hj _ trivial)
  · rw [gx_lcmp] at g
    have hne : ¬ s.2 = 0 := fun e => g (gx_l0.mp e)
    rw [if_neg hne, gx_mod64]
    have e : (s.1 % s.2).toInt = s.1.toInt.tmod s.2.toInt := Int64.toInt_mod _ _
    have b : (s.1.toInt.tmod s.2.toInt).natAbs < s.2.toInt.natAbs := by
      rw [Int.natAbs_tmod]
      exact Nat.mod_lt _ (by omega)
    exact gw_some (gs_inl ⟨by show (s.1 % s.2).toInt.natAbs ≤ 1000; rw [e]; omega, fun _ => by show s.2.toInt ≠ 0; exact g⟩ (by show ((s.1 % s.2).toInt.natAbs : Int) < (s.2.toInt.natAbs : Int); rw [e]; omega) (by show 0 ≤ ((s.1 % s.2).toInt.natAbs : Int); omega))
theorem MI.lk {μ : gm_M} (h : MI μ) {x : Int32} (f : ((μ.2.1 66 32).toInt = -1 ∧ x = 0) ∨ (0 ≤ (μ.2.1 66 32).toInt ∧ (μ.2.1 66 32).toInt ≤ 4 ∧ x = μ.2.1 66 ((220 : Int32).toInt + (μ.2.1 66 32).toInt).toNat)) : 0 ≤ x.toInt ∧ x.toInt ≤ 139 ∧ ∃ tp : Nat → Nat, tp 0 = 0 ∧ ∀ i : Nat, (i : Int) < x.toInt → wst (μ.2.1 66 ((225 + 140 * (μ.2.1 66 32).toInt) + (i : Int)).toNat) (tp i) (tp (i + 1)) := by
  have l0 : (0 : Int32).toInt = 0 := rfl
  have l220 : (220 : Int32).toInt = 220 := rfl
  rcases f with ⟨-, b⟩ | ⟨a1, a2, b⟩
  · subst b
    exact ⟨by omega, by omega, fun _ => 0, rfl, fun i hi => by omega⟩
  · obtain ⟨w1, w2, tp, w3, w4⟩ := h.prog (μ.2.1 66 32).toInt.toNat (by omega)
    rw [show ((220 : Int32).toInt + (μ.2.1 66 32).toInt).toNat = 220 + (μ.2.1 66 32).toInt.toNat by omega] at b
    rw [← b] at w1 w2 w4
    refine ⟨w1, w2, tp, w3, fun i hi => ?_⟩
    rw [show ((225 + 140 * (μ.2.1 66 32).toInt) + (i : Int)).toNat = 225 + 140 * (μ.2.1 66 32).toInt.toNat + i by omega]
    exact w4 i hi
end
section
set_option maxHeartbeats 1000000 in
theorem s_X12_looks {μ : gm_M} (h : MI μ) {a1 : Int32} (q0 : 0 ≤ a1.toInt ∧ a1.toInt < 5) : gwI (f_X12_looks 65 a1 μ) (fun x m => km A0 μ m) := by
  refine gwI_of ?_
  unfold f_X12_looks
  have lm200 : (-200 : Int32).toInt = -200 := rfl
  have lm10 : (-10 : Int32).toInt = -10 := rfl
  have lm2 : (-2 : Int32).toInt = -2 := rfl
  have lm1 : (-1 : Int32).toInt = -1 := rfl
  have l0 : (0 : Int32).toInt = 0 := rfl
  have l1 : (1 : Int32).toInt = 1 := rfl
  have l2 : (2 : Int32).toInt = 2 := rfl
  have l3 : (3 : Int32).toInt = 3 := rfl
  have l4 : (4 : Int32).toInt = 4 := rfl
  have l5 : (5 : Int32).toInt = 5 := rfl
  have l6 : (6 : Int32).toInt = 6 := rfl
  have l8 : (8 : Int32).toInt = 8 := rfl
  have l10 : (10 : Int32).toInt = 10 := rfl
  have l32 : (32 : Int32).toInt = 32 := rfl
  have l33 : (33 : Int32).toInt = 33 := rfl
  have l38 : (38 : Int32).toInt = 38 := rfl
  have l140 : (140 : Int32).toInt = 140 := rfl
  have l220 : (220 : Int32).toInt = 220 := rfl
  have l225 : (225 : Int32).toInt = 225 := rfl
  have k0 := km.refl A0 μ
  refine gw_gRa 69 ((h.of0 k0).1.c (r := 65) rfl) ((h.of0 k0).1.r (by decide)) ?_
  refine gw_sI (i := (0 : Int32)) ((h.of0 k0).1.t (r := 69) rfl) ((h.of0 k0).1.l (r := 69) rfl) (by omega) (by omega) (fun m1 em1 => ?_)
  have km1 := k0.wr em1 (by decide)
  refine gw_gRa 69 ((h.of0 km1).1.c (r := 65) rfl) ((h.of0 km1).1.r (by decide)) ?_
  refine gw_gRa 66 ((h.of0 km1).1.c (r := 65) rfl) ((h.of0 km1).1.r (by decide)) ?_
  have n2 : ((33 : Int32) + a1).toInt = (33 : Int32).toInt + a1.toInt := gx_add (by omega) (by omega)
  refine gw_aI (i := ((33 : Int32) + a1)) ((h.of0 km1).1.t (r := 66) rfl) ((h.of0 km1).1.l (r := 66) rfl) (by omega) (by omega) (fun v3 ev3 => ?_)
  refine gw_sI (i := (1 : Int32)) ((h.of0 km1).1.t (r := 69) rfl) ((h.of0 km1).1.l (r := 69) rfl) (by omega) (by omega) (fun m4 em4 => ?_)
  have km4 := km1.wr em4 (by decide)
  refine gw_gRa 69 ((h.of0 km4).1.c (r := 65) rfl) ((h.of0 km4).1.r (by decide)) ?_
  refine gw_gRa 66 ((h.of0 km4).1.c (r := 65) rfl) ((h.of0 km4).1.r (by decide)) ?_
  have n5 : ((38 : Int32) + a1).toInt = (38 : Int32).toInt + a1.toInt := gx_add (by omega) (by omega)
  refine gw_aI (i := ((38 : Int32) + a1)) ((h.of0 km4).1.t (r := 66) rfl) ((h.of0 km4).1.l (r := 66) rfl) (by omega) (by omega) (fun v6 ev6 => ?_)
  refine gw_sI (i := (2 : Int32)) ((h.of0 km4).1.t (r := 69) rfl) ((h.of0 km4).1.l (r := 69) rfl) (by omega) (by omega) (fun m7 em7 => ?_)
  have km7 := km4.wr em7 (by decide)
  refine gw_gRa 69 ((h.of0 km7).1.c (r := 65) rfl) ((h.of0 km7).1.r (by decide)) ?_
  refine gw_gRa 66 ((h.of0 km7).1.c (r := 65) rfl) ((h.of0 km7).1.r (by decide)) ?_
  have n8 : ((1 : Int32) + a1).toInt = (1 : Int32).toInt + a1.toInt := gx_add (by omega) (by omega)
  refine gw_aI (i := ((1 : Int32) + a1)) ((h.of0 km7).1.t (r := 66) rfl) ((h.of0 km7).1.l (r := 66) rfl) (by omega) (by omega) (fun v9 ev9 => ?_)
  refine gw_sI (i := (3 : Int32)) ((h.of0 km7).1.t (r := 69) rfl) ((h.of0 km7).1.l (r := 69) rfl) (by omega) (by omega) (fun m10 em10 => ?_)
  have km10 := km7.wr em10 (by decide)
  refine gw_gRa 69 ((h.of0 km10).1.c (r := 65) rfl) ((h.of0 km10).1.r (by decide)) ?_
  refine gw_gRa 66 ((h.of0 km10).1.c (r := 65) rfl) ((h.of0 km10).1.r (by decide)) ?_
  have n11 : ((6 : Int32) + a1).toInt = (6 : Int32).toInt + a1.toInt := gx_add (by omega) (by omega)
  refine gw_aI (i := ((6 : Int32) + a1)) ((h.of0 km10).1.t (r := 66) rfl) ((h.of0 km10).1.l (r := 66) rfl) (by omega) (by omega) (fun v12 ev12 => ?_)
  refine gw_dv (by omega) ?_
  refine gw_sI (i := (4 : Int32)) ((h.of0 km10).1.t (r := 69) rfl) ((h.of0 km10).1.l (r := 69) rfl) (by omega) (by omega) (fun m13 em13 => ?_)
  have km13 := km10.wr em13 (by decide)
  refine gw_gRa 69 ((h.of0 km13).1.c (r := 65) rfl) ((h.of0 km13).1.r (by decide)) ?_
  refine gw_gRa 66 ((h.of0 km13).1.c (r := 65) rfl) ((h.of0 km13).1.r (by decide)) ?_
  refine gw_aI (i := (0 : Int32)) ((h.of0 km13).1.t (r := 66) rfl) ((h.of0 km13).1.l (r := 66) rfl) (by omega) (by omega) (fun v14 ev14 => ?_)
  refine gw_dv (by omega) ?_
  refine gw_sI (i := (5 : Int32)) ((h.of0 km13).1.t (r := 69) rfl) ((h.of0 km13).1.l (r := 69) rfl) (by omega) (by omega) (fun m15 em15 => ?_)
  have km15 := km13.wr em15 (by decide)
  refine gw_if ((h.of0 km15).1.t (r := 65) rfl) ?_
  refine gw_bI (s_X12_tellsOf (h.of0 km15)  (by omega)) (fun x16 m16 ⟨z16, f16⟩ => ?_)
  replace z16 := z16.symm
  subst z16
  have ee : ∀ k : Nat, m15.2.1 66 k = μ.2.1 66 k := fun k => km15.2.2.2.1 k (fun q => q)
  obtain ⟨lx1, lx2, tp, lx3, lx4⟩ := (h.of0 km15).lk f16
  simp only [ee] at lx4
  clear f16
  refine gw_gRa 66 ((h.of0 km15).1.c (r := 65) rfl) ((h.of0 km15).1.r (by decide)) ?_
  refine gw_aI (i := (32 : Int32)) ((h.of0 km15).1.t (r := 66) rfl) ((h.of0 km15).1.l (r := 66) rfl) (by omega) (by omega) (fun v17 ev17 => ?_)
  have bv17 := (h.of0 km15).n32
  have cv17 : v17 = m15.2.1 66 32 := ev17
  have dv17 : v17.toInt = (m15.2.1 66 32).toInt := by rw [cv17]
  have yv17 : v17.toInt = (μ.2.1 66 32).toInt := by rw [dv17, km15.2.2.2.1 32 (by first | exact fun q => q | (unfold A0; omega))]
  have e32 : v17.toInt = (μ.2.1 66 32).toInt := by rw [ev17]; exact congrArg Int32.toInt (ee 32)
  have n19 : ((140 : Int32) * v17).toInt = 140 * v17.toInt := gx_mul 140 rfl (by omega) (by omega)
  have n20 : ((225 : Int32) + ((140 : Int32) * v17)).toInt = (225 : Int32).toInt + ((140 : Int32) * v17).toInt := gx_add (by omega) (by omega)
  refine gw_loop (fun s18 => km A0 μ s18.2.2.2 ∧ ((225 + 140 * (μ.2.1 66 32).toInt) ≤ s18.2.2.1.toInt ∧ s18.2.2.1.toInt ≤ (225 + 140 * (μ.2.1 66 32).toInt) + x16.toInt ∧ s18.2.1.toInt = ((tp (s18.2.2.1.toInt - (225 + 140 * (μ.2.1 66 32).toInt)).toNat : Nat) : Int))) (fun s18 => ((225 + 140 * (μ.2.1 66 32).toInt) + x16.toInt - s18.2.2.1.toInt)) (fun s18 ⟨k21, u22⟩ => ?_) 5000 ((0 : Int32), (0 : Int32), ((225 : Int32) + ((140 : Int32) * v17)), m15) ⟨km15, (by show (225 + 140 * (μ.2.1 66 32).toInt) ≤ ((225 : Int32) + ((140 : Int32) * v17)).toInt ∧ ((225 : Int32) + ((140 : Int32) * v17)).toInt ≤ (225 + 140 * (μ.2.1 66 32).toInt) + x16.toInt ∧ (0 : Int32).toInt = ((tp (((225 : Int32) + ((140 : Int32) * v17)).toInt - (225 + 140 * (μ.2.1 66 32).toInt)).toNat : Nat) : Int); refine ⟨by omega, by omega, ?_⟩; rw [show (((225 : Int32) + ((140 : Int32) * v17)).toInt - (225 + 140 * (μ.2.1 66 32).toInt)).toNat = 0 from by omega, lx3]; rfl)⟩ (by show ((225 + 140 * (μ.2.1 66 32).toInt) + x16.toInt - ((225 : Int32) + ((140 : Int32) * v17)).toInt) < ((5000 : Nat) : Int); omega) (by show 0 ≤ ((225 + 140 * (μ.2.1 66 32).toInt) + x16.toInt - ((225 : Int32) + ((140 : Int32) * v17)).toInt); omega)
  have n23 : ((140 : Int32) * v17).toInt = 140 * v17.toInt := gx_mul 140 rfl (by omega) (by omega)
  have n24 : ((225 : Int32) + ((140 : Int32) * v17)).toInt = (225 : Int32).toInt + ((140 : Int32) * v17).toInt := gx_add (by omega) (by omega)
  have n25 : (((225 : Int32) + ((140 : Int32) * v17)) + x16).toInt = ((225 : Int32) + ((140 : Int32) * v17)).toInt + x16.toInt := gx_add (by omega) (by omega)
  refine gw_le (fun h125_26 => ?_) (fun h125_26 => ?_)
  ·
    exact gw_some (gs_inr (gq_I k21))
  ·
    refine gw_gRa 66 ((h.of0 k21).1.c (r := 65) rfl) ((h.of0 k21).1.r (by decide)) ?_
    refine gw_aI (i := s18.2.2.1) ((h.of0 k21).1.t (r := 66) rfl) ((h.of0 k21).1.l (r := 66) rfl) (by omega) (by omega) (fun v27 ev27 => ?_)
    have gv27 : v27 = μ.2.1 66 ((225 + 140 * (μ.2.1 66 32).toInt) + (((s18.2.2.1.toInt - (225 + 140 * (μ.2.1 66 32).toInt)).toNat : Nat) : Int)).toNat := by rw [ev27, show ((225 + 140 * (μ.2.1 66 32).toInt) + (((s18.2.2.1.toInt - (225 + 140 * (μ.2.1 66 32).toInt)).toNat : Nat) : Int)).toNat = s18.2.2.1.toInt.toNat from by omega]; exact k21.2.2.2.1 _ (fun q => q)
    have wv27 := lx4 (s18.2.2.1.toInt - (225 + 140 * (μ.2.1 66 32).toInt)).toNat (by omega)
    rw [← gv27] at wv27
    generalize hT1 : tp (s18.2.2.1.toInt - (225 + 140 * (μ.2.1 66 32).toInt)).toNat = t1 at *
    generalize hT2 : tp ((s18.2.2.1.toInt - (225 + 140 * (μ.2.1 66 32).toInt)).toNat + 1) = t2 at *
    have ww := wv27
    refine gw_j (fun s28 => km A0 μ s28.2.2 ∧ (s28.2.1.toInt = (t2 : Int))) (fun s28 ⟨k30, u31⟩ => ?_) (fun j29 hj29 => ?_)
    ·
      have n32 : (s18.2.2.1 + (1 : Int32)).toInt = s18.2.2.1.toInt + (1 : Int32).toInt := gx_add (by omega) (by omega)
      exact gw_some (gs_inl ⟨k30, (by show (225 + 140 * (μ.2.1 66 32).toInt) ≤ (s18.2.2.1 + (1 : Int32)).toInt ∧ (s18.2.2.1 + (1 : Int32)).toInt ≤ (225 + 140 * (μ.2.1 66 32).toInt) + x16.toInt ∧ s28.2.1.toInt = ((tp ((s18.2.2.1 + (1 : Int32)).toInt - (225 + 140 * (μ.2.1 66 32).toInt)).toNat : Nat) : Int); refine ⟨by omega, by omega, ?_⟩; rw [show ((s18.2.2.1 + (1 : Int32)).toInt - (225 + 140 * (μ.2.1 66 32).toInt)).toNat = (s18.2.2.1.toInt - (225 + 140 * (μ.2.1 66 32).toInt)).toNat + 1 from by omega, hT2]; omega)⟩ (by show ((225 + 140 * (μ.2.1 66 32).toInt) + x16.toInt - (s18.2.2.1 + (1 : Int32)).toInt) < ((225 + 140 * (μ.2.1 66 32).toInt) + x16.toInt - s18.2.2.1.toInt); omega) (by show 0 ≤ ((225 + 140 * (μ.2.1 66 32).toInt) + x16.toInt - (s18.2.2.1 + (1 : Int32)).toInt); omega))
    ·
      refine gw_lt (fun h139_33 => ?_) (fun h139_33 => ?_)
      ·
        refine gw_ne (fun h239_34 => ?_) (fun h239_34 => ?_)
        ·
          refine gw_le (fun h275_35 => ?_) (fun h275_35 => ?_)
          ·
            have q1 := wst_D ww h275_35
            refine gw_gRa 70 ((h.of0 k21).1.c (r := 65) rfl) ((h.of0 k21).1.r (by decide)) ?_
            refine gw_aZ (i := (0 : Int32)) ((h.of0 k21).1.t (r := 70) rfl) ((h.of0 k21).1.l (r := 70) rfl) (by omega) (by omega) (fun v36 ev36 => ?_)
            refine gw_j (fun s37 => True) (fun s37 _ => ?_) (fun j38 hj38 => ?_)
            ·
              refine gw_j (fun s39 => True) (fun s39 _ => ?_) (fun j40 hj40 => ?_)
              ·
                exact hj29 _ ⟨k21, (by show (0 : Int32).toInt = (t2 : Int); omega)⟩
              ·
                refine gw_j (fun s41 => True) (fun s41 _ => ?_) (fun j42 hj42 => ?_)
                ·
                  exact hj40 _ trivial
                ·
                  refine gw_eq (fun _ => ?_) (fun _ => ?_)
                  ·
                    exact hj42 _ trivial
                  ·
                    refine gw_lt (fun _ => ?_) (fun _ => ?_)
                    ·
                      exact hj42 _ trivial
                    ·
                      exact hj40 _ trivial
            ·
              refine gw_j (fun s45 => True) (fun s45 _ => ?_) (fun j46 hj46 => ?_)
              ·
                exact hj38 _ trivial
              ·
                refine gw_eq (fun _ => ?_) (fun _ => ?_)
                ·
                  exact hj46 _ trivial
                ·
                  refine gw_le (fun _ => ?_) (fun _ => ?_)
                  ·
                    exact hj46 _ trivial
                  ·
                    exact hj38 _ trivial
          ·
            obtain ⟨q0, q1, q2⟩ := wst_C ww (by omega) (by omega)
            have n49 : (s18.2.1 + (-1 : Int32)).toInt = s18.2.1.toInt + (-1 : Int32).toInt := gx_add (by omega) (by omega)
            obtain ⟨w50, hw50⟩ : ∃ w : Int32, w = (s18.2.1 + (-1 : Int32)) := ⟨_, rfl⟩
            rw [← hw50]
            rw [← hw50] at n49
            refine gw_gRa 70 ((h.of0 k21).1.c (r := 65) rfl) ((h.of0 k21).1.r (by decide)) ?_
            refine gw_j (fun s51 => True) (fun s51 _ => ?_) (fun j52 hj52 => ?_)
            ·
              have n53 : (w50 - (1 : Int32)).toInt = w50.toInt - (1 : Int32).toInt := gx_sub (by omega) (by omega)
              refine gw_sZ (i := (w50 - (1 : Int32))) ((h.of0 k21).1.t (r := 70) rfl) ((h.of0 k21).1.l (r := 70) rfl) (by omega) (by omega) (fun m54 em54 => ?_)
              have km54 := k21.wr em54 (by decide)
              exact hj29 _ ⟨km54, (by show w50.toInt = (t2 : Int); omega)⟩
            ·
              refine gw_ne (fun _ => ?_) (fun _ => ?_)
              ·
                refine gw_gRa 70 ((h.of0 k21).1.c (r := 65) rfl) ((h.of0 k21).1.r (by decide)) ?_
                have n56 : (w50 - (1 : Int32)).toInt = w50.toInt - (1 : Int32).toInt := gx_sub (by omega) (by omega)
                refine gw_aZ (i := (w50 - (1 : Int32))) ((h.of0 k21).1.t (r := 70) rfl) ((h.of0 k21).1.l (r := 70) rfl) (by omega) (by omega) (fun v57 ev57 => ?_)
                refine gw_j (fun s58 => True) (fun s58 _ => ?_) (fun j59 hj59 => ?_)
                ·
                  exact hj52 _ trivial
                ·
                  refine gw_ne (fun _ => ?_) (fun _ => ?_)
                  ·
                    exact hj59 _ trivial
                  ·
                    refine gw_gRa 70 ((h.of0 k21).1.c (r := 65) rfl) ((h.of0 k21).1.r (by decide)) ?_
                    refine gw_aZ (i := w50) ((h.of0 k21).1.t (r := 70) rfl) ((h.of0 k21).1.l (r := 70) rfl) (by omega) (by omega) (fun v61 ev61 => ?_)
                    refine gw_eq (fun _ => ?_) (fun _ => ?_)
                    ·
                      exact hj52 _ trivial
                    ·
                      exact hj59 _ trivial
              ·
                refine gw_gRa 70 ((h.of0 k21).1.c (r := 65) rfl) ((h.of0 k21).1.r (by decide)) ?_
                have n63 : (w50 - (1 : Int32)).toInt = w50.toInt - (1 : Int32).toInt := gx_sub (by omega) (by omega)
                refine gw_aZ (i := (w50 - (1 : Int32))) ((h.of0 k21).1.t (r := 70) rfl) ((h.of0 k21).1.l (r := 70) rfl) (by omega) (by omega) (fun v64 ev64 => ?_)
                refine gw_j (fun s65 => True) (fun s65 _ => ?_) (fun j66 hj66 => ?_)
                ·
                  exact hj52 _ trivial
                ·
                  refine gw_eq (fun _ => ?_) (fun _ => ?_)
                  ·
                    exact hj66 _ trivial
                  ·
                    refine gw_gRa 70 ((h.of0 k21).1.c (r := 65) rfl) ((h.of0 k21).1.r (by decide)) ?_
                    refine gw_aZ (i := w50) ((h.of0 k21).1.t (r := 70) rfl) ((h.of0 k21).1.l (r := 70) rfl) (by omega) (by omega) (fun v68 ev68 => ?_)
                    refine gw_eq (fun _ => ?_) (fun _ => ?_)
                    ·
                      exact hj66 _ trivial
                    ·
                      exact hj52 _ trivial
        ·
          obtain ⟨q0, q1, q2⟩ := wst_B ww h239_34
          refine gw_gRa 70 ((h.of0 k21).1.c (r := 65) rfl) ((h.of0 k21).1.r (by decide)) ?_
          refine gw_gRa 70 ((h.of0 k21).1.c (r := 65) rfl) ((h.of0 k21).1.r (by decide)) ?_
          have n70 : (s18.2.1 - (1 : Int32)).toInt = s18.2.1.toInt - (1 : Int32).toInt := gx_sub (by omega) (by omega)
          refine gw_aZ (i := (s18.2.1 - (1 : Int32))) ((h.of0 k21).1.t (r := 70) rfl) ((h.of0 k21).1.l (r := 70) rfl) (by omega) (by omega) (fun v71 ev71 => ?_)
          refine gw_j (fun s72 => True) (fun s72 _ => ?_) (fun j73 hj73 => ?_)
          ·
            have n74 : (s18.2.1 - (1 : Int32)).toInt = s18.2.1.toInt - (1 : Int32).toInt := gx_sub (by omega) (by omega)
            refine gw_sZ (i := (s18.2.1 - (1 : Int32))) ((h.of0 k21).1.t (r := 70) rfl) ((h.of0 k21).1.l (r := 70) rfl) (by omega) (by omega) (fun m75 em75 => ?_)
            have km75 := k21.wr em75 (by decide)
            exact hj29 _ ⟨km75, (by show s18.2.1.toInt = (t2 : Int); omega)⟩
          ·
            refine gw_ne (fun _ => ?_) (fun _ => ?_)
            ·
              exact hj73 _ trivial
            ·
              exact hj73 _ trivial
      ·
        obtain ⟨q0, q1, q2, q3⟩ := wst_A ww h139_33
        refine gw_gRa 69 ((h.of0 k21).1.c (r := 65) rfl) ((h.of0 k21).1.r (by decide)) ?_
        refine gw_dv (by omega) ?_
        have n77 := gx_remk8 (x := v27) (by omega)
        refine gw_aI (i := (v27 - v27 / (8 : Int32) * (8 : Int32))) ((h.of0 k21).1.t (r := 69) rfl) ((h.of0 k21).1.l (r := 69) rfl) (by omega) (by omega) (fun v78 ev78 => ?_)
        refine gw_dv (by omega) ?_
        refine gw_dv (by omega) ?_
        refine gw_dv (by omega) ?_
        refine gw_gRa 70 ((h.of0 k21).1.c (r := 65) rfl) ((h.of0 k21).1.r (by decide)) ?_
        refine gw_j (fun s79 => True) (fun s79 _ => ?_) (fun j80 hj80 => ?_)
        ·
          refine gw_sZ (i := s18.2.1) ((h.of0 k21).1.t (r := 70) rfl) ((h.of0 k21).1.l (r := 70) rfl) (by omega) (by omega) (fun m81 em81 => ?_)
          have km81 := k21.wr em81 (by decide)
          have n82 : (s18.2.1 + (1 : Int32)).toInt = s18.2.1.toInt + (1 : Int32).toInt := gx_add (by omega) (by omega)
          exact hj29 _ ⟨km81, (by show (s18.2.1 + (1 : Int32)).toInt = (t2 : Int); omega)⟩
        ·
          refine gw_ne (fun _ => ?_) (fun _ => ?_)
          ·
            refine gw_ne (fun _ => ?_) (fun _ => ?_)
            ·
              refine gw_le (fun _ => ?_) (fun _ => ?_)
              ·
                exact hj80 _ trivial
              ·
                exact hj80 _ trivial
            ·
              refine gw_ne (fun _ => ?_) (fun _ => ?_)
              ·
                exact hj80 _ trivial
              ·
                exact hj80 _ trivial
          ·
            refine gw_le (fun _ => ?_) (fun _ => ?_)
            ·
              exact hj80 _ trivial
            ·
              exact hj80 _ trivial
end
section
set_option maxHeartbeats 1000000 in
theorem s_X12_stretchOf {μ : gm_M} (h : MI μ) {a1 : Int32} (q0 : 0 ≤ a1.toInt ∧ a1.toInt < 5) : gwI (f_X12_stretchOf 65 a1 μ) (fun x m => km A0 μ m) := by
  refine gwI_of ?_
  unfold f_X12_stretchOf
  have l1 : (1 : Int32).toInt = 1 := rfl
  have l30 : (30 : Int32).toInt = 30 := rfl
  have l1000000 : (1000000 : Int32).toInt = 1000000 := rfl
  have k0 := km.refl A0 μ
  refine gw_if ((h.of0 k0).1.t (r := 65) rfl) ?_
  refine gw_bI (s_X12_looks (h.of0 k0)  (by omega)) (fun x1 m1 g1 => ?_)
  have kk1 := k0.trans g1.w00
  refine gw_bI (s_X12_within  ) (fun x2 m2 z2 => ?_)
  replace z2 := z2.symm
  subst z2
  exact gw_some (gq_I kk1)
set_option maxHeartbeats 1000000 in
theorem s_X12_holdsOf {μ : gm_M} (h : MI μ) {a1 : Int32} (q0 : 0 ≤ a1.toInt ∧ a1.toInt < 5) : gwI (f_X12_holdsOf 65 a1 μ) (fun x m => km A0 μ m) := by
  refine gwI_of ?_
  unfold f_X12_holdsOf
  have l0 : (0 : Int32).toInt = 0 := rfl
  have l1 : (1 : Int32).toInt = 1 := rfl
  have l2 : (2 : Int32).toInt = 2 := rfl
  have l5 : (5 : Int32).toInt = 5 := rfl
  have l6 : (6 : Int32).toInt = 6 := rfl
  have l10 : (10 : Int32).toInt = 10 := rfl
  have l11 : (11 : Int32).toInt = 11 := rfl
  have l33 : (33 : Int32).toInt = 33 := rfl
  have l210 : (210 : Int32).toInt = 210 := rfl
  have k0 := km.refl A0 μ
  refine gw_gRa 66 ((h.of0 k0).1.c (r := 65) rfl) ((h.of0 k0).1.r (by decide)) ?_
  have n1 : ((1 : Int32) + a1).toInt = (1 : Int32).toInt + a1.toInt := gx_add (by omega) (by omega)
  refine gw_aI (i := ((1 : Int32) + a1)) ((h.of0 k0).1.t (r := 66) rfl) ((h.of0 k0).1.l (r := 66) rfl) (by omega) (by omega) (fun v2 ev2 => ?_)
  refine gw_if ((h.of0 k0).1.t (r := 65) rfl) ?_
  refine gw_bI (s_X12_stretchOf (h.of0 k0)  (by omega)) (fun x3 m3 g3 => ?_)
  have kk3 := k0.trans g3.w00
  refine gw_gRa 66 ((h.of0 kk3).1.c (r := 65) rfl) ((h.of0 kk3).1.r (by decide)) ?_
  have n4 : ((6 : Int32) + a1).toInt = (6 : Int32).toInt + a1.toInt := gx_add (by omega) (by omega)
  refine gw_aI (i := ((6 : Int32) + a1)) ((h.of0 kk3).1.t (r := 66) rfl) ((h.of0 kk3).1.l (r := 66) rfl) (by omega) (by omega) (fun v5 ev5 => ?_)
  refine gw_gRa 66 ((h.of0 kk3).1.c (r := 65) rfl) ((h.of0 kk3).1.r (by decide)) ?_
  have n6 : ((11 : Int32) + a1).toInt = (11 : Int32).toInt + a1.toInt := gx_add (by omega) (by omega)
  refine gw_aI (i := ((11 : Int32) + a1)) ((h.of0 kk3).1.t (r := 66) rfl) ((h.of0 kk3).1.l (r := 66) rfl) (by omega) (by omega) (fun v7 ev7 => ?_)
  refine gw_dv (by omega) ?_
  refine gw_if ((h.of0 kk3).1.t (r := 65) rfl) ?_
  refine gw_bI (s_X12_tellsOf (h.of0 kk3)  (by omega)) (fun x8 m8 ⟨z8, f8⟩ => ?_)
  replace z8 := z8.symm
  subst z8
  refine gw_bI (s_X12_above  ) (fun x9 m9 z9 => ?_)
  replace z9 := z9.symm
  subst z9
  refine gw_gRa 66 ((h.of0 kk3).1.c (r := 65) rfl) ((h.of0 kk3).1.r (by decide)) ?_
  have n10 : ((33 : Int32) + a1).toInt = (33 : Int32).toInt + a1.toInt := gx_add (by omega) (by omega)
  refine gw_aI (i := ((33 : Int32) + a1)) ((h.of0 kk3).1.t (r := 66) rfl) ((h.of0 kk3).1.l (r := 66) rfl) (by omega) (by omega) (fun v11 ev11 => ?_)
  refine gw_ne (fun h59_12 => ?_) (fun h59_12 => ?_)
  ·
    exact gw_some (gq_I kk3)
  ·
    refine gw_bI (s_X12_above  ) (fun x13 m13 z13 => ?_)
    replace z13 := z13.symm
    subst z13
    exact gw_some (gq_I kk3)
set_option maxHeartbeats 1000000 in
theorem s_X12_allHold {μ : gm_M} (h : MI μ)   : gwI (f_X12_allHold 65 μ) (fun x m => km A0 μ m) := by
  refine gwI_of ?_
  unfold f_X12_allHold
  have l0 : (0 : Int32).toInt = 0 := rfl
  have l1 : (1 : Int32).toInt = 1 := rfl
  have l26 : (26 : Int32).toInt = 26 := rfl
  have k0 := km.refl A0 μ
  refine gw_loop (fun s1 => km A0 μ s1.2.2 ∧ (0 ≤ s1.2.1.toInt ∧ s1.2.1.toInt ≤ 5)) (fun s1 => (5 - s1.2.1.toInt)) (fun s1 ⟨k2, u3⟩ => ?_) 5000 ((0 : Int32), (0 : Int32), μ) ⟨k0, (by show 0 ≤ (0 : Int32).toInt ∧ (0 : Int32).toInt ≤ 5; omega)⟩ (by show (5 - (0 : Int32).toInt) < ((5000 : Nat) : Int); omega) (by show 0 ≤ (5 - (0 : Int32).toInt); omega)
  refine gw_gRa 66 ((h.of0 k2).1.c (r := 65) rfl) ((h.of0 k2).1.r (by decide)) ?_
  refine gw_aI (i := (26 : Int32)) ((h.of0 k2).1.t (r := 66) rfl) ((h.of0 k2).1.l (r := 66) rfl) (by omega) (by omega) (fun v4 ev4 => ?_)
  have bv4 := (h.of0 k2).n26
  have cv4 : v4 = s1.2.2.2.1 66 26 := ev4
  have dv4 : v4.toInt = (s1.2.2.2.1 66 26).toInt := by rw [cv4]
  have yv4 : v4.toInt = (μ.2.1 66 26).toInt := by rw [dv4, k2.2.2.2.1 26 (by first | exact fun q => q | (unfold A0; omega))]
  refine gw_le (fun h12_5 => ?_) (fun h12_5 => ?_)
  ·
    exact gw_some (gs_inr (gq_I k2))
  ·
    refine gw_if ((h.of0 k2).1.t (r := 65) rfl) ?_
    refine gw_bI (s_X12_holdsOf (h.of0 k2)  (by omega)) (fun x6 m6 g6 => ?_)
    have kk6 := k2.trans g6.w00
    have n7 : (s1.2.1 + (1 : Int32)).toInt = s1.2.1.toInt + (1 : Int32).toInt := gx_add (by omega) (by omega)
    exact gw_some (gs_inl ⟨kk6, (by show 0 ≤ (s1.2.1 + (1 : Int32)).toInt ∧ (s1.2.1 + (1 : Int32)).toInt ≤ 5; omega)⟩ (by show (5 - (s1.2.1 + (1 : Int32)).toInt) < (5 - s1.2.1.toInt); omega) (by show 0 ≤ (5 - (s1.2.1 + (1 : Int32)).toInt); omega))
set_option maxHeartbeats 1000000 in
theorem s_X12_goesFor {μ : gm_M} (h : MI μ) {a1 : Int32} (q0 : 0 ≤ a1.toInt ∧ a1.toInt < 5) : gwV (f_X12_goesFor 65 a1 μ) (fun m => km A3 μ m) := by
  refine gwV_of ?_
  unfold f_X12_goesFor
  have l0 : (0 : Int32).toInt = 0 := rfl
  have l1 : (1 : Int32).toInt = 1 := rfl
  have l5 : (5 : Int32).toInt = 5 := rfl
  have l6 : (6 : Int32).toInt = 6 := rfl
  have l11 : (11 : Int32).toInt = 11 := rfl
  have l16 : (16 : Int32).toInt = 16 := rfl
  have l38 : (38 : Int32).toInt = 38 := rfl
  have l99 : (99 : Int32).toInt = 99 := rfl
  have k0 := km.refl A3 μ
  refine gw_gRa 66 ((h.of3 k0).1.c (r := 65) rfl) ((h.of3 k0).1.r (by decide)) ?_
  have n1 : ((16 : Int32) + a1).toInt = (16 : Int32).toInt + a1.toInt := gx_add (by omega) (by omega)
  refine gw_aI (i := ((16 : Int32) + a1)) ((h.of3 k0).1.t (r := 66) rfl) ((h.of3 k0).1.l (r := 66) rfl) (by omega) (by omega) (fun v2 ev2 => ?_)
  refine gw_le (fun h9_3 => ?_) (fun h9_3 => ?_)
  ·
    refine gw_gRa 66 ((h.of3 k0).1.c (r := 65) rfl) ((h.of3 k0).1.r (by decide)) ?_
    have n4 : ((1 : Int32) + a1).toInt = (1 : Int32).toInt + a1.toInt := gx_add (by omega) (by omega)
    refine gw_aI (i := ((1 : Int32) + a1)) ((h.of3 k0).1.t (r := 66) rfl) ((h.of3 k0).1.l (r := 66) rfl) (by omega) (by omega) (fun v5 ev5 => ?_)
    refine gw_le (fun h56_6 => ?_) (fun h56_6 => ?_)
    ·
      refine gw_gRa 66 ((h.of3 k0).1.c (r := 65) rfl) ((h.of3 k0).1.r (by decide)) ?_
      refine gw_gRa 66 ((h.of3 k0).1.c (r := 65) rfl) ((h.of3 k0).1.r (by decide)) ?_
      have n7 : ((11 : Int32) + a1).toInt = (11 : Int32).toInt + a1.toInt := gx_add (by omega) (by omega)
      refine gw_aI (i := ((11 : Int32) + a1)) ((h.of3 k0).1.t (r := 66) rfl) ((h.of3 k0).1.l (r := 66) rfl) (by omega) (by omega) (fun v8 ev8 => ?_)
      refine gw_bI (s_X12_above  ) (fun x9 m9 z9 => ?_)
      replace z9 := z9.symm
      subst z9
      have n10 : ((11 : Int32) + a1).toInt = (11 : Int32).toInt + a1.toInt := gx_add (by omega) (by omega)
      refine gw_sI (i := ((11 : Int32) + a1)) ((h.of3 k0).1.t (r := 66) rfl) ((h.of3 k0).1.l (r := 66) rfl) (by omega) (by omega) (fun m11 em11 => ?_)
      have km11 := k0.ws em11 (by unfold A3; omega)
      exact gw_some (gq_V km11)
    ·
      refine gw_if ((h.of3 k0).1.t (r := 65) rfl) ?_
      refine gw_bI (s_X12_chewsOf (h.of3 k0)  (by omega)) (fun x12 m12 z12 => ?_)
      replace z12 := z12.symm
      subst z12
      refine gw_gRa 66 ((h.of3 k0).1.c (r := 65) rfl) ((h.of3 k0).1.r (by decide)) ?_
      refine gw_gRa 66 ((h.of3 k0).1.c (r := 65) rfl) ((h.of3 k0).1.r (by decide)) ?_
      have n13 : ((11 : Int32) + a1).toInt = (11 : Int32).toInt + a1.toInt := gx_add (by omega) (by omega)
      refine gw_aI (i := ((11 : Int32) + a1)) ((h.of3 k0).1.t (r := 66) rfl) ((h.of3 k0).1.l (r := 66) rfl) (by omega) (by omega) (fun v14 ev14 => ?_)
      refine gw_if ((h.of3 k0).1.t (r := 65) rfl) ?_
      refine gw_bI (s_X12_tiresOf (h.of3 k0)  (by omega)) (fun x15 m15 z15 => ?_)
      replace z15 := z15.symm
      subst z15
      refine gw_bI (s_X12_within  ) (fun x16 m16 z16 => ?_)
      replace z16 := z16.symm
      subst z16
      have n17 : ((11 : Int32) + a1).toInt = (11 : Int32).toInt + a1.toInt := gx_add (by omega) (by omega)
      refine gw_sI (i := ((11 : Int32) + a1)) ((h.of3 k0).1.t (r := 66) rfl) ((h.of3 k0).1.l (r := 66) rfl) (by omega) (by omega) (fun m18 em18 => ?_)
      have km18 := k0.ws em18 (by unfold A3; omega)
      refine gw_gRa 66 ((h.of3 km18).1.c (r := 65) rfl) ((h.of3 km18).1.r (by decide)) ?_
      refine gw_gRa 66 ((h.of3 km18).1.c (r := 65) rfl) ((h.of3 km18).1.r (by decide)) ?_
      have n19 : ((6 : Int32) + a1).toInt = (6 : Int32).toInt + a1.toInt := gx_add (by omega) (by omega)
      refine gw_aI (i := ((6 : Int32) + a1)) ((h.of3 km18).1.t (r := 66) rfl) ((h.of3 km18).1.l (r := 66) rfl) (by omega) (by omega) (fun v20 ev20 => ?_)
      refine gw_bI (s_X12_above  ) (fun x21 m21 z21 => ?_)
      replace z21 := z21.symm
      subst z21
      have n22 : ((6 : Int32) + a1).toInt = (6 : Int32).toInt + a1.toInt := gx_add (by omega) (by omega)
      refine gw_sI (i := ((6 : Int32) + a1)) ((h.of3 km18).1.t (r := 66) rfl) ((h.of3 km18).1.l (r := 66) rfl) (by omega) (by omega) (fun m23 em23 => ?_)
      have km23 := km18.ws em23 (by unfold A3; omega)
      exact gw_some (gq_V km23)
  ·
    refine gw_gRa 66 ((h.of3 k0).1.c (r := 65) rfl) ((h.of3 k0).1.r (by decide)) ?_
    refine gw_gRa 66 ((h.of3 k0).1.c (r := 65) rfl) ((h.of3 k0).1.r (by decide)) ?_
    have n24 : ((16 : Int32) + a1).toInt = (16 : Int32).toInt + a1.toInt := gx_add (by omega) (by omega)
    refine gw_aI (i := ((16 : Int32) + a1)) ((h.of3 k0).1.t (r := 66) rfl) ((h.of3 k0).1.l (r := 66) rfl) (by omega) (by omega) (fun v25 ev25 => ?_)
    refine gw_gRa 66 ((h.of3 k0).1.c (r := 65) rfl) ((h.of3 k0).1.r (by decide)) ?_
    have n26 : ((38 : Int32) + a1).toInt = (38 : Int32).toInt + a1.toInt := gx_add (by omega) (by omega)
    refine gw_aI (i := ((38 : Int32) + a1)) ((h.of3 k0).1.t (r := 66) rfl) ((h.of3 k0).1.l (r := 66) rfl) (by omega) (by omega) (fun v27 ev27 => ?_)
    refine gw_bI (s_X12_above  ) (fun x28 m28 z28 => ?_)
    replace z28 := z28.symm
    subst z28
    have n29 : ((16 : Int32) + a1).toInt = (16 : Int32).toInt + a1.toInt := gx_add (by omega) (by omega)
    refine gw_sI (i := ((16 : Int32) + a1)) ((h.of3 k0).1.t (r := 66) rfl) ((h.of3 k0).1.l (r := 66) rfl) (by omega) (by omega) (fun m30 em30 => ?_)
    have km30 := k0.ws em30 (by unfold A3; omega)
    exact gw_some (gq_V km30)
set_option maxHeartbeats 1000000 in
theorem s_X12_goes {μ : gm_M} (h : MI μ)   : gwV (f_X12_goes 65 μ) (fun m => km A1 μ m ∧ m.2.1 66 0 = μ.2.1 66 0 + 1) := by
  refine gwV_of ?_
  unfold f_X12_goes
  have l0 : (0 : Int32).toInt = 0 := rfl
  have l1 : (1 : Int32).toInt = 1 := rfl
  have l26 : (26 : Int32).toInt = 26 := rfl
  have k0 := km.refl A1 μ
  refine gw_loop (fun s1 => km A1 μ s1.2 ∧ ((0 ≤ s1.1.toInt ∧ s1.1.toInt ≤ 5) ∧ s1.2.2.1 66 0 = μ.2.1 66 0)) (fun s1 => (5 - s1.1.toInt)) (fun s1 ⟨k2, u3⟩ => ?_) 5000 ((0 : Int32), μ) ⟨k0, (by show (0 ≤ (0 : Int32).toInt ∧ (0 : Int32).toInt ≤ 5) ∧ μ.2.1 66 0 = μ.2.1 66 0; exact ⟨by omega, rfl⟩)⟩ (by show (5 - (0 : Int32).toInt) < ((5000 : Nat) : Int); omega) (by show 0 ≤ (5 - (0 : Int32).toInt); omega)
  obtain ⟨uu1, uu2⟩ := u3
  refine gw_gRa 66 ((h.of1 k2).1.c (r := 65) rfl) ((h.of1 k2).1.r (by decide)) ?_
  refine gw_aI (i := (26 : Int32)) ((h.of1 k2).1.t (r := 66) rfl) ((h.of1 k2).1.l (r := 66) rfl) (by omega) (by omega) (fun v4 ev4 => ?_)
  have bv4 := (h.of1 k2).n26
  have cv4 : v4 = s1.2.2.1 66 26 := ev4
  have dv4 : v4.toInt = (s1.2.2.1 66 26).toInt := by rw [cv4]
  have yv4 : v4.toInt = (μ.2.1 66 26).toInt := by rw [dv4, k2.2.2.2.1 26 (by first | exact fun q => q | (unfold A1; omega))]
  refine gw_le (fun h10_5 => ?_) (fun h10_5 => ?_)
  ·
    refine gw_gRa 66 ((h.of1 k2).1.c (r := 65) rfl) ((h.of1 k2).1.r (by decide)) ?_
    refine gw_aI (i := (0 : Int32)) ((h.of1 k2).1.t (r := 66) rfl) ((h.of1 k2).1.l (r := 66) rfl) (by omega) (by omega) (fun v6 ev6 => ?_)
    have ev0 := ev6
    refine gw_sI (i := (0 : Int32)) ((h.of1 k2).1.t (r := 66) rfl) ((h.of1 k2).1.l (r := 66) rfl) (by omega) (by omega) (fun m7 em7 => ?_)
    have km7 := k2.ws em7 (by unfold A1; omega)
    have VAL : m7.2.1 66 0 = μ.2.1 66 0 + 1 := by
      have q : m7.2.1 66 0 = (v6 + (1 : Int32)) := by rw [em7]; show gm_u s1.2.2.1 66 0 (v6 + (1 : Int32)) 66 0 = (v6 + (1 : Int32)); exact gu_eq
      rw [q, ev0]; exact congrArg (· + (1 : Int32)) uu2
    exact gw_some (gs_inr (gq_V ⟨km7, by exact VAL⟩))
  ·
    refine gw_if ((h.of1 k2).1.t (r := 65) rfl) ?_
    refine gw_bV (s_X12_goesFor (h.of1 k2)  (by omega)) (fun m8 g8 => ?_)
    have kk8 := k2.trans g8.w31
    have z0 : m8.2.1 66 0 = μ.2.1 66 0 := (g8.2.2.2.1 0 (by unfold A3; omega)).trans uu2
    have n9 : (s1.1 + (1 : Int32)).toInt = s1.1.toInt + (1 : Int32).toInt := gx_add (by omega) (by omega)
    exact gw_some (gs_inl ⟨kk8, (by show (0 ≤ (s1.1 + (1 : Int32)).toInt ∧ (s1.1 + (1 : Int32)).toInt ≤ 5) ∧ m8.2.1 66 0 = μ.2.1 66 0; exact ⟨by omega, z0⟩)⟩ (by show (5 - (s1.1 + (1 : Int32)).toInt) < (5 - s1.1.toInt); omega) (by show 0 ≤ (5 - (s1.1 + (1 : Int32)).toInt); omega))
set_option maxHeartbeats 1000000 in
theorem s_X12_goesOn {μ : gm_M} (h : MI μ) {a1 : Int32} (q0 : 0 ≤ a1.toInt ∧ a1.toInt ≤ 100) : gwV (f_X12_goesOn 65 a1 μ) (fun m => km A1 μ m ∧ m.2.1 66 0 = itn a1.toInt.toNat (μ.2.1 66 0)) := by
  refine gwV_of ?_
  unfold f_X12_goesOn
  have l0 : (0 : Int32).toInt = 0 := rfl
  have l1 : (1 : Int32).toInt = 1 := rfl
  have k0 := km.refl A1 μ
  refine gw_loop (fun s1 => km A1 μ s1.2 ∧ ((0 ≤ s1.1.toInt ∧ s1.1.toInt ≤ a1.toInt) ∧ s1.2.2.1 66 0 = itn s1.1.toInt.toNat (μ.2.1 66 0))) (fun s1 => (100 - s1.1.toInt)) (fun s1 ⟨k2, u3⟩ => ?_) 5000 ((0 : Int32), μ) ⟨k0, (by show (0 ≤ (0 : Int32).toInt ∧ (0 : Int32).toInt ≤ a1.toInt) ∧ μ.2.1 66 0 = itn (0 : Int32).toInt.toNat (μ.2.1 66 0); exact ⟨by omega, rfl⟩)⟩ (by show (100 - (0 : Int32).toInt) < ((5000 : Nat) : Int); omega) (by show 0 ≤ (100 - (0 : Int32).toInt); omega)
  obtain ⟨uu1, uu2⟩ := u3
  refine gw_le (fun h4_4 => ?_) (fun h4_4 => ?_)
  ·
    exact gw_some (gs_inr (gq_V ⟨k2, by (rw [uu2]; congr 1; omega)⟩))
  ·
    refine gw_if ((h.of1 k2).1.t (r := 65) rfl) ?_
    refine gw_bV (s_X12_goes (h.of1 k2)  ) (fun m5 ⟨g5, f5⟩ => ?_)
    have kk5 := k2.trans g5.w11
    have zf := f5
    have n6 : (s1.1 + (1 : Int32)).toInt = s1.1.toInt + (1 : Int32).toInt := gx_add (by omega) (by omega)
    exact gw_some (gs_inl ⟨kk5, (by show (0 ≤ (s1.1 + (1 : Int32)).toInt ∧ (s1.1 + (1 : Int32)).toInt ≤ a1.toInt) ∧ m5.2.1 66 0 = itn (s1.1 + (1 : Int32)).toInt.toNat (μ.2.1 66 0); exact ⟨by omega, by rw [show (s1.1 + (1 : Int32)).toInt.toNat = s1.1.toInt.toNat + 1 from by omega, zf, uu2]; rfl⟩)⟩ (by show (100 - (s1.1 + (1 : Int32)).toInt) < (100 - s1.1.toInt); omega) (by show 0 ≤ (100 - (s1.1 + (1 : Int32)).toInt); omega))
set_option maxHeartbeats 1000000 in
theorem s_X12_goesAlone {μ : gm_M} (h : MI μ) {a1 : Int32} (q0 : 0 ≤ a1.toInt ∧ a1.toInt < 5) : gwV (f_X12_goesAlone 65 a1 μ) (fun m => km A1 μ m) := by
  refine gwV_of ?_
  unfold f_X12_goesAlone
  have l0 : (0 : Int32).toInt = 0 := rfl
  have l1 : (1 : Int32).toInt = 1 := rfl
  have k0 := km.refl A1 μ
  refine gw_if ((h.of1 k0).1.t (r := 65) rfl) ?_
  refine gw_bV (s_X12_goesFor (h.of1 k0)  (by omega)) (fun m1 g1 => ?_)
  have kk1 := k0.trans g1.w31
  refine gw_gRa 66 ((h.of1 kk1).1.c (r := 65) rfl) ((h.of1 kk1).1.r (by decide)) ?_
  refine gw_aI (i := (0 : Int32)) ((h.of1 kk1).1.t (r := 66) rfl) ((h.of1 kk1).1.l (r := 66) rfl) (by omega) (by omega) (fun v2 ev2 => ?_)
  refine gw_sI (i := (0 : Int32)) ((h.of1 kk1).1.t (r := 66) rfl) ((h.of1 kk1).1.l (r := 66) rfl) (by omega) (by omega) (fun m3 em3 => ?_)
  have km3 := kk1.ws em3 (by unfold A1; omega)
  exact gw_some (gq_V km3)
set_option maxHeartbeats 1000000 in
theorem s_X12_slackOf {μ : gm_M} (h : MI μ) {a1 : Int32} (q0 : 0 ≤ a1.toInt ∧ a1.toInt < 5) : gwI (f_X12_slackOf 65 a1 μ) (fun x m => km A0 μ m) := by
  refine gwI_of ?_
  unfold f_X12_slackOf
  have l16 : (16 : Int32).toInt = 16 := rfl
  have k0 := km.refl A0 μ
  refine gw_if ((h.of0 k0).1.t (r := 65) rfl) ?_
  refine gw_bI (s_X12_holdsOf (h.of0 k0)  (by omega)) (fun x1 m1 g1 => ?_)
  have kk1 := k0.trans g1.w00
  refine gw_gRa 66 ((h.of0 kk1).1.c (r := 65) rfl) ((h.of0 kk1).1.r (by decide)) ?_
  have n2 : ((16 : Int32) + a1).toInt = (16 : Int32).toInt + a1.toInt := gx_add (by omega) (by omega)
  refine gw_aI (i := ((16 : Int32) + a1)) ((h.of0 kk1).1.t (r := 66) rfl) ((h.of0 kk1).1.l (r := 66) rfl) (by omega) (by omega) (fun v3 ev3 => ?_)
  exact gw_some (gq_I kk1)
set_option maxHeartbeats 1000000 in
theorem s_X12_blows {μ : gm_M} (h : MI μ) {a1 : Int32} {a2 : Int32} (q0 : 0 ≤ a1.toInt ∧ a1.toInt < 5) : gwI (f_X12_blows 65 a1 a2 μ) (fun x m => km A3 μ m ∧ (x.toInt = 0 ∨ x.toInt = 1)) := by
  refine gwI_of ?_
  unfold f_X12_blows
  have l0 : (0 : Int32).toInt = 0 := rfl
  have l1 : (1 : Int32).toInt = 1 := rfl
  have l10 : (10 : Int32).toInt = 10 := rfl
  have l16 : (16 : Int32).toInt = 16 := rfl
  have l21 : (21 : Int32).toInt = 21 := rfl
  have l9999 : (9999 : Int32).toInt = 9999 := rfl
  have k0 := km.refl A3 μ
  refine gw_gRa 66 ((h.of3 k0).1.c (r := 65) rfl) ((h.of3 k0).1.r (by decide)) ?_
  have n1 : ((16 : Int32) + a1).toInt = (16 : Int32).toInt + a1.toInt := gx_add (by omega) (by omega)
  refine gw_aI (i := ((16 : Int32) + a1)) ((h.of3 k0).1.t (r := 66) rfl) ((h.of3 k0).1.l (r := 66) rfl) (by omega) (by omega) (fun v2 ev2 => ?_)
  have n3 : ((16 : Int32) + a1).toInt = (16 : Int32).toInt + a1.toInt := gx_add (by omega) (by omega)
  refine gw_sI (i := ((16 : Int32) + a1)) ((h.of3 k0).1.t (r := 66) rfl) ((h.of3 k0).1.l (r := 66) rfl) (by omega) (by omega) (fun m4 em4 => ?_)
  have km4 := k0.ws em4 (by unfold A3; omega)
  refine gw_gRa 66 ((h.of3 km4).1.c (r := 65) rfl) ((h.of3 km4).1.r (by decide)) ?_
  have n5 : ((16 : Int32) + a1).toInt = (16 : Int32).toInt + a1.toInt := gx_add (by omega) (by omega)
  refine gw_aI (i := ((16 : Int32) + a1)) ((h.of3 km4).1.t (r := 66) rfl) ((h.of3 km4).1.l (r := 66) rfl) (by omega) (by omega) (fun v6 ev6 => ?_)
  refine gw_if ((h.of3 km4).1.t (r := 65) rfl) ?_
  refine gw_bI (s_X12_holdsOf (h.of3 km4)  (by omega)) (fun x7 m7 g7 => ?_)
  have kk7 := km4.trans g7.w03
  refine gw_lt (fun h27_8 => ?_) (fun h27_8 => ?_)
  ·
    refine gw_gRa 66 ((h.of3 kk7).1.c (r := 65) rfl) ((h.of3 kk7).1.r (by decide)) ?_
    refine gw_gRa 66 ((h.of3 kk7).1.c (r := 65) rfl) ((h.of3 kk7).1.r (by decide)) ?_
    have n9 : ((21 : Int32) + a1).toInt = (21 : Int32).toInt + a1.toInt := gx_add (by omega) (by omega)
    refine gw_aI (i := ((21 : Int32) + a1)) ((h.of3 kk7).1.t (r := 66) rfl) ((h.of3 kk7).1.l (r := 66) rfl) (by omega) (by omega) (fun v10 ev10 => ?_)
    refine gw_gRa 66 ((h.of3 kk7).1.c (r := 65) rfl) ((h.of3 kk7).1.r (by decide)) ?_
    have n11 : ((16 : Int32) + a1).toInt = (16 : Int32).toInt + a1.toInt := gx_add (by omega) (by omega)
    refine gw_aI (i := ((16 : Int32) + a1)) ((h.of3 kk7).1.t (r := 66) rfl) ((h.of3 kk7).1.l (r := 66) rfl) (by omega) (by omega) (fun v12 ev12 => ?_)
    refine gw_dv (by omega) ?_
    refine gw_bI (s_X12_within  ) (fun x13 m13 z13 => ?_)
    replace z13 := z13.symm
    subst z13
    have n14 : ((21 : Int32) + a1).toInt = (21 : Int32).toInt + a1.toInt := gx_add (by omega) (by omega)
    refine gw_sI (i := ((21 : Int32) + a1)) ((h.of3 kk7).1.t (r := 66) rfl) ((h.of3 kk7).1.l (r := 66) rfl) (by omega) (by omega) (fun m15 em15 => ?_)
    have km15 := kk7.ws em15 (by unfold A3; omega)
    refine gw_gRa 66 ((h.of3 km15).1.c (r := 65) rfl) ((h.of3 km15).1.r (by decide)) ?_
    have n16 : ((16 : Int32) + a1).toInt = (16 : Int32).toInt + a1.toInt := gx_add (by omega) (by omega)
    refine gw_sI (i := ((16 : Int32) + a1)) ((h.of3 km15).1.t (r := 66) rfl) ((h.of3 km15).1.l (r := 66) rfl) (by omega) (by omega) (fun m17 em17 => ?_)
    have km17 := km15.ws em17 (by unfold A3; omega)
    refine gw_z Iff.rfl (by omega) (gq_I ⟨km17, by omega⟩)
  ·
    refine gw_z Iff.rfl (by omega) (gq_I ⟨kk7, by omega⟩)
set_option maxHeartbeats 1000000 in
theorem s_X12_does {μ : gm_M} (h : MI μ) {a1 : Int32} {a2 : Int32} (q0 : 0 ≤ a1.toInt ∧ a1.toInt ≤ 3) (q1 : a1.toInt ≠ 0 → 0 ≤ a2.toInt ∧ a2.toInt < 5) : gwV (f_X12_does 65 a1 a2 μ) (fun m => km A1 μ m) := by
  refine gwV_of ?_
  unfold f_X12_does
  have l0 : (0 : Int32).toInt = 0 := rfl
  have l1 : (1 : Int32).toInt = 1 := rfl
  have l2 : (2 : Int32).toInt = 2 := rfl
  have l6 : (6 : Int32).toInt = 6 := rfl
  have l10 : (10 : Int32).toInt = 10 := rfl
  have l16 : (16 : Int32).toInt = 16 := rfl
  have l999 : (999 : Int32).toInt = 999 := rfl
  have k0 := km.refl A1 μ
  refine gw_eq (fun h1_1 => ?_) (fun h1_1 => ?_)
  ·
    refine gw_if ((h.of1 k0).1.t (r := 65) rfl) ?_
    refine gw_bV (s_X12_goes (h.of1 k0)  ) (fun m2 ⟨g2, f2⟩ => ?_)
    have kk2 := k0.trans g2.w11
    exact gw_some (gq_V kk2)
  ·
    refine gw_eq (fun h1_3 => ?_) (fun h1_3 => ?_)
    ·
      refine gw_gRa 66 ((h.of1 k0).1.c (r := 65) rfl) ((h.of1 k0).1.r (by decide)) ?_
      refine gw_gRa 66 ((h.of1 k0).1.c (r := 65) rfl) ((h.of1 k0).1.r (by decide)) ?_
      have n4 : ((1 : Int32) + a2).toInt = (1 : Int32).toInt + a2.toInt := gx_add (by omega) (by omega)
      refine gw_aI (i := ((1 : Int32) + a2)) ((h.of1 k0).1.t (r := 66) rfl) ((h.of1 k0).1.l (r := 66) rfl) (by omega) (by omega) (fun v5 ev5 => ?_)
      refine gw_bI (s_X12_within  ) (fun x6 m6 z6 => ?_)
      replace z6 := z6.symm
      subst z6
      have n7 : ((1 : Int32) + a2).toInt = (1 : Int32).toInt + a2.toInt := gx_add (by omega) (by omega)
      refine gw_sI (i := ((1 : Int32) + a2)) ((h.of1 k0).1.t (r := 66) rfl) ((h.of1 k0).1.l (r := 66) rfl) (by omega) (by omega) (fun m8 em8 => ?_)
      have km8 := k0.ws em8 (by unfold A1; omega)
      refine gw_gRa 66 ((h.of1 km8).1.c (r := 65) rfl) ((h.of1 km8).1.r (by decide)) ?_
      refine gw_gRa 66 ((h.of1 km8).1.c (r := 65) rfl) ((h.of1 km8).1.r (by decide)) ?_
      have n9 : ((6 : Int32) + a2).toInt = (6 : Int32).toInt + a2.toInt := gx_add (by omega) (by omega)
      refine gw_aI (i := ((6 : Int32) + a2)) ((h.of1 km8).1.t (r := 66) rfl) ((h.of1 km8).1.l (r := 66) rfl) (by omega) (by omega) (fun v10 ev10 => ?_)
      refine gw_if ((h.of1 km8).1.t (r := 65) rfl) ?_
      refine gw_bI (s_X12_sweetNow (h.of1 km8)  ) (fun x11 m11 z11 => ?_)
      replace z11 := z11.symm
      subst z11
      refine gw_bI (s_X12_within  ) (fun x12 m12 z12 => ?_)
      replace z12 := z12.symm
      subst z12
      have n13 : ((6 : Int32) + a2).toInt = (6 : Int32).toInt + a2.toInt := gx_add (by omega) (by omega)
      refine gw_sI (i := ((6 : Int32) + a2)) ((h.of1 km8).1.t (r := 66) rfl) ((h.of1 km8).1.l (r := 66) rfl) (by omega) (by omega) (fun m14 em14 => ?_)
      have km14 := km8.ws em14 (by unfold A1; omega)
      exact gw_some (gq_V km14)
    ·
      refine gw_eq (fun h1_15 => ?_) (fun h1_15 => ?_)
      ·
        refine gw_gRa 66 ((h.of1 k0).1.c (r := 65) rfl) ((h.of1 k0).1.r (by decide)) ?_
        have n16 : ((1 : Int32) + a2).toInt = (1 : Int32).toInt + a2.toInt := gx_add (by omega) (by omega)
        refine gw_sI (i := ((1 : Int32) + a2)) ((h.of1 k0).1.t (r := 66) rfl) ((h.of1 k0).1.l (r := 66) rfl) (by omega) (by omega) (fun m17 em17 => ?_)
        have km17 := k0.ws em17 (by unfold A1; omega)
        refine gw_gRa 66 ((h.of1 km17).1.c (r := 65) rfl) ((h.of1 km17).1.r (by decide)) ?_
        have n18 : ((6 : Int32) + a2).toInt = (6 : Int32).toInt + a2.toInt := gx_add (by omega) (by omega)
        refine gw_sI (i := ((6 : Int32) + a2)) ((h.of1 km17).1.t (r := 66) rfl) ((h.of1 km17).1.l (r := 66) rfl) (by omega) (by omega) (fun m19 em19 => ?_)
        have km19 := km17.ws em19 (by unfold A1; omega)
        refine gw_gRa 66 ((h.of1 km19).1.c (r := 65) rfl) ((h.of1 km19).1.r (by decide)) ?_
        have n20 : ((16 : Int32) + a2).toInt = (16 : Int32).toInt + a2.toInt := gx_add (by omega) (by omega)
        refine gw_sI (i := ((16 : Int32) + a2)) ((h.of1 km19).1.t (r := 66) rfl) ((h.of1 km19).1.l (r := 66) rfl) (by omega) (by omega) (fun m21 em21 => ?_)
        have km21 := km19.ws em21 (by unfold A1; omega)
        exact gw_some (gq_V km21)
      ·
        refine gw_gRa 66 ((h.of1 k0).1.c (r := 65) rfl) ((h.of1 k0).1.r (by decide)) ?_
        have n22 : ((1 : Int32) + a2).toInt = (1 : Int32).toInt + a2.toInt := gx_add (by omega) (by omega)
        refine gw_aI (i := ((1 : Int32) + a2)) ((h.of1 k0).1.t (r := 66) rfl) ((h.of1 k0).1.l (r := 66) rfl) (by omega) (by omega) (fun v23 ev23 => ?_)
        refine gw_le (fun h132_24 => ?_) (fun h132_24 => ?_)
        ·
          exact gw_some (gq_V k0)
        ·
          refine gw_if ((h.of1 k0).1.t (r := 65) rfl) ?_
          refine gw_bI (s_X12_blows (h.of1 k0)  (by omega)) (fun x25 m25 ⟨g25, f25⟩ => ?_)
          have kk25 := k0.trans g25.w31
          exact gw_some (gq_V kk25)
set_option maxHeartbeats 1000000 in
theorem s_X12_looksForWhen {μ : gm_M} (h : MI μ) {a1 : Int32} (q0 : 0 ≤ a1.toInt ∧ a1.toInt < 5) : gwV (f_X12_looksForWhen 65 a1 μ) (fun m => km A1 μ m ∧ rs m) := by
  refine gwV_of ?_
  unfold f_X12_looksForWhen
  have lm1 : (-1 : Int32).toInt = -1 := rfl
  have l0 : (0 : Int32).toInt = 0 := rfl
  have l1 : (1 : Int32).toInt = 1 := rfl
  have l60 : (60 : Int32).toInt = 60 := rfl
  have k0 := km.refl A1 μ
  refine gw_pI ((h.of1 k0).1.c (r := 65) rfl) (fun m1 em1 => ?_)
  have km1 := k0.wf em1 (by decide)
  refine gw_pI ((h.of1 km1).1.c (r := 65) rfl) (fun m2 em2 => ?_)
  have km2 := km1.wf em2 (by decide)
  refine gw_loop (fun s3 => km A1 μ s3.2 ∧ (0 ≤ s3.1.toInt ∧ s3.1.toInt ≤ 61)) (fun s3 => (61 - s3.1.toInt)) (fun s3 ⟨k4, u5⟩ => ?_) 5000 ((0 : Int32), m2) ⟨km2, (by show 0 ≤ (0 : Int32).toInt ∧ (0 : Int32).toInt ≤ 61; omega)⟩ (by show (61 - (0 : Int32).toInt) < ((5000 : Nat) : Int); omega) (by show 0 ≤ (61 - (0 : Int32).toInt); omega)
  refine gw_lt (fun h15_6 => ?_) (fun h15_6 => ?_)
  ·
    refine gw_if ((h.of1 k4).1.t (r := 65) rfl) ?_
    refine gw_bV (s_X12_goesBack (h.of1 k4)  ) (fun m7 ⟨g7, r7⟩ => ?_)
    have kk7 := k4.trans g7.w11
    exact gw_some (gs_inr (gq_V ⟨kk7, r7⟩))
  ·
    refine gw_if ((h.of1 k4).1.t (r := 65) rfl) ?_
    refine gw_bI (s_X12_holdsOf (h.of1 k4)  (by omega)) (fun x8 m8 g8 => ?_)
    have kk8 := k4.trans g8.w01
    refine gw_gI ((h.of1 kk8).1.c (r := 65) rfl) (fun v9 ev9 => ?_)
    refine gw_j (fun s10 => True) (fun s10 _ => ?_) (fun j11 hj11 => ?_)
    ·
      refine gw_pI ((h.of1 kk8).1.c (r := 65) rfl) (fun m12 em12 => ?_)
      have km12 := kk8.wf em12 (by decide)
      refine gw_gI ((h.of1 km12).1.c (r := 65) rfl) (fun v13 ev13 => ?_)
      refine gw_j (fun s14 => True) (fun s14 _ => ?_) (fun j15 hj15 => ?_)
      ·
        refine gw_pI ((h.of1 km12).1.c (r := 65) rfl) (fun m16 em16 => ?_)
        have km16 := km12.wf em16 (by decide)
        refine gw_if ((h.of1 km16).1.t (r := 65) rfl) ?_
        refine gw_bV (s_X12_goesAlone (h.of1 km16)  (by omega)) (fun m17 g17 => ?_)
        have kk17 := km16.trans g17.w11
        have n18 : (s3.1 + (1 : Int32)).toInt = s3.1.toInt + (1 : Int32).toInt := gx_add (by omega) (by omega)
        exact gw_some (gs_inl ⟨kk17, (by show 0 ≤ (s3.1 + (1 : Int32)).toInt ∧ (s3.1 + (1 : Int32)).toInt ≤ 61; omega)⟩ (by show (61 - (s3.1 + (1 : Int32)).toInt) < (61 - s3.1.toInt); omega) (by show 0 ≤ (61 - (s3.1 + (1 : Int32)).toInt); omega))
      ·
        refine gw_le (fun h50_19 => ?_) (fun h50_19 => ?_)
        ·
          refine gw_gI ((h.of1 km12).1.c (r := 65) rfl) (fun v20 ev20 => ?_)
          exact hj15 _ trivial
        ·
          exact hj15 _ trivial
    ·
      refine gw_le (fun h30_21 => ?_) (fun h30_21 => ?_)
      ·
        refine gw_gI ((h.of1 kk8).1.c (r := 65) rfl) (fun v22 ev22 => ?_)
        exact hj11 _ trivial
      ·
        exact hj11 _ trivial
set_option maxHeartbeats 1000000 in
theorem s_X12_isAsSeen {μ : gm_M} (h : MI μ) {a1 : Int32}  : gwI (f_X12_isAsSeen 65 a1 μ) (fun x m => km A0 μ m ∧ (x.toInt = 0 ∨ x.toInt = 1)) := by
  refine gwI_of ?_
  unfold f_X12_isAsSeen
  have l0 : (0 : Int32).toInt = 0 := rfl
  have l1 : (1 : Int32).toInt = 1 := rfl
  have l28 : (28 : Int32).toInt = 28 := rfl
  have l63 : (63 : Int32).toInt = 63 := rfl
  have l68 : (68 : Int32).toInt = 68 := rfl
  have l73 : (73 : Int32).toInt = 73 := rfl
  have k0 := km.refl A0 μ
  refine gw_loop (fun s1 => km A0 μ s1.2.2 ∧ ((0 ≤ s1.2.1.toInt ∧ s1.2.1.toInt ≤ 5) ∧ (s1.1.toInt = 0 ∨ s1.1.toInt = 1))) (fun s1 => (5 - s1.2.1.toInt)) (fun s1 ⟨k2, u3⟩ => ?_) 5000 ((1 : Int32), (0 : Int32), μ) ⟨k0, (by show (0 ≤ (0 : Int32).toInt ∧ (0 : Int32).toInt ≤ 5) ∧ ((1 : Int32).toInt = 0 ∨ (1 : Int32).toInt = 1); omega)⟩ (by show (5 - (0 : Int32).toInt) < ((5000 : Nat) : Int); omega) (by show 0 ≤ (5 - (0 : Int32).toInt); omega)
  refine gw_gRa 66 ((h.of0 k2).1.c (r := 65) rfl) ((h.of0 k2).1.r (by decide)) ?_
  refine gw_aI (i := (28 : Int32)) ((h.of0 k2).1.t (r := 66) rfl) ((h.of0 k2).1.l (r := 66) rfl) (by omega) (by omega) (fun v4 ev4 => ?_)
  have bv4 := (h.of0 k2).n28
  have cv4 : v4 = s1.2.2.2.1 66 28 := ev4
  have dv4 : v4.toInt = (s1.2.2.2.1 66 28).toInt := by rw [cv4]
  have yv4 : v4.toInt = (μ.2.1 66 28).toInt := by rw [dv4, k2.2.2.2.1 28 (by first | exact fun q => q | (unfold A0; omega))]
  refine gw_le (fun h12_5 => ?_) (fun h12_5 => ?_)
  ·
    refine gw_z Iff.rfl (by omega) (gs_inr (gq_I ⟨k2, by omega⟩))
  ·
    refine gw_eq (fun h16_6 => ?_) (fun h16_6 => ?_)
    ·
      refine gw_z Iff.rfl (by omega) (gs_inr (gq_I ⟨k2, by omega⟩))
    ·
      refine gw_gRa 66 ((h.of0 k2).1.c (r := 65) rfl) ((h.of0 k2).1.r (by decide)) ?_
      have n7 : ((73 : Int32) + s1.2.1).toInt = (73 : Int32).toInt + s1.2.1.toInt := gx_add (by omega) (by omega)
      refine gw_aI (i := ((73 : Int32) + s1.2.1)) ((h.of0 k2).1.t (r := 66) rfl) ((h.of0 k2).1.l (r := 66) rfl) (by omega) (by omega) (fun v8 ev8 => ?_)
      refine gw_j (fun s9 => km A0 μ s9.2 ∧ (s9.1.toInt = 0 ∨ s9.1.toInt = 1)) (fun s9 ⟨k11, u12⟩ => ?_) (fun j10 hj10 => ?_)
      ·
        have n13 : (s1.2.1 + (1 : Int32)).toInt = s1.2.1.toInt + (1 : Int32).toInt := gx_add (by omega) (by omega)
        exact gw_some (gs_inl ⟨k11, (by show (0 ≤ (s1.2.1 + (1 : Int32)).toInt ∧ (s1.2.1 + (1 : Int32)).toInt ≤ 5) ∧ (s9.1.toInt = 0 ∨ s9.1.toInt = 1); omega)⟩ (by show (5 - (s1.2.1 + (1 : Int32)).toInt) < (5 - s1.2.1.toInt); omega) (by show 0 ≤ (5 - (s1.2.1 + (1 : Int32)).toInt); omega))
      ·
        refine gw_j (fun s14 => km A0 μ s14) (fun s14 k16 => ?_) (fun j15 hj15 => ?_)
        ·
          exact hj10 _ ⟨k16, (by show (1 : Int32).toInt = 0 ∨ (1 : Int32).toInt = 1; omega)⟩
        ·
          refine gw_ne (fun h29_17 => ?_) (fun h29_17 => ?_)
          ·
            exact hj15 _ k2
          ·
            refine gw_gRa 66 ((h.of0 k2).1.c (r := 65) rfl) ((h.of0 k2).1.r (by decide)) ?_
            have n18 : ((63 : Int32) + s1.2.1).toInt = (63 : Int32).toInt + s1.2.1.toInt := gx_add (by omega) (by omega)
            refine gw_aI (i := ((63 : Int32) + s1.2.1)) ((h.of0 k2).1.t (r := 66) rfl) ((h.of0 k2).1.l (r := 66) rfl) (by omega) (by omega) (fun v19 ev19 => ?_)
            have yv19 := (h.of0 k2).seen ((63 : Int32) + s1.2.1).toInt.toNat (by omega) (by omega)
            rw [← ev19] at yv19
            refine gw_if ((h.of0 k2).1.t (r := 65) rfl) ?_
            refine gw_bI (s_X12_holdsOf (h.of0 k2)  (by omega)) (fun x20 m20 g20 => ?_)
            have kk20 := k2.trans g20.w00
            refine gw_gRa 66 ((h.of0 kk20).1.c (r := 65) rfl) ((h.of0 kk20).1.r (by decide)) ?_
            have n21 : ((68 : Int32) + s1.2.1).toInt = (68 : Int32).toInt + s1.2.1.toInt := gx_add (by omega) (by omega)
            refine gw_aI (i := ((68 : Int32) + s1.2.1)) ((h.of0 kk20).1.t (r := 66) rfl) ((h.of0 kk20).1.l (r := 66) rfl) (by omega) (by omega) (fun v22 ev22 => ?_)
            refine gw_ne (fun h54_23 => ?_) (fun h54_23 => ?_)
            ·
              exact hj10 _ ⟨kk20, (by show (0 : Int32).toInt = 0 ∨ (0 : Int32).toInt = 1; omega)⟩
            ·
              exact hj15 _ kk20
set_option maxHeartbeats 1000000 in
theorem s_X12_areAsSeen {μ : gm_M} (h : MI μ)   : gwI (f_X12_areAsSeen 65 μ) (fun x m => km A1 μ m ∧ rs m ∧ (x.toInt = 0 ∨ x.toInt = 1)) := by
  refine gwI_of ?_
  unfold f_X12_areAsSeen
  have l0 : (0 : Int32).toInt = 0 := rfl
  have l1 : (1 : Int32).toInt = 1 := rfl
  have l20 : (20 : Int32).toInt = 20 := rfl
  have k0 := km.refl A1 μ
  refine gw_loop (fun s1 => km A1 μ s1.2.2 ∧ ((0 ≤ s1.2.1.toInt ∧ s1.2.1.toInt ≤ 21) ∧ (s1.1.toInt = 0 ∨ s1.1.toInt = 1))) (fun s1 => (21 - s1.2.1.toInt)) (fun s1 ⟨k2, u3⟩ => ?_) 5000 ((1 : Int32), (0 : Int32), μ) ⟨k0, (by show (0 ≤ (0 : Int32).toInt ∧ (0 : Int32).toInt ≤ 21) ∧ ((1 : Int32).toInt = 0 ∨ (1 : Int32).toInt = 1); omega)⟩ (by show (21 - (0 : Int32).toInt) < ((5000 : Nat) : Int); omega) (by show 0 ≤ (21 - (0 : Int32).toInt); omega)
  refine gw_j (fun s4 => True) (fun s4 _ => ?_) (fun j5 hj5 => ?_)
  ·
    refine gw_if ((h.of1 k2).1.t (r := 65) rfl) ?_
    refine gw_bV (s_X12_goesBack (h.of1 k2)  ) (fun m6 ⟨g6, r6⟩ => ?_)
    have kk6 := k2.trans g6.w11
    refine gw_z Iff.rfl (by omega) (gs_inr (gq_I ⟨kk6, r6, by omega⟩))
  ·
    refine gw_lt (fun h7_7 => ?_) (fun h7_7 => ?_)
    ·
      exact hj5 _ trivial
    ·
      refine gw_eq (fun h11_8 => ?_) (fun h11_8 => ?_)
      ·
        exact hj5 _ trivial
      ·
        refine gw_if ((h.of1 k2).1.t (r := 65) rfl) ?_
        refine gw_bI (s_X12_isAsSeen (h.of1 k2)  ) (fun x9 m9 ⟨g9, f9⟩ => ?_)
        have kk9 := k2.trans g9.w01
        refine gw_if ((h.of1 kk9).1.t (r := 65) rfl) ?_
        refine gw_bV (s_X12_goes (h.of1 kk9)  ) (fun m10 ⟨g10, f10⟩ => ?_)
        have kk10 := kk9.trans g10.w11
        have n11 : (s1.2.1 + (1 : Int32)).toInt = s1.2.1.toInt + (1 : Int32).toInt := gx_add (by omega) (by omega)
        exact gw_some (gs_inl ⟨kk10, (by show (0 ≤ (s1.2.1 + (1 : Int32)).toInt ∧ (s1.2.1 + (1 : Int32)).toInt ≤ 21) ∧ (x9.toInt = 0 ∨ x9.toInt = 1); omega)⟩ (by show (21 - (s1.2.1 + (1 : Int32)).toInt) < (21 - s1.2.1.toInt); omega) (by show 0 ≤ (21 - (s1.2.1 + (1 : Int32)).toInt); omega))
end
section
set_option maxHeartbeats 1000000 in
theorem s_X12_of {μ : gm_M} (h : MI μ) {a1 : Int32} {a2 : Int32}  : gwI (f_X12_of 65 a1 a2 μ) (fun x m => qm μ m) := by
  refine gwI_of ?_
  unfold f_X12_of
  have lm1 : (-1 : Int32).toInt = -1 := rfl
  have l0 : (0 : Int32).toInt = 0 := rfl
  have l1 : (1 : Int32).toInt = 1 := rfl
  have l2 : (2 : Int32).toInt = 2 := rfl
  have l5 : (5 : Int32).toInt = 5 := rfl
  have l7 : (7 : Int32).toInt = 7 := rfl
  have l8 : (8 : Int32).toInt = 8 := rfl
  have l9 : (9 : Int32).toInt = 9 := rfl
  have l10 : (10 : Int32).toInt = 10 := rfl
  have l33 : (33 : Int32).toInt = 33 := rfl
  have l38 : (38 : Int32).toInt = 38 := rfl
  have k0 := km.refl A0 μ
  refine gw_if ((h.of0 k0).1.t (r := 65) rfl) ?_
  refine gw_bI (s_X12_isChild (h.of0 k0)  ) (fun x1 m1 ⟨z1, f1⟩ => ?_)
  replace z1 := z1.symm
  subst z1
  refine gw_eq (fun h5_2 => ?_) (fun h5_2 => ?_)
  ·
    exact gw_some (gq_I (qm.of0 k0))
  ·
    refine gw_bI (s_X12_in  ) (fun x3 m3 ⟨z3, f3⟩ => ?_)
    replace z3 := z3.symm
    subst z3
    refine gw_ne (fun h15_4 => ?_) (fun h15_4 => ?_)
    ·
      refine gw_eq (fun h21_5 => ?_) (fun h21_5 => ?_)
      ·
        refine gw_gRa 66 ((h.of0 k0).1.c (r := 65) rfl) ((h.of0 k0).1.r (by decide)) ?_
        have n6 : ((33 : Int32) + a1).toInt = (33 : Int32).toInt + a1.toInt := gx_add (by omega) (by omega)
        refine gw_aI (i := ((33 : Int32) + a1)) ((h.of0 k0).1.t (r := 66) rfl) ((h.of0 k0).1.l (r := 66) rfl) (by omega) (by omega) (fun v7 ev7 => ?_)
        exact gw_some (gq_I (qm.of0 k0))
      ·
        refine gw_eq (fun h21_8 => ?_) (fun h21_8 => ?_)
        ·
          refine gw_gRa 66 ((h.of0 k0).1.c (r := 65) rfl) ((h.of0 k0).1.r (by decide)) ?_
          have n9 : ((38 : Int32) + a1).toInt = (38 : Int32).toInt + a1.toInt := gx_add (by omega) (by omega)
          refine gw_aI (i := ((38 : Int32) + a1)) ((h.of0 k0).1.t (r := 66) rfl) ((h.of0 k0).1.l (r := 66) rfl) (by omega) (by omega) (fun v10 ev10 => ?_)
          exact gw_some (gq_I (qm.of0 k0))
        ·
          refine gw_eq (fun h21_11 => ?_) (fun h21_11 => ?_)
          ·
            refine gw_if ((h.of0 k0).1.t (r := 65) rfl) ?_
            refine gw_bI (s_X12_stretchOf (h.of0 k0)  (by omega)) (fun x12 m12 g12 => ?_)
            have kk12 := k0.trans g12.w00
            exact gw_some (gq_I (qm.of0 kk12))
          ·
            refine gw_eq (fun h21_13 => ?_) (fun h21_13 => ?_)
            ·
              refine gw_if ((h.of0 k0).1.t (r := 65) rfl) ?_
              refine gw_bI (s_X12_chewsOf (h.of0 k0)  (by omega)) (fun x14 m14 z14 => ?_)
              replace z14 := z14.symm
              subst z14
              exact gw_some (gq_I (qm.of0 k0))
            ·
              refine gw_eq (fun h21_15 => ?_) (fun h21_15 => ?_)
              ·
                refine gw_if ((h.of0 k0).1.t (r := 65) rfl) ?_
                refine gw_bI (s_X12_tiresOf (h.of0 k0)  (by omega)) (fun x16 m16 z16 => ?_)
                replace z16 := z16.symm
                subst z16
                exact gw_some (gq_I (qm.of0 k0))
              ·
                refine gw_eq (fun h21_17 => ?_) (fun h21_17 => ?_)
                ·
                  refine gw_if ((h.of0 k0).1.t (r := 65) rfl) ?_
                  refine gw_bI (s_X12_holdsOf (h.of0 k0)  (by omega)) (fun x18 m18 g18 => ?_)
                  have kk18 := k0.trans g18.w00
                  exact gw_some (gq_I (qm.of0 kk18))
                ·
                  refine gw_gRa 66 ((h.of0 k0).1.c (r := 65) rfl) ((h.of0 k0).1.r (by decide)) ?_
                  have n19 : (a2 - (2 : Int32)).toInt = a2.toInt - (2 : Int32).toInt := gx_sub (by omega) (by omega)
                  have n20 : ((5 : Int32) * (a2 - (2 : Int32))).toInt = 5 * (a2 - (2 : Int32)).toInt := gx_mul 5 rfl (by omega) (by omega)
                  have n21 : ((1 : Int32) + ((5 : Int32) * (a2 - (2 : Int32)))).toInt = (1 : Int32).toInt + ((5 : Int32) * (a2 - (2 : Int32))).toInt := gx_add (by omega) (by omega)
                  have n22 : (((1 : Int32) + ((5 : Int32) * (a2 - (2 : Int32)))) + a1).toInt = ((1 : Int32) + ((5 : Int32) * (a2 - (2 : Int32)))).toInt + a1.toInt := gx_add (by omega) (by omega)
                  refine gw_aI (i := (((1 : Int32) + ((5 : Int32) * (a2 - (2 : Int32)))) + a1)) ((h.of0 k0).1.t (r := 66) rfl) ((h.of0 k0).1.l (r := 66) rfl) (by omega) (by omega) (fun v23 ev23 => ?_)
                  exact gw_some (gq_I (qm.of0 k0))
    ·
      exact gw_some (gq_I (qm.of0 k0))
set_option maxHeartbeats 1000000 in
theorem s_X12_told {μ : gm_M} (h : MI μ) {a1 : Int32}  : gwI (f_X12_told 65 a1 μ) (fun x m => qm μ m) := by
  refine gwI_of ?_
  unfold f_X12_told
  have lm1 : (-1 : Int32).toInt = -1 := rfl
  have l0 : (0 : Int32).toInt = 0 := rfl
  have l1 : (1 : Int32).toInt = 1 := rfl
  have l2 : (2 : Int32).toInt = 2 := rfl
  have l3 : (3 : Int32).toInt = 3 := rfl
  have l4 : (4 : Int32).toInt = 4 := rfl
  have l210 : (210 : Int32).toInt = 210 := rfl
  have k0 := km.refl A0 μ
  refine gw_eq (fun h1_1 => ?_) (fun h1_1 => ?_)
  ·
    refine gw_gRa 66 ((h.of0 k0).1.c (r := 65) rfl) ((h.of0 k0).1.r (by decide)) ?_
    refine gw_aI (i := (0 : Int32)) ((h.of0 k0).1.t (r := 66) rfl) ((h.of0 k0).1.l (r := 66) rfl) (by omega) (by omega) (fun v2 ev2 => ?_)
    exact gw_some (gq_I (qm.of0 k0))
  ·
    refine gw_eq (fun h1_3 => ?_) (fun h1_3 => ?_)
    ·
      refine gw_if ((h.of0 k0).1.t (r := 65) rfl) ?_
      refine gw_bI (s_X12_tellsOf (h.of0 k0)  (by omega)) (fun x4 m4 ⟨z4, f4⟩ => ?_)
      replace z4 := z4.symm
      subst z4
      exact gw_some (gq_I (qm.of0 k0))
    ·
      refine gw_eq (fun h1_5 => ?_) (fun h1_5 => ?_)
      ·
        refine gw_if ((h.of0 k0).1.t (r := 65) rfl) ?_
        refine gw_bI (s_X12_sweetNow (h.of0 k0)  ) (fun x6 m6 z6 => ?_)
        replace z6 := z6.symm
        subst z6
        exact gw_some (gq_I (qm.of0 k0))
      ·
        refine gw_eq (fun h1_7 => ?_) (fun h1_7 => ?_)
        ·
          refine gw_if ((h.of0 k0).1.t (r := 65) rfl) ?_
          refine gw_bI (s_X12_allHold (h.of0 k0)  ) (fun x8 m8 g8 => ?_)
          have kk8 := k0.trans g8.w00
          exact gw_some (gq_I (qm.of0 kk8))
        ·
          refine gw_eq (fun h1_9 => ?_) (fun h1_9 => ?_)
          ·
            refine gw_if ((h.of0 k0).1.t (r := 65) rfl) ?_
            refine gw_bI (s_X12_bubbles (h.of0 k0)  ) (fun x10 m10 z10 => ?_)
            replace z10 := z10.symm
            subst z10
            exact gw_some (gq_I (qm.of0 k0))
          ·
            exact gw_some (gq_I (qm.of0 k0))
set_option maxHeartbeats 1000000 in
theorem s_X12_on {μ : gm_M} (h : MI μ) {a1 : Int32} {a2 : Int32}  : gwI (f_X12_on 65 a1 a2 μ) (fun x m => qm μ m) := by
  refine gwI_of ?_
  unfold f_X12_on
  have lm2 : (-2 : Int32).toInt = -2 := rfl
  have lm1 : (-1 : Int32).toInt = -1 := rfl
  have l0 : (0 : Int32).toInt = 0 := rfl
  have l6 : (6 : Int32).toInt = 6 := rfl
  have l10 : (10 : Int32).toInt = 10 := rfl
  have l20 : (20 : Int32).toInt = 20 := rfl
  have l60 : (60 : Int32).toInt = 60 := rfl
  have k0 := km.refl A0 μ
  refine gw_ji ?_
  refine gw_eq (fun h1_1 => ?_) (fun h1_1 => ?_)
  ·
    refine gw_bI (s_X12_in  ) (fun x2 m2 ⟨z2, f2⟩ => ?_)
    replace z2 := z2.symm
    subst z2
    refine gw_ne (fun h35_3 => ?_) (fun h35_3 => ?_)
    ·
      refine gw_if ((h.of0 k0).1.t (r := 65) rfl) ?_
      refine gw_bV (s_X12_keeps (h.of0 k0)  ) (fun m4 g4 => ?_)
      have hh4 := g4.mi (h.of0 k0)
      have kq4 := km.refl A1 m4
      have rr4 := g4.rs
      refine gw_if ((hh4.of1 kq4).1.t (r := 65) rfl) ?_
      refine gw_bV (s_X12_goesOn (hh4.of1 kq4)  (by omega)) (fun m5 ⟨g5, f5⟩ => ?_)
      have kk5 := kq4.trans g5.w11
      refine gw_j (fun s6 => km A1 m4 s6.2) (fun s6 k8 => ?_) (fun j7 hj7 => ?_)
      ·
        refine gw_if ((hh4.of1 k8).1.t (r := 65) rfl) ?_
        refine gw_bV (s_X12_goesBack (hh4.of1 k8)  ) (fun m9 ⟨g9, r9⟩ => ?_)
        have kk9 := k8.trans g9.w11
        exact gw_some (gq_I (qm.kp g4 kk9 r9))
      ·
        refine gw_ne (fun h51_10 => ?_) (fun h51_10 => ?_)
        ·
          refine gw_le (fun h64_11 => ?_) (fun h64_11 => ?_)
          ·
            refine gw_gRa 66 ((hh4.of1 kk5).1.c (r := 65) rfl) ((hh4.of1 kk5).1.r (by decide)) ?_
            have n12 := gx_addw (6 : Int32) a2
            have n12a := gx_lo (6 : Int32)
            have n12b := gx_hi (6 : Int32)
            have n12c := gx_lo ((6 : Int32) + a2)
            have n12d := gx_hi ((6 : Int32) + a2)
            have n13 := gx_subw ((6 : Int32) + a2) (20 : Int32)
            have n13a := gx_lo ((6 : Int32) + a2)
            have n13b := gx_hi ((6 : Int32) + a2)
            have n13c := gx_lo (((6 : Int32) + a2) - (20 : Int32))
            have n13d := gx_hi (((6 : Int32) + a2) - (20 : Int32))
            refine gw_aI (i := (((6 : Int32) + a2) - (20 : Int32))) ((hh4.of1 kk5).1.t (r := 66) rfl) ((hh4.of1 kk5).1.l (r := 66) rfl) (by omega) (by omega) (fun v14 ev14 => ?_)
            exact hj7 _ kk5
          ·
            refine gw_if ((hh4.of1 kk5).1.t (r := 65) rfl) ?_
            have n15 := gx_subw a2 (10 : Int32)
            have n15a := gx_lo a2
            have n15b := gx_hi a2
            have n15c := gx_lo (a2 - (10 : Int32))
            have n15d := gx_hi (a2 - (10 : Int32))
            refine gw_bI (s_X12_holdsOf (hh4.of1 kk5)  (by omega)) (fun x16 m16 g16 => ?_)
            have kk16 := kk5.trans g16.w01
            exact hj7 _ kk16
        ·
          refine gw_if ((hh4.of1 kk5).1.t (r := 65) rfl) ?_
          refine gw_bI (s_X12_allHold (hh4.of1 kk5)  ) (fun x17 m17 g17 => ?_)
          have kk17 := kk5.trans g17.w01
          exact hj7 _ kk17
    ·
      exact gw_some (gq_I (qm.of0 k0))
  ·
    refine gw_if ((h.of0 k0).1.t (r := 65) rfl) ?_
    have n18 := gx_subw a2 (10 : Int32)
    have n18a := gx_lo a2
    have n18b := gx_hi a2
    have n18c := gx_lo (a2 - (10 : Int32))
    have n18d := gx_hi (a2 - (10 : Int32))
    refine gw_bI (s_X12_isChild (h.of0 k0)  ) (fun x19 m19 ⟨z19, f19⟩ => ?_)
    replace z19 := z19.symm
    subst z19
    refine gw_ne (fun h12_20 => ?_) (fun h12_20 => ?_)
    ·
      refine gw_bI (s_X12_in  ) (fun x21 m21 ⟨z21, f21⟩ => ?_)
      replace z21 := z21.symm
      subst z21
      refine gw_ne (fun h35_22 => ?_) (fun h35_22 => ?_)
      ·
        refine gw_if ((h.of0 k0).1.t (r := 65) rfl) ?_
        refine gw_bV (s_X12_keeps (h.of0 k0)  ) (fun m23 g23 => ?_)
        have hh23 := g23.mi (h.of0 k0)
        have kq23 := km.refl A1 m23
        have rr23 := g23.rs
        refine gw_if ((hh23.of1 kq23).1.t (r := 65) rfl) ?_
        refine gw_bV (s_X12_goesOn (hh23.of1 kq23)  (by omega)) (fun m24 ⟨g24, f24⟩ => ?_)
        have kk24 := kq23.trans g24.w11
        refine gw_j (fun s25 => km A1 m23 s25.2) (fun s25 k27 => ?_) (fun j26 hj26 => ?_)
        ·
          refine gw_if ((hh23.of1 k27).1.t (r := 65) rfl) ?_
          refine gw_bV (s_X12_goesBack (hh23.of1 k27)  ) (fun m28 ⟨g28, r28⟩ => ?_)
          have kk28 := k27.trans g28.w11
          exact gw_some (gq_I (qm.kp g23 kk28 r28))
        ·
          refine gw_ne (fun h51_29 => ?_) (fun h51_29 => ?_)
          ·
            refine gw_le (fun h64_30 => ?_) (fun h64_30 => ?_)
            ·
              refine gw_gRa 66 ((hh23.of1 kk24).1.c (r := 65) rfl) ((hh23.of1 kk24).1.r (by decide)) ?_
              have n31 := gx_addw (6 : Int32) a2
              have n31a := gx_lo (6 : Int32)
              have n31b := gx_hi (6 : Int32)
              have n31c := gx_lo ((6 : Int32) + a2)
              have n31d := gx_hi ((6 : Int32) + a2)
              have n32 := gx_subw ((6 : Int32) + a2) (20 : Int32)
              have n32a := gx_lo ((6 : Int32) + a2)
              have n32b := gx_hi ((6 : Int32) + a2)
              have n32c := gx_lo (((6 : Int32) + a2) - (20 : Int32))
              have n32d := gx_hi (((6 : Int32) + a2) - (20 : Int32))
              refine gw_aI (i := (((6 : Int32) + a2) - (20 : Int32))) ((hh23.of1 kk24).1.t (r := 66) rfl) ((hh23.of1 kk24).1.l (r := 66) rfl) (by omega) (by omega) (fun v33 ev33 => ?_)
              exact hj26 _ kk24
            ·
              refine gw_if ((hh23.of1 kk24).1.t (r := 65) rfl) ?_
              have n34 := gx_subw a2 (10 : Int32)
              have n34a := gx_lo a2
              have n34b := gx_hi a2
              have n34c := gx_lo (a2 - (10 : Int32))
              have n34d := gx_hi (a2 - (10 : Int32))
              refine gw_bI (s_X12_holdsOf (hh23.of1 kk24)  (by omega)) (fun x35 m35 g35 => ?_)
              have kk35 := kk24.trans g35.w01
              exact hj26 _ kk35
          ·
            refine gw_if ((hh23.of1 kk24).1.t (r := 65) rfl) ?_
            refine gw_bI (s_X12_allHold (hh23.of1 kk24)  ) (fun x36 m36 g36 => ?_)
            have kk36 := kk24.trans g36.w01
            exact hj26 _ kk36
      ·
        exact gw_some (gq_I (qm.of0 k0))
    ·
      refine gw_if ((h.of0 k0).1.t (r := 65) rfl) ?_
      have n37 := gx_subw a2 (20 : Int32)
      have n37a := gx_lo a2
      have n37b := gx_hi a2
      have n37c := gx_lo (a2 - (20 : Int32))
      have n37d := gx_hi (a2 - (20 : Int32))
      refine gw_bI (s_X12_isChild (h.of0 k0)  ) (fun x38 m38 ⟨z38, f38⟩ => ?_)
      replace z38 := z38.symm
      subst z38
      refine gw_ne (fun h23_39 => ?_) (fun h23_39 => ?_)
      ·
        refine gw_bI (s_X12_in  ) (fun x40 m40 ⟨z40, f40⟩ => ?_)
        replace z40 := z40.symm
        subst z40
        refine gw_ne (fun h35_41 => ?_) (fun h35_41 => ?_)
        ·
          refine gw_if ((h.of0 k0).1.t (r := 65) rfl) ?_
          refine gw_bV (s_X12_keeps (h.of0 k0)  ) (fun m42 g42 => ?_)
          have hh42 := g42.mi (h.of0 k0)
          have kq42 := km.refl A1 m42
          have rr42 := g42.rs
          refine gw_if ((hh42.of1 kq42).1.t (r := 65) rfl) ?_
          refine gw_bV (s_X12_goesOn (hh42.of1 kq42)  (by omega)) (fun m43 ⟨g43, f43⟩ => ?_)
          have kk43 := kq42.trans g43.w11
          refine gw_j (fun s44 => km A1 m42 s44.2) (fun s44 k46 => ?_) (fun j45 hj45 => ?_)
          ·
            refine gw_if ((hh42.of1 k46).1.t (r := 65) rfl) ?_
            refine gw_bV (s_X12_goesBack (hh42.of1 k46)  ) (fun m47 ⟨g47, r47⟩ => ?_)
            have kk47 := k46.trans g47.w11
            exact gw_some (gq_I (qm.kp g42 kk47 r47))
          ·
            refine gw_ne (fun h51_48 => ?_) (fun h51_48 => ?_)
            ·
              refine gw_le (fun h64_49 => ?_) (fun h64_49 => ?_)
              ·
                refine gw_gRa 66 ((hh42.of1 kk43).1.c (r := 65) rfl) ((hh42.of1 kk43).1.r (by decide)) ?_
                have n50 := gx_addw (6 : Int32) a2
                have n50a := gx_lo (6 : Int32)
                have n50b := gx_hi (6 : Int32)
                have n50c := gx_lo ((6 : Int32) + a2)
                have n50d := gx_hi ((6 : Int32) + a2)
                have n51 := gx_subw ((6 : Int32) + a2) (20 : Int32)
                have n51a := gx_lo ((6 : Int32) + a2)
                have n51b := gx_hi ((6 : Int32) + a2)
                have n51c := gx_lo (((6 : Int32) + a2) - (20 : Int32))
                have n51d := gx_hi (((6 : Int32) + a2) - (20 : Int32))
                refine gw_aI (i := (((6 : Int32) + a2) - (20 : Int32))) ((hh42.of1 kk43).1.t (r := 66) rfl) ((hh42.of1 kk43).1.l (r := 66) rfl) (by omega) (by omega) (fun v52 ev52 => ?_)
                exact hj45 _ kk43
              ·
                refine gw_if ((hh42.of1 kk43).1.t (r := 65) rfl) ?_
                have n53 := gx_subw a2 (10 : Int32)
                have n53a := gx_lo a2
                have n53b := gx_hi a2
                have n53c := gx_lo (a2 - (10 : Int32))
                have n53d := gx_hi (a2 - (10 : Int32))
                refine gw_bI (s_X12_holdsOf (hh42.of1 kk43)  (by omega)) (fun x54 m54 g54 => ?_)
                have kk54 := kk43.trans g54.w01
                exact hj45 _ kk54
            ·
              refine gw_if ((hh42.of1 kk43).1.t (r := 65) rfl) ?_
              refine gw_bI (s_X12_allHold (hh42.of1 kk43)  ) (fun x55 m55 g55 => ?_)
              have kk55 := kk43.trans g55.w01
              exact hj45 _ kk55
        ·
          exact gw_some (gq_I (qm.of0 k0))
      ·
        exact gw_some (gq_I (qm.of0 k0))
set_option maxHeartbeats 1000000 in
theorem s_X12_when {μ : gm_M} (h : MI μ) {a1 : Int32} {a2 : Int32}  : gwI (f_X12_when 65 a1 a2 μ) (fun x m => qm μ m) := by
  refine gwI_of ?_
  unfold f_X12_when
  have lm1 : (-1 : Int32).toInt = -1 := rfl
  have l0 : (0 : Int32).toInt = 0 := rfl
  have l1 : (1 : Int32).toInt = 1 := rfl
  have k0 := km.refl A0 μ
  refine gw_if ((h.of0 k0).1.t (r := 65) rfl) ?_
  refine gw_bI (s_X12_isChild (h.of0 k0)  ) (fun x1 m1 ⟨z1, f1⟩ => ?_)
  replace z1 := z1.symm
  subst z1
  refine gw_eq (fun h5_2 => ?_) (fun h5_2 => ?_)
  ·
    exact gw_some (gq_I (qm.of0 k0))
  ·
    refine gw_bI (s_X12_in  ) (fun x3 m3 ⟨z3, f3⟩ => ?_)
    replace z3 := z3.symm
    subst z3
    refine gw_ne (fun h14_4 => ?_) (fun h14_4 => ?_)
    ·
      refine gw_if ((h.of0 k0).1.t (r := 65) rfl) ?_
      refine gw_bV (s_X12_keeps (h.of0 k0)  ) (fun m5 g5 => ?_)
      have hh5 := g5.mi (h.of0 k0)
      have kq5 := km.refl A1 m5
      have rr5 := g5.rs
      refine gw_if ((hh5.of1 kq5).1.t (r := 65) rfl) ?_
      refine gw_bV (s_X12_looksForWhen (hh5.of1 kq5)  (by omega)) (fun m6 ⟨g6, r6⟩ => ?_)
      have kk6 := kq5.trans g6.w11
      refine gw_ne (fun h29_7 => ?_) (fun h29_7 => ?_)
      ·
        refine gw_gI ((hh5.of1 kk6).1.c (r := 65) rfl) (fun v8 ev8 => ?_)
        exact gw_some (gq_I (qm.kp g5 kk6 r6))
      ·
        refine gw_gI ((hh5.of1 kk6).1.c (r := 65) rfl) (fun v9 ev9 => ?_)
        exact gw_some (gq_I (qm.kp g5 kk6 r6))
    ·
      exact gw_some (gq_I (qm.of0 k0))
set_option maxHeartbeats 1000000 in
theorem s_X12_soon {μ : gm_M} (h : MI μ) {a1 : Int32} {a2 : Int32}  : gwI (f_X12_soon 65 a1 a2 μ) (fun x m => qm μ m) := by
  refine gwI_of ?_
  unfold f_X12_soon
  have lm5 : (-5 : Int32).toInt = -5 := rfl
  have lm2 : (-2 : Int32).toInt = -2 := rfl
  have lm1 : (-1 : Int32).toInt = -1 := rfl
  have l0 : (0 : Int32).toInt = 0 := rfl
  have l1 : (1 : Int32).toInt = 1 := rfl
  have l60 : (60 : Int32).toInt = 60 := rfl
  have l999 : (999 : Int32).toInt = 999 := rfl
  have k0 := km.refl A0 μ
  refine gw_if ((h.of0 k0).1.t (r := 65) rfl) ?_
  refine gw_bI (s_X12_isChild (h.of0 k0)  ) (fun x1 m1 ⟨z1, f1⟩ => ?_)
  replace z1 := z1.symm
  subst z1
  refine gw_ne (fun h5_2 => ?_) (fun h5_2 => ?_)
  ·
    refine gw_bI (s_X12_in  ) (fun x3 m3 ⟨z3, f3⟩ => ?_)
    replace z3 := z3.symm
    subst z3
    refine gw_ne (fun h18_4 => ?_) (fun h18_4 => ?_)
    ·
      refine gw_if ((h.of0 k0).1.t (r := 65) rfl) ?_
      refine gw_bV (s_X12_keeps (h.of0 k0)  ) (fun m5 g5 => ?_)
      have hh5 := g5.mi (h.of0 k0)
      have kq5 := km.refl A1 m5
      have rr5 := g5.rs
      refine gw_loop (fun s6 => km A1 m5 s6.2.2 ∧ (0 ≤ s6.2.1.toInt ∧ s6.2.1.toInt ≤ 61)) (fun s6 => (61 - s6.2.1.toInt)) (fun s6 ⟨k7, u8⟩ => ?_) 5000 ((-5 : Int32), (0 : Int32), m5) ⟨kq5, (by show 0 ≤ (0 : Int32).toInt ∧ (0 : Int32).toInt ≤ 61; omega)⟩ (by show (61 - (0 : Int32).toInt) < ((5000 : Nat) : Int); omega) (by show 0 ≤ (61 - (0 : Int32).toInt); omega)
      refine gw_j (fun s9 => True) (fun s9 _ => ?_) (fun j10 hj10 => ?_)
      ·
        refine gw_if ((hh5.of1 k7).1.t (r := 65) rfl) ?_
        refine gw_bV (s_X12_goesBack (hh5.of1 k7)  ) (fun m11 ⟨g11, r11⟩ => ?_)
        have kk11 := k7.trans g11.w11
        exact gw_some (gs_inr (gq_I (qm.kp g5 kk11 r11)))
      ·
        refine gw_lt (fun h38_12 => ?_) (fun h38_12 => ?_)
        ·
          exact hj10 _ trivial
        ·
          refine gw_ne (fun h44_13 => ?_) (fun h44_13 => ?_)
          ·
            exact hj10 _ trivial
          ·
            refine gw_if ((hh5.of1 k7).1.t (r := 65) rfl) ?_
            refine gw_bI (s_X12_holdsOf (hh5.of1 k7)  (by omega)) (fun x14 m14 g14 => ?_)
            have kk14 := k7.trans g14.w01
            refine gw_j (fun s15 => True) (fun s15 _ => ?_) (fun j16 hj16 => ?_)
            ·
              refine gw_if ((hh5.of1 kk14).1.t (r := 65) rfl) ?_
              refine gw_bV (s_X12_goesAlone (hh5.of1 kk14)  (by omega)) (fun m17 g17 => ?_)
              have kk17 := kk14.trans g17.w11
              have n18 : (s6.2.1 + (1 : Int32)).toInt = s6.2.1.toInt + (1 : Int32).toInt := gx_add (by omega) (by omega)
              exact gw_some (gs_inl ⟨kk17, (by show 0 ≤ (s6.2.1 + (1 : Int32)).toInt ∧ (s6.2.1 + (1 : Int32)).toInt ≤ 61; omega)⟩ (by show (61 - (s6.2.1 + (1 : Int32)).toInt) < (61 - s6.2.1.toInt); omega) (by show 0 ≤ (61 - (s6.2.1 + (1 : Int32)).toInt); omega))
            ·
              refine gw_lt (fun h53_19 => ?_) (fun h53_19 => ?_)
              ·
                exact hj16 _ trivial
              ·
                exact hj16 _ trivial
    ·
      exact gw_some (gq_I (qm.of0 k0))
  ·
    exact gw_some (gq_I (qm.of0 k0))
set_option maxHeartbeats 1000000 in
theorem s_X12_pieces {μ : gm_M} (h : MI μ) {a1 : Int32} {a2 : Int32}  : gwI (f_X12_pieces 65 a1 a2 μ) (fun x m => qm μ m) := by
  refine gwI_of ?_
  unfold f_X12_pieces
  have lm1 : (-1 : Int32).toInt = -1 := rfl
  have l0 : (0 : Int32).toInt = 0 := rfl
  have l1 : (1 : Int32).toInt = 1 := rfl
  have l6 : (6 : Int32).toInt = 6 := rfl
  have l16 : (16 : Int32).toInt = 16 := rfl
  have k0 := km.refl A0 μ
  refine gw_if ((h.of0 k0).1.t (r := 65) rfl) ?_
  refine gw_bI (s_X12_isChild (h.of0 k0)  ) (fun x1 m1 ⟨z1, f1⟩ => ?_)
  replace z1 := z1.symm
  subst z1
  refine gw_eq (fun h5_2 => ?_) (fun h5_2 => ?_)
  ·
    exact gw_some (gq_I (qm.of0 k0))
  ·
    refine gw_bI (s_X12_in  ) (fun x3 m3 ⟨z3, f3⟩ => ?_)
    replace z3 := z3.symm
    subst z3
    refine gw_ne (fun h14_4 => ?_) (fun h14_4 => ?_)
    ·
      refine gw_if ((h.of0 k0).1.t (r := 65) rfl) ?_
      refine gw_bV (s_X12_keeps (h.of0 k0)  ) (fun m5 g5 => ?_)
      have hh5 := g5.mi (h.of0 k0)
      have kq5 := km.refl A1 m5
      have rr5 := g5.rs
      refine gw_loop (fun s6 => km A1 m5 s6.2.2.2 ∧ rs s6.2.2.2 ∧ (0 ≤ s6.2.2.1.toInt ∧ s6.2.2.1.toInt ≤ 7)) (fun s6 => (7 - s6.2.2.1.toInt)) (fun s6 ⟨k7, r7, u8⟩ => ?_) 5000 ((0 : Int32), (-1 : Int32), (0 : Int32), m5) ⟨kq5, rr5, (by show 0 ≤ (0 : Int32).toInt ∧ (0 : Int32).toInt ≤ 7; omega)⟩ (by show (7 - (0 : Int32).toInt) < ((5000 : Nat) : Int); omega) (by show 0 ≤ (7 - (0 : Int32).toInt); omega)
      refine gw_lt (fun h35_9 => ?_) (fun h35_9 => ?_)
      ·
        refine gw_ne (fun h122_10 => ?_) (fun h122_10 => ?_)
        ·
          exact gw_some (gs_inr (gq_I (qm.kp g5 k7 r7)))
        ·
          exact gw_some (gs_inr (gq_I (qm.kp g5 k7 r7)))
      ·
        refine gw_gRa 66 ((hh5.of1 k7).1.c (r := 65) rfl) ((hh5.of1 k7).1.r (by decide)) ?_
        have n11 : ((1 : Int32) + a1).toInt = (1 : Int32).toInt + a1.toInt := gx_add (by omega) (by omega)
        refine gw_sI (i := ((1 : Int32) + a1)) ((hh5.of1 k7).1.t (r := 66) rfl) ((hh5.of1 k7).1.l (r := 66) rfl) (by omega) (by omega) (fun m12 em12 => ?_)
        have km12 := k7.ws em12 (by unfold A1; omega)
        refine gw_gRa 66 ((hh5.of1 km12).1.c (r := 65) rfl) ((hh5.of1 km12).1.r (by decide)) ?_
        refine gw_if ((hh5.of1 km12).1.t (r := 65) rfl) ?_
        refine gw_bI (s_X12_sweetNow (hh5.of1 km12)  ) (fun x13 m13 z13 => ?_)
        replace z13 := z13.symm
        subst z13
        have n14 : ((6 : Int32) + a1).toInt = (6 : Int32).toInt + a1.toInt := gx_add (by omega) (by omega)
        refine gw_sI (i := ((6 : Int32) + a1)) ((hh5.of1 km12).1.t (r := 66) rfl) ((hh5.of1 km12).1.l (r := 66) rfl) (by omega) (by omega) (fun m15 em15 => ?_)
        have km15 := km12.ws em15 (by unfold A1; omega)
        refine gw_gRa 66 ((hh5.of1 km15).1.c (r := 65) rfl) ((hh5.of1 km15).1.r (by decide)) ?_
        have n16 : ((16 : Int32) + a1).toInt = (16 : Int32).toInt + a1.toInt := gx_add (by omega) (by omega)
        refine gw_sI (i := ((16 : Int32) + a1)) ((hh5.of1 km15).1.t (r := 66) rfl) ((hh5.of1 km15).1.l (r := 66) rfl) (by omega) (by omega) (fun m17 em17 => ?_)
        have km17 := km15.ws em17 (by unfold A1; omega)
        refine gw_if ((hh5.of1 km17).1.t (r := 65) rfl) ?_
        refine gw_bV (s_X12_looksForWhen (hh5.of1 km17)  (by omega)) (fun m18 ⟨g18, r18⟩ => ?_)
        have kk18 := km17.trans g18.w11
        refine gw_gI ((hh5.of1 kk18).1.c (r := 65) rfl) (fun v19 ev19 => ?_)
        refine gw_j (fun s20 => True) (fun s20 _ => ?_) (fun j21 hj21 => ?_)
        ·
          refine gw_gI ((hh5.of1 kk18).1.c (r := 65) rfl) (fun v22 ev22 => ?_)
          refine gw_j (fun s23 => True) (fun s23 _ => ?_) (fun j24 hj24 => ?_)
          ·
            have n25 : (s6.2.2.1 + (1 : Int32)).toInt = s6.2.2.1.toInt + (1 : Int32).toInt := gx_add (by omega) (by omega)
            exact gw_some (gs_inl ⟨kk18, r18, (by show 0 ≤ (s6.2.2.1 + (1 : Int32)).toInt ∧ (s6.2.2.1 + (1 : Int32)).toInt ≤ 7; omega)⟩ (by show (7 - (s6.2.2.1 + (1 : Int32)).toInt) < (7 - s6.2.2.1.toInt); omega) (by show 0 ≤ (7 - (s6.2.2.1 + (1 : Int32)).toInt); omega))
          ·
            refine gw_le (fun h101_26 => ?_) (fun h101_26 => ?_)
            ·
              exact hj24 _ trivial
            ·
              refine gw_gI ((hh5.of1 kk18).1.c (r := 65) rfl) (fun v27 ev27 => ?_)
              exact hj24 _ trivial
        ·
          refine gw_le (fun h85_28 => ?_) (fun h85_28 => ?_)
          ·
            exact hj21 _ trivial
          ·
            exact hj21 _ trivial
    ·
      exact gw_some (gq_I (qm.of0 k0))
set_option maxHeartbeats 1000000 in
theorem s_X12_breaths {μ : gm_M} (h : MI μ) {a1 : Int32} {a2 : Int32}  : gwI (f_X12_breaths 65 a1 a2 μ) (fun x m => qm μ m) := by
  refine gwI_of ?_
  unfold f_X12_breaths
  have lm2 : (-2 : Int32).toInt = -2 := rfl
  have lm1 : (-1 : Int32).toInt = -1 := rfl
  have l0 : (0 : Int32).toInt = 0 := rfl
  have l1 : (1 : Int32).toInt = 1 := rfl
  have l99 : (99 : Int32).toInt = 99 := rfl
  have k0 := km.refl A0 μ
  refine gw_if ((h.of0 k0).1.t (r := 65) rfl) ?_
  refine gw_bI (s_X12_isChild (h.of0 k0)  ) (fun x1 m1 ⟨z1, f1⟩ => ?_)
  replace z1 := z1.symm
  subst z1
  refine gw_ne (fun h5_2 => ?_) (fun h5_2 => ?_)
  ·
    refine gw_bI (s_X12_in  ) (fun x3 m3 ⟨z3, f3⟩ => ?_)
    replace z3 := z3.symm
    subst z3
    refine gw_eq (fun h17_4 => ?_) (fun h17_4 => ?_)
    ·
      exact gw_some (gq_I (qm.of0 k0))
    ·
      refine gw_if ((h.of0 k0).1.t (r := 65) rfl) ?_
      refine gw_bI (s_X12_slackOf (h.of0 k0)  (by omega)) (fun x5 m5 g5 => ?_)
      have kk5 := k0.trans g5.w00
      refine gw_bI (s_X12_above  ) (fun x6 m6 z6 => ?_)
      replace z6 := z6.symm
      subst z6
      refine gw_dv (by omega) ?_
      exact gw_some (gq_I (qm.of0 kk5))
  ·
    exact gw_some (gq_I (qm.of0 k0))
set_option maxHeartbeats 1000000 in
theorem s_X12_slack {μ : gm_M} (h : MI μ) {a1 : Int32}  : gwI (f_X12_slack 65 a1 μ) (fun x m => qm μ m) := by
  refine gwI_of ?_
  unfold f_X12_slack
  have lm10001 : (-10001 : Int32).toInt = -10001 := rfl
  have l0 : (0 : Int32).toInt = 0 := rfl
  have k0 := km.refl A0 μ
  refine gw_if ((h.of0 k0).1.t (r := 65) rfl) ?_
  refine gw_bI (s_X12_isChild (h.of0 k0)  ) (fun x1 m1 ⟨z1, f1⟩ => ?_)
  replace z1 := z1.symm
  subst z1
  refine gw_eq (fun h5_2 => ?_) (fun h5_2 => ?_)
  ·
    exact gw_some (gq_I (qm.of0 k0))
  ·
    refine gw_if ((h.of0 k0).1.t (r := 65) rfl) ?_
    refine gw_bI (s_X12_slackOf (h.of0 k0)  (by omega)) (fun x3 m3 g3 => ?_)
    have kk3 := k0.trans g3.w00
    exact gw_some (gq_I (qm.of0 kk3))
set_option maxHeartbeats 1000000 in
theorem s_X12_likely {μ : gm_M} (h : MI μ) {a1 : Int32} {a2 : Int32} {a3 : Int32}  : gwL (f_X12_likely 65 a1 a2 a3 μ) (fun x m => qm μ m) := by
  refine gwL_of ?_
  unfold f_X12_likely
  have l0 : (0 : Int32).toInt = 0 := rfl
  have l1 : (1 : Int32).toInt = 1 := rfl
  have l999 : (999 : Int32).toInt = 999 := rfl
  have k0 := km.refl A0 μ
  refine gw_if ((h.of0 k0).1.t (r := 65) rfl) ?_
  refine gw_bI (s_X12_isChild (h.of0 k0)  ) (fun x1 m1 ⟨z1, f1⟩ => ?_)
  replace z1 := z1.symm
  subst z1
  refine gw_j (fun s2 => km A0 μ s2) (fun s2 k4 => ?_) (fun j3 hj3 => ?_)
  ·
    exact gw_some (gq_L (qm.of0 k4))
  ·
    refine gw_eq (fun h5_5 => ?_) (fun h5_5 => ?_)
    ·
      exact hj3 _ k0
    ·
      refine gw_bI (s_X12_in  ) (fun x6 m6 ⟨z6, f6⟩ => ?_)
      replace z6 := z6.symm
      subst z6
      refine gw_eq (fun h16_7 => ?_) (fun h16_7 => ?_)
      ·
        exact hj3 _ k0
      ·
        refine gw_bI (s_X12_in  ) (fun x8 m8 ⟨z8, f8⟩ => ?_)
        replace z8 := z8.symm
        subst z8
        refine gw_ne (fun h25_9 => ?_) (fun h25_9 => ?_)
        ·
          refine gw_if ((h.of0 k0).1.t (r := 65) rfl) ?_
          refine gw_bI (s_X12_holdsOf (h.of0 k0)  (by omega)) (fun x10 m10 g10 => ?_)
          have kk10 := k0.trans g10.w00
          refine gw_bI (s_X12_likelyOf  ) (fun x11 m11 z11 => ?_)
          replace z11 := z11.symm
          subst z11
          refine gw_bL (s_X12_lowest  (by (first | decide | (rw [Int32.toInt_toInt64]; omega)))) (fun x12 m12 z12 => ?_)
          replace z12 := z12.symm
          subst z12
          exact gw_some (gq_L (qm.of0 kk10))
        ·
          exact hj3 _ k0
set_option maxHeartbeats 1000000 in
theorem s_X12_dare {μ : gm_M} (h : MI μ) {a1 : Int32}  : gwI (f_X12_dare 65 a1 μ) (fun x m => qm μ m) := by
  refine gwI_of ?_
  unfold f_X12_dare
  have lm1 : (-1 : Int32).toInt = -1 := rfl
  have l0 : (0 : Int32).toInt = 0 := rfl
  have l1 : (1 : Int32).toInt = 1 := rfl
  have l1000 : (1000 : Int32).toInt = 1000 := rfl
  have k0 := km.refl A0 μ
  refine gw_if ((h.of0 k0).1.t (r := 65) rfl) ?_
  refine gw_bI (s_X12_isChild (h.of0 k0)  ) (fun x1 m1 ⟨z1, f1⟩ => ?_)
  replace z1 := z1.symm
  subst z1
  refine gw_ne (fun h5_2 => ?_) (fun h5_2 => ?_)
  ·
    refine gw_if ((h.of0 k0).1.t (r := 65) rfl) ?_
    refine gw_bI (s_X12_holdsOf (h.of0 k0)  (by omega)) (fun x3 m3 g3 => ?_)
    have kk3 := k0.trans g3.w00
    refine gw_loop (fun s4 => km A0 μ s4.2.2.2 ∧ (0 ≤ s4.2.2.1.toInt ∧ s4.2.2.1.toInt ≤ 1000)) (fun s4 => (1000 - s4.2.2.1.toInt)) (fun s4 ⟨k5, u6⟩ => ?_) 5000 ((0 : Int32), (-1 : Int32), (0 : Int32), m3) ⟨kk3, (by show 0 ≤ (0 : Int32).toInt ∧ (0 : Int32).toInt ≤ 1000; omega)⟩ (by show (1000 - (0 : Int32).toInt) < ((5000 : Nat) : Int); omega) (by show 0 ≤ (1000 - (0 : Int32).toInt); omega)
    refine gw_le (fun h29_7 => ?_) (fun h29_7 => ?_)
    ·
      exact gw_some (gs_inr (gq_I (qm.of0 k5)))
    ·
      refine gw_bI (s_X12_likelyOf  ) (fun x8 m8 z8 => ?_)
      replace z8 := z8.symm
      subst z8
      refine gw_j (fun s9 => True) (fun s9 _ => ?_) (fun j10 hj10 => ?_)
      ·
        refine gw_j (fun s11 => True) (fun s11 _ => ?_) (fun j12 hj12 => ?_)
        ·
          have n13 : (s4.2.2.1 + (1 : Int32)).toInt = s4.2.2.1.toInt + (1 : Int32).toInt := gx_add (by omega) (by omega)
          exact gw_some (gs_inl ⟨k5, (by show 0 ≤ (s4.2.2.1 + (1 : Int32)).toInt ∧ (s4.2.2.1 + (1 : Int32)).toInt ≤ 1000; omega)⟩ (by show (1000 - (s4.2.2.1 + (1 : Int32)).toInt) < (1000 - s4.2.2.1.toInt); omega) (by show 0 ≤ (1000 - (s4.2.2.1 + (1 : Int32)).toInt); omega))
        ·
          refine gw_le (fun h61_14 => ?_) (fun h61_14 => ?_)
          ·
            exact hj12 _ trivial
          ·
            exact hj12 _ trivial
      ·
        refine gw_le (fun h47_15 => ?_) (fun h47_15 => ?_)
        ·
          exact hj10 _ trivial
        ·
          exact hj10 _ trivial
  ·
    exact gw_some (gq_I (qm.of0 k0))
set_option maxHeartbeats 1000000 in
theorem s_X12_first {μ : gm_M} (h : MI μ)   : gwI (f_X12_first 65 μ) (fun x m => qm μ m) := by
  refine gwI_of ?_
  unfold f_X12_first
  have lm5 : (-5 : Int32).toInt = -5 := rfl
  have lm1 : (-1 : Int32).toInt = -1 := rfl
  have l0 : (0 : Int32).toInt = 0 := rfl
  have l1 : (1 : Int32).toInt = 1 := rfl
  have l26 : (26 : Int32).toInt = 26 := rfl
  have k0 := km.refl A0 μ
  refine gw_loop (fun s1 => km A0 μ s1.2.2.2 ∧ (0 ≤ s1.2.2.1.toInt ∧ s1.2.2.1.toInt ≤ 5)) (fun s1 => (5 - s1.2.2.1.toInt)) (fun s1 ⟨k2, u3⟩ => ?_) 5000 ((-5 : Int32), (-1 : Int32), (0 : Int32), μ) ⟨k0, (by show 0 ≤ (0 : Int32).toInt ∧ (0 : Int32).toInt ≤ 5; omega)⟩ (by show (5 - (0 : Int32).toInt) < ((5000 : Nat) : Int); omega) (by show 0 ≤ (5 - (0 : Int32).toInt); omega)
  refine gw_gRa 66 ((h.of0 k2).1.c (r := 65) rfl) ((h.of0 k2).1.r (by decide)) ?_
  refine gw_aI (i := (26 : Int32)) ((h.of0 k2).1.t (r := 66) rfl) ((h.of0 k2).1.l (r := 66) rfl) (by omega) (by omega) (fun v4 ev4 => ?_)
  have bv4 := (h.of0 k2).n26
  have cv4 : v4 = s1.2.2.2.2.1 66 26 := ev4
  have dv4 : v4.toInt = (s1.2.2.2.2.1 66 26).toInt := by rw [cv4]
  have yv4 : v4.toInt = (μ.2.1 66 26).toInt := by rw [dv4, k2.2.2.2.1 26 (by first | exact fun q => q | (unfold A0; omega))]
  refine gw_le (fun h15_5 => ?_) (fun h15_5 => ?_)
  ·
    exact gw_some (gs_inr (gq_I (qm.of0 k2)))
  ·
    refine gw_if ((h.of0 k2).1.t (r := 65) rfl) ?_
    refine gw_bI (s_X12_holdsOf (h.of0 k2)  (by omega)) (fun x6 m6 g6 => ?_)
    have kk6 := k2.trans g6.w00
    refine gw_j (fun s7 => True) (fun s7 _ => ?_) (fun j8 hj8 => ?_)
    ·
      refine gw_j (fun s9 => True) (fun s9 _ => ?_) (fun j10 hj10 => ?_)
      ·
        have n11 : (s1.2.2.1 + (1 : Int32)).toInt = s1.2.2.1.toInt + (1 : Int32).toInt := gx_add (by omega) (by omega)
        exact gw_some (gs_inl ⟨kk6, (by show 0 ≤ (s1.2.2.1 + (1 : Int32)).toInt ∧ (s1.2.2.1 + (1 : Int32)).toInt ≤ 5; omega)⟩ (by show (5 - (s1.2.2.1 + (1 : Int32)).toInt) < (5 - s1.2.2.1.toInt); omega) (by show 0 ≤ (5 - (s1.2.2.1 + (1 : Int32)).toInt); omega))
      ·
        refine gw_le (fun h40_12 => ?_) (fun h40_12 => ?_)
        ·
          exact hj10 _ trivial
        ·
          exact hj10 _ trivial
    ·
      refine gw_le (fun h28_13 => ?_) (fun h28_13 => ?_)
      ·
        exact hj8 _ trivial
      ·
        exact hj8 _ trivial
set_option maxHeartbeats 1000000 in
theorem s_X12_beats {μ : gm_M} (h : MI μ) {a1 : Int32} {a2 : Int32} {a3 : Int32}  : gwL (f_X12_beats 65 a1 a2 a3 μ) (fun x m => qm μ m) := by
  refine gwL_of ?_
  unfold f_X12_beats
  have l0 : (0 : Int32).toInt = 0 := rfl
  have l1 : (1 : Int32).toInt = 1 := rfl
  have l10 : (10 : Int32).toInt = 10 := rfl
  have k0 := km.refl A0 μ
  refine gw_if ((h.of0 k0).1.t (r := 65) rfl) ?_
  refine gw_bI (s_X12_isChild (h.of0 k0)  ) (fun x1 m1 ⟨z1, f1⟩ => ?_)
  replace z1 := z1.symm
  subst z1
  refine gw_j (fun s2 => km A0 μ s2) (fun s2 k4 => ?_) (fun j3 hj3 => ?_)
  ·
    exact gw_some (gq_L (qm.of0 k4))
  ·
    refine gw_eq (fun h5_5 => ?_) (fun h5_5 => ?_)
    ·
      exact hj3 _ k0
    ·
      refine gw_if ((h.of0 k0).1.t (r := 65) rfl) ?_
      refine gw_bI (s_X12_isChild (h.of0 k0)  ) (fun x6 m6 ⟨z6, f6⟩ => ?_)
      replace z6 := z6.symm
      subst z6
      refine gw_eq (fun h13_7 => ?_) (fun h13_7 => ?_)
      ·
        exact hj3 _ k0
      ·
        refine gw_eq (fun h18_8 => ?_) (fun h18_8 => ?_)
        ·
          exact hj3 _ k0
        ·
          refine gw_bI (s_X12_in  ) (fun x9 m9 ⟨z9, f9⟩ => ?_)
          replace z9 := z9.symm
          subst z9
          refine gw_ne (fun h27_10 => ?_) (fun h27_10 => ?_)
          ·
            refine gw_if ((h.of0 k0).1.t (r := 65) rfl) ?_
            refine gw_bI (s_X12_holdsOf (h.of0 k0)  (by omega)) (fun x11 m11 g11 => ?_)
            have kk11 := k0.trans g11.w00
            refine gw_if ((h.of0 kk11).1.t (r := 65) rfl) ?_
            refine gw_bI (s_X12_holdsOf (h.of0 kk11)  (by omega)) (fun x12 m12 g12 => ?_)
            have kk12 := kk11.trans g12.w00
            refine gw_loop (fun s13 => km A0 μ s13.2.2 ∧ (0 ≤ s13.2.1.toInt ∧ s13.2.1.toInt ≤ 10)) (fun s13 => (10 - s13.2.1.toInt)) (fun s13 ⟨k14, u15⟩ => ?_) 5000 ((0 : Int64), (0 : Int32), m12) ⟨kk12, (by show 0 ≤ (0 : Int32).toInt ∧ (0 : Int32).toInt ≤ 10; omega)⟩ (by show (10 - (0 : Int32).toInt) < ((5000 : Nat) : Int); omega) (by show 0 ≤ (10 - (0 : Int32).toInt); omega)
            refine gw_le (fun h58_16 => ?_) (fun h58_16 => ?_)
            ·
              refine gw_bL (s_X12_lowest  (by (first | decide | (rw [Int32.toInt_toInt64]; omega)))) (fun x17 m17 z17 => ?_)
              replace z17 := z17.symm
              subst z17
              exact gw_some (gs_inr (gq_L (qm.of0 k14)))
            ·
              refine gw_loop (fun s18 => km A0 μ s18.2.2 ∧ (0 ≤ s18.2.1.toInt ∧ s18.2.1.toInt ≤ 10)) (fun s18 => (10 - s18.2.1.toInt)) (fun s18 ⟨k19, u20⟩ => ?_) 5000 (s13.1, (0 : Int32), s13.2.2) ⟨k14, (by show 0 ≤ (0 : Int32).toInt ∧ (0 : Int32).toInt ≤ 10; omega)⟩ (by show (10 - (0 : Int32).toInt) < ((5000 : Nat) : Int); omega) (by show 0 ≤ (10 - (0 : Int32).toInt); omega)
              refine gw_le (fun h68_21 => ?_) (fun h68_21 => ?_)
              ·
                have n22 : (s13.2.1 + (1 : Int32)).toInt = s13.2.1.toInt + (1 : Int32).toInt := gx_add (by omega) (by omega)
                exact gw_some (gs_inr (gs_inl ⟨k19, (by show 0 ≤ (s13.2.1 + (1 : Int32)).toInt ∧ (s13.2.1 + (1 : Int32)).toInt ≤ 10; omega)⟩ (by show (10 - (s13.2.1 + (1 : Int32)).toInt) < (10 - s13.2.1.toInt); omega) (by show 0 ≤ (10 - (s13.2.1 + (1 : Int32)).toInt); omega)))
              ·
                refine gw_bI (s_X12_thin  ) (fun x23 m23 z23 => ?_)
                replace z23 := z23.symm
                subst z23
                refine gw_bI (s_X12_thin  ) (fun x24 m24 z24 => ?_)
                replace z24 := z24.symm
                subst z24
                refine gw_j (fun s25 => True) (fun s25 _ => ?_) (fun j26 hj26 => ?_)
                ·
                  have n27 : (s18.2.1 + (1 : Int32)).toInt = s18.2.1.toInt + (1 : Int32).toInt := gx_add (by omega) (by omega)
                  exact gw_some (gs_inl ⟨k19, (by show 0 ≤ (s18.2.1 + (1 : Int32)).toInt ∧ (s18.2.1 + (1 : Int32)).toInt ≤ 10; omega)⟩ (by show (10 - (s18.2.1 + (1 : Int32)).toInt) < (10 - s18.2.1.toInt); omega) (by show 0 ≤ (10 - (s18.2.1 + (1 : Int32)).toInt); omega))
                ·
                  refine gw_le (fun h87_28 => ?_) (fun h87_28 => ?_)
                  ·
                    exact hj26 _ trivial
                  ·
                    exact hj26 _ trivial
          ·
            exact hj3 _ k0
set_option maxHeartbeats 1000000 in
theorem s_X12_clean {μ : gm_M} (h : MI μ) {a1 : Int32} {a2 : Int32}  : gwI (f_X12_clean 65 a1 a2 μ) (fun x m => qm μ m) := by
  refine gwI_of ?_
  unfold f_X12_clean
  have lm2 : (-2 : Int32).toInt = -2 := rfl
  have lm1 : (-1 : Int32).toInt = -1 := rfl
  have l0 : (0 : Int32).toInt = 0 := rfl
  have l1 : (1 : Int32).toInt = 1 := rfl
  have l21 : (21 : Int32).toInt = 21 := rfl
  have l99 : (99 : Int32).toInt = 99 := rfl
  have k0 := km.refl A0 μ
  refine gw_if ((h.of0 k0).1.t (r := 65) rfl) ?_
  refine gw_bI (s_X12_isChild (h.of0 k0)  ) (fun x1 m1 ⟨z1, f1⟩ => ?_)
  replace z1 := z1.symm
  subst z1
  refine gw_ne (fun h5_2 => ?_) (fun h5_2 => ?_)
  ·
    refine gw_bI (s_X12_in  ) (fun x3 m3 ⟨z3, f3⟩ => ?_)
    replace z3 := z3.symm
    subst z3
    refine gw_eq (fun h17_4 => ?_) (fun h17_4 => ?_)
    ·
      exact gw_some (gq_I (qm.of0 k0))
    ·
      refine gw_gRa 66 ((h.of0 k0).1.c (r := 65) rfl) ((h.of0 k0).1.r (by decide)) ?_
      have n5 : ((21 : Int32) + a1).toInt = (21 : Int32).toInt + a1.toInt := gx_add (by omega) (by omega)
      refine gw_aI (i := ((21 : Int32) + a1)) ((h.of0 k0).1.t (r := 66) rfl) ((h.of0 k0).1.l (r := 66) rfl) (by omega) (by omega) (fun v6 ev6 => ?_)
      refine gw_dv (by omega) ?_
      exact gw_some (gq_I (qm.of0 k0))
  ·
    exact gw_some (gq_I (qm.of0 k0))
set_option maxHeartbeats 1000000 in
theorem s_X12_who {μ : gm_M} (h : MI μ) {a1 : Int32} {a2 : Int32}  : gwI (f_X12_who 65 a1 a2 μ) (fun x m => qm μ m) := by
  refine gwI_of ?_
  unfold f_X12_who
  have lm2 : (-2 : Int32).toInt = -2 := rfl
  have l0 : (0 : Int32).toInt = 0 := rfl
  have l1 : (1 : Int32).toInt = 1 := rfl
  have l26 : (26 : Int32).toInt = 26 := rfl
  have l40 : (40 : Int32).toInt = 40 := rfl
  have l999 : (999 : Int32).toInt = 999 := rfl
  have k0 := km.refl A0 μ
  refine gw_bI (s_X12_in  ) (fun x1 m1 ⟨z1, f1⟩ => ?_)
  replace z1 := z1.symm
  subst z1
  refine gw_eq (fun h8_2 => ?_) (fun h8_2 => ?_)
  ·
    exact gw_some (gq_I (qm.of0 k0))
  ·
    refine gw_bI (s_X12_in  ) (fun x3 m3 ⟨z3, f3⟩ => ?_)
    replace z3 := z3.symm
    subst z3
    refine gw_ne (fun h18_4 => ?_) (fun h18_4 => ?_)
    ·
      refine gw_if ((h.of0 k0).1.t (r := 65) rfl) ?_
      refine gw_bV (s_X12_keeps (h.of0 k0)  ) (fun m5 g5 => ?_)
      have hh5 := g5.mi (h.of0 k0)
      have kq5 := km.refl A1 m5
      have rr5 := g5.rs
      refine gw_if ((hh5.of1 kq5).1.t (r := 65) rfl) ?_
      refine gw_bV (s_X12_goesOn (hh5.of1 kq5)  (by omega)) (fun m6 ⟨g6, f6⟩ => ?_)
      have kk6 := kq5.trans g6.w11
      refine gw_loop (fun s7 => km A1 m5 s7.2.2 ∧ (0 ≤ s7.2.1.toInt ∧ s7.2.1.toInt ≤ 5)) (fun s7 => (5 - s7.2.1.toInt)) (fun s7 ⟨k8, u9⟩ => ?_) 5000 ((0 : Int32), (0 : Int32), m6) ⟨kk6, (by show 0 ≤ (0 : Int32).toInt ∧ (0 : Int32).toInt ≤ 5; omega)⟩ (by show (5 - (0 : Int32).toInt) < ((5000 : Nat) : Int); omega) (by show 0 ≤ (5 - (0 : Int32).toInt); omega)
      refine gw_gRa 66 ((hh5.of1 k8).1.c (r := 65) rfl) ((hh5.of1 k8).1.r (by decide)) ?_
      refine gw_aI (i := (26 : Int32)) ((hh5.of1 k8).1.t (r := 66) rfl) ((hh5.of1 k8).1.l (r := 66) rfl) (by omega) (by omega) (fun v10 ev10 => ?_)
      have bv10 := (hh5.of1 k8).n26
      have cv10 : v10 = s7.2.2.2.1 66 26 := ev10
      have dv10 : v10.toInt = (s7.2.2.2.1 66 26).toInt := by rw [cv10]
      have yv10 : v10.toInt = (μ.2.1 66 26).toInt := by rw [dv10, k8.2.2.2.1 26 (by first | exact fun q => q | (unfold A1; omega)), g5.2.2.1 66 (by decide)]
      refine gw_le (fun h47_11 => ?_) (fun h47_11 => ?_)
      ·
        refine gw_if ((hh5.of1 k8).1.t (r := 65) rfl) ?_
        refine gw_bV (s_X12_goesBack (hh5.of1 k8)  ) (fun m12 ⟨g12, r12⟩ => ?_)
        have kk12 := k8.trans g12.w11
        exact gw_some (gs_inr (gq_I (qm.kp g5 kk12 r12)))
      ·
        refine gw_if ((hh5.of1 k8).1.t (r := 65) rfl) ?_
        refine gw_bI (s_X12_holdsOf (hh5.of1 k8)  (by omega)) (fun x13 m13 g13 => ?_)
        have kk13 := k8.trans g13.w01
        refine gw_j (fun s14 => True) (fun s14 _ => ?_) (fun j15 hj15 => ?_)
        ·
          have n16 : (s7.2.1 + (1 : Int32)).toInt = s7.2.1.toInt + (1 : Int32).toInt := gx_add (by omega) (by omega)
          exact gw_some (gs_inl ⟨kk13, (by show 0 ≤ (s7.2.1 + (1 : Int32)).toInt ∧ (s7.2.1 + (1 : Int32)).toInt ≤ 5; omega)⟩ (by show (5 - (s7.2.1 + (1 : Int32)).toInt) < (5 - s7.2.1.toInt); omega) (by show 0 ≤ (5 - (s7.2.1 + (1 : Int32)).toInt); omega))
        ·
          refine gw_ne (fun h58_17 => ?_) (fun h58_17 => ?_)
          ·
            exact hj15 _ trivial
          ·
            exact hj15 _ trivial
    ·
      exact gw_some (gq_I (qm.of0 k0))
set_option maxHeartbeats 1000000 in
theorem s_X12_had {μ : gm_M} (h : MI μ) {a1 : Int32}  : gwI (f_X12_had 65 a1 μ) (fun x m => qm μ m) := by
  refine gwI_of ?_
  unfold f_X12_had
  have lm1 : (-1 : Int32).toInt = -1 := rfl
  have l0 : (0 : Int32).toInt = 0 := rfl
  have l1 : (1 : Int32).toInt = 1 := rfl
  have l6 : (6 : Int32).toInt = 6 := rfl
  have k0 := km.refl A0 μ
  refine gw_if ((h.of0 k0).1.t (r := 65) rfl) ?_
  refine gw_bI (s_X12_isChild (h.of0 k0)  ) (fun x1 m1 ⟨z1, f1⟩ => ?_)
  replace z1 := z1.symm
  subst z1
  refine gw_ne (fun h5_2 => ?_) (fun h5_2 => ?_)
  ·
    refine gw_if ((h.of0 k0).1.t (r := 65) rfl) ?_
    refine gw_bV (s_X12_keeps (h.of0 k0)  ) (fun m3 g3 => ?_)
    have hh3 := g3.mi (h.of0 k0)
    have kq3 := km.refl A1 m3
    have rr3 := g3.rs
    refine gw_loop (fun s4 => km A1 m3 s4.2.2 ∧ rs s4.2.2 ∧ (0 ≤ s4.2.1.toInt ∧ s4.2.1.toInt ≤ 7)) (fun s4 => (7 - s4.2.1.toInt)) (fun s4 ⟨k5, r5, u6⟩ => ?_) 5000 ((0 : Int32), (0 : Int32), m3) ⟨kq3, rr3, (by show 0 ≤ (0 : Int32).toInt ∧ (0 : Int32).toInt ≤ 7; omega)⟩ (by show (7 - (0 : Int32).toInt) < ((5000 : Nat) : Int); omega) (by show 0 ≤ (7 - (0 : Int32).toInt); omega)
    refine gw_lt (fun h21_7 => ?_) (fun h21_7 => ?_)
    ·
      exact gw_some (gs_inr (gq_I (qm.kp g3 k5 r5)))
    ·
      refine gw_gRa 66 ((hh3.of1 k5).1.c (r := 65) rfl) ((hh3.of1 k5).1.r (by decide)) ?_
      have n8 : ((1 : Int32) + a1).toInt = (1 : Int32).toInt + a1.toInt := gx_add (by omega) (by omega)
      refine gw_sI (i := ((1 : Int32) + a1)) ((hh3.of1 k5).1.t (r := 66) rfl) ((hh3.of1 k5).1.l (r := 66) rfl) (by omega) (by omega) (fun m9 em9 => ?_)
      have km9 := k5.ws em9 (by unfold A1; omega)
      refine gw_if ((hh3.of1 km9).1.t (r := 65) rfl) ?_
      refine gw_bI (s_X12_areAsSeen (hh3.of1 km9)  ) (fun x10 m10 ⟨g10, r10, f10⟩ => ?_)
      have kk10 := km9.trans g10.w11
      refine gw_j (fun s11 => True) (fun s11 _ => ?_) (fun j12 hj12 => ?_)
      ·
        have n13 : (s4.2.1 + (1 : Int32)).toInt = s4.2.1.toInt + (1 : Int32).toInt := gx_add (by omega) (by omega)
        exact gw_some (gs_inl ⟨kk10, r10, (by show 0 ≤ (s4.2.1 + (1 : Int32)).toInt ∧ (s4.2.1 + (1 : Int32)).toInt ≤ 7; omega)⟩ (by show (7 - (s4.2.1 + (1 : Int32)).toInt) < (7 - s4.2.1.toInt); omega) (by show 0 ≤ (7 - (s4.2.1 + (1 : Int32)).toInt); omega))
      ·
        refine gw_eq (fun h38_14 => ?_) (fun h38_14 => ?_)
        ·
          exact hj12 _ trivial
        ·
          exact hj12 _ trivial
  ·
    exact gw_some (gq_I (qm.of0 k0))
set_option maxHeartbeats 1000000 in
theorem s_X12_mean {μ : gm_M} (h : MI μ) {a1 : Int32} {a2 : Int32}  : gwL (f_X12_mean 65 a1 a2 μ) (fun x m => qm μ m) := by
  refine gwL_of ?_
  unfold f_X12_mean
  have l0 : (0 : Int32).toInt = 0 := rfl
  have l1 : (1 : Int32).toInt = 1 := rfl
  have l26 : (26 : Int32).toInt = 26 := rfl
  have l60 : (60 : Int32).toInt = 60 := rfl
  have k0 := km.refl A0 μ
  refine gw_bI (s_X12_in  ) (fun x1 m1 ⟨z1, f1⟩ => ?_)
  replace z1 := z1.symm
  subst z1
  refine gw_j (fun s2 => km A0 μ s2) (fun s2 k4 => ?_) (fun j3 hj3 => ?_)
  ·
    exact gw_some (gq_L (qm.of0 k4))
  ·
    refine gw_eq (fun h7_5 => ?_) (fun h7_5 => ?_)
    ·
      exact hj3 _ k0
    ·
      refine gw_bI (s_X12_in  ) (fun x6 m6 ⟨z6, f6⟩ => ?_)
      replace z6 := z6.symm
      subst z6
      refine gw_eq (fun h16_7 => ?_) (fun h16_7 => ?_)
      ·
        exact hj3 _ k0
      ·
        refine gw_gRa 66 ((h.of0 k0).1.c (r := 65) rfl) ((h.of0 k0).1.r (by decide)) ?_
        refine gw_aI (i := (26 : Int32)) ((h.of0 k0).1.t (r := 66) rfl) ((h.of0 k0).1.l (r := 66) rfl) (by omega) (by omega) (fun v8 ev8 => ?_)
        have bv8 := (h.of0 k0).n26
        have cv8 : v8 = μ.2.1 66 26 := ev8
        have dv8 : v8.toInt = (μ.2.1 66 26).toInt := by rw [cv8]
        refine gw_ne (fun h26_9 => ?_) (fun h26_9 => ?_)
        ·
          refine gw_if ((h.of0 k0).1.t (r := 65) rfl) ?_
          refine gw_bV (s_X12_keeps (h.of0 k0)  ) (fun m10 g10 => ?_)
          have hh10 := g10.mi (h.of0 k0)
          have kq10 := km.refl A1 m10
          have rr10 := g10.rs
          refine gw_if ((hh10.of1 kq10).1.t (r := 65) rfl) ?_
          refine gw_bV (s_X12_goesOn (hh10.of1 kq10)  (by omega)) (fun m11 ⟨g11, f11⟩ => ?_)
          have kk11 := kq10.trans g11.w11
          refine gw_if ((hh10.of1 kk11).1.t (r := 65) rfl) ?_
          refine gw_bI (s_X12_allHold (hh10.of1 kk11)  ) (fun x12 m12 g12 => ?_)
          have kk12 := kk11.trans g12.w01
          refine gw_if ((hh10.of1 kk12).1.t (r := 65) rfl) ?_
          refine gw_bV (s_X12_goesBack (hh10.of1 kk12)  ) (fun m13 ⟨g13, r13⟩ => ?_)
          have kk13 := kk12.trans g13.w11
          refine gw_gRa 66 ((hh10.of1 kk13).1.c (r := 65) rfl) ((hh10.of1 kk13).1.r (by decide)) ?_
          refine gw_aI (i := (26 : Int32)) ((hh10.of1 kk13).1.t (r := 66) rfl) ((hh10.of1 kk13).1.l (r := 66) rfl) (by omega) (by omega) (fun v14 ev14 => ?_)
          have bv14 := (hh10.of1 kk13).n26
          have cv14 : v14 = m13.2.1 66 26 := ev14
          have dv14 : v14.toInt = (m13.2.1 66 26).toInt := by rw [cv14]
          have yv14 : v14.toInt = (μ.2.1 66 26).toInt := by rw [dv14, kk13.2.2.2.1 26 (by first | exact fun q => q | (unfold A1; omega)), g10.2.2.1 66 (by decide)]
          refine gw_bL (s_X12_lowest  (by (first | decide | (rw [Int32.toInt_toInt64]; omega)))) (fun x15 m15 z15 => ?_)
          replace z15 := z15.symm
          subst z15
          exact gw_some (gq_L (qm.kp g10 kk13 r13))
        ·
          exact hj3 _ k0
set_option maxHeartbeats 1000000 in
theorem s_X12_done {μ : gm_M} (h : MI μ) {a1 : Int32}  : gwI (f_X12_done 65 a1 μ) (fun x m => qm μ m) := by
  refine gwI_of ?_
  unfold f_X12_done
  have lm1 : (-1 : Int32).toInt = -1 := rfl
  have l0 : (0 : Int32).toInt = 0 := rfl
  have l1 : (1 : Int32).toInt = 1 := rfl
  have l16 : (16 : Int32).toInt = 16 := rfl
  have l21 : (21 : Int32).toInt = 21 := rfl
  have l29 : (29 : Int32).toInt = 29 := rfl
  have l78 : (78 : Int32).toInt = 78 := rfl
  have l86 : (86 : Int32).toInt = 86 := rfl
  have k0 := km.refl A0 μ
  refine gw_bI (s_X12_in  ) (fun x1 m1 ⟨z1, f1⟩ => ?_)
  replace z1 := z1.symm
  subst z1
  refine gw_ne (fun h6_2 => ?_) (fun h6_2 => ?_)
  ·
    refine gw_if ((h.of0 k0).1.t (r := 65) rfl) ?_
    refine gw_bV (s_X12_keeps (h.of0 k0)  ) (fun m3 g3 => ?_)
    have hh3 := g3.mi (h.of0 k0)
    have kq3 := km.refl A1 m3
    have rr3 := g3.rs
    refine gw_if ((hh3.of1 kq3).1.t (r := 65) rfl) ?_
    refine gw_bI (s_X12_allOf (hh3.of1 kq3)  (by omega)) (fun x4 m4 z4 => ?_)
    replace z4 := z4.symm
    subst z4
    refine gw_loop (fun s5 => km A1 m3 s5.2 ∧ (0 ≤ s5.1.toInt ∧ s5.1.toInt ≤ 8)) (fun s5 => (8 - s5.1.toInt)) (fun s5 ⟨k6, u7⟩ => ?_) 5000 ((0 : Int32), m3) ⟨kq3, (by show 0 ≤ (0 : Int32).toInt ∧ (0 : Int32).toInt ≤ 8; omega)⟩ (by show (8 - (0 : Int32).toInt) < ((5000 : Nat) : Int); omega) (by show 0 ≤ (8 - (0 : Int32).toInt); omega)
    refine gw_gRa 66 ((hh3.of1 k6).1.c (r := 65) rfl) ((hh3.of1 k6).1.r (by decide)) ?_
    refine gw_aI (i := (29 : Int32)) ((hh3.of1 k6).1.t (r := 66) rfl) ((hh3.of1 k6).1.l (r := 66) rfl) (by omega) (by omega) (fun v8 ev8 => ?_)
    have bv8 := (hh3.of1 k6).n29
    have cv8 : v8 = s5.2.2.1 66 29 := ev8
    have dv8 : v8.toInt = (s5.2.2.1 66 29).toInt := by rw [cv8]
    have yv8 : v8.toInt = (μ.2.1 66 29).toInt := by rw [dv8, k6.2.2.2.1 29 (by first | exact fun q => q | (unfold A1; omega)), g3.2.2.1 66 (by decide)]
    refine gw_le (fun h32_9 => ?_) (fun h32_9 => ?_)
    ·
      refine gw_j (fun s10 => km A1 m3 s10.2) (fun s10 k12 => ?_) (fun j11 hj11 => ?_)
      ·
        refine gw_if ((hh3.of1 k12).1.t (r := 65) rfl) ?_
        refine gw_bV (s_X12_goesBack (hh3.of1 k12)  ) (fun m13 ⟨g13, r13⟩ => ?_)
        have kk13 := k12.trans g13.w11
        exact gw_some (gs_inr (gq_I (qm.kp g3 kk13 r13)))
      ·
        refine gw_ne (fun h64_14 => ?_) (fun h64_14 => ?_)
        ·
          refine gw_if ((hh3.of1 k6).1.t (r := 65) rfl) ?_
          refine gw_bI (s_X12_allOf (hh3.of1 k6)  (by omega)) (fun x15 m15 z15 => ?_)
          replace z15 := z15.symm
          subst z15
          exact hj11 _ k6
        ·
          refine gw_if ((hh3.of1 k6).1.t (r := 65) rfl) ?_
          refine gw_bI (s_X12_allOf (hh3.of1 k6)  (by omega)) (fun x16 m16 z16 => ?_)
          replace z16 := z16.symm
          subst z16
          exact hj11 _ k6
    ·
      refine gw_gRa 66 ((hh3.of1 k6).1.c (r := 65) rfl) ((hh3.of1 k6).1.r (by decide)) ?_
      have n17 : ((78 : Int32) + s5.1).toInt = (78 : Int32).toInt + s5.1.toInt := gx_add (by omega) (by omega)
      refine gw_aI (i := ((78 : Int32) + s5.1)) ((hh3.of1 k6).1.t (r := 66) rfl) ((hh3.of1 k6).1.l (r := 66) rfl) (by omega) (by omega) (fun v18 ev18 => ?_)
      have zv18 : v18.toInt = (s5.2.2.1 66 (s5.1.toInt + 78).toNat).toInt := by rw [ev18, show ((78 : Int32) + s5.1).toInt.toNat = (s5.1.toInt + 78).toNat by omega]
      have z2v18 := (hh3.of1 k6).what ((78 : Int32) + s5.1).toInt.toNat (by omega) (by omega)
      rw [← ev18] at z2v18
      refine gw_gRa 66 ((hh3.of1 k6).1.c (r := 65) rfl) ((hh3.of1 k6).1.r (by decide)) ?_
      have n19 : ((86 : Int32) + s5.1).toInt = (86 : Int32).toInt + s5.1.toInt := gx_add (by omega) (by omega)
      refine gw_aI (i := ((86 : Int32) + s5.1)) ((hh3.of1 k6).1.t (r := 66) rfl) ((hh3.of1 k6).1.l (r := 66) rfl) (by omega) (by omega) (fun v20 ev20 => ?_)
      have yv20 := (hh3.of1 k6).whom (s5.1.toInt + 78).toNat (by omega) (by omega)
      rw [show (s5.1.toInt + 78).toNat + 8 = ((86 : Int32) + s5.1).toInt.toNat by omega, ← ev20] at yv20
      refine gw_if ((hh3.of1 k6).1.t (r := 65) rfl) ?_
      refine gw_bV (s_X12_does (hh3.of1 k6)  (by omega) (by omega)) (fun m21 g21 => ?_)
      have kk21 := k6.trans g21.w11
      have n22 : (s5.1 + (1 : Int32)).toInt = s5.1.toInt + (1 : Int32).toInt := gx_add (by omega) (by omega)
      exact gw_some (gs_inl ⟨kk21, (by show 0 ≤ (s5.1 + (1 : Int32)).toInt ∧ (s5.1 + (1 : Int32)).toInt ≤ 8; omega)⟩ (by show (8 - (s5.1 + (1 : Int32)).toInt) < (8 - s5.1.toInt); omega) (by show 0 ≤ (8 - (s5.1 + (1 : Int32)).toInt); omega))
  ·
    exact gw_some (gq_I (qm.of0 k0))
set_option maxHeartbeats 1000000 in
theorem s_X12_looked {μ : gm_M} (h : MI μ)   : gwI (f_X12_looked 65 μ) (fun x m => qm μ m) := by
  refine gwI_of ?_
  unfold f_X12_looked
  have lm5 : (-5 : Int32).toInt = -5 := rfl
  have l0 : (0 : Int32).toInt = 0 := rfl
  have l1 : (1 : Int32).toInt = 1 := rfl
  have l16 : (16 : Int32).toInt = 16 := rfl
  have l30 : (30 : Int32).toInt = 30 := rfl
  have l94 : (94 : Int32).toInt = 94 := rfl
  have l102 : (102 : Int32).toInt = 102 := rfl
  have k0 := km.refl A0 μ
  refine gw_loop (fun s1 => (0 ≤ s1.toInt ∧ s1.toInt ≤ 8)) (fun s1 => (8 - s1.toInt)) (fun s1 u2 => ?_) 5000 (0 : Int32) (by show 0 ≤ (0 : Int32).toInt ∧ (0 : Int32).toInt ≤ 8; omega) (by show (8 - (0 : Int32).toInt) < ((5000 : Nat) : Int); omega) (by show 0 ≤ (8 - (0 : Int32).toInt); omega)
  refine gw_gRa 66 ((h.of0 k0).1.c (r := 65) rfl) ((h.of0 k0).1.r (by decide)) ?_
  refine gw_aI (i := (30 : Int32)) ((h.of0 k0).1.t (r := 66) rfl) ((h.of0 k0).1.l (r := 66) rfl) (by omega) (by omega) (fun v3 ev3 => ?_)
  have bv3 := (h.of0 k0).n30
  have cv3 : v3 = μ.2.1 66 30 := ev3
  have dv3 : v3.toInt = (μ.2.1 66 30).toInt := by rw [cv3]
  refine gw_le (fun h10_4 => ?_) (fun h10_4 => ?_)
  ·
    exact gw_some (gs_inr (gq_I (qm.of0 k0)))
  ·
    refine gw_gRa 66 ((h.of0 k0).1.c (r := 65) rfl) ((h.of0 k0).1.r (by decide)) ?_
    refine gw_gRa 66 ((h.of0 k0).1.c (r := 65) rfl) ((h.of0 k0).1.r (by decide)) ?_
    have n5 : ((94 : Int32) + s1).toInt = (94 : Int32).toInt + s1.toInt := gx_add (by omega) (by omega)
    refine gw_aI (i := ((94 : Int32) + s1)) ((h.of0 k0).1.t (r := 66) rfl) ((h.of0 k0).1.l (r := 66) rfl) (by omega) (by omega) (fun v6 ev6 => ?_)
    have yv6 := (h.of0 k0).booked ((94 : Int32) + s1).toInt.toNat (by omega) (by omega)
    rw [← ev6] at yv6
    have n7 : ((16 : Int32) + v6).toInt = (16 : Int32).toInt + v6.toInt := gx_add (by omega) (by omega)
    refine gw_aI (i := ((16 : Int32) + v6)) ((h.of0 k0).1.t (r := 66) rfl) ((h.of0 k0).1.l (r := 66) rfl) (by omega) (by omega) (fun v8 ev8 => ?_)
    refine gw_gRa 66 ((h.of0 k0).1.c (r := 65) rfl) ((h.of0 k0).1.r (by decide)) ?_
    have n9 : ((102 : Int32) + s1).toInt = (102 : Int32).toInt + s1.toInt := gx_add (by omega) (by omega)
    refine gw_aI (i := ((102 : Int32) + s1)) ((h.of0 k0).1.t (r := 66) rfl) ((h.of0 k0).1.l (r := 66) rfl) (by omega) (by omega) (fun v10 ev10 => ?_)
    refine gw_eq (fun h39_11 => ?_) (fun h39_11 => ?_)
    ·
      have n12 : (s1 + (1 : Int32)).toInt = s1.toInt + (1 : Int32).toInt := gx_add (by omega) (by omega)
      exact gw_some (gs_inl (by show 0 ≤ (s1 + (1 : Int32)).toInt ∧ (s1 + (1 : Int32)).toInt ≤ 8; omega) (by show (8 - (s1 + (1 : Int32)).toInt) < (8 - s1.toInt); omega) (by show 0 ≤ (8 - (s1 + (1 : Int32)).toInt); omega))
    ·
      exact gw_some (gs_inr (gq_I (qm.of0 k0)))
set_option maxHeartbeats 1000000 in
theorem s_X12_as {μ : gm_M} (h : MI μ) {a1 : Int32} {a2 : Int32}  : gwI (f_X12_as 65 a1 a2 μ) (fun x m => qm μ m) := by
  refine gwI_of ?_
  unfold f_X12_as
  have lm6 : (-6 : Int32).toInt = -6 := rfl
  have lm1 : (-1 : Int32).toInt = -1 := rfl
  have l0 : (0 : Int32).toInt = 0 := rfl
  have l6 : (6 : Int32).toInt = 6 := rfl
  have l33 : (33 : Int32).toInt = 33 := rfl
  have l38 : (38 : Int32).toInt = 38 := rfl
  have k0 := km.refl A0 μ
  refine gw_if ((h.of0 k0).1.t (r := 65) rfl) ?_
  refine gw_bI (s_X12_isChild (h.of0 k0)  ) (fun x1 m1 ⟨z1, f1⟩ => ?_)
  replace z1 := z1.symm
  subst z1
  refine gw_eq (fun h5_2 => ?_) (fun h5_2 => ?_)
  ·
    exact gw_some (gq_I (qm.of0 k0))
  ·
    refine gw_bI (s_X12_in  ) (fun x3 m3 ⟨z3, f3⟩ => ?_)
    replace z3 := z3.symm
    subst z3
    refine gw_ne (fun h15_4 => ?_) (fun h15_4 => ?_)
    ·
      refine gw_gRa 66 ((h.of0 k0).1.c (r := 65) rfl) ((h.of0 k0).1.r (by decide)) ?_
      have n5 : ((33 : Int32) + a1).toInt = (33 : Int32).toInt + a1.toInt := gx_add (by omega) (by omega)
      refine gw_aI (i := ((33 : Int32) + a1)) ((h.of0 k0).1.t (r := 66) rfl) ((h.of0 k0).1.l (r := 66) rfl) (by omega) (by omega) (fun v6 ev6 => ?_)
      refine gw_bI (s_X12_isUnder  ) (fun x7 m7 ⟨z7, f7⟩ => ?_)
      replace z7 := z7.symm
      subst z7
      refine gw_eq (fun h33_8 => ?_) (fun h33_8 => ?_)
      ·
        exact gw_some (gq_I (qm.of0 k0))
      ·
        refine gw_gRa 66 ((h.of0 k0).1.c (r := 65) rfl) ((h.of0 k0).1.r (by decide)) ?_
        have n9 : ((38 : Int32) + a1).toInt = (38 : Int32).toInt + a1.toInt := gx_add (by omega) (by omega)
        refine gw_aI (i := ((38 : Int32) + a1)) ((h.of0 k0).1.t (r := 66) rfl) ((h.of0 k0).1.l (r := 66) rfl) (by omega) (by omega) (fun v10 ev10 => ?_)
        exact gw_some (gq_I (qm.of0 k0))
    ·
      exact gw_some (gq_I (qm.of0 k0))
set_option maxHeartbeats 1000000 in
theorem s_X12_count {μ : gm_M} (h : MI μ) {a1 : Int32}  : gwI (f_X12_count 65 a1 μ) (fun x m => qm μ m) := by
  refine gwI_of ?_
  unfold f_X12_count
  have lm1 : (-1 : Int32).toInt = -1 := rfl
  have l0 : (0 : Int32).toInt = 0 := rfl
  have l5 : (5 : Int32).toInt = 5 := rfl
  have l6 : (6 : Int32).toInt = 6 := rfl
  have l26 : (26 : Int32).toInt = 26 := rfl
  have k0 := km.refl A0 μ
  refine gw_ne (fun h3_1 => ?_) (fun h3_1 => ?_)
  ·
    refine gw_bI (s_X12_in  ) (fun x2 m2 ⟨z2, f2⟩ => ?_)
    replace z2 := z2.symm
    subst z2
    refine gw_eq (fun h19_3 => ?_) (fun h19_3 => ?_)
    ·
      exact gw_some (gq_I (qm.of0 k0))
    ·
      refine gw_gRa 66 ((h.of0 k0).1.c (r := 65) rfl) ((h.of0 k0).1.r (by decide)) ?_
      have n4 : ((26 : Int32) + a1).toInt = (26 : Int32).toInt + a1.toInt := gx_add (by omega) (by omega)
      refine gw_aI (i := ((26 : Int32) + a1)) ((h.of0 k0).1.t (r := 66) rfl) ((h.of0 k0).1.l (r := 66) rfl) (by omega) (by omega) (fun v5 ev5 => ?_)
      exact gw_some (gq_I (qm.of0 k0))
  ·
    refine gw_gI ((h.of0 k0).1.c (r := 65) rfl) (fun v6 ev6 => ?_)
    exact gw_some (gq_I (qm.of0 k0))
end
section
set_option maxHeartbeats 1000000 in
theorem sb_X12_ordersFrom {R0 : Nat → Int32 → Int32 → Int32 → gm_M → Option (Option Value × gm_M)} (n : Int) (d : Nat) (hR : ∀ {m : gm_M} (h : MI m) {b1 b2 b3 : Int32}, (m.2.1 66 26).toInt = n → 0 ≤ b1.toInt ∧ b1.toInt ≤ n → n - b1.toInt < d → gwV (R0 65 b1 b2 b3 m) (fun m1 => km A0 m m1)) {μ : gm_M} (h : MI μ) {a1 a2 a3 : Int32} (e0 : (μ.2.1 66 26).toInt = n) (q0 : 0 ≤ a1.toInt ∧ a1.toInt ≤ n) (q1 : n - a1.toInt < d + 1) : gwV (b_X12_ordersFrom R0 65 a1 a2 a3 μ) (fun m => km A0 μ m) := by
  refine gwV_of ?_
  unfold b_X12_ordersFrom
  have hn := h.n26
  have l0 : (0 : Int32).toInt = 0 := rfl
  have l1 : (1 : Int32).toInt = 1 := rfl
  have l5 : (5 : Int32).toInt = 5 := rfl
  have l26 : (26 : Int32).toInt = 26 := rfl
  have k0 := km.refl A0 μ
  refine gw_gRa 66 ((h.of0 k0).1.c (r := 65) rfl) ((h.of0 k0).1.r (by decide)) ?_
  refine gw_aI (i := (26 : Int32)) ((h.of0 k0).1.t (r := 66) rfl) ((h.of0 k0).1.l (r := 66) rfl) (by omega) (by omega) (fun v1 ev1 => ?_)
  have bv1 := (h.of0 k0).n26
  have cv1 : v1 = μ.2.1 66 26 := ev1
  have dv1 : v1.toInt = (μ.2.1 66 26).toInt := by rw [cv1]
  refine gw_ne (fun h8_2 => ?_) (fun h8_2 => ?_)
  ·
    refine gw_loop (fun s3 => km A0 μ s3.2 ∧ (0 ≤ s3.1.toInt ∧ s3.1.toInt ≤ 5)) (fun s3 => (5 - s3.1.toInt)) (fun s3 ⟨k4, u5⟩ => ?_) 5000 ((0 : Int32), μ) ⟨k0, (by show 0 ≤ (0 : Int32).toInt ∧ (0 : Int32).toInt ≤ 5; omega)⟩ (by show (5 - (0 : Int32).toInt) < ((5000 : Nat) : Int); omega) (by show 0 ≤ (5 - (0 : Int32).toInt); omega)
    refine gw_gRa 66 ((h.of0 k4).1.c (r := 65) rfl) ((h.of0 k4).1.r (by decide)) ?_
    refine gw_aI (i := (26 : Int32)) ((h.of0 k4).1.t (r := 66) rfl) ((h.of0 k4).1.l (r := 66) rfl) (by omega) (by omega) (fun v6 ev6 => ?_)
    have bv6 := (h.of0 k4).n26
    have cv6 : v6 = s3.2.2.1 66 26 := ev6
    have dv6 : v6.toInt = (s3.2.2.1 66 26).toInt := by rw [cv6]
    have yv6 : v6.toInt = (μ.2.1 66 26).toInt := by rw [dv6, k4.2.2.2.1 26 (by first | exact fun q => q | (unfold A0; omega))]
    refine gw_le (fun h66_7 => ?_) (fun h66_7 => ?_)
    ·
      exact gw_some (gs_inr (gq_V k4))
    ·
      refine gw_j (fun s8 => km A0 μ s8) (fun s8 k10 => ?_) (fun j9 hj9 => ?_)
      ·
        have n11 : (s3.1 + (1 : Int32)).toInt = s3.1.toInt + (1 : Int32).toInt := gx_add (by omega) (by omega)
        exact gw_some (gs_inl ⟨k10, (by show 0 ≤ (s3.1 + (1 : Int32)).toInt ∧ (s3.1 + (1 : Int32)).toInt ≤ 5; omega)⟩ (by show (5 - (s3.1 + (1 : Int32)).toInt) < (5 - s3.1.toInt); omega) (by show 0 ≤ (5 - (s3.1 + (1 : Int32)).toInt); omega))
      ·
        refine gw_ne (fun h75_12 => ?_) (fun h75_12 => ?_)
        ·
          exact hj9 _ k4
        ·
          refine gw_gRa 72 ((h.of0 k4).1.c (r := 65) rfl) ((h.of0 k4).1.r (by decide)) ?_
          refine gw_sI (i := a1) ((h.of0 k4).1.t (r := 72) rfl) ((h.of0 k4).1.l (r := 72) rfl) (by omega) (by omega) (fun m13 em13 => ?_)
          have km13 := k4.wr em13 (by decide)
          refine gw_gRa 71 ((h.of0 km13).1.c (r := 65) rfl) ((h.of0 km13).1.r (by decide)) ?_
          have n14 : ((5 : Int32) * s3.1).toInt = 5 * s3.1.toInt := gx_mul 5 rfl (by omega) (by omega)
          have n15 : (((5 : Int32) * s3.1) + a1).toInt = ((5 : Int32) * s3.1).toInt + a1.toInt := gx_add (by omega) (by omega)
          refine gw_aI (i := (((5 : Int32) * s3.1) + a1)) ((h.of0 km13).1.t (r := 71) rfl) ((h.of0 km13).1.l (r := 71) rfl) (by omega) (by omega) (fun v16 ev16 => ?_)
          refine gw_if ((h.of0 km13).1.t (r := 65) rfl) ?_
          have n17 : (a1 + (1 : Int32)).toInt = a1.toInt + (1 : Int32).toInt := gx_add (by omega) (by omega)
          have zz := congrArg Int32.toInt (km13.2.2.2.1 26 (fun q => q))
          refine gw_bV (hR (h.of0 km13)  (by omega) (by omega) (by omega)) (fun m18 g18 => ?_)
          have kk18 := km13.trans g18.w00
          exact hj9 _ kk18
  ·
    refine gw_gI ((h.of0 k0).1.c (r := 65) rfl) (fun v19 ev19 => ?_)
    refine gw_le (fun h16_20 => ?_) (fun h16_20 => ?_)
    ·
      exact gw_some (gq_V k0)
    ·
      refine gw_pI ((h.of0 k0).1.c (r := 65) rfl) (fun m21 em21 => ?_)
      have km21 := k0.wf em21 (by decide)
      refine gw_loop (fun s22 => km A0 μ s22.2 ∧ (0 ≤ s22.1.toInt ∧ s22.1.toInt ≤ 5)) (fun s22 => (5 - s22.1.toInt)) (fun s22 ⟨k23, u24⟩ => ?_) 5000 ((0 : Int32), m21) ⟨km21, (by show 0 ≤ (0 : Int32).toInt ∧ (0 : Int32).toInt ≤ 5; omega)⟩ (by show (5 - (0 : Int32).toInt) < ((5000 : Nat) : Int); omega) (by show 0 ≤ (5 - (0 : Int32).toInt); omega)
      refine gw_le (fun h30_25 => ?_) (fun h30_25 => ?_)
      ·
        exact gw_some (gs_inr (gq_V k23))
      ·
        refine gw_gRa 73 ((h.of0 k23).1.c (r := 65) rfl) ((h.of0 k23).1.r (by decide)) ?_
        refine gw_gRa 72 ((h.of0 k23).1.c (r := 65) rfl) ((h.of0 k23).1.r (by decide)) ?_
        refine gw_aI (i := s22.1) ((h.of0 k23).1.t (r := 72) rfl) ((h.of0 k23).1.l (r := 72) rfl) (by omega) (by omega) (fun v26 ev26 => ?_)
        refine gw_sI (i := s22.1) ((h.of0 k23).1.t (r := 73) rfl) ((h.of0 k23).1.l (r := 73) rfl) (by omega) (by omega) (fun m27 em27 => ?_)
        have km27 := k23.wr em27 (by decide)
        have n28 : (s22.1 + (1 : Int32)).toInt = s22.1.toInt + (1 : Int32).toInt := gx_add (by omega) (by omega)
        exact gw_some (gs_inl ⟨km27, (by show 0 ≤ (s22.1 + (1 : Int32)).toInt ∧ (s22.1 + (1 : Int32)).toInt ≤ 5; omega)⟩ (by show (5 - (s22.1 + (1 : Int32)).toInt) < (5 - s22.1.toInt); omega) (by show 0 ≤ (5 - (s22.1 + (1 : Int32)).toInt); omega))
theorem sr_X12_ordersFrom (n : Int) : ∀ (d : Nat) {m : gm_M} (h : MI m) {b1 b2 b3 : Int32}, (m.2.1 66 26).toInt = n → 0 ≤ b1.toInt ∧ b1.toInt ≤ n → n - b1.toInt < d → gwV (r_X12_ordersFrom d 65 b1 b2 b3 m) (fun m1 => km A0 m m1)
  | 0, m, h, b1, b2, b3, e, q0, q1 => by omega
  | d + 1, m, h, b1, b2, b3, e, q0, q1 => sb_X12_ordersFrom n d (fun h => sr_X12_ordersFrom n d h) h e q0 (by omega)
theorem s_X12_ordersFrom {μ : gm_M} (h : MI μ) {a1 a2 a3 : Int32} (q0 : 0 ≤ a1.toInt ∧ a1.toInt ≤ (μ.2.1 66 26).toInt) : gwV (f_X12_ordersFrom 65 a1 a2 a3 μ) (fun m => km A0 μ m) := sr_X12_ordersFrom _ 64 h rfl q0 (by have := h.n26; omega)
set_option maxHeartbeats 1000000 in
theorem s_X12_order {μ : gm_M} (h : MI μ) {a1 : Int32}  : gwI (f_X12_order 65 a1 μ) (fun x m => qm μ m) := by
  refine gwI_of ?_
  unfold f_X12_order
  have lm5 : (-5 : Int32).toInt = -5 := rfl
  have lm1 : (-1 : Int32).toInt = -1 := rfl
  have l0 : (0 : Int32).toInt = 0 := rfl
  have l1 : (1 : Int32).toInt = 1 := rfl
  have l4 : (4 : Int32).toInt = 4 := rfl
  have l5 : (5 : Int32).toInt = 5 := rfl
  have l26 : (26 : Int32).toInt = 26 := rfl
  have k0 := km.refl A0 μ
  refine gw_bI (s_X12_in  ) (fun x1 m1 ⟨z1, f1⟩ => ?_)
  replace z1 := z1.symm
  subst z1
  refine gw_ne (fun h6_2 => ?_) (fun h6_2 => ?_)
  ·
    refine gw_if ((h.of0 k0).1.t (r := 65) rfl) ?_
    refine gw_bV (s_X12_keeps (h.of0 k0)  ) (fun m3 g3 => ?_)
    have hh3 := g3.mi (h.of0 k0)
    have kq3 := km.refl A1 m3
    have rr3 := g3.rs
    refine gw_loop (fun s4 => km A1 m3 s4.2 ∧ (0 ≤ s4.1.toInt ∧ s4.1.toInt ≤ 5)) (fun s4 => (5 - s4.1.toInt)) (fun s4 ⟨k5, u6⟩ => ?_) 5000 ((0 : Int32), m3) ⟨kq3, (by show 0 ≤ (0 : Int32).toInt ∧ (0 : Int32).toInt ≤ 5; omega)⟩ (by show (5 - (0 : Int32).toInt) < ((5000 : Nat) : Int); omega) (by show 0 ≤ (5 - (0 : Int32).toInt); omega)
    refine gw_le (fun h19_7 => ?_) (fun h19_7 => ?_)
    ·
      refine gw_if ((hh3.of1 k5).1.t (r := 65) rfl) ?_
      refine gw_bV (s_X12_goesBack (hh3.of1 k5)  ) (fun m8 ⟨g8, r8⟩ => ?_)
      have kk8 := k5.trans g8.w11
      refine gw_pI ((hh3.of1 kk8).1.c (r := 65) rfl) (fun m9 em9 => ?_)
      have km9 := kk8.wf em9 (by decide)
      have rm9 := rs.k0 r8 ((km.refl A0 m8).wf em9 (by decide))
      refine gw_if ((hh3.of1 km9).1.t (r := 65) rfl) ?_
      have zz := (hh3.of1 km9).n26
      refine gw_bV (s_X12_ordersFrom (hh3.of1 km9)  (by omega)) (fun m10 g10 => ?_)
      have kk10 := km9.trans g10.w01
      have r10 := rs.k0 rm9 g10
      refine gw_ne (fun h84_11 => ?_) (fun h84_11 => ?_)
      ·
        refine gw_gRa 66 ((hh3.of1 kk10).1.c (r := 65) rfl) ((hh3.of1 kk10).1.r (by decide)) ?_
        refine gw_aI (i := (26 : Int32)) ((hh3.of1 kk10).1.t (r := 66) rfl) ((hh3.of1 kk10).1.l (r := 66) rfl) (by omega) (by omega) (fun v12 ev12 => ?_)
        have bv12 := (hh3.of1 kk10).n26
        have cv12 : v12 = m10.2.1 66 26 := ev12
        have dv12 : v12.toInt = (m10.2.1 66 26).toInt := by rw [cv12]
        have yv12 : v12.toInt = (μ.2.1 66 26).toInt := by rw [dv12, kk10.2.2.2.1 26 (by first | exact fun q => q | (unfold A1; omega)), g3.2.2.1 66 (by decide)]
        refine gw_le (fun h102_13 => ?_) (fun h102_13 => ?_)
        ·
          exact gw_some (gs_inr (gq_I (qm.kp g3 kk10 r10)))
        ·
          refine gw_gRa 73 ((hh3.of1 kk10).1.c (r := 65) rfl) ((hh3.of1 kk10).1.r (by decide)) ?_
          refine gw_aI (i := a1) ((hh3.of1 kk10).1.t (r := 73) rfl) ((hh3.of1 kk10).1.l (r := 73) rfl) (by omega) (by omega) (fun v14 ev14 => ?_)
          exact gw_some (gs_inr (gq_I (qm.kp g3 kk10 r10)))
      ·
        refine gw_gI ((hh3.of1 kk10).1.c (r := 65) rfl) (fun v15 ev15 => ?_)
        exact gw_some (gs_inr (gq_I (qm.kp g3 kk10 r10)))
    ·
      refine gw_loop (fun s16 => km A1 m3 s16.2 ∧ (0 ≤ s16.1.toInt ∧ s16.1.toInt ≤ 5)) (fun s16 => (5 - s16.1.toInt)) (fun s16 ⟨k17, u18⟩ => ?_) 5000 ((0 : Int32), s4.2) ⟨k5, (by show 0 ≤ (0 : Int32).toInt ∧ (0 : Int32).toInt ≤ 5; omega)⟩ (by show (5 - (0 : Int32).toInt) < ((5000 : Nat) : Int); omega) (by show 0 ≤ (5 - (0 : Int32).toInt); omega)
      refine gw_gRa 66 ((hh3.of1 k17).1.c (r := 65) rfl) ((hh3.of1 k17).1.r (by decide)) ?_
      refine gw_aI (i := (26 : Int32)) ((hh3.of1 k17).1.t (r := 66) rfl) ((hh3.of1 k17).1.l (r := 66) rfl) (by omega) (by omega) (fun v19 ev19 => ?_)
      have bv19 := (hh3.of1 k17).n26
      have cv19 : v19 = s16.2.2.1 66 26 := ev19
      have dv19 : v19.toInt = (s16.2.2.1 66 26).toInt := by rw [cv19]
      have yv19 : v19.toInt = (μ.2.1 66 26).toInt := by rw [dv19, k17.2.2.2.1 26 (by first | exact fun q => q | (unfold A1; omega)), g3.2.2.1 66 (by decide)]
      refine gw_le (fun h32_20 => ?_) (fun h32_20 => ?_)
      ·
        refine gw_if ((hh3.of1 k17).1.t (r := 65) rfl) ?_
        refine gw_bV (s_X12_goes (hh3.of1 k17)  ) (fun m21 ⟨g21, f21⟩ => ?_)
        have kk21 := k17.trans g21.w11
        have n22 : (s4.1 + (1 : Int32)).toInt = s4.1.toInt + (1 : Int32).toInt := gx_add (by omega) (by omega)
        exact gw_some (gs_inr (gs_inl ⟨kk21, (by show 0 ≤ (s4.1 + (1 : Int32)).toInt ∧ (s4.1 + (1 : Int32)).toInt ≤ 5; omega)⟩ (by show (5 - (s4.1 + (1 : Int32)).toInt) < (5 - s4.1.toInt); omega) (by show 0 ≤ (5 - (s4.1 + (1 : Int32)).toInt); omega)))
      ·
        refine gw_gRa 71 ((hh3.of1 k17).1.c (r := 65) rfl) ((hh3.of1 k17).1.r (by decide)) ?_
        refine gw_if ((hh3.of1 k17).1.t (r := 65) rfl) ?_
        refine gw_bI (s_X12_holdsOf (hh3.of1 k17)  (by omega)) (fun x23 m23 g23 => ?_)
        have kk23 := k17.trans g23.w01
        have n24 : ((5 : Int32) * s16.1).toInt = 5 * s16.1.toInt := gx_mul 5 rfl (by omega) (by omega)
        have n25 : (((5 : Int32) * s16.1) + s4.1).toInt = ((5 : Int32) * s16.1).toInt + s4.1.toInt := gx_add (by omega) (by omega)
        refine gw_sI (i := (((5 : Int32) * s16.1) + s4.1)) ((hh3.of1 kk23).1.t (r := 71) rfl) ((hh3.of1 kk23).1.l (r := 71) rfl) (by omega) (by omega) (fun m26 em26 => ?_)
        have km26 := kk23.wr em26 (by decide)
        have n27 : (s16.1 + (1 : Int32)).toInt = s16.1.toInt + (1 : Int32).toInt := gx_add (by omega) (by omega)
        exact gw_some (gs_inl ⟨km26, (by show 0 ≤ (s16.1 + (1 : Int32)).toInt ∧ (s16.1 + (1 : Int32)).toInt ≤ 5; omega)⟩ (by show (5 - (s16.1 + (1 : Int32)).toInt) < (5 - s16.1.toInt); omega) (by show 0 ≤ (5 - (s16.1 + (1 : Int32)).toInt); omega))
  ·
    exact gw_some (gq_I (qm.of0 k0))
end
section
def sw (w a b : Nat) (σ : Nat → Int32) : Nat → Int32 := fun k => if k = w + a then σ (w + b) else if k = w + b then σ (w + a) else σ k
def sw2 (a b : Nat) (σ : Nat → Int32) : Nat → Int32 := sw 6 a b (sw 1 a b σ)
theorem sw_sw (w a b : Nat) (σ : Nat → Int32) : sw w a b (sw w a b σ) = σ := by
  funext k
  unfold sw
  by_cases h1 : k = w + a
  · subst h1
    by_cases h2 : w + b = w + a
    · rw [if_pos rfl, if_pos h2]; exact congrArg σ h2
    · rw [if_pos rfl, if_neg h2, if_pos rfl]
  · by_cases h2 : k = w + b
    · subst h2
      rw [if_neg h1, if_pos rfl, if_pos rfl]
    · rw [if_neg h1, if_neg h2, if_neg h1, if_neg h2]
theorem sw_comm {a b : Nat} (ha : a < 5) (hb : b < 5) (σ : Nat → Int32) : sw 6 a b (sw 1 a b σ) = sw 1 a b (sw 6 a b σ) := by
  funext k
  unfold sw
  by_cases h1 : k = 6 + a
  · rw [if_pos h1, if_neg (show ¬ 6 + b = 1 + a by omega), if_neg (show ¬ 6 + b = 1 + b by omega), if_neg (show ¬ k = 1 + a by omega), if_neg (show ¬ k = 1 + b by omega), if_pos h1]
  · by_cases h2 : k = 6 + b
    · rw [if_neg h1, if_pos h2, if_neg (show ¬ 6 + a = 1 + a by omega), if_neg (show ¬ 6 + a = 1 + b by omega), if_neg (show ¬ k = 1 + a by omega), if_neg (show ¬ k = 1 + b by omega), if_neg h1, if_pos h2]
    · rw [if_neg h1, if_neg h2]
      by_cases h3 : k = 1 + a
      · rw [if_pos h3, if_pos h3, if_neg (show ¬ 1 + b = 6 + a by omega), if_neg (show ¬ 1 + b = 6 + b by omega)]
      · by_cases h4 : k = 1 + b
        · rw [if_neg h3, if_pos h4, if_neg h3, if_pos h4, if_neg (show ¬ 1 + a = 6 + a by omega), if_neg (show ¬ 1 + a = 6 + b by omega)]
        · rw [if_neg h3, if_neg h4, if_neg h3, if_neg h4, if_neg h1, if_neg h2]
theorem sw2_sw2 {a b : Int32} (ha : 0 ≤ a.toInt ∧ a.toInt < 5) (hb : 0 ≤ b.toInt ∧ b.toInt < 5) (σ : Nat → Int32) : sw2 a.toInt.toNat b.toInt.toNat (sw2 a.toInt.toNat b.toInt.toNat σ) = σ := by
  unfold sw2
  rw [sw_comm (by omega) (by omega) σ, sw_sw, sw_sw]
theorem s_X12_swapsAt {μ : gm_M} (h : MI μ) {w a b : Int32} (hw : w.toInt = 1 ∨ w.toInt = 6) (ha : 0 ≤ a.toInt ∧ a.toInt < 5) (hb : 0 ≤ b.toInt ∧ b.toInt < 5) : gwV (f_X12_swapsAt 65 w a b μ) (fun m => km A1 μ m ∧ m.2.1 66 = sw w.toInt.toNat a.toInt.toNat b.toInt.toNat (μ.2.1 66)) := by
  refine gwV_of ?_
  unfold f_X12_swapsAt
  have k0 := km.refl A1 μ
  have n1 : (w + a).toInt = w.toInt + a.toInt := gx_add (by omega) (by omega)
  have n2 : (w + b).toInt = w.toInt + b.toInt := gx_add (by omega) (by omega)
  refine gw_gRa 66 (h.1.c (r := 65) rfl) (h.1.r (by decide)) ?_
  refine gw_aI (i := w + a) (h.1.t (r := 66) rfl) (h.1.l (r := 66) rfl) (by omega) (by omega) (fun v2 e2 => ?_)
  refine gw_gRa 66 (h.1.c (r := 65) rfl) (h.1.r (by decide)) ?_
  refine gw_gRa 66 (h.1.c (r := 65) rfl) (h.1.r (by decide)) ?_
  refine gw_aI (i := w + b) (h.1.t (r := 66) rfl) (h.1.l (r := 66) rfl) (by omega) (by omega) (fun v5 e5 => ?_)
  refine gw_sI (i := w + a) (h.1.t (r := 66) rfl) (h.1.l (r := 66) rfl) (by omega) (by omega) (fun m6 e6 => ?_)
  have k6 := k0.ws e6 (by unfold A1; omega)
  have h6 := h.of1 k6
  refine gw_gRa 66 (h6.1.c (r := 65) rfl) (h6.1.r (by decide)) ?_
  refine gw_sI (i := w + b) (h6.1.t (r := 66) rfl) (h6.1.l (r := 66) rfl) (by omega) (by omega) (fun m8 e8 => ?_)
  have k8 := k6.ws e8 (by unfold A1; omega)
  refine gw_some (gq_V ⟨k8, ?_⟩)
  subst e8
  subst e6
  funext k
  show gm_u (gm_u μ.2.1 66 (w + a).toInt.toNat v5) 66 (w + b).toInt.toNat v2 66 k = _
  rw [e2, e5, show (w + a).toInt.toNat = w.toInt.toNat + a.toInt.toNat by omega, show (w + b).toInt.toNat = w.toInt.toNat + b.toInt.toNat by omega]
  unfold sw
  by_cases g2 : k = w.toInt.toNat + b.toInt.toNat
  · subst g2
    rw [gu_eq, if_pos rfl]
    by_cases g1 : w.toInt.toNat + b.toInt.toNat = w.toInt.toNat + a.toInt.toNat
    · rw [if_pos g1, g1]
    · rw [if_neg g1]
  · rw [gu_ne g2, if_neg g2]
    by_cases g1 : k = w.toInt.toNat + a.toInt.toNat
    · subst g1
      rw [gu_eq, if_pos rfl]
    · rw [gu_ne g1, if_neg g1]
theorem s_X12_swaps {μ : gm_M} (h : MI μ) {a1 a2 : Int32} (q0 : 0 ≤ a1.toInt ∧ a1.toInt < 5) (q1 : 0 ≤ a2.toInt ∧ a2.toInt < 5) : gwV (f_X12_swaps 65 a1 a2 μ) (fun m => km A1 μ m ∧ m.2.1 66 = sw2 a1.toInt.toNat a2.toInt.toNat (μ.2.1 66)) := by
  refine gwV_of ?_
  unfold f_X12_swaps
  refine gw_if (h.1.t (r := 65) rfl) ?_
  refine gw_bV (s_X12_swapsAt h (Or.inl rfl) q0 q1) (fun m1 ⟨k1, f1⟩ => ?_)
  have h1 := h.of1 k1
  refine gw_if (h1.1.t (r := 65) rfl) ?_
  refine gw_bV (s_X12_swapsAt h1 (Or.inr rfl) q0 q1) (fun m2 ⟨k2, f2⟩ => ?_)
  refine gw_some (gq_V ⟨k1.trans k2, ?_⟩)
  rw [f2, f1]
  rfl
theorem km.s66 {μ m : gm_M} (h : km A1 μ m) (e : m.2.1 66 = μ.2.1 66) : km A0 μ m := by
  obtain ⟨h1, h2, h3, h4, h5, h6, h7⟩ := h
  exact ⟨h1, h2, h3, fun k _ => by rw [e], h5, h6, h7⟩
/-- the places of v, but i -/
def vs (i : Nat) (b m : gm_M) : Prop := ∀ k : Nat, 38 ≤ k → k < 43 → k ≠ i → m.2.1 66 k = b.2.1 66 k
theorem vs.refl {i : Nat} {b : gm_M} : vs i b b := fun _ _ _ _ => rfl
theorem vs.ws {i j : Nat} {b m m' : gm_M} {x : Int32} (h : vs i b m) (e : m' = (m.1, gm_u m.2.1 66 j x, m.2.2)) (hj : j = i) : vs i b m' := by
  subst e; subst hj
  intro k h1 h2 h3
  show gm_u m.2.1 66 j x 66 k = _
  rw [gu_ne h3]
  exact h k h1 h2 h3
theorem vs.k1 {i : Nat} {b m m' : gm_M} (h : vs i b m) (g : km A1 m m') : vs i b m' := fun k h1 h2 h3 => by
  rw [g.2.2.2.1 k (by unfold A1; omega)]
  exact h k h1 h2 h3
theorem vs.fin {i j : Nat} {b m m' : gm_M} {x : Int32} (h : vs i b m) (e : m' = (m.1, gm_u m.2.1 66 j x, m.2.2)) (hj : j = i) (hx : x = b.2.1 66 i) : ∀ k : Nat, 38 ≤ k → k < 43 → m'.2.1 66 k = b.2.1 66 k := by
  subst e; subst hj
  intro k h1 h2
  show gm_u m.2.1 66 j x 66 k = _
  by_cases hk : k = j
  · subst hk; rw [gu_eq, hx]
  · rw [gu_ne hk]; exact h k h1 h2 hk
theorem km.rest {b m : gm_M} (h : km A2 b m) (z : ∀ k : Nat, 38 ≤ k → k < 43 → m.2.1 66 k = b.2.1 66 k) : km A1 b m := by
  obtain ⟨h1, h2, h3, h4, h5, h6, h7⟩ := h
  refine ⟨h1, h2, h3, fun k hk => ?_, h5, h6, h7⟩
  by_cases hv : 38 ≤ k ∧ k < 43
  · exact z k hv.1 hv.2
  · exact h4 k (fun q => by unfold A2 at q; unfold A1 at hk; omega)
theorem rs.ws {m m' : gm_M} {j : Nat} {x : Int32} (h : rs m) (e : m' = (m.1, gm_u m.2.1 66 j x, m.2.2)) (hj : 26 ≤ j) : rs m' := by
  subst e
  intro k hk
  show gm_u m.2.1 66 j x 66 k = gm_u m.2.1 66 j x 68 k
  rw [gu_ne (by omega), gu_row (by decide)]
  exact h k hk
end
section
set_option maxHeartbeats 1000000 in
theorem s_X12_swap {μ : gm_M} (h : MI μ)   : gwI (f_X12_swap 65 μ) (fun x m => qm μ m) := by
  refine gwI_of ?_
  unfold f_X12_swap
  have lm5 : (-5 : Int32).toInt = -5 := rfl
  have l0 : (0 : Int32).toInt = 0 := rfl
  have l1 : (1 : Int32).toInt = 1 := rfl
  have l10 : (10 : Int32).toInt = 10 := rfl
  have l26 : (26 : Int32).toInt = 26 := rfl
  have k0 := km.refl A1 μ
  refine gw_if ((h.of1 k0).1.t (r := 65) rfl) ?_
  refine gw_bI (s_X12_allHold (h.of1 k0)  ) (fun x1 m1 g1 => ?_)
  have kk1 := k0.trans g1.w01
  have ea0 : m1.2.1 66 = μ.2.1 66 := funext fun k => g1.2.2.2.1 k (fun q => q)
  refine gw_loop (fun s2 => km A1 μ s2.2.2.2 ∧ ((0 ≤ s2.2.2.1.toInt ∧ s2.2.2.1.toInt ≤ 5) ∧ s2.2.2.2.2.1 66 = μ.2.1 66)) (fun s2 => (5 - s2.2.2.1.toInt)) (fun s2 ⟨k3, u4⟩ => ?_) 5000 ((-5 : Int32), x1, (0 : Int32), m1) ⟨kk1, (by show (0 ≤ (0 : Int32).toInt ∧ (0 : Int32).toInt ≤ 5) ∧ m1.2.1 66 = μ.2.1 66; exact ⟨by omega, ea0⟩)⟩ (by show (5 - (0 : Int32).toInt) < ((5000 : Nat) : Int); omega) (by show 0 ≤ (5 - (0 : Int32).toInt); omega)
  obtain ⟨uu1, uu2⟩ := u4
  refine gw_gRa 66 ((h.of1 k3).1.c (r := 65) rfl) ((h.of1 k3).1.r (by decide)) ?_
  refine gw_aI (i := (26 : Int32)) ((h.of1 k3).1.t (r := 66) rfl) ((h.of1 k3).1.l (r := 66) rfl) (by omega) (by omega) (fun v5 ev5 => ?_)
  have bv5 := (h.of1 k3).n26
  have cv5 : v5 = s2.2.2.2.2.1 66 26 := ev5
  have dv5 : v5.toInt = (s2.2.2.2.2.1 66 26).toInt := by rw [cv5]
  have yv5 : v5.toInt = (μ.2.1 66 26).toInt := by rw [dv5, k3.2.2.2.1 26 (by first | exact fun q => q | (unfold A1; omega))]
  refine gw_le (fun h18_6 => ?_) (fun h18_6 => ?_)
  ·
    exact gw_some (gs_inr (gq_I (qm.of0 (km.s66 k3 (by assumption)))))
  ·
    have n8 : (s2.2.2.1 + (1 : Int32)).toInt = s2.2.2.1.toInt + (1 : Int32).toInt := gx_add (by omega) (by omega)
    refine gw_loop (fun s7 => km A1 μ s7.2.2.2 ∧ ((0 ≤ s7.2.2.1.toInt ∧ s7.2.2.1.toInt ≤ 5) ∧ s7.2.2.2.2.1 66 = μ.2.1 66)) (fun s7 => (5 - s7.2.2.1.toInt)) (fun s7 ⟨k9, u10⟩ => ?_) 5000 (s2.1, s2.2.1, (s2.2.2.1 + (1 : Int32)), s2.2.2.2) ⟨k3, (by show (0 ≤ (s2.2.2.1 + (1 : Int32)).toInt ∧ (s2.2.2.1 + (1 : Int32)).toInt ≤ 5) ∧ s2.2.2.2.2.1 66 = μ.2.1 66; exact ⟨by omega, uu2⟩)⟩ (by show (5 - (s2.2.2.1 + (1 : Int32)).toInt) < ((5000 : Nat) : Int); omega) (by show 0 ≤ (5 - (s2.2.2.1 + (1 : Int32)).toInt); omega)
    obtain ⟨uu1, uu2⟩ := u10
    refine gw_gRa 66 ((h.of1 k9).1.c (r := 65) rfl) ((h.of1 k9).1.r (by decide)) ?_
    refine gw_aI (i := (26 : Int32)) ((h.of1 k9).1.t (r := 66) rfl) ((h.of1 k9).1.l (r := 66) rfl) (by omega) (by omega) (fun v11 ev11 => ?_)
    have bv11 := (h.of1 k9).n26
    have cv11 : v11 = s7.2.2.2.2.1 66 26 := ev11
    have dv11 : v11.toInt = (s7.2.2.2.2.1 66 26).toInt := by rw [cv11]
    have yv11 : v11.toInt = (μ.2.1 66 26).toInt := by rw [dv11, k9.2.2.2.1 26 (by first | exact fun q => q | (unfold A1; omega))]
    refine gw_le (fun h35_12 => ?_) (fun h35_12 => ?_)
    ·
      have n13 : (s2.2.2.1 + (1 : Int32)).toInt = s2.2.2.1.toInt + (1 : Int32).toInt := gx_add (by omega) (by omega)
      exact gw_some (gs_inr (gs_inl ⟨k9, (by show (0 ≤ (s2.2.2.1 + (1 : Int32)).toInt ∧ (s2.2.2.1 + (1 : Int32)).toInt ≤ 5) ∧ s7.2.2.2.2.1 66 = μ.2.1 66; exact ⟨by omega, uu2⟩)⟩ (by show (5 - (s2.2.2.1 + (1 : Int32)).toInt) < (5 - s2.2.2.1.toInt); omega) (by show 0 ≤ (5 - (s2.2.2.1 + (1 : Int32)).toInt); omega)))
    ·
      refine gw_if ((h.of1 k9).1.t (r := 65) rfl) ?_
      refine gw_bV (s_X12_swaps (h.of1 k9)  (by omega) (by omega)) (fun m14 ⟨g14, f14⟩ => ?_)
      have kk14 := k9.trans g14.w11
      have f1 := f14
      refine gw_if ((h.of1 kk14).1.t (r := 65) rfl) ?_
      refine gw_bI (s_X12_allHold (h.of1 kk14)  ) (fun x15 m15 g15 => ?_)
      have kk15 := kk14.trans g15.w01
      have ea : m15.2.1 66 = m14.2.1 66 := funext fun k => g15.2.2.2.1 k (fun q => q)
      refine gw_if ((h.of1 kk15).1.t (r := 65) rfl) ?_
      refine gw_bV (s_X12_swaps (h.of1 kk15)  (by omega) (by omega)) (fun m16 ⟨g16, f16⟩ => ?_)
      have kk16 := kk15.trans g16.w11
      have hb := f16
      rw [ea, f1, sw2_sw2 (a := s2.2.2.1) (b := s7.2.2.1) (by omega) (by omega)] at hb
      refine gw_j (fun s17 => True) (fun s17 _ => ?_) (fun j18 hj18 => ?_)
      ·
        refine gw_j (fun s19 => True) (fun s19 _ => ?_) (fun j20 hj20 => ?_)
        ·
          have n21 : (s7.2.2.1 + (1 : Int32)).toInt = s7.2.2.1.toInt + (1 : Int32).toInt := gx_add (by omega) (by omega)
          exact gw_some (gs_inl ⟨kk16, (by show (0 ≤ (s7.2.2.1 + (1 : Int32)).toInt ∧ (s7.2.2.1 + (1 : Int32)).toInt ≤ 5) ∧ m16.2.1 66 = μ.2.1 66; exact ⟨by omega, hb.trans uu2⟩)⟩ (by show (5 - (s7.2.2.1 + (1 : Int32)).toInt) < (5 - s7.2.2.1.toInt); omega) (by show 0 ≤ (5 - (s7.2.2.1 + (1 : Int32)).toInt); omega))
        ·
          refine gw_le (fun h79_22 => ?_) (fun h79_22 => ?_)
          ·
            exact hj20 _ trivial
          ·
            exact hj20 _ trivial
      ·
        refine gw_le (fun h61_23 => ?_) (fun h61_23 => ?_)
        ·
          exact hj18 _ trivial
        ·
          exact hj18 _ trivial
set_option maxHeartbeats 1000000 in
theorem s_X12_firm {μ : gm_M} (h : MI μ) {a1 : Int32} {a2 : Int32}  : gwI (f_X12_firm 65 a1 a2 μ) (fun x m => qm μ m) := by
  refine gwI_of ?_
  unfold f_X12_firm
  have lm5 : (-5 : Int32).toInt = -5 := rfl
  have lm1 : (-1 : Int32).toInt = -1 := rfl
  have l0 : (0 : Int32).toInt = 0 := rfl
  have l1 : (1 : Int32).toInt = 1 := rfl
  have l9 : (9 : Int32).toInt = 9 := rfl
  have l38 : (38 : Int32).toInt = 38 := rfl
  have k0 := km.refl A0 μ
  refine gw_if ((h.of0 k0).1.t (r := 65) rfl) ?_
  refine gw_bI (s_X12_isChild (h.of0 k0)  ) (fun x1 m1 ⟨z1, f1⟩ => ?_)
  replace z1 := z1.symm
  subst z1
  refine gw_eq (fun h5_2 => ?_) (fun h5_2 => ?_)
  ·
    exact gw_some (gq_I (qm.of0 k0))
  ·
    refine gw_bI (s_X12_in  ) (fun x3 m3 ⟨z3, f3⟩ => ?_)
    replace z3 := z3.symm
    subst z3
    refine gw_ne (fun h14_4 => ?_) (fun h14_4 => ?_)
    ·
      refine gw_gRa 66 ((h.of0 k0).1.c (r := 65) rfl) ((h.of0 k0).1.r (by decide)) ?_
      have n5 : ((38 : Int32) + a1).toInt = (38 : Int32).toInt + a1.toInt := gx_add (by omega) (by omega)
      refine gw_aI (i := ((38 : Int32) + a1)) ((h.of0 k0).1.t (r := 66) rfl) ((h.of0 k0).1.l (r := 66) rfl) (by omega) (by omega) (fun v6 ev6 => ?_)
      have hv6 : v6 = μ.2.1 66 (38 + a1.toInt).toNat := by rw [ev6, show ((38 : Int32) + a1).toInt.toNat = (38 + a1.toInt).toNat by omega]
      refine gw_if ((h.of0 k0).1.t (r := 65) rfl) ?_
      refine gw_bV (s_X12_keeps (h.of0 k0)  ) (fun m7 g7 => ?_)
      have hh7 := g7.mi (h.of0 k0)
      have kq7 := km.refl A2 m7
      have rr7 := g7.rs
      refine gw_loop (fun s8 => km A2 m7 s8.2.2.2 ∧ rs s8.2.2.2 ∧ ((-1 ≤ s8.2.2.1.toInt ∧ s8.2.2.1.toInt ≤ 9) ∧ vs (38 + a1.toInt).toNat m7 s8.2.2.2)) (fun s8 => (s8.2.2.1.toInt + 1)) (fun s8 ⟨k9, r9, u10⟩ => ?_) 5000 ((0 : Int32), (-5 : Int32), (9 : Int32), m7) ⟨kq7, rr7, (by show (-1 ≤ (9 : Int32).toInt ∧ (9 : Int32).toInt ≤ 9) ∧ vs (38 + a1.toInt).toNat m7 m7; exact ⟨by omega, vs.refl⟩)⟩ (by show ((9 : Int32).toInt + 1) < ((5000 : Nat) : Int); omega) (by show 0 ≤ ((9 : Int32).toInt + 1); omega)
      obtain ⟨uu1, uu2⟩ := u10
      refine gw_lt (fun h46_11 => ?_) (fun h46_11 => ?_)
      ·
        refine gw_gRa 66 ((hh7.of2 k9).1.c (r := 65) rfl) ((hh7.of2 k9).1.r (by decide)) ?_
        have n12 : ((38 : Int32) + a1).toInt = (38 : Int32).toInt + a1.toInt := gx_add (by omega) (by omega)
        refine gw_sI (i := ((38 : Int32) + a1)) ((hh7.of2 k9).1.t (r := 66) rfl) ((hh7.of2 k9).1.l (r := 66) rfl) (by omega) (by omega) (fun m13 em13 => ?_)
        have km13 := k9.ws em13 (by unfold A2; omega)
        have rm13 := rs.ws r9 em13 (by omega)
        have hz := uu2.fin em13 (by omega) (by rw [hv6, g7.2.2.1 66 (by decide)])
        refine gw_ne (fun h112_14 => ?_) (fun h112_14 => ?_)
        ·
          exact gw_some (gs_inr (gq_I (qm.kp g7 (km.rest km13 hz) rm13)))
        ·
          exact gw_some (gs_inr (gq_I (qm.kp g7 (km.rest km13 hz) rm13)))
      ·
        refine gw_gRa 66 ((hh7.of2 k9).1.c (r := 65) rfl) ((hh7.of2 k9).1.r (by decide)) ?_
        have n15 : ((38 : Int32) + a1).toInt = (38 : Int32).toInt + a1.toInt := gx_add (by omega) (by omega)
        refine gw_sI (i := ((38 : Int32) + a1)) ((hh7.of2 k9).1.t (r := 66) rfl) ((hh7.of2 k9).1.l (r := 66) rfl) (by omega) (by omega) (fun m16 em16 => ?_)
        have km16 := k9.ws em16 (by unfold A2; omega)
        have hv := uu2.ws em16 (by omega)
        refine gw_if ((hh7.of2 km16).1.t (r := 65) rfl) ?_
        refine gw_bI (s_X12_areAsSeen (hh7.of2 km16)  ) (fun x17 m17 ⟨g17, r17, f17⟩ => ?_)
        have kk17 := km16.trans g17.w12
        have hw := hv.k1 g17
        refine gw_j (fun s18 => True) (fun s18 _ => ?_) (fun j19 hj19 => ?_)
        ·
          refine gw_j (fun s20 => True) (fun s20 _ => ?_) (fun j21 hj21 => ?_)
          ·
            have n22 : (s8.2.2.1 + (-1 : Int32)).toInt = s8.2.2.1.toInt + (-1 : Int32).toInt := gx_add (by omega) (by omega)
            obtain ⟨w23, hw23⟩ : ∃ w : Int32, w = (s8.2.2.1 + (-1 : Int32)) := ⟨_, rfl⟩
            rw [← hw23]
            rw [← hw23] at n22
            exact gw_some (gs_inl ⟨kk17, r17, (by show (-1 ≤ w23.toInt ∧ w23.toInt ≤ 9) ∧ vs (38 + a1.toInt).toNat m7 m17; exact ⟨by omega, hw⟩)⟩ (by show (w23.toInt + 1) < (s8.2.2.1.toInt + 1); omega) (by show 0 ≤ (w23.toInt + 1); omega))
          ·
            refine gw_eq (fun h83_24 => ?_) (fun h83_24 => ?_)
            ·
              exact hj21 _ trivial
            ·
              exact hj21 _ trivial
        ·
          refine gw_eq (fun h70_25 => ?_) (fun h70_25 => ?_)
          ·
            exact hj19 _ trivial
          ·
            exact hj19 _ trivial
    ·
      exact gw_some (gq_I (qm.of0 k0))
end
section
/-! the class's memory -/
def isch (a : Nat) : Prop := a = 29 ∨ a = 31 ∨ a = 33 ∨ a = 35 ∨ a = 37
def ict (a : Nat) : Prop := isch a ∨ a = 63
def icl (a : Nat) : Prop := ict a ∨ a = 53 ∨ a = 55 ∨ a = 57 ∨ a = 59 ∨ a = 61
def kid (a : Nat) : Prop := 8 ≤ a ∧ a ≤ 14
def AfW (μ : gm_M) (a : Nat) : Prop := (a = 18 ∨ a = 42 ∨ 75 ≤ a) ∧ (μ.1[a]? = some (5, 10) ∧ μ.1[a + 1]? = some (1, 10) ∧ μ.1[a + 2]? = some (1, 10) ∧ μ.1[a + 3]? = some (1, 100)) ∧ (μ.2.2 a 3 = a + 1 ∧ μ.2.2 a 4 = a + 2 ∧ μ.2.2 a 5 = a + 3) ∧ (0 ≤ (μ.2.1 a 2).toInt ∧ (μ.2.1 a 2).toInt ≤ 10) ∧ ∀ k : Nat, k < 10 → 0 ≤ (μ.2.1 (a + 2) k).toInt ∧ (μ.2.1 (a + 2) k).toInt ≤ 100
def scI (μ : gm_M) (s : Nat) : Prop := (0 ≤ (μ.2.1 s 1).toInt ∧ (μ.2.1 s 1).toInt ≤ 5) ∧ (0 ≤ (μ.2.1 s 4).toInt ∧ (μ.2.1 s 4).toInt ≤ 100) ∧ (0 ≤ (μ.2.1 s 5).toInt ∧ (μ.2.1 s 5).toInt ≤ 5) ∧ AfW μ (μ.2.2 s 6) ∧ (0 ≤ (μ.2.1 (s + 8) 2).toInt ∧ (μ.2.1 (s + 8) 2).toInt ≤ 5) ∧ (0 ≤ (μ.2.1 (s + 10) 2).toInt ∧ (μ.2.1 (s + 10) 2).toInt ≤ 8) ∧ (0 ≤ (μ.2.1 (s + 12) 2).toInt ∧ (μ.2.1 (s + 12) 2).toInt ≤ 8) ∧ (μ.2.1 (s + 8) 0).toInt = 5 ∧ (μ.2.1 (s + 10) 0).toInt = 8 ∧ (μ.2.1 (s + 12) 0).toInt = 8 ∧ ∀ k : Nat, k < 5 → (μ.2.1 (s + 9) (3 * k + 2)).toInt ≤ 60
def cI (μ : gm_M) : Prop := scI μ 15 ∧ scI μ 39 ∧ (∀ a : Nat, icl a → kid (μ.2.2 a 1)) ∧ ((0 ≤ (μ.2.1 3 2).toInt ∧ (μ.2.1 3 2).toInt ≤ 1000) ∧ (μ.2.1 3 0).toInt = 20)
def CI (μ : gm_M) : Prop := gS μ ∧ cI μ
theorem isch.t {μ : gm_M} (h : gS μ) {a : Nat} (p : isch a) : gm_tag μ a = 7 := by
  rcases p with rfl | rfl | rfl | rfl | rfl <;> exact h.t rfl
theorem ict.t {μ : gm_M} (h : gS μ) {a : Nat} (p : ict a) : gm_tag μ a = 7 := by
  rcases p with p | rfl
  · exact p.t h
  · exact h.t rfl
theorem ict.c {μ : gm_M} (h : gS μ) {a : Nat} (p : ict a) : [7].contains (gm_tag μ a) = true := by rw [p.t h]; rfl
theorem ict.row {μ : gm_M} (h : gS μ) {a : Nat} (p : ict a) : μ.2.2 a 8 = a + 1 := by
  rcases p with (rfl | rfl | rfl | rfl | rfl) | rfl <;> exact h.r (by decide)
theorem ict.rt {μ : gm_M} (h : gS μ) {a : Nat} (p : ict a) : gm_tag μ (a + 1) = 1 := by
  rcases p with (rfl | rfl | rfl | rfl | rfl) | rfl <;> exact h.t rfl
theorem ict.rl {μ : gm_M} (h : gS μ) {a : Nat} (p : ict a) : gm_len μ (a + 1) = 4 := by
  rcases p with (rfl | rfl | rfl | rfl | rfl) | rfl <;> exact h.l rfl
theorem kid.c {μ : gm_M} (h : gS μ) {a : Nat} (p : kid a) : [6, 8, 9, 10, 11, 14, 15].contains (gm_tag μ a) = true := by
  obtain ⟨p1, p2⟩ := p
  obtain rfl | rfl | rfl | rfl | rfl | rfl | rfl : a = 8 ∨ a = 9 ∨ a = 10 ∨ a = 11 ∨ a = 12 ∨ a = 13 ∨ a = 14 := by omega
  all_goals (rw [h.t rfl]; rfl)
theorem kid.t {μ : gm_M} (h : gS μ) {a : Nat} (p : kid a) : gm_tag μ a = 10 ∨ gm_tag μ a = 11 ∨ gm_tag μ a = 14 ∨ gm_tag μ a = 8 ∨ gm_tag μ a = 9 ∨ gm_tag μ a = 6 ∨ gm_tag μ a = 15 := by
  obtain ⟨p1, p2⟩ := p
  obtain rfl | rfl | rfl | rfl | rfl | rfl | rfl : a = 8 ∨ a = 9 ∨ a = 10 ∨ a = 11 ∨ a = 12 ∨ a = 13 ∨ a = 14 := by omega
  · exact Or.inl (h.t rfl)
  · exact Or.inr (Or.inl (h.t rfl))
  · exact Or.inr (Or.inr (Or.inl (h.t rfl)))
  · exact Or.inr (Or.inr (Or.inr (Or.inl (h.t rfl))))
  · exact Or.inr (Or.inr (Or.inr (Or.inr (Or.inl (h.t rfl)))))
  · exact Or.inr (Or.inr (Or.inr (Or.inr (Or.inr (Or.inl (h.t rfl))))))
  · exact Or.inr (Or.inr (Or.inr (Or.inr (Or.inr (Or.inr (h.t rfl))))))
theorem isch.of {μ : gm_M} (h : gS μ) {i : Int32} (h0 : 0 ≤ i.toInt) (h1 : i.toInt < 5) : isch (μ.2.2 16 i.toInt.toNat) := by
  have e : i.toInt.toNat = 0 ∨ i.toInt.toNat = 1 ∨ i.toInt.toNat = 2 ∨ i.toInt.toNat = 3 ∨ i.toInt.toNat = 4 := by omega
  rcases e with e | e | e | e | e <;> rw [e]
  · exact Or.inl (h.r (by decide))
  · exact Or.inr (Or.inl (h.r (by decide)))
  · exact Or.inr (Or.inr (Or.inl (h.r (by decide))))
  · exact Or.inr (Or.inr (Or.inr (Or.inl (h.r (by decide)))))
  · exact Or.inr (Or.inr (Or.inr (Or.inr (h.r (by decide)))))
theorem isch.at {μ : gm_M} (h : gS μ) {k : Nat} (h1 : k < 5) : μ.2.2 16 k = 29 + 2 * k := by
  have e : k = 0 ∨ k = 1 ∨ k = 2 ∨ k = 3 ∨ k = 4 := by omega
  rcases e with rfl | rfl | rfl | rfl | rfl <;> exact h.r (by decide)
theorem AfW.tc {μ : gm_M} {a : Nat} (p : AfW μ a) : [5].contains (gm_tag μ a) = true := by
  unfold gm_tag; rw [p.2.1.1]; rfl
theorem AfW.t {μ : gm_M} {a : Nat} (p : AfW μ a) : gm_tag μ a = 5 := by
  unfold gm_tag; rw [p.2.1.1]
theorem AfW.t1 {μ : gm_M} {a : Nat} (p : AfW μ a) : gm_tag μ (a + 1) = 1 := by
  unfold gm_tag; rw [p.2.1.2.1]
theorem AfW.t2 {μ : gm_M} {a : Nat} (p : AfW μ a) : gm_tag μ (a + 2) = 1 := by
  unfold gm_tag; rw [p.2.1.2.2.1]
theorem AfW.t3 {μ : gm_M} {a : Nat} (p : AfW μ a) : gm_tag μ (a + 3) = 1 := by
  unfold gm_tag; rw [p.2.1.2.2.2]
theorem AfW.l1 {μ : gm_M} {a : Nat} (p : AfW μ a) : gm_len μ (a + 1) = 10 := by
  unfold gm_len; rw [p.2.1.2.1]
theorem AfW.l2 {μ : gm_M} {a : Nat} (p : AfW μ a) : gm_len μ (a + 2) = 10 := by
  unfold gm_len; rw [p.2.1.2.2.1]
theorem AfW.l3 {μ : gm_M} {a : Nat} (p : AfW μ a) : gm_len μ (a + 3) = 100 := by
  unfold gm_len; rw [p.2.1.2.2.2]
theorem AfW.r1 {μ : gm_M} {a : Nat} (p : AfW μ a) : μ.2.2 a 3 = a + 1 := p.2.2.1.1
theorem AfW.r2 {μ : gm_M} {a : Nat} (p : AfW μ a) : μ.2.2 a 4 = a + 2 := p.2.2.1.2.1
theorem AfW.r3 {μ : gm_M} {a : Nat} (p : AfW μ a) : μ.2.2 a 5 = a + 3 := p.2.2.1.2.2
theorem AfW.n {μ : gm_M} {a : Nat} (p : AfW μ a) : 0 ≤ (μ.2.1 a 2).toInt ∧ (μ.2.1 a 2).toInt ≤ 10 := p.2.2.2.1
theorem AfW.en {μ : gm_M} {a : Nat} (p : AfW μ a) (k : Nat) (h : k < 10) : 0 ≤ (μ.2.1 (a + 2) k).toInt ∧ (μ.2.1 (a + 2) k).toInt ≤ 100 := p.2.2.2.2 k h
/-- what holds an afternoon's cells as they were keeps it one -/
theorem AfW.same {μ m : gm_M} {a : Nat} (p : AfW μ a) (e1 : ∀ (r : Nat) (q : Nat × Nat), μ.1[r]? = some q → m.1[r]? = some q) (e2 : m.2.2 a = μ.2.2 a) (e3 : m.2.1 a = μ.2.1 a) (e4 : m.2.1 (a + 2) = μ.2.1 (a + 2)) : AfW m a := by
  obtain ⟨p0, ⟨p1, p2, p3, p4⟩, p5, p6, p7⟩ := p
  refine ⟨p0, ⟨e1 _ _ p1, e1 _ _ p2, e1 _ _ p3, e1 _ _ p4⟩, ?_, ?_, ?_⟩
  · rw [e2]; exact p5
  · rw [e3]; exact p6
  · rw [e4]; exact p7
theorem AfW.eq {μ m : gm_M} {a : Nat} (p : AfW μ a) (e : m = μ) : AfW m a := by rw [e]; exact p
theorem CI.eq {μ m : gm_M} (p : CI μ) (e : m = μ) : CI m := by rw [e]; exact p
/-- what an asking of the class may change -/
def kc (μ m : gm_M) : Prop := m.1 = μ.1 ∧ (∀ r : Nat, r ≠ 1 → r ≠ 5 → r ≠ 6 → r ≠ 7 → r ≠ 63 → r ≠ 64 → m.2.1 r = μ.2.1 r) ∧ (∀ j : Nat, j ≠ 9 → m.2.1 1 j = μ.2.1 1 j) ∧ (∀ r j : Nat, ¬ (r = 63 ∧ j = 1) → m.2.2 r j = μ.2.2 r j) ∧ (kid (μ.2.2 63 1) → kid (m.2.2 63 1))
theorem kc.refl (μ : gm_M) : kc μ μ := ⟨rfl, fun _ _ _ _ _ _ _ => rfl, fun _ _ => rfl, fun _ _ _ => rfl, fun h => h⟩
theorem kc.trans {a b c : gm_M} (h : kc a b) (g : kc b c) : kc a c := by
  obtain ⟨h1, h2, h3, h4, h5⟩ := h
  obtain ⟨g1, g2, g3, g4, g5⟩ := g
  exact ⟨g1.trans h1, fun r r1 r2 r3 r4 r5 r6 => (g2 r r1 r2 r3 r4 r5 r6).trans (h2 r r1 r2 r3 r4 r5 r6), fun j hj => (g3 j hj).trans (h3 j hj), fun r j hr => (g4 r j hr).trans (h4 r j hr), fun q => g5 (h5 q)⟩
theorem kc.gS {μ m : gm_M} (g : kc μ m) (h : gS μ) : gS m := by
  refine ⟨fun r q e => by rw [g.1]; exact h.1 r q e, fun q hq => ?_⟩
  rw [g.2.2.2.1 q.1 q.2.1 (fun e => ?_)]
  · exact h.2 q hq
  · obtain ⟨a, b, c⟩ := q
    obtain ⟨rfl, rfl⟩ := e
    revert hq
    have : ∀ q ∈ gRl, ¬ (q.1 = 63 ∧ q.2.1 = 1) := by decide
    exact fun hq => this _ hq ⟨rfl, rfl⟩
theorem kc.row {μ m : gm_M} (g : kc μ m) {r : Nat} (h : r ≠ 1 ∧ r ≠ 5 ∧ r ≠ 6 ∧ r ≠ 7 ∧ r ≠ 63 ∧ r ≠ 64) : m.2.1 r = μ.2.1 r := g.2.1 r h.1 h.2.1 h.2.2.1 h.2.2.2.1 h.2.2.2.2.1 h.2.2.2.2.2
theorem kc.ref {μ m : gm_M} (g : kc μ m) {r : Nat} (h : r ≠ 63) : m.2.2 r = μ.2.2 r := funext fun j => g.2.2.2.1 r j (fun e => h e.1)
theorem AfW.kc {μ m : gm_M} {a : Nat} (p : AfW μ a) (g : kc μ m) : AfW m a := by
  have p0 := p.1
  exact p.same (fun r q e => by rw [g.1]; exact e) (g.ref (by omega)) (g.row (by omega)) (g.row (by omega))
theorem scI.same {μ m : gm_M} {s : Nat} (p : scI μ s) (e1 : ∀ (r : Nat) (q : Nat × Nat), μ.1[r]? = some q → m.1[r]? = some q) (e2 : ∀ j, j = 1 ∨ j = 4 ∨ j = 5 → m.2.1 s j = μ.2.1 s j) (e3 : m.2.2 s 6 = μ.2.2 s 6) (e4 : ∀ r, r = s + 8 ∨ r = s + 9 ∨ r = s + 10 ∨ r = s + 12 → m.2.1 r = μ.2.1 r) (ea : AfW μ (μ.2.2 s 6) → AfW m (μ.2.2 s 6)) : scI m s := by
  obtain ⟨p1, p2, p3, p4, p5, p6, p7, p8⟩ := p
  unfold scI
  rw [e2 1 (by omega), e2 4 (by omega), e2 5 (by omega), e3, e4 (s + 8) (by omega), e4 (s + 9) (by omega), e4 (s + 10) (by omega), e4 (s + 12) (by omega)]
  exact ⟨p1, p2, p3, ea p4, p5, p6, p7, p8⟩
theorem CI.of {μ m : gm_M} (h : CI μ) (g : kc μ m) : CI m := by
  obtain ⟨h0, h1, h2, h3, h4⟩ := h
  refine ⟨g.gS h0, h1.same (fun r q e => by rw [g.1]; exact e) (fun j _ => by rw [g.row (by decide)]) (by rw [g.ref (by decide)]) (fun r hr => g.row (by omega)) (fun p => p.kc g), h2.same (fun r q e => by rw [g.1]; exact e) (fun j _ => by rw [g.row (by decide)]) (by rw [g.ref (by decide)]) (fun r hr => g.row (by omega)) (fun p => p.kc g), fun a ha => ?_, ?_⟩
  · by_cases e : a = 63
    · subst e; exact g.2.2.2.2 (h3 _ ha)
    · rw [g.ref e]; exact h3 _ ha
  · rw [g.row (by decide)]; exact h4
/-- writes of ints -/
theorem kc.wr {a b m : gm_M} {r j : Nat} {x : Int32} (h : kc a b) (e : m = (b.1, gm_u b.2.1 r j x, b.2.2)) (hr : r = 5 ∨ r = 6 ∨ r = 7 ∨ r = 63 ∨ r = 64) : kc a m := by
  subst e
  refine h.trans ⟨rfl, fun q h1 h2 h3 h4 h5 h6 => ?_, fun k _ => ?_, fun _ _ _ => rfl, fun q => q⟩
  · show gm_u b.2.1 r j x q = b.2.1 q
    exact gu_row (by omega)
  · show gm_u b.2.1 r j x 1 k = b.2.1 1 k
    rw [gu_row (by omega)]
theorem kc.w1 {a b m : gm_M} {x : Int32} (h : kc a b) (e : m = (b.1, gm_u b.2.1 1 9 x, b.2.2)) : kc a m := by
  subst e
  refine h.trans ⟨rfl, fun q h1 h2 h3 h4 h5 h6 => ?_, fun k hk => ?_, fun _ _ _ => rfl, fun q => q⟩
  · show gm_u b.2.1 1 9 x q = b.2.1 q
    exact gu_row h1
  · show gm_u b.2.1 1 9 x 1 k = b.2.1 1 k
    exact gu_ne hk
theorem kc.wk {a b m : gm_M} {x : Nat} (h : kc a b) (e : m = (b.1, b.2.1, gm_u b.2.2 63 1 x)) (hx : kid x) : kc a m := by
  subst e
  refine h.trans ⟨rfl, fun q h1 h2 h3 h4 h5 h6 => rfl, fun k hk => rfl, fun r j hj => ?_, fun _ => ?_⟩
  · show gm_u b.2.2 63 1 x r j = b.2.2 r j
    by_cases e : r = 63
    · subst e
      exact gu_ne (fun q => hj ⟨rfl, q⟩)
    · rw [gu_row e]
  · show kid (gm_u b.2.2 63 1 x 63 1)
    rw [gu_eq]; exact hx
/-- a child changes by itself -/
def chg (a : Nat) (μ m : gm_M) : Prop := m.1 = μ.1 ∧ m.2.2 = μ.2.2 ∧ (∀ r : Nat, r ≠ a → m.2.1 r = μ.2.1 r) ∧ ∀ j : Nat, j < 3 → m.2.1 a j = μ.2.1 a j
theorem chg.refl (a : Nat) (μ : gm_M) : chg a μ μ := ⟨rfl, rfl, fun _ _ => rfl, fun _ _ => rfl⟩
theorem chg.w {a j : Nat} {μ b m : gm_M} {x : Int32} (h : chg a μ b) (e : m = (b.1, gm_u b.2.1 a j x, b.2.2)) (hj : 3 ≤ j) : chg a μ m := by
  subst e
  obtain ⟨h1, h2, h3, h4⟩ := h
  refine ⟨h1, h2, fun r hr => ?_, fun k hk => ?_⟩
  · show gm_u b.2.1 a j x r = μ.2.1 r
    rw [gu_row hr]; exact h3 r hr
  · show gm_u b.2.1 a j x a k = μ.2.1 a k
    rw [gu_ne (by omega)]; exact h4 k hk
theorem kc.ch {a b m : gm_M} (h : kc a b) (g : chg 63 b m) : kc a m := by
  obtain ⟨h1, h2, h3, h4⟩ := g
  exact h.trans ⟨h1, fun r _ _ _ _ h5 _ => h3 r h5, fun j _ => by rw [h3 1 (by decide)], fun r j _ => by rw [h2], fun q => by rw [h2]; exact q⟩
theorem CI.ch {μ m : gm_M} {a : Nat} (h : CI μ) (ha : ict a) (g : chg a μ m) : CI m := by
  obtain ⟨g1, g2, g3, g4⟩ := g
  obtain ⟨h0, h1, h2, h3, h4⟩ := h
  have hn : a ≠ 24 ∧ a ≠ 48 ∧ a ≠ 15 ∧ a ≠ 39 ∧ a ≠ 23 ∧ a ≠ 25 ∧ a ≠ 27 ∧ a ≠ 47 ∧ a ≠ 49 ∧ a ≠ 51 ∧ a ≠ 3 ∧ 29 ≤ a ∧ a ≤ 63 ∧ a ≠ 42 ∧ a ≠ 44 := by
    unfold ict isch at ha; omega
  have hA : ∀ q, AfW μ q → AfW m q := fun q p => by
    have p0 := p.1
    exact p.same (fun r q e => by rw [g1]; exact e) (by rw [g2]) (g3 _ (by omega)) (g3 _ (by omega))
  refine ⟨h0.same g1 g2, h1.same (fun r q e => by rw [g1]; exact e) (fun j _ => by rw [g3 15 (by omega)]) (by rw [g2]) (fun r hr => g3 r (by omega)) (hA _), h2.same (fun r q e => by rw [g1]; exact e) (fun j _ => by rw [g3 39 (by omega)]) (by rw [g2]) (fun r hr => g3 r (by omega)) (hA _), fun a ha => by rw [g2]; exact h3 a ha, by rw [g3 3 (by omega)]; exact h4⟩
theorem gx_cp {β : Type} {μ : gm_M} {src dst : Nat} {sp dp i : Int32} {n1 n2 : Nat} {f : gm_M → Option β} {Q : β → Prop} (h1 : src ≠ dst) (h2 : gm_tag μ src = 1) (h3 : gm_tag μ dst = 1) (l1 : gm_len μ src = n1) (l2 : gm_len μ dst = n2) (a0 : 0 ≤ sp.toInt) (b0 : 0 ≤ dp.toInt) (c0 : 0 ≤ i.toInt) (a1 : sp.toInt + i.toInt ≤ n1) (b1 : dp.toInt + i.toInt ≤ n2) (k : ∀ m : gm_M, m.1 = μ.1 → m.2.2 = μ.2.2 → (∀ r : Nat, r ≠ dst → m.2.1 r = μ.2.1 r) → (∀ j : Nat, m.2.1 dst j = va_cpy (μ.2.1 src) (μ.2.1 dst) sp.toInt.toNat dp.toInt.toNat i.toInt.toNat j) → gw (f m) Q) : gw (gm_cp μ src sp dst dp i f) Q := by
  have hn : ∀ x : Int32, 0 ≤ x.toInt → ¬ x < 0 := fun x hx e => by
    rw [Int32.lt_iff_toInt_lt] at e
    have : (0 : Int32).toInt = 0 := rfl
    omega
  unfold gm_cp
  rw [if_pos ⟨h1, h2, h3, hn _ a0, hn _ b0, hn _ c0, by rw [l1]; show sp.toInt.toNat + i.toInt.toNat ≤ n1; omega, by rw [l2]; show dp.toInt.toNat + i.toInt.toNat ≤ n2; omega⟩]
  refine k _ rfl rfl (fun r hr => ?_) (fun j => ?_)
  · funext j
    show (if r = dst then _ else μ.2.1 r j) = _
    rw [if_neg hr]
  · show (if dst = dst then _ else _) = _
    rw [if_pos rfl]
    rfl
theorem kc.cp {a b m : gm_M} {dst : Nat} (h : kc a b) (e1 : m.1 = b.1) (e2 : m.2.2 = b.2.2) (e3 : ∀ r : Nat, r ≠ dst → m.2.1 r = b.2.1 r) (hd : dst = 5 ∨ dst = 6 ∨ dst = 7 ∨ dst = 64) : kc a m :=
  h.trans ⟨e1, fun r _ _ _ _ _ _ => e3 r (by omega), fun j _ => by rw [e3 1 (by omega)], fun _ _ _ => by rw [e2], fun q => by rw [e2]; exact q⟩
theorem ks_mono {ks kt : List Nat} {t : Nat} (h : ks.contains t = true) (w : ∀ x ∈ ks, x ∈ kt) : kt.contains t = true := List.contains_iff_mem.mpr (w _ (List.contains_iff_mem.mp h))
theorem CI.n1 {μ : gm_M} (h : CI μ) : 0 ≤ (μ.2.1 15 1).toInt ∧ (μ.2.1 15 1).toInt ≤ 5 := h.2.1.1
theorem CI.n4 {μ : gm_M} (h : CI μ) : 0 ≤ (μ.2.1 15 4).toInt ∧ (μ.2.1 15 4).toInt ≤ 100 := h.2.1.2.1
theorem CI.n5 {μ : gm_M} (h : CI μ) : 0 ≤ (μ.2.1 15 5).toInt ∧ (μ.2.1 15 5).toInt ≤ 5 := h.2.1.2.2.1
theorem CI.af {μ : gm_M} (h : CI μ) : AfW μ (μ.2.2 15 6) := h.2.1.2.2.2.1
theorem CI.n23 {μ : gm_M} (h : CI μ) : 0 ≤ (μ.2.1 23 2).toInt ∧ (μ.2.1 23 2).toInt ≤ 5 := h.2.1.2.2.2.2.1
theorem CI.n25 {μ : gm_M} (h : CI μ) : 0 ≤ (μ.2.1 25 2).toInt ∧ (μ.2.1 25 2).toInt ≤ 8 := h.2.1.2.2.2.2.2.1
theorem CI.n27 {μ : gm_M} (h : CI μ) : 0 ≤ (μ.2.1 27 2).toInt ∧ (μ.2.1 27 2).toInt ≤ 8 := h.2.1.2.2.2.2.2.2.1
theorem CI.l23 {μ : gm_M} (h : CI μ) : (μ.2.1 23 0).toInt = 5 := h.2.1.2.2.2.2.2.2.2.1
theorem CI.l25 {μ : gm_M} (h : CI μ) : (μ.2.1 25 0).toInt = 8 := h.2.1.2.2.2.2.2.2.2.2.1
theorem CI.l27 {μ : gm_M} (h : CI μ) : (μ.2.1 27 0).toInt = 8 := h.2.1.2.2.2.2.2.2.2.2.2.1
theorem CI.sm {μ : gm_M} (h : CI μ) (k : Nat) (hk : k < 5) : (μ.2.1 24 (3 * k + 2)).toInt ≤ 60 := h.2.1.2.2.2.2.2.2.2.2.2.2 k hk
theorem CI.n3 {μ : gm_M} (h : CI μ) : 0 ≤ (μ.2.1 3 2).toInt ∧ (μ.2.1 3 2).toInt ≤ 1000 := h.2.2.2.2.1
theorem CI.l3 {μ : gm_M} (h : CI μ) : (μ.2.1 3 0).toInt = 20 := h.2.2.2.2.2
theorem CI.kd {μ : gm_M} (h : CI μ) {a : Nat} (p : ict a) : kid (μ.2.2 a 1) := h.2.2.2.1 a (Or.inl p)
theorem gx_and3 (x : Int32) : 0 ≤ (x &&& 3).toInt ∧ (x &&& 3).toInt ≤ 3 := by
  have e : (x &&& 3).toInt = ((x &&& 3).toBitVec.toNat : Int) := by
    rw [← Int32.toInt_toBitVec, BitVec.toInt_eq_toNat_of_lt]
    have : (x &&& 3).toBitVec.toNat ≤ 3 := by
      rw [Int32.toBitVec_and, BitVec.toNat_and]
      exact Nat.and_le_right
    omega
  have : (x &&& 3).toBitVec.toNat ≤ 3 := by
    rw [Int32.toBitVec_and, BitVec.toNat_and]
    exact Nat.and_le_right
  omega
theorem gw_io {β : Type} {μ : gm_M} {ys ns : List Nat} {r : Nat} {f : Int32 → Option β} {Q : β → Prop} (h : ys.contains (gm_tag μ r) = true ∨ ns.contains (gm_tag μ r) = true) (k : ∀ x : Int32, (x.toInt = 1 ∧ ys.contains (gm_tag μ r) = true) ∨ (x.toInt = 0 ∧ ¬ ys.contains (gm_tag μ r) = true) → gw (f x) Q) : gw (gm_io μ ys ns r f) Q := by
  unfold gm_io
  by_cases e : ys.contains (gm_tag μ r) = true
  · rw [if_pos e]; exact k 1 (Or.inl ⟨rfl, e⟩)
  · rw [if_neg e, if_pos (h.resolve_left e)]; exact k 0 (Or.inr ⟨rfl, e⟩)
end
section
set_option maxHeartbeats 1000000 in
theorem s_X11_isOutside {μ : gm_M} {a0 : Int32} {a1 : Int32} {a2 : Int32}  : gwI (f_X11_isOutside a0 a1 a2 μ) (fun x m => m = μ ∧ ((x.toInt = 1 ∧ (a0.toInt < a1.toInt ∨ a2.toInt < a0.toInt)) ∨ (x.toInt = 0 ∧ a1.toInt ≤ a0.toInt ∧ a0.toInt ≤ a2.toInt))) := by
  refine gwI_of ?_
  unfold f_X11_isOutside
  have l0 : (0 : Int32).toInt = 0 := rfl
  have l1 : (1 : Int32).toInt = 1 := rfl
  refine gw_ji ?_
  refine gw_lt (fun h2_1 => ?_) (fun h2_1 => ?_)
  ·
    refine gw_z Iff.rfl (by omega) (gq_I ⟨rfl, by omega⟩)
  ·
    refine gw_le (fun h7_2 => ?_) (fun h7_2 => ?_)
    ·
      refine gw_z Iff.rfl (by omega) (gq_I ⟨rfl, by omega⟩)
    ·
      refine gw_z Iff.rfl (by omega) (gq_I ⟨rfl, by omega⟩)
set_option maxHeartbeats 1000000 in
theorem s_X11_isNobody {μ : gm_M} (h : CI μ) {a1 : Int32}  : gwI (f_X11_isNobody 1 a1 μ) (fun x m => m = μ ∧ ((x.toInt = 0 ∧ 0 ≤ a1.toInt ∧ a1.toInt < (μ.2.1 15 1).toInt ∧ a1.toInt < 5) ∨ (x.toInt = 1 ∧ (a1.toInt < 0 ∨ (μ.2.1 15 1).toInt ≤ a1.toInt)))) := by
  refine gwI_of ?_
  unfold f_X11_isNobody
  have l0 : (0 : Int32).toInt = 0 := rfl
  have l1 : (1 : Int32).toInt = 1 := rfl
  refine gw_gRa 15 (h.1.c (r := 1) rfl) (h.1.r (by decide)) ?_
  refine gw_gI (h.1.c (r := 15) rfl) (fun v1 ev1 => ?_)
  have bv1 := h.n1
  have dv1 : v1.toInt = (μ.2.1 15 1).toInt := by rw [ev1]
  have n2 : (v1 - (1 : Int32)).toInt = v1.toInt - (1 : Int32).toInt := gx_sub (by omega) (by omega)
  refine gw_bI (s_X11_isOutside ) (fun x3 m3 ⟨z3, f3⟩ => ?_)
  replace z3 := z3.symm
  subst z3
  refine gw_z Iff.rfl (by omega) (gq_I ⟨rfl, by (have := h.n1; omega)⟩)
set_option maxHeartbeats 1000000 in
theorem s_X0_passes {μ : gm_M} (h : CI μ) {a0 : Int32} {a1 : Nat} {a2 : Int32} (q0 : ict a1) : gwI (f_X0_passes a0 a1 a2 μ) (fun x m => m = μ ∧ (x.toInt = 0 ∨ x.toInt = 1)) := by
  refine gwI_of ?_
  unfold f_X0_passes
  have l0 : (0 : Int32).toInt = 0 := rfl
  have l1 : (1 : Int32).toInt = 1 := rfl
  have l2 : (2 : Int32).toInt = 2 := rfl
  have l3 : (3 : Int32).toInt = 3 := rfl
  have l4 : (4 : Int32).toInt = 4 := rfl
  have l10 : (10 : Int32).toInt = 10 := rfl
  have l100 : (100 : Int32).toInt = 100 := rfl
  have l1000 : (1000 : Int32).toInt = 1000 := rfl
  refine gw_dv (by omega) ?_
  refine gw_j (fun s1 => True) (fun s1 _ => ?_) (fun j2 hj2 => ?_)
  ·
    refine gw_dv (by omega) ?_
    refine gw_dv (by omega) ?_
    refine gw_dv (by omega) ?_
    refine gw_eq (fun h104_3 => ?_) (fun h104_3 => ?_)
    ·
      refine gw_le (fun h135_4 => ?_) (fun h135_4 => ?_)
      ·
        refine gw_z Iff.rfl (by omega) (gq_I ⟨rfl, by omega⟩)
      ·
        refine gw_z Iff.rfl (by omega) (gq_I ⟨rfl, by omega⟩)
    ·
      refine gw_eq (fun h104_5 => ?_) (fun h104_5 => ?_)
      ·
        refine gw_ne (fun h147_6 => ?_) (fun h147_6 => ?_)
        ·
          refine gw_z Iff.rfl (by omega) (gq_I ⟨rfl, by omega⟩)
        ·
          refine gw_z Iff.rfl (by omega) (gq_I ⟨rfl, by omega⟩)
      ·
        refine gw_le (fun h159_7 => ?_) (fun h159_7 => ?_)
        ·
          refine gw_z Iff.rfl (by omega) (gq_I ⟨rfl, by omega⟩)
        ·
          refine gw_z Iff.rfl (by omega) (gq_I ⟨rfl, by omega⟩)
  ·
    refine gw_eq (fun h5_8 => ?_) (fun h5_8 => ?_)
    ·
      refine gw_gI (ict.c h.1 q0) (fun v9 ev9 => ?_)
      exact hj2 _ trivial
    ·
      refine gw_eq (fun h5_10 => ?_) (fun h5_10 => ?_)
      ·
        refine gw_gR (ict.c h.1 q0) (fun v11 ev11 => ?_)
        have cv11 : kid v11 := by rw [ev11]; exact h.kd q0
        refine gw_gI (kid.c h.1 cv11) (fun v12 ev12 => ?_)
        exact hj2 _ trivial
      ·
        refine gw_eq (fun h5_13 => ?_) (fun h5_13 => ?_)
        ·
          refine gw_gI (ict.c h.1 q0) (fun v14 ev14 => ?_)
          exact hj2 _ trivial
        ·
          refine gw_eq (fun h5_15 => ?_) (fun h5_15 => ?_)
          ·
            refine gw_gI (ict.c h.1 q0) (fun v16 ev16 => ?_)
            exact hj2 _ trivial
          ·
            refine gw_eq (fun h5_17 => ?_) (fun h5_17 => ?_)
            ·
              refine gw_gI (ict.c h.1 q0) (fun v18 ev18 => ?_)
              refine gw_dv (by omega) ?_
              exact hj2 _ trivial
            ·
              refine gw_dv (by omega) ?_
              exact hj2 _ trivial
set_option maxHeartbeats 1000000 in
theorem s_X0_isSo {μ : gm_M} (h : CI μ) {a0 : Nat} {a1 : Int32} {a2 : Int32} {a3 : Nat} {a4 : Int32} (q0 : AfW μ a0) (q1 : 0 ≤ a1.toInt ∧ a1.toInt ≤ 100) (q2 : 0 ≤ a2.toInt ∧ a2.toInt ≤ 100) (q3 : ict a3) : gwI (f_X0_isSo a0 a1 a2 a3 a4 μ) (fun x m => m = μ ∧ (x.toInt = 0 ∨ x.toInt = 1)) := by
  refine gwI_of ?_
  unfold f_X0_isSo
  have lm3 : (-3 : Int32).toInt = -3 := rfl
  have lm2 : (-2 : Int32).toInt = -2 := rfl
  have lm1 : (-1 : Int32).toInt = -1 := rfl
  have l0 : (0 : Int32).toInt = 0 := rfl
  have l1 : (1 : Int32).toInt = 1 := rfl
  refine gw_loop (fun s1 => s1.2.2 = μ ∧ (0 ≤ s1.2.1.toInt ∧ s1.2.1.toInt ≤ 100)) (fun s1 => (100 - s1.2.1.toInt)) (fun s1 ⟨k2, u3⟩ => ?_) 5000 ((0 : Int32), a1, μ) ⟨rfl, (by show 0 ≤ a1.toInt ∧ a1.toInt ≤ 100; omega)⟩ (by show (100 - a1.toInt) < ((5000 : Nat) : Int); omega) (by show 0 ≤ (100 - a1.toInt); omega)
  refine gw_le (fun h9_4 => ?_) (fun h9_4 => ?_)
  ·
    refine gw_ne (fun h125_5 => ?_) (fun h125_5 => ?_)
    ·
      refine gw_z Iff.rfl (by omega) (gs_inr (gq_I ⟨k2, by omega⟩))
    ·
      refine gw_z Iff.rfl (by omega) (gs_inr (gq_I ⟨k2, by omega⟩))
  ·
    refine gw_gRa (a0 + 3) ((AfW.eq q0 k2).tc) (AfW.eq q0 k2).r3 ?_
    refine gw_aI (i := s1.2.1) ((AfW.eq q0 k2).t3) ((AfW.eq q0 k2).l3) (by omega) (by omega) (fun v7 ev7 => ?_)
    refine gw_j (fun s8 => s8.2 = μ) (fun s8 k10 => ?_) (fun j9 hj9 => ?_)
    ·
      have n11 : (s1.2.1 + (1 : Int32)).toInt = s1.2.1.toInt + (1 : Int32).toInt := gx_add (by omega) (by omega)
      exact gw_some (gs_inl ⟨k10, (by show 0 ≤ (s1.2.1 + (1 : Int32)).toInt ∧ (s1.2.1 + (1 : Int32)).toInt ≤ 100; omega)⟩ (by show (100 - (s1.2.1 + (1 : Int32)).toInt) < (100 - s1.2.1.toInt); omega) (by show 0 ≤ (100 - (s1.2.1 + (1 : Int32)).toInt); omega))
    ·
      refine gw_ne (fun h24_12 => ?_) (fun h24_12 => ?_)
      ·
        refine gw_ne (fun h40_13 => ?_) (fun h40_13 => ?_)
        ·
          refine gw_ne (fun h74_14 => ?_) (fun h74_14 => ?_)
          ·
            refine gw_bI (s_X0_passes (h.eq k2) q3) (fun x15 m15 ⟨z15, f15⟩ => ?_)
            replace z15 := z15.symm
            subst z15
            refine gw_j (fun s16 => True) (fun s16 _ => ?_) (fun j17 hj17 => ?_)
            ·
              exact hj9 _ k2
            ·
              refine gw_eq (fun h103_18 => ?_) (fun h103_18 => ?_)
              ·
                exact hj17 _ trivial
              ·
                exact hj17 _ trivial
          ·
            exact hj9 _ k2
        ·
          refine gw_j (fun s19 => True) (fun s19 _ => ?_) (fun j20 hj20 => ?_)
          ·
            exact hj9 _ k2
          ·
            refine gw_ne (fun h48_21 => ?_) (fun h48_21 => ?_)
            ·
              exact hj20 _ trivial
            ·
              exact hj20 _ trivial
      ·
        exact hj9 _ k2
set_option maxHeartbeats 1000000 in
theorem s_X0_stretchOf {μ : gm_M} (h : CI μ) {a0 : Nat} {a1 : Nat} {a2 : Int32} (q0 : AfW μ a0) (q1 : ict a1) : gwI (f_X0_stretchOf a0 a1 a2 μ) (fun x m => m = μ) := by
  refine gwI_of ?_
  unfold f_X0_stretchOf
  have l0 : (0 : Int32).toInt = 0 := rfl
  have l1 : (1 : Int32).toInt = 1 := rfl
  have l30 : (30 : Int32).toInt = 30 := rfl
  refine gw_loop (fun s1 => s1.2.2.2 = μ ∧ ((0 ≤ s1.2.2.1.toInt ∧ s1.2.2.1.toInt ≤ 10) ∧ (0 ≤ s1.2.1.toInt ∧ s1.2.1.toInt ≤ 100))) (fun s1 => (10 - s1.2.2.1.toInt)) (fun s1 ⟨k2, u3⟩ => ?_) 5000 ((30 : Int32), (0 : Int32), (0 : Int32), μ) ⟨rfl, (by show (0 ≤ (0 : Int32).toInt ∧ (0 : Int32).toInt ≤ 10) ∧ (0 ≤ (0 : Int32).toInt ∧ (0 : Int32).toInt ≤ 100); omega)⟩ (by show (10 - (0 : Int32).toInt) < ((5000 : Nat) : Int); omega) (by show 0 ≤ (10 - (0 : Int32).toInt); omega)
  refine gw_gI ((AfW.eq q0 k2).tc) (fun v4 ev4 => ?_)
  have bv4 := (AfW.eq q0 k2).n
  have dv4 : v4.toInt = (s1.2.2.2.2.1 a0 2).toInt := by rw [ev4]
  refine gw_le (fun h15_5 => ?_) (fun h15_5 => ?_)
  ·
    exact gw_some (gs_inr (gq_I k2))
  ·
    refine gw_gRa (a0 + 2) ((AfW.eq q0 k2).tc) (AfW.eq q0 k2).r2 ?_
    refine gw_aI (i := s1.2.2.1) ((AfW.eq q0 k2).t2) ((AfW.eq q0 k2).l2) (by omega) (by omega) (fun v7 ev7 => ?_)
    have bv7 := (AfW.eq q0 k2).en s1.2.2.1.toInt.toNat (by omega)
    rw [← ev7] at bv7
    refine gw_if ((AfW.eq q0 k2).t) ?_
    refine gw_bI (s_X0_isSo (h.eq k2) (AfW.eq q0 k2) (by omega) (by omega) q1) (fun x8 m8 ⟨z8, f8⟩ => ?_)
    replace z8 := z8.symm
    subst z8
    refine gw_j (fun s9 => True) (fun s9 _ => ?_) (fun j10 hj10 => ?_)
    ·
      refine gw_gRa (a0 + 2) ((AfW.eq q0 k2).tc) (AfW.eq q0 k2).r2 ?_
      refine gw_aI (i := s1.2.2.1) ((AfW.eq q0 k2).t2) ((AfW.eq q0 k2).l2) (by omega) (by omega) (fun v12 ev12 => ?_)
      have bv12 := (AfW.eq q0 k2).en s1.2.2.1.toInt.toNat (by omega)
      rw [← ev12] at bv12
      have n13 : (s1.2.2.1 + (1 : Int32)).toInt = s1.2.2.1.toInt + (1 : Int32).toInt := gx_add (by omega) (by omega)
      exact gw_some (gs_inl ⟨k2, (by show (0 ≤ (s1.2.2.1 + (1 : Int32)).toInt ∧ (s1.2.2.1 + (1 : Int32)).toInt ≤ 10) ∧ (0 ≤ v12.toInt ∧ v12.toInt ≤ 100); omega)⟩ (by show (10 - (s1.2.2.1 + (1 : Int32)).toInt) < (10 - s1.2.2.1.toInt); omega) (by show 0 ≤ (10 - (s1.2.2.1 + (1 : Int32)).toInt); omega))
    ·
      refine gw_eq (fun h33_14 => ?_) (fun h33_14 => ?_)
      ·
        exact hj10 _ trivial
      ·
        refine gw_gRa (a0 + 1) ((AfW.eq q0 k2).tc) (AfW.eq q0 k2).r1 ?_
        refine gw_aI (i := s1.2.2.1) ((AfW.eq q0 k2).t1) ((AfW.eq q0 k2).l1) (by omega) (by omega) (fun v16 ev16 => ?_)
        exact hj10 _ trivial
set_option maxHeartbeats 1000000 in
theorem s_X5_sugarChewed {μ : gm_M} (h : CI μ) {a0 : Nat} {a1 : Nat} {a2 : Int32} (qt : List.contains [10, 6, 8, 9, 11, 14, 15] (gm_tag μ a0) = true) (q1 : ict a1) : gwI (f_X5_sugarChewed a0 a1 a2 μ) (fun x m => m = μ) := by
  refine gwI_of ?_
  unfold f_X5_sugarChewed
  have l2 : (2 : Int32).toInt = 2 := rfl
  have l3 : (3 : Int32).toInt = 3 := rfl
  refine gw_gI (ict.c h.1 q1) (fun v1 ev1 => ?_)
  refine gw_dv (by omega) ?_
  exact gw_some (gq_I rfl)
set_option maxHeartbeats 1000000 in
theorem s_X6_sugarChewed {μ : gm_M} (h : CI μ) {a0 : Nat} {a1 : Nat} {a2 : Int32} (qt : List.contains [9, 11] (gm_tag μ a0) = true) (q1 : ict a1) : gwI (f_X6_sugarChewed a0 a1 a2 μ) (fun x m => m = μ) := by
  refine gwI_of ?_
  unfold f_X6_sugarChewed
  have l2 : (2 : Int32).toInt = 2 := rfl
  refine gw_if qt ?_
  refine gw_bI (s_X5_sugarChewed h (ks_mono qt (by decide)) q1) (fun x1 m1 z1 => ?_)
  replace z1 := z1.symm
  subst z1
  exact gw_some (gq_I rfl)
set_option maxHeartbeats 1000000 in
theorem s_X9_sugarChewed {μ : gm_M} (h : CI μ) {a0 : Nat} {a1 : Nat} {a2 : Int32} (qt : List.contains [6, 14] (gm_tag μ a0) = true) (q1 : ict a1) : gwI (f_X9_sugarChewed a0 a1 a2 μ) (fun x m => m = μ) := by
  refine gwI_of ?_
  unfold f_X9_sugarChewed
  have l2 : (2 : Int32).toInt = 2 := rfl
  refine gw_if qt ?_
  refine gw_bI (s_X5_sugarChewed h (ks_mono qt (by decide)) q1) (fun x1 m1 z1 => ?_)
  replace z1 := z1.symm
  subst z1
  refine gw_dv (by omega) ?_
  exact gw_some (gq_I rfl)
set_option maxHeartbeats 1000000 in
theorem s_X3_sugarChewed {μ : gm_M} (h : CI μ) {a0 : Nat} {a1 : Nat} {a2 : Int32} (qt : List.contains [8, 15] (gm_tag μ a0) = true) (q1 : ict a1) : gwI (f_X3_sugarChewed a0 a1 a2 μ) (fun x m => m = μ) := by
  refine gwI_of ?_
  unfold f_X3_sugarChewed
  have l0 : (0 : Int32).toInt = 0 := rfl
  have l2 : (2 : Int32).toInt = 2 := rfl
  refine gw_if qt ?_
  refine gw_bI (s_X5_sugarChewed h (ks_mono qt (by decide)) q1) (fun x1 m1 z1 => ?_)
  replace z1 := z1.symm
  subst z1
  exact gw_some (gq_I rfl)
set_option maxHeartbeats 1000000 in
theorem s_X4_sugarChewed {μ : gm_M} (h : CI μ) {a0 : Nat} {a1 : Nat} {a2 : Int32} (qt : List.contains [9] (gm_tag μ a0) = true) (q1 : ict a1) : gwI (f_X4_sugarChewed a0 a1 a2 μ) (fun x m => m = μ) := by
  refine gwI_of ?_
  unfold f_X4_sugarChewed
  refine gw_if qt ?_
  refine gw_bI (s_X6_sugarChewed h (ks_mono qt (by decide)) q1) (fun x1 m1 z1 => ?_)
  replace z1 := z1.symm
  subst z1
  refine gw_gI (ict.c h.1 q1) (fun v2 ev2 => ?_)
  exact gw_some (gq_I rfl)
set_option maxHeartbeats 1000000 in
theorem s_X1_sugarChewed {μ : gm_M} (h : CI μ) {a0 : Nat} {a1 : Nat} {a2 : Int32} (qt : List.contains [6] (gm_tag μ a0) = true) (q1 : ict a1) : gwI (f_X1_sugarChewed a0 a1 a2 μ) (fun x m => m = μ) := by
  refine gwI_of ?_
  unfold f_X1_sugarChewed
  have l1 : (1 : Int32).toInt = 1 := rfl
  refine gw_if qt ?_
  refine gw_bI (s_X9_sugarChewed h (ks_mono qt (by decide)) q1) (fun x1 m1 z1 => ?_)
  replace z1 := z1.symm
  subst z1
  exact gw_some (gq_I rfl)
set_option maxHeartbeats 1000000 in
theorem s_X10_sugarChewed {μ : gm_M} (h : CI μ) {a0 : Nat} {a1 : Nat} {a2 : Int32} (qt : List.contains [15] (gm_tag μ a0) = true) (q1 : ict a1) : gwI (f_X10_sugarChewed a0 a1 a2 μ) (fun x m => m = μ) := by
  refine gwI_of ?_
  unfold f_X10_sugarChewed
  have l3 : (3 : Int32).toInt = 3 := rfl
  refine gw_if qt ?_
  refine gw_bI (s_X3_sugarChewed h (ks_mono qt (by decide)) q1) (fun x1 m1 z1 => ?_)
  replace z1 := z1.symm
  subst z1
  refine gw_gRa (a1 + 1) (ict.c h.1 q1) (ict.row h.1 q1) ?_
  have n3 := gx_and3 a2
  refine gw_aI (i := (a2 &&& (3 : Int32))) (ict.rt h.1 q1) (ict.rl h.1 q1) (by omega) (by omega) (fun v4 ev4 => ?_)
  exact gw_some (gq_I rfl)
set_option maxHeartbeats 1000000 in
theorem s_X5_jawTired {μ : gm_M} (h : CI μ) {a0 : Nat} {a1 : Nat} (qt : List.contains [10, 6, 8, 9, 11, 14, 15] (gm_tag μ a0) = true) (q1 : ict a1) : gwI (f_X5_jawTired a0 a1 μ) (fun x m => m = μ) := by
  refine gwI_of ?_
  unfold f_X5_jawTired
  refine gw_gI (ict.c h.1 q1) (fun v1 ev1 => ?_)
  exact gw_some (gq_I rfl)
set_option maxHeartbeats 1000000 in
theorem s_X6_jawTired {μ : gm_M} (h : CI μ) {a0 : Nat} {a1 : Nat} (qt : List.contains [9, 11] (gm_tag μ a0) = true) (q1 : ict a1) : gwI (f_X6_jawTired a0 a1 μ) (fun x m => m = μ) := by
  refine gwI_of ?_
  unfold f_X6_jawTired
  have l1 : (1 : Int32).toInt = 1 := rfl
  refine gw_gI (ict.c h.1 q1) (fun v1 ev1 => ?_)
  exact gw_some (gq_I rfl)
set_option maxHeartbeats 1000000 in
theorem s_X3_jawTired {μ : gm_M} (h : CI μ) {a0 : Nat} {a1 : Nat} (qt : List.contains [8, 15] (gm_tag μ a0) = true) (q1 : ict a1) : gwI (f_X3_jawTired a0 a1 μ) (fun x m => m = μ) := by
  refine gwI_of ?_
  unfold f_X3_jawTired
  have l2 : (2 : Int32).toInt = 2 := rfl
  refine gw_gI (ict.c h.1 q1) (fun v1 ev1 => ?_)
  exact gw_some (gq_I rfl)
set_option maxHeartbeats 1000000 in
theorem s_X1_jawTired {μ : gm_M} (h : CI μ) {a0 : Nat} {a1 : Nat} (qt : List.contains [6] (gm_tag μ a0) = true) (q1 : ict a1) : gwI (f_X1_jawTired a0 a1 μ) (fun x m => m = μ) := by
  refine gwI_of ?_
  unfold f_X1_jawTired
  have l2 : (2 : Int32).toInt = 2 := rfl
  refine gw_gI (ict.c h.1 q1) (fun v1 ev1 => ?_)
  refine gw_dv (by omega) ?_
  exact gw_some (gq_I rfl)
set_option maxHeartbeats 1000000 in
theorem s_X5_dares {μ : gm_M} (h : CI μ) {a0 : Nat} {a1 : Int32} (qt : List.contains [10, 6, 8, 9, 11, 14, 15] (gm_tag μ a0) = true) : gwI (f_X5_dares a0 a1 μ) (fun x m => m = μ) := by
  refine gwI_of ?_
  unfold f_X5_dares
  exact gw_some (gq_I rfl)
set_option maxHeartbeats 1000000 in
theorem s_X1_dares {μ : gm_M} (h : CI μ) {a0 : Nat} {a1 : Int32} (qt : List.contains [6] (gm_tag μ a0) = true) : gwI (f_X1_dares a0 a1 μ) (fun x m => m = μ) := by
  refine gwI_of ?_
  unfold f_X1_dares
  have l0 : (0 : Int32).toInt = 0 := rfl
  have l10 : (10 : Int32).toInt = 10 := rfl
  exact gw_some (gq_I rfl)
theorem s_fv_sugarChewed {μ : gm_M} (h : CI μ) {r : Nat} {b0 : Nat} {b1 : Int32} (q0 : kid r) (q1 : ict b0) : gwI (fv_sugarChewed r b0 b1 μ) (fun x m => m = μ) := by
  have t := kid.t h.1 q0
  unfold fv_sugarChewed
  by_cases e5 : gm_tag μ r = 10
  · rw [if_pos e5]; exact s_X5_sugarChewed h (by rw [e5]; rfl) q1
  rw [if_neg e5]
  by_cases e6 : gm_tag μ r = 11
  · rw [if_pos e6]; exact s_X6_sugarChewed h (by rw [e6]; rfl) q1
  rw [if_neg e6]
  by_cases e9 : gm_tag μ r = 14
  · rw [if_pos e9]; exact s_X9_sugarChewed h (by rw [e9]; rfl) q1
  rw [if_neg e9]
  by_cases e3 : gm_tag μ r = 8
  · rw [if_pos e3]; exact s_X3_sugarChewed h (by rw [e3]; rfl) q1
  rw [if_neg e3]
  by_cases e4 : gm_tag μ r = 9
  · rw [if_pos e4]; exact s_X4_sugarChewed h (by rw [e4]; rfl) q1
  rw [if_neg e4]
  by_cases e1 : gm_tag μ r = 6
  · rw [if_pos e1]; exact s_X1_sugarChewed h (by rw [e1]; rfl) q1
  rw [if_neg e1]
  by_cases e10 : gm_tag μ r = 15
  · rw [if_pos e10]; exact s_X10_sugarChewed h (by rw [e10]; rfl) q1
  rw [if_neg e10]
  exfalso; omega
theorem s_fv_jawTired {μ : gm_M} (h : CI μ) {r : Nat} {b0 : Nat} (q0 : kid r) (q1 : ict b0) : gwI (fv_jawTired r b0 μ) (fun x m => m = μ) := by
  have t := kid.t h.1 q0
  unfold fv_jawTired
  by_cases e5 : gm_tag μ r = 10
  · rw [if_pos e5]; exact s_X5_jawTired h (by rw [e5]; rfl) q1
  rw [if_neg e5]
  by_cases e6 : gm_tag μ r = 11
  · rw [if_pos e6]; exact s_X6_jawTired h (by rw [e6]; rfl) q1
  rw [if_neg e6]
  by_cases e9 : gm_tag μ r = 14
  · rw [if_pos e9]; exact s_X5_jawTired h (by rw [e9]; rfl) q1
  rw [if_neg e9]
  by_cases e3 : gm_tag μ r = 8
  · rw [if_pos e3]; exact s_X3_jawTired h (by rw [e3]; rfl) q1
  rw [if_neg e3]
  by_cases e4 : gm_tag μ r = 9
  · rw [if_pos e4]; exact s_X6_jawTired h (by rw [e4]; rfl) q1
  rw [if_neg e4]
  by_cases e1 : gm_tag μ r = 6
  · rw [if_pos e1]; exact s_X1_jawTired h (by rw [e1]; rfl) q1
  rw [if_neg e1]
  by_cases e10 : gm_tag μ r = 15
  · rw [if_pos e10]; exact s_X3_jawTired h (by rw [e10]; rfl) q1
  rw [if_neg e10]
  exfalso; omega
theorem s_fv_dares {μ : gm_M} (h : CI μ) {r : Nat} {b0 : Int32} (q0 : kid r) : gwI (fv_dares r b0 μ) (fun x m => m = μ) := by
  have t := kid.t h.1 q0
  unfold fv_dares
  by_cases e5 : gm_tag μ r = 10
  · rw [if_pos e5]; exact s_X5_dares h (by rw [e5]; rfl)
  rw [if_neg e5]
  by_cases e6 : gm_tag μ r = 11
  · rw [if_pos e6]; exact s_X5_dares h (by rw [e6]; rfl)
  rw [if_neg e6]
  by_cases e9 : gm_tag μ r = 14
  · rw [if_pos e9]; exact s_X5_dares h (by rw [e9]; rfl)
  rw [if_neg e9]
  by_cases e3 : gm_tag μ r = 8
  · rw [if_pos e3]; exact s_X5_dares h (by rw [e3]; rfl)
  rw [if_neg e3]
  by_cases e4 : gm_tag μ r = 9
  · rw [if_pos e4]; exact s_X5_dares h (by rw [e4]; rfl)
  rw [if_neg e4]
  by_cases e1 : gm_tag μ r = 6
  · rw [if_pos e1]; exact s_X1_dares h (by rw [e1]; rfl)
  rw [if_neg e1]
  by_cases e10 : gm_tag μ r = 15
  · rw [if_pos e10]; exact s_X5_dares h (by rw [e10]; rfl)
  rw [if_neg e10]
  exfalso; omega
set_option maxHeartbeats 1000000 in
theorem s_X2_holds {μ : gm_M} (h : CI μ) {a0 : Nat} {a1 : Nat} {a2 : Int32} (q0 : ict a0) (q1 : AfW μ a1) : gwI (f_X2_holds a0 a1 a2 μ) (fun x m => m = μ) := by
  refine gwI_of ?_
  unfold f_X2_holds
  have l0 : (0 : Int32).toInt = 0 := rfl
  have l2 : (2 : Int32).toInt = 2 := rfl
  refine gw_if (q1.t) ?_
  refine gw_bI (s_X0_stretchOf h q1 q0) (fun x1 m1 z1 => ?_)
  replace z1 := z1.symm
  subst z1
  refine gw_gI (ict.c h.1 q0) (fun v2 ev2 => ?_)
  refine gw_gI (ict.c h.1 q0) (fun v3 ev3 => ?_)
  refine gw_gI (ict.c h.1 q0) (fun v4 ev4 => ?_)
  refine gw_dv (by omega) ?_
  refine gw_gI (q1.tc) (fun v5 ev5 => ?_)
  refine gw_gR (ict.c h.1 q0) (fun v6 ev6 => ?_)
  have cv6 : kid v6 := by rw [ev6]; exact h.kd q0
  refine gw_bI (s_fv_dares h cv6) (fun x7 m7 z7 => ?_)
  replace z7 := z7.symm
  subst z7
  exact gw_some (gq_I rfl)
set_option maxHeartbeats 1000000 in
theorem s_X2_passMinute {μ : gm_M} (h : CI μ) {a0 : Nat} {a1 : Int32} (q0 : ict a0) : gwV (f_X2_passMinute a0 a1 μ) (fun m => chg a0 μ m) := by
  refine gwV_of ?_
  unfold f_X2_passMinute
  have l0 : (0 : Int32).toInt = 0 := rfl
  have l1 : (1 : Int32).toInt = 1 := rfl
  have l5 : (5 : Int32).toInt = 5 := rfl
  have l99 : (99 : Int32).toInt = 99 := rfl
  have k0 := chg.refl a0 μ
  refine gw_gI (ict.c (h.ch q0 k0).1 q0) (fun v1 ev1 => ?_)
  refine gw_le (fun h4_2 => ?_) (fun h4_2 => ?_)
  ·
    refine gw_gI (ict.c (h.ch q0 k0).1 q0) (fun v3 ev3 => ?_)
    refine gw_le (fun h33_4 => ?_) (fun h33_4 => ?_)
    ·
      refine gw_gI (ict.c (h.ch q0 k0).1 q0) (fun v5 ev5 => ?_)
      refine gw_pI (ict.c (h.ch q0 k0).1 q0) (fun m6 em6 => ?_)
      have km6 := k0.w em6 (by decide)
      exact gw_some (gq_V km6)
    ·
      refine gw_gI (ict.c (h.ch q0 k0).1 q0) (fun v7 ev7 => ?_)
      refine gw_gR (ict.c (h.ch q0 k0).1 q0) (fun v8 ev8 => ?_)
      have cv8 : kid v8 := by rw [ev8]; exact (h.ch q0 k0).kd q0
      refine gw_bI (s_fv_sugarChewed (h.ch q0 k0) cv8 q0) (fun x9 m9 z9 => ?_)
      replace z9 := z9.symm
      subst z9
      refine gw_pI (ict.c (h.ch q0 k0).1 q0) (fun m10 em10 => ?_)
      have km10 := k0.w em10 (by decide)
      refine gw_gI (ict.c (h.ch q0 km10).1 q0) (fun v11 ev11 => ?_)
      refine gw_gR (ict.c (h.ch q0 km10).1 q0) (fun v12 ev12 => ?_)
      have cv12 : kid v12 := by rw [ev12]; exact (h.ch q0 km10).kd q0
      refine gw_bI (s_fv_jawTired (h.ch q0 km10) cv12 q0) (fun x13 m13 z13 => ?_)
      replace z13 := z13.symm
      subst z13
      refine gw_pI (ict.c (h.ch q0 km10).1 q0) (fun m14 em14 => ?_)
      have km14 := km10.w em14 (by decide)
      exact gw_some (gq_V km14)
  ·
    refine gw_gI (ict.c (h.ch q0 k0).1 q0) (fun v15 ev15 => ?_)
    refine gw_gI (ict.c (h.ch q0 k0).1 q0) (fun v16 ev16 => ?_)
    refine gw_pI (ict.c (h.ch q0 k0).1 q0) (fun m17 em17 => ?_)
    have km17 := k0.w em17 (by decide)
    exact gw_some (gq_V km17)
set_option maxHeartbeats 1000000 in
theorem s_X2_breathe {μ : gm_M} (h : CI μ) {a0 : Nat} {a1 : Int32} {a2 : Int32} (q0 : ict a0) : gwI (f_X2_breathe a0 a1 a2 μ) (fun x m => chg a0 μ m ∧ (x.toInt = 0 ∨ x.toInt = 1)) := by
  refine gwI_of ?_
  unfold f_X2_breathe
  have l0 : (0 : Int32).toInt = 0 := rfl
  have l1 : (1 : Int32).toInt = 1 := rfl
  have l10 : (10 : Int32).toInt = 10 := rfl
  have l9999 : (9999 : Int32).toInt = 9999 := rfl
  have k0 := chg.refl a0 μ
  refine gw_gI (ict.c (h.ch q0 k0).1 q0) (fun v1 ev1 => ?_)
  refine gw_pI (ict.c (h.ch q0 k0).1 q0) (fun m2 em2 => ?_)
  have km2 := k0.w em2 (by decide)
  refine gw_gI (ict.c (h.ch q0 km2).1 q0) (fun v3 ev3 => ?_)
  refine gw_lt (fun h15_4 => ?_) (fun h15_4 => ?_)
  ·
    refine gw_gI (ict.c (h.ch q0 km2).1 q0) (fun v5 ev5 => ?_)
    refine gw_gI (ict.c (h.ch q0 km2).1 q0) (fun v6 ev6 => ?_)
    refine gw_dv (by omega) ?_
    refine gw_pI (ict.c (h.ch q0 km2).1 q0) (fun m7 em7 => ?_)
    have km7 := km2.w em7 (by decide)
    refine gw_pI (ict.c (h.ch q0 km7).1 q0) (fun m8 em8 => ?_)
    have km8 := km7.w em8 (by decide)
    refine gw_z Iff.rfl (by omega) (gq_I ⟨km8, by omega⟩)
  ·
    refine gw_z Iff.rfl (by omega) (gq_I ⟨km2, by omega⟩)
end
section
set_option maxHeartbeats 1000000 in
theorem s_X7_isKept_3 {μ : gm_M} (h : CI μ) {a1 : Int32}  : gwI (f_X7_isKept 3 a1 μ) (fun x m => m = μ ∧ ((x.toInt = 1 ∧ 0 ≤ a1.toInt ∧ a1.toInt < (μ.2.1 3 2).toInt ∧ a1.toInt < 20) ∨ x.toInt = 0)) := by
  refine gwI_of ?_
  unfold f_X7_isKept
  have l0 : (0 : Int32).toInt = 0 := rfl
  have l1 : (1 : Int32).toInt = 1 := rfl
  refine gw_lt (fun h1_1 => ?_) (fun h1_1 => ?_)
  ·
    refine gw_z Iff.rfl (by omega) (gq_I ⟨rfl, by omega⟩)
  ·
    refine gw_gI (h.1.c (r := 3) rfl) (fun v2 ev2 => ?_)
    have bv2 := h.n3
    have dv2 : v2.toInt = (μ.2.1 3 2).toInt := by rw [ev2]
    refine gw_le (fun h9_3 => ?_) (fun h9_3 => ?_)
    ·
      refine gw_z Iff.rfl (by omega) (gq_I ⟨rfl, by omega⟩)
    ·
      refine gw_gI (h.1.c (r := 3) rfl) (fun v4 ev4 => ?_)
      have bv4 := h.l3
      have dv4 : v4.toInt = (μ.2.1 3 0).toInt := by rw [ev4]
      refine gw_le (fun h17_5 => ?_) (fun h17_5 => ?_)
      ·
        refine gw_z Iff.rfl (by omega) (gq_I ⟨rfl, by omega⟩)
      ·
        refine gw_z Iff.rfl (by omega) (gq_I ⟨rfl, by omega⟩)
set_option maxHeartbeats 1000000 in
theorem s_X7_isKept_23 {μ : gm_M} (h : CI μ) {a1 : Int32}  : gwI (f_X7_isKept 23 a1 μ) (fun x m => m = μ ∧ ((x.toInt = 1 ∧ 0 ≤ a1.toInt ∧ a1.toInt < (μ.2.1 23 2).toInt ∧ a1.toInt < 5) ∨ x.toInt = 0)) := by
  refine gwI_of ?_
  unfold f_X7_isKept
  have l0 : (0 : Int32).toInt = 0 := rfl
  have l1 : (1 : Int32).toInt = 1 := rfl
  refine gw_lt (fun h1_1 => ?_) (fun h1_1 => ?_)
  ·
    refine gw_z Iff.rfl (by omega) (gq_I ⟨rfl, by omega⟩)
  ·
    refine gw_gI (h.1.c (r := 23) rfl) (fun v2 ev2 => ?_)
    have bv2 := h.n23
    have dv2 : v2.toInt = (μ.2.1 23 2).toInt := by rw [ev2]
    refine gw_le (fun h9_3 => ?_) (fun h9_3 => ?_)
    ·
      refine gw_z Iff.rfl (by omega) (gq_I ⟨rfl, by omega⟩)
    ·
      refine gw_gI (h.1.c (r := 23) rfl) (fun v4 ev4 => ?_)
      have bv4 := h.l23
      have dv4 : v4.toInt = (μ.2.1 23 0).toInt := by rw [ev4]
      refine gw_le (fun h17_5 => ?_) (fun h17_5 => ?_)
      ·
        refine gw_z Iff.rfl (by omega) (gq_I ⟨rfl, by omega⟩)
      ·
        refine gw_z Iff.rfl (by omega) (gq_I ⟨rfl, by omega⟩)
set_option maxHeartbeats 1000000 in
theorem s_X7_isKept_25 {μ : gm_M} (h : CI μ) {a1 : Int32}  : gwI (f_X7_isKept 25 a1 μ) (fun x m => m = μ ∧ ((x.toInt = 1 ∧ 0 ≤ a1.toInt ∧ a1.toInt < (μ.2.1 25 2).toInt ∧ a1.toInt < 8) ∨ x.toInt = 0)) := by
  refine gwI_of ?_
  unfold f_X7_isKept
  have l0 : (0 : Int32).toInt = 0 := rfl
  have l1 : (1 : Int32).toInt = 1 := rfl
  refine gw_lt (fun h1_1 => ?_) (fun h1_1 => ?_)
  ·
    refine gw_z Iff.rfl (by omega) (gq_I ⟨rfl, by omega⟩)
  ·
    refine gw_gI (h.1.c (r := 25) rfl) (fun v2 ev2 => ?_)
    have bv2 := h.n25
    have dv2 : v2.toInt = (μ.2.1 25 2).toInt := by rw [ev2]
    refine gw_le (fun h9_3 => ?_) (fun h9_3 => ?_)
    ·
      refine gw_z Iff.rfl (by omega) (gq_I ⟨rfl, by omega⟩)
    ·
      refine gw_gI (h.1.c (r := 25) rfl) (fun v4 ev4 => ?_)
      have bv4 := h.l25
      have dv4 : v4.toInt = (μ.2.1 25 0).toInt := by rw [ev4]
      refine gw_le (fun h17_5 => ?_) (fun h17_5 => ?_)
      ·
        refine gw_z Iff.rfl (by omega) (gq_I ⟨rfl, by omega⟩)
      ·
        refine gw_z Iff.rfl (by omega) (gq_I ⟨rfl, by omega⟩)
set_option maxHeartbeats 1000000 in
theorem s_X7_isKept_27 {μ : gm_M} (h : CI μ) {a1 : Int32}  : gwI (f_X7_isKept 27 a1 μ) (fun x m => m = μ ∧ ((x.toInt = 1 ∧ 0 ≤ a1.toInt ∧ a1.toInt < (μ.2.1 27 2).toInt ∧ a1.toInt < 8) ∨ x.toInt = 0)) := by
  refine gwI_of ?_
  unfold f_X7_isKept
  have l0 : (0 : Int32).toInt = 0 := rfl
  have l1 : (1 : Int32).toInt = 1 := rfl
  refine gw_lt (fun h1_1 => ?_) (fun h1_1 => ?_)
  ·
    refine gw_z Iff.rfl (by omega) (gq_I ⟨rfl, by omega⟩)
  ·
    refine gw_gI (h.1.c (r := 27) rfl) (fun v2 ev2 => ?_)
    have bv2 := h.n27
    have dv2 : v2.toInt = (μ.2.1 27 2).toInt := by rw [ev2]
    refine gw_le (fun h9_3 => ?_) (fun h9_3 => ?_)
    ·
      refine gw_z Iff.rfl (by omega) (gq_I ⟨rfl, by omega⟩)
    ·
      refine gw_gI (h.1.c (r := 27) rfl) (fun v4 ev4 => ?_)
      have bv4 := h.l27
      have dv4 : v4.toInt = (μ.2.1 27 0).toInt := by rw [ev4]
      refine gw_le (fun h17_5 => ?_) (fun h17_5 => ?_)
      ·
        refine gw_z Iff.rfl (by omega) (gq_I ⟨rfl, by omega⟩)
      ·
        refine gw_z Iff.rfl (by omega) (gq_I ⟨rfl, by omega⟩)
set_option maxHeartbeats 1000000 in
theorem s_X7_cell_3 {μ : gm_M} (h : CI μ) {a1 : Int32} {a2 : Int32}  : gwI (f_X7_cell 3 a1 a2 μ) (fun x m => m = μ) := by
  refine gwI_of ?_
  unfold f_X7_cell
  have l0 : (0 : Int32).toInt = 0 := rfl
  have l3 : (3 : Int32).toInt = 3 := rfl
  refine gw_if (h.1.t (r := 3) rfl) ?_
  refine gw_bI (s_X7_isKept_3 h ) (fun x1 m1 ⟨z1, f1⟩ => ?_)
  replace z1 := z1.symm
  subst z1
  refine gw_eq (fun h5_2 => ?_) (fun h5_2 => ?_)
  ·
    exact gw_some (gq_I rfl)
  ·
    refine gw_lt (fun h9_3 => ?_) (fun h9_3 => ?_)
    ·
      exact gw_some (gq_I rfl)
    ·
      refine gw_lt (fun h14_4 => ?_) (fun h14_4 => ?_)
      ·
        refine gw_gRa 4 (h.1.c (r := 3) rfl) (h.1.r (by decide)) ?_
        have n5 : (a1 * (3 : Int32)).toInt = 3 * a1.toInt := gx_mulr 3 rfl (by omega) (by omega)
        have n6 : ((a1 * (3 : Int32)) + a2).toInt = (a1 * (3 : Int32)).toInt + a2.toInt := gx_add (by omega) (by omega)
        refine gw_aI (i := ((a1 * (3 : Int32)) + a2)) (h.1.t (r := 4) rfl) (h.1.l (r := 4) rfl) (by omega) (by omega) (fun v7 ev7 => ?_)
        exact gw_some (gq_I rfl)
      ·
        exact gw_some (gq_I rfl)
set_option maxHeartbeats 1000000 in
theorem s_X7_cell_23 {μ : gm_M} (h : CI μ) {a1 : Int32} {a2 : Int32}  : gwI (f_X7_cell 23 a1 a2 μ) (fun x m => m = μ ∧ (a2.toInt = 2 → x.toInt ≤ 60)) := by
  refine gwI_of ?_
  unfold f_X7_cell
  have l0 : (0 : Int32).toInt = 0 := rfl
  have l3 : (3 : Int32).toInt = 3 := rfl
  refine gw_if (h.1.t (r := 23) rfl) ?_
  refine gw_bI (s_X7_isKept_23 h ) (fun x1 m1 ⟨z1, f1⟩ => ?_)
  replace z1 := z1.symm
  subst z1
  refine gw_eq (fun h5_2 => ?_) (fun h5_2 => ?_)
  ·
    exact gw_some (gq_I ⟨rfl, by omega⟩)
  ·
    refine gw_lt (fun h9_3 => ?_) (fun h9_3 => ?_)
    ·
      exact gw_some (gq_I ⟨rfl, by omega⟩)
    ·
      refine gw_lt (fun h14_4 => ?_) (fun h14_4 => ?_)
      ·
        refine gw_gRa 24 (h.1.c (r := 23) rfl) (h.1.r (by decide)) ?_
        have n5 : (a1 * (3 : Int32)).toInt = 3 * a1.toInt := gx_mulr 3 rfl (by omega) (by omega)
        have n6 : ((a1 * (3 : Int32)) + a2).toInt = (a1 * (3 : Int32)).toInt + a2.toInt := gx_add (by omega) (by omega)
        refine gw_aI (i := ((a1 * (3 : Int32)) + a2)) (h.1.t (r := 24) rfl) (h.1.l (r := 24) rfl) (by omega) (by omega) (fun v7 ev7 => ?_)
        have yv7 : a2.toInt = 2 → v7.toInt ≤ 60 := fun h2 => by rw [ev7, show ((a1 * (3 : Int32)) + a2).toInt.toNat = 3 * a1.toInt.toNat + 2 from by omega]; exact h.sm _ (by omega)
        exact gw_some (gq_I ⟨rfl, by omega⟩)
      ·
        exact gw_some (gq_I ⟨rfl, by omega⟩)
set_option maxHeartbeats 1000000 in
theorem s_X7_cell_25 {μ : gm_M} (h : CI μ) {a1 : Int32} {a2 : Int32}  : gwI (f_X7_cell 25 a1 a2 μ) (fun x m => m = μ) := by
  refine gwI_of ?_
  unfold f_X7_cell
  have l0 : (0 : Int32).toInt = 0 := rfl
  have l3 : (3 : Int32).toInt = 3 := rfl
  refine gw_if (h.1.t (r := 25) rfl) ?_
  refine gw_bI (s_X7_isKept_25 h ) (fun x1 m1 ⟨z1, f1⟩ => ?_)
  replace z1 := z1.symm
  subst z1
  refine gw_eq (fun h5_2 => ?_) (fun h5_2 => ?_)
  ·
    exact gw_some (gq_I rfl)
  ·
    refine gw_lt (fun h9_3 => ?_) (fun h9_3 => ?_)
    ·
      exact gw_some (gq_I rfl)
    ·
      refine gw_lt (fun h14_4 => ?_) (fun h14_4 => ?_)
      ·
        refine gw_gRa 26 (h.1.c (r := 25) rfl) (h.1.r (by decide)) ?_
        have n5 : (a1 * (3 : Int32)).toInt = 3 * a1.toInt := gx_mulr 3 rfl (by omega) (by omega)
        have n6 : ((a1 * (3 : Int32)) + a2).toInt = (a1 * (3 : Int32)).toInt + a2.toInt := gx_add (by omega) (by omega)
        refine gw_aI (i := ((a1 * (3 : Int32)) + a2)) (h.1.t (r := 26) rfl) (h.1.l (r := 26) rfl) (by omega) (by omega) (fun v7 ev7 => ?_)
        exact gw_some (gq_I rfl)
      ·
        exact gw_some (gq_I rfl)
set_option maxHeartbeats 1000000 in
theorem s_X7_cell_27 {μ : gm_M} (h : CI μ) {a1 : Int32} {a2 : Int32}  : gwI (f_X7_cell 27 a1 a2 μ) (fun x m => m = μ) := by
  refine gwI_of ?_
  unfold f_X7_cell
  have l0 : (0 : Int32).toInt = 0 := rfl
  have l3 : (3 : Int32).toInt = 3 := rfl
  refine gw_if (h.1.t (r := 27) rfl) ?_
  refine gw_bI (s_X7_isKept_27 h ) (fun x1 m1 ⟨z1, f1⟩ => ?_)
  replace z1 := z1.symm
  subst z1
  refine gw_eq (fun h5_2 => ?_) (fun h5_2 => ?_)
  ·
    exact gw_some (gq_I rfl)
  ·
    refine gw_lt (fun h9_3 => ?_) (fun h9_3 => ?_)
    ·
      exact gw_some (gq_I rfl)
    ·
      refine gw_lt (fun h14_4 => ?_) (fun h14_4 => ?_)
      ·
        refine gw_gRa 28 (h.1.c (r := 27) rfl) (h.1.r (by decide)) ?_
        have n5 : (a1 * (3 : Int32)).toInt = 3 * a1.toInt := gx_mulr 3 rfl (by omega) (by omega)
        have n6 : ((a1 * (3 : Int32)) + a2).toInt = (a1 * (3 : Int32)).toInt + a2.toInt := gx_add (by omega) (by omega)
        refine gw_aI (i := ((a1 * (3 : Int32)) + a2)) (h.1.t (r := 28) rfl) (h.1.l (r := 28) rfl) (by omega) (by omega) (fun v7 ev7 => ?_)
        exact gw_some (gq_I rfl)
      ·
        exact gw_some (gq_I rfl)
set_option maxHeartbeats 1000000 in
theorem s_X2_copy_63 {μ : gm_M} (h : CI μ) {a1 : Nat} (q0 : isch a1) : gwV (f_X2_copy 63 a1 μ) (fun m => kc μ m) := by
  refine gwV_of ?_
  unfold f_X2_copy
  have l0 : (0 : Int32).toInt = 0 := rfl
  have k0 := kc.refl μ
  refine gw_gI (ict.c (h.of k0).1 (Or.inl q0)) (fun v1 ev1 => ?_)
  refine gw_pI (ict.c (h.of k0).1 (Or.inr rfl)) (fun m2 em2 => ?_)
  have km2 := k0.wr em2 (by decide)
  refine gw_gR (ict.c (h.of km2).1 (Or.inl q0)) (fun v3 ev3 => ?_)
  have cv3 : kid v3 := by rw [ev3]; exact (h.of km2).kd (Or.inl q0)
  refine gw_pR (ict.c (h.of km2).1 (Or.inr rfl)) (fun m4 em4 => ?_)
  have km4 := km2.wk em4 cv3
  refine gw_gI (ict.c (h.of km4).1 (Or.inl q0)) (fun v5 ev5 => ?_)
  refine gw_pI (ict.c (h.of km4).1 (Or.inr rfl)) (fun m6 em6 => ?_)
  have km6 := km4.wr em6 (by decide)
  refine gw_gI (ict.c (h.of km6).1 (Or.inl q0)) (fun v7 ev7 => ?_)
  refine gw_pI (ict.c (h.of km6).1 (Or.inr rfl)) (fun m8 em8 => ?_)
  have km8 := km6.wr em8 (by decide)
  refine gw_gI (ict.c (h.of km8).1 (Or.inl q0)) (fun v9 ev9 => ?_)
  refine gw_pI (ict.c (h.of km8).1 (Or.inr rfl)) (fun m10 em10 => ?_)
  have km10 := km8.wr em10 (by decide)
  refine gw_gI (ict.c (h.of km10).1 (Or.inl q0)) (fun v11 ev11 => ?_)
  refine gw_pI (ict.c (h.of km10).1 (Or.inr rfl)) (fun m12 em12 => ?_)
  have km12 := km10.wr em12 (by decide)
  refine gw_gI (ict.c (h.of km12).1 (Or.inl q0)) (fun v13 ev13 => ?_)
  refine gw_pI (ict.c (h.of km12).1 (Or.inr rfl)) (fun m14 em14 => ?_)
  have km14 := km12.wr em14 (by decide)
  refine gw_gI (ict.c (h.of km14).1 (Or.inl q0)) (fun v15 ev15 => ?_)
  refine gw_pI (ict.c (h.of km14).1 (Or.inr rfl)) (fun m16 em16 => ?_)
  have km16 := km14.wr em16 (by decide)
  refine gw_gRa (a1 + 1) (ict.c (h.of km16).1 (Or.inl q0)) (ict.row (h.of km16).1 (Or.inl q0)) ?_
  refine gw_gRa 64 (ict.c (h.of km16).1 (Or.inr rfl)) ((h.of km16).1.r (by decide)) ?_
  refine gw_gRa 64 (ict.c (h.of km16).1 (Or.inr rfl)) ((h.of km16).1.r (by decide)) ?_
  refine gw_al ((h.of km16).1.t (r := 64) rfl) ((h.of km16).1.l (r := 64) rfl) ?_
  have lo18 : (Int32.ofNat 4).toInt = 4 := rfl
  refine gx_cp (by have := q0; unfold isch at this; omega) (ict.rt (h.of km16).1 (Or.inl q0)) ((h.of km16).1.t (r := 64) rfl) (ict.rl (h.of km16).1 (Or.inl q0)) ((h.of km16).1.l (r := 64) rfl) (by omega) (by omega) (by omega) (by omega) (by omega) (fun m19 e1m19 e2m19 e3m19 e4m19 => ?_)
  have km19 := km16.cp e1m19 e2m19 e3m19 (by decide)
  exact gw_some (gq_V km19)
set_option maxHeartbeats 1000000 in
theorem s_X11_thinned {μ : gm_M} {a0 : Int32} {a1 : Int32}  : gwI (f_X11_thinned a0 a1 μ) (fun x m => m = μ) := by
  refine gwI_of ?_
  unfold f_X11_thinned
  have l0 : (0 : Int32).toInt = 0 := rfl
  have l5 : (5 : Int32).toInt = 5 := rfl
  exact gw_some (gq_I rfl)
set_option maxHeartbeats 1000000 in
theorem s_X11_thinsBelow {μ : gm_M} {a0 : Int32} {a1 : Int32}  : gwI (f_X11_thinsBelow a0 a1 μ) (fun x m => m = μ) := by
  refine gwI_of ?_
  unfold f_X11_thinsBelow
  have l0 : (0 : Int32).toInt = 0 := rfl
  have l1 : (1 : Int32).toInt = 1 := rfl
  have l10 : (10 : Int32).toInt = 10 := rfl
  refine gw_loop (fun s1 => s1.2.2 = μ ∧ (0 ≤ s1.2.1.toInt ∧ s1.2.1.toInt ≤ 10)) (fun s1 => (10 - s1.2.1.toInt)) (fun s1 ⟨k2, u3⟩ => ?_) 5000 ((0 : Int32), (0 : Int32), μ) ⟨rfl, (by show 0 ≤ (0 : Int32).toInt ∧ (0 : Int32).toInt ≤ 10; omega)⟩ (by show (10 - (0 : Int32).toInt) < ((5000 : Nat) : Int); omega) (by show 0 ≤ (10 - (0 : Int32).toInt); omega)
  refine gw_le (fun h7_4 => ?_) (fun h7_4 => ?_)
  ·
    exact gw_some (gs_inr (gq_I k2))
  ·
    refine gw_bI (s_X11_thinned ) (fun x5 m5 z5 => ?_)
    replace z5 := z5.symm
    subst z5
    refine gw_j (fun s6 => True) (fun s6 _ => ?_) (fun j7 hj7 => ?_)
    ·
      have n8 : (s1.2.1 + (1 : Int32)).toInt = s1.2.1.toInt + (1 : Int32).toInt := gx_add (by omega) (by omega)
      exact gw_some (gs_inl ⟨k2, (by show 0 ≤ (s1.2.1 + (1 : Int32)).toInt ∧ (s1.2.1 + (1 : Int32)).toInt ≤ 10; omega)⟩ (by show (10 - (s1.2.1 + (1 : Int32)).toInt) < (10 - s1.2.1.toInt); omega) (by show 0 ≤ (10 - (s1.2.1 + (1 : Int32)).toInt); omega))
    ·
      refine gw_le (fun h16_9 => ?_) (fun h16_9 => ?_)
      ·
        exact hj7 _ trivial
      ·
        exact hj7 _ trivial
set_option maxHeartbeats 1000000 in
theorem s_X11_thinsBearing {μ : gm_M} {a0 : Int32} {a1 : Int32}  : gwI (f_X11_thinsBearing a0 a1 μ) (fun x m => m = μ) := by
  refine gwI_of ?_
  unfold f_X11_thinsBearing
  have l10 : (10 : Int32).toInt = 10 := rfl
  refine gw_bI (s_X11_thinsBelow ) (fun x1 m1 z1 => ?_)
  replace z1 := z1.symm
  subst z1
  exact gw_some (gq_I rfl)
set_option maxHeartbeats 1000000 in
theorem s_X11_greatestCommon {μ : gm_M} {a0 : Int32} {a1 : Int32}  : gwI (f_X11_greatestCommon a0 a1 μ) (fun x m => m = μ) := by
  refine gwI_of ?_
  unfold f_X11_greatestCommon
  have l0 : (0 : Int32).toInt = 0 := rfl
  have l1 : (1 : Int32).toInt = 1 := rfl
  have l100 : (100 : Int32).toInt = 100 := rfl
  refine gw_loop (fun s1 => (0 ≤ s1.2.2.toInt ∧ s1.2.2.toInt ≤ 100)) (fun s1 => (100 - s1.2.2.toInt)) (fun s1 u2 => ?_) 5000 (a0, a1, (0 : Int32)) (by show 0 ≤ (0 : Int32).toInt ∧ (0 : Int32).toInt ≤ 100; omega) (by show (100 - (0 : Int32).toInt) < ((5000 : Nat) : Int); omega) (by show 0 ≤ (100 - (0 : Int32).toInt); omega)
  refine gw_le (fun h5_3 => ?_) (fun h5_3 => ?_)
  ·
    exact gw_some (gs_inr (gq_I rfl))
  ·
    refine gw_eq (fun h9_4 => ?_) (fun h9_4 => ?_)
    ·
      exact gw_some (gs_inr (gq_I rfl))
    ·
      refine gw_dv (by omega) ?_
      have n5 : (s1.2.2 + (1 : Int32)).toInt = s1.2.2.toInt + (1 : Int32).toInt := gx_add (by omega) (by omega)
      exact gw_some (gs_inl (by show 0 ≤ (s1.2.2 + (1 : Int32)).toInt ∧ (s1.2.2 + (1 : Int32)).toInt ≤ 100; omega) (by show (100 - (s1.2.2 + (1 : Int32)).toInt) < (100 - s1.2.2.toInt); omega) (by show 0 ≤ (100 - (s1.2.2 + (1 : Int32)).toInt); omega))
set_option maxHeartbeats 1000000 in
theorem s_X11_fraction {μ : gm_M} {a0 : Int32} {a1 : Int32} {a2 : Int32}  : gwL (f_X11_fraction a0 a1 a2 μ) (fun x m => m = μ) := by
  refine gwL_of ?_
  unfold f_X11_fraction
  have l0 : (0 : Int32).toInt = 0 := rfl
  refine gw_bI (s_X11_greatestCommon ) (fun x1 m1 z1 => ?_)
  replace z1 := z1.symm
  subst z1
  refine gw_ne (fun h7_2 => ?_) (fun h7_2 => ?_)
  ·
    refine gw_j (fun s3 => True) (fun s3 _ => ?_) (fun j4 hj4 => ?_)
    ·
      exact gw_some (gq_L rfl)
    ·
      refine gw_ne (fun h15_5 => ?_) (fun h15_5 => ?_)
      ·
        refine gw_dv (by omega) ?_
        exact hj4 _ trivial
      ·
        refine gw_dv (by omega) ?_
        exact hj4 _ trivial
  ·
    exact gw_some (gq_L rfl)
set_option maxHeartbeats 1000000 in
theorem s_X11_isUnder {μ : gm_M} (h : CI μ) {a0 : Nat} {a1 : Int32} (q0 : kid a0) : gwI (f_X11_isUnder a0 a1 μ) (fun x m => m = μ ∧ (x.toInt = 0 ∨ x.toInt = 1)) := by
  refine gwI_of ?_
  unfold f_X11_isUnder
  have l0 : (0 : Int32).toInt = 0 := rfl
  have l1 : (1 : Int32).toInt = 1 := rfl
  have l2 : (2 : Int32).toInt = 2 := rfl
  have l3 : (3 : Int32).toInt = 3 := rfl
  have l4 : (4 : Int32).toInt = 4 := rfl
  have l5 : (5 : Int32).toInt = 5 := rfl
  have l6 : (6 : Int32).toInt = 6 := rfl
  refine gw_eq (fun h1_1 => ?_) (fun h1_1 => ?_)
  ·
    refine gw_z Iff.rfl (by omega) (gq_I ⟨rfl, by omega⟩)
  ·
    refine gw_eq (fun h1_2 => ?_) (fun h1_2 => ?_)
    ·
      refine gw_io (by rcases kid.t h.1 q0 with q | q | q | q | q | q | q <;> rw [q] <;> decide) (fun v3 iv3 => ?_)
      have jv3 : v3.toInt = 0 ∨ v3.toInt = 1 := iv3.elim (fun q => Or.inr q.1) (fun q => Or.inl q.1)
      refine gw_z Iff.rfl (by omega) (gq_I ⟨rfl, by omega⟩)
    ·
      refine gw_eq (fun h1_4 => ?_) (fun h1_4 => ?_)
      ·
        refine gw_io (by rcases kid.t h.1 q0 with q | q | q | q | q | q | q <;> rw [q] <;> decide) (fun v5 iv5 => ?_)
        have jv5 : v5.toInt = 0 ∨ v5.toInt = 1 := iv5.elim (fun q => Or.inr q.1) (fun q => Or.inl q.1)
        refine gw_z Iff.rfl (by omega) (gq_I ⟨rfl, by omega⟩)
      ·
        refine gw_eq (fun h1_6 => ?_) (fun h1_6 => ?_)
        ·
          refine gw_io (by rcases kid.t h.1 q0 with q | q | q | q | q | q | q <;> rw [q] <;> decide) (fun v7 iv7 => ?_)
          have jv7 : v7.toInt = 0 ∨ v7.toInt = 1 := iv7.elim (fun q => Or.inr q.1) (fun q => Or.inl q.1)
          refine gw_z Iff.rfl (by omega) (gq_I ⟨rfl, by omega⟩)
        ·
          refine gw_eq (fun h1_8 => ?_) (fun h1_8 => ?_)
          ·
            refine gw_io (by rcases kid.t h.1 q0 with q | q | q | q | q | q | q <;> rw [q] <;> decide) (fun v9 iv9 => ?_)
            have jv9 : v9.toInt = 0 ∨ v9.toInt = 1 := iv9.elim (fun q => Or.inr q.1) (fun q => Or.inl q.1)
            refine gw_z Iff.rfl (by omega) (gq_I ⟨rfl, by omega⟩)
          ·
            refine gw_eq (fun h1_10 => ?_) (fun h1_10 => ?_)
            ·
              refine gw_io (by rcases kid.t h.1 q0 with q | q | q | q | q | q | q <;> rw [q] <;> decide) (fun v11 iv11 => ?_)
              have jv11 : v11.toInt = 0 ∨ v11.toInt = 1 := iv11.elim (fun q => Or.inr q.1) (fun q => Or.inl q.1)
              refine gw_z Iff.rfl (by omega) (gq_I ⟨rfl, by omega⟩)
            ·
              refine gw_eq (fun h1_12 => ?_) (fun h1_12 => ?_)
              ·
                refine gw_io (by rcases kid.t h.1 q0 with q | q | q | q | q | q | q <;> rw [q] <;> decide) (fun v13 iv13 => ?_)
                have jv13 : v13.toInt = 0 ∨ v13.toInt = 1 := iv13.elim (fun q => Or.inr q.1) (fun q => Or.inl q.1)
                refine gw_z Iff.rfl (by omega) (gq_I ⟨rfl, by omega⟩)
              ·
                refine gw_z Iff.rfl (by omega) (gq_I ⟨rfl, by omega⟩)
set_option maxHeartbeats 1000000 in
theorem s_X11_holdsNow {μ : gm_M} (h : CI μ) {a1 : Int32} (q0 : 0 ≤ a1.toInt ∧ a1.toInt < 5) : gwI (f_X11_holdsNow 1 a1 μ) (fun x m => m = μ) := by
  refine gwI_of ?_
  unfold f_X11_holdsNow
  refine gw_gRa 15 (h.1.c (r := 1) rfl) (h.1.r (by decide)) ?_
  refine gw_gRa 16 (h.1.c (r := 15) rfl) (h.1.r (by decide)) ?_
  refine gw_aR (i := a1) (h.1.t (r := 16) rfl) (h.1.l (r := 16) rfl) (by omega) (by omega) (fun v1 ev1 => ?_)
  have cv1 : isch v1 := by rw [ev1]; exact isch.of h.1 (by omega) (by omega)
  refine gw_gRa 15 (h.1.c (r := 1) rfl) (h.1.r (by decide)) ?_
  refine gw_gR (h.1.c (r := 15) rfl) (fun v2 ev2 => ?_)
  have cv2 : AfW μ v2 := by rw [ev2]; exact h.af
  refine gw_gRa 15 (h.1.c (r := 1) rfl) (h.1.r (by decide)) ?_
  refine gw_gI (h.1.c (r := 15) rfl) (fun v3 ev3 => ?_)
  refine gw_if (ict.t h.1 (Or.inl cv1)) ?_
  refine gw_bI (s_X2_holds h (Or.inl cv1) cv2) (fun x4 m4 z4 => ?_)
  replace z4 := z4.symm
  subst z4
  exact gw_some (gq_I rfl)
set_option maxHeartbeats 1000000 in
theorem s_X11_bubbleBits {μ : gm_M} (h : CI μ)   : gwI (f_X11_bubbleBits 1 μ) (fun x m => m = μ) := by
  refine gwI_of ?_
  unfold f_X11_bubbleBits
  have l0 : (0 : Int32).toInt = 0 := rfl
  have l1 : (1 : Int32).toInt = 1 := rfl
  refine gw_loop (fun s1 => (0 ≤ s1.2.toInt ∧ s1.2.toInt ≤ 5)) (fun s1 => (5 - s1.2.toInt)) (fun s1 u2 => ?_) 5000 ((0 : Int32), (0 : Int32)) (by show 0 ≤ (0 : Int32).toInt ∧ (0 : Int32).toInt ≤ 5; omega) (by show (5 - (0 : Int32).toInt) < ((5000 : Nat) : Int); omega) (by show 0 ≤ (5 - (0 : Int32).toInt); omega)
  refine gw_gRa 15 (h.1.c (r := 1) rfl) (h.1.r (by decide)) ?_
  refine gw_gI (h.1.c (r := 15) rfl) (fun v3 ev3 => ?_)
  have bv3 := h.n1
  have dv3 : v3.toInt = (μ.2.1 15 1).toInt := by rw [ev3]
  refine gw_le (fun h12_4 => ?_) (fun h12_4 => ?_)
  ·
    exact gw_some (gs_inr (gq_I rfl))
  ·
    refine gw_gRa 15 (h.1.c (r := 1) rfl) (h.1.r (by decide)) ?_
    refine gw_gRa 16 (h.1.c (r := 15) rfl) (h.1.r (by decide)) ?_
    refine gw_aR (i := s1.2) (h.1.t (r := 16) rfl) (h.1.l (r := 16) rfl) (by omega) (by omega) (fun v5 ev5 => ?_)
    have cv5 : isch v5 := by rw [ev5]; exact isch.of h.1 (by omega) (by omega)
    refine gw_gI (ict.c h.1 (Or.inl cv5)) (fun v6 ev6 => ?_)
    refine gw_j (fun s7 => True) (fun s7 _ => ?_) (fun j8 hj8 => ?_)
    ·
      have n9 : (s1.2 + (1 : Int32)).toInt = s1.2.toInt + (1 : Int32).toInt := gx_add (by omega) (by omega)
      exact gw_some (gs_inl (by show 0 ≤ (s1.2 + (1 : Int32)).toInt ∧ (s1.2 + (1 : Int32)).toInt ≤ 5; omega) (by show (5 - (s1.2 + (1 : Int32)).toInt) < (5 - s1.2.toInt); omega) (by show 0 ≤ (5 - (s1.2 + (1 : Int32)).toInt); omega))
    ·
      refine gw_le (fun h27_10 => ?_) (fun h27_10 => ?_)
      ·
        exact hj8 _ trivial
      ·
        exact hj8 _ trivial
set_option maxHeartbeats 1000000 in
theorem s_X11_trialBehind {μ : gm_M} (h : CI μ) {a1 : Int32} (q0 : a1.toInt ≤ 100) : gwI (f_X11_trialBehind 1 a1 μ) (fun x m => kc μ m) := by
  refine gwI_of ?_
  unfold f_X11_trialBehind
  have l0 : (0 : Int32).toInt = 0 := rfl
  have l1 : (1 : Int32).toInt = 1 := rfl
  have k0 := kc.refl μ
  refine gw_loop (fun s1 => kc μ s1.2 ∧ (0 ≤ s1.1.toInt ∧ s1.1.toInt ≤ 100)) (fun s1 => (100 - s1.1.toInt)) (fun s1 ⟨k2, u3⟩ => ?_) 5000 ((0 : Int32), μ) ⟨k0, (by show 0 ≤ (0 : Int32).toInt ∧ (0 : Int32).toInt ≤ 100; omega)⟩ (by show (100 - (0 : Int32).toInt) < ((5000 : Nat) : Int); omega) (by show 0 ≤ (100 - (0 : Int32).toInt); omega)
  refine gw_le (fun h4_4 => ?_) (fun h4_4 => ?_)
  ·
    refine gw_gRa 63 ((h.of k2).1.c (r := 1) rfl) ((h.of k2).1.r (by decide)) ?_
    refine gw_gRa 15 ((h.of k2).1.c (r := 1) rfl) ((h.of k2).1.r (by decide)) ?_
    refine gw_gR ((h.of k2).1.c (r := 15) rfl) (fun v5 ev5 => ?_)
    have cv5 : AfW s1.2 v5 := by rw [ev5]; exact (h.of k2).af
    refine gw_gRa 15 ((h.of k2).1.c (r := 1) rfl) ((h.of k2).1.r (by decide)) ?_
    refine gw_gI ((h.of k2).1.c (r := 15) rfl) (fun v6 ev6 => ?_)
    refine gw_if (ict.t (h.of k2).1 (Or.inr rfl)) ?_
    refine gw_bI (s_X2_holds (h.of k2) (Or.inr rfl) cv5) (fun x7 m7 z7 => ?_)
    replace z7 := z7.symm
    subst z7
    exact gw_some (gs_inr (gq_I k2))
  ·
    refine gw_gRa 63 ((h.of k2).1.c (r := 1) rfl) ((h.of k2).1.r (by decide)) ?_
    refine gw_gRa 15 ((h.of k2).1.c (r := 1) rfl) ((h.of k2).1.r (by decide)) ?_
    refine gw_gI ((h.of k2).1.c (r := 15) rfl) (fun v8 ev8 => ?_)
    refine gw_if (ict.t (h.of k2).1 (Or.inr rfl)) ?_
    refine gw_bV (s_X2_passMinute (h.of k2) (Or.inr rfl)) (fun m9 g9 => ?_)
    have kk9 := k2.ch g9
    have n10 : (s1.1 + (1 : Int32)).toInt = s1.1.toInt + (1 : Int32).toInt := gx_add (by omega) (by omega)
    exact gw_some (gs_inl ⟨kk9, (by show 0 ≤ (s1.1 + (1 : Int32)).toInt ∧ (s1.1 + (1 : Int32)).toInt ≤ 100; omega)⟩ (by show (100 - (s1.1 + (1 : Int32)).toInt) < (100 - s1.1.toInt); omega) (by show 0 ≤ (100 - (s1.1 + (1 : Int32)).toInt); omega))
set_option maxHeartbeats 1000000 in
theorem s_X11_holdsBehind {μ : gm_M} (h : CI μ) {a1 : Int32} {a2 : Int32} (q0 : 0 ≤ a1.toInt ∧ a1.toInt < 5) (q1 : a2.toInt ≤ 100) : gwI (f_X11_holdsBehind 1 a1 a2 μ) (fun x m => kc μ m) := by
  refine gwI_of ?_
  unfold f_X11_holdsBehind
  have k0 := kc.refl μ
  refine gw_gRa 63 ((h.of k0).1.c (r := 1) rfl) ((h.of k0).1.r (by decide)) ?_
  refine gw_gRa 15 ((h.of k0).1.c (r := 1) rfl) ((h.of k0).1.r (by decide)) ?_
  refine gw_gRa 16 ((h.of k0).1.c (r := 15) rfl) ((h.of k0).1.r (by decide)) ?_
  refine gw_aR (i := a1) ((h.of k0).1.t (r := 16) rfl) ((h.of k0).1.l (r := 16) rfl) (by omega) (by omega) (fun v1 ev1 => ?_)
  have cv1 : isch v1 := by rw [ev1]; exact isch.of (h.of k0).1 (by omega) (by omega)
  refine gw_if (ict.t (h.of k0).1 (Or.inr rfl)) ?_
  refine gw_bV (s_X2_copy_63 (h.of k0) cv1) (fun m2 g2 => ?_)
  have kk2 := k0.trans g2
  refine gw_if ((h.of kk2).1.t (r := 1) rfl) ?_
  refine gw_bI (s_X11_trialBehind (h.of kk2) (by omega)) (fun x3 m3 g3 => ?_)
  have kk3 := kk2.trans g3
  exact gw_some (gq_I kk3)
set_option maxHeartbeats 1000000 in
theorem s_X11_sumBehind {μ : gm_M} (h : CI μ) {a1 : Int32} (q0 : a1.toInt ≤ 100) : gwI (f_X11_sumBehind 1 a1 μ) (fun x m => kc μ m) := by
  refine gwI_of ?_
  unfold f_X11_sumBehind
  have l0 : (0 : Int32).toInt = 0 := rfl
  have l1 : (1 : Int32).toInt = 1 := rfl
  have k0 := kc.refl μ
  refine gw_loop (fun s1 => kc μ s1.2.2 ∧ (0 ≤ s1.2.1.toInt ∧ s1.2.1.toInt ≤ 5)) (fun s1 => (5 - s1.2.1.toInt)) (fun s1 ⟨k2, u3⟩ => ?_) 5000 ((0 : Int32), (0 : Int32), μ) ⟨k0, (by show 0 ≤ (0 : Int32).toInt ∧ (0 : Int32).toInt ≤ 5; omega)⟩ (by show (5 - (0 : Int32).toInt) < ((5000 : Nat) : Int); omega) (by show 0 ≤ (5 - (0 : Int32).toInt); omega)
  refine gw_gRa 15 ((h.of k2).1.c (r := 1) rfl) ((h.of k2).1.r (by decide)) ?_
  refine gw_gI ((h.of k2).1.c (r := 15) rfl) (fun v4 ev4 => ?_)
  have bv4 := (h.of k2).n1
  have dv4 : v4.toInt = (s1.2.2.2.1 15 1).toInt := by rw [ev4]
  have yv4 : v4.toInt = (μ.2.1 15 1).toInt := by rw [dv4, k2.row (by decide)]
  refine gw_le (fun h12_5 => ?_) (fun h12_5 => ?_)
  ·
    exact gw_some (gs_inr (gq_I k2))
  ·
    refine gw_if ((h.of k2).1.t (r := 1) rfl) ?_
    refine gw_bI (s_X11_holdsBehind (h.of k2) (by omega) (by omega)) (fun x6 m6 g6 => ?_)
    have kk6 := k2.trans g6
    have n7 : (s1.2.1 + (1 : Int32)).toInt = s1.2.1.toInt + (1 : Int32).toInt := gx_add (by omega) (by omega)
    exact gw_some (gs_inl ⟨kk6, (by show 0 ≤ (s1.2.1 + (1 : Int32)).toInt ∧ (s1.2.1 + (1 : Int32)).toInt ≤ 5; omega)⟩ (by show (5 - (s1.2.1 + (1 : Int32)).toInt) < (5 - s1.2.1.toInt); omega) (by show 0 ≤ (5 - (s1.2.1 + (1 : Int32)).toInt); omega))
set_option maxHeartbeats 1000000 in
theorem s_X11_trialWhen {μ : gm_M} (h : CI μ) {a1 : Int32}  : gwI (f_X11_trialWhen 1 a1 μ) (fun x m => kc μ m) := by
  refine gwI_of ?_
  unfold f_X11_trialWhen
  have lm1 : (-1 : Int32).toInt = -1 := rfl
  have l0 : (0 : Int32).toInt = 0 := rfl
  have l1 : (1 : Int32).toInt = 1 := rfl
  have l60 : (60 : Int32).toInt = 60 := rfl
  have k0 := kc.refl μ
  refine gw_loop (fun s1 => kc μ s1.2.2.2 ∧ (0 ≤ s1.2.2.1.toInt ∧ s1.2.2.1.toInt ≤ 61)) (fun s1 => (61 - s1.2.2.1.toInt)) (fun s1 ⟨k2, u3⟩ => ?_) 5000 ((-1 : Int32), (0 : Int32), (0 : Int32), μ) ⟨k0, (by show 0 ≤ (0 : Int32).toInt ∧ (0 : Int32).toInt ≤ 61; omega)⟩ (by show (61 - (0 : Int32).toInt) < ((5000 : Nat) : Int); omega) (by show 0 ≤ (61 - (0 : Int32).toInt); omega)
  refine gw_lt (fun h11_4 => ?_) (fun h11_4 => ?_)
  ·
    refine gw_ne (fun h76_5 => ?_) (fun h76_5 => ?_)
    ·
      exact gw_some (gs_inr (gq_I k2))
    ·
      exact gw_some (gs_inr (gq_I k2))
  ·
    refine gw_gRa 63 ((h.of k2).1.c (r := 1) rfl) ((h.of k2).1.r (by decide)) ?_
    refine gw_gRa 15 ((h.of k2).1.c (r := 1) rfl) ((h.of k2).1.r (by decide)) ?_
    refine gw_gR ((h.of k2).1.c (r := 15) rfl) (fun v6 ev6 => ?_)
    have cv6 : AfW s1.2.2.2 v6 := by rw [ev6]; exact (h.of k2).af
    refine gw_gRa 15 ((h.of k2).1.c (r := 1) rfl) ((h.of k2).1.r (by decide)) ?_
    refine gw_gI ((h.of k2).1.c (r := 15) rfl) (fun v7 ev7 => ?_)
    refine gw_if (ict.t (h.of k2).1 (Or.inr rfl)) ?_
    refine gw_bI (s_X2_holds (h.of k2) (Or.inr rfl) cv6) (fun x8 m8 z8 => ?_)
    replace z8 := z8.symm
    subst z8
    refine gw_j (fun s9 => True) (fun s9 _ => ?_) (fun j10 hj10 => ?_)
    ·
      refine gw_gRa 63 ((h.of k2).1.c (r := 1) rfl) ((h.of k2).1.r (by decide)) ?_
      refine gw_gRa 15 ((h.of k2).1.c (r := 1) rfl) ((h.of k2).1.r (by decide)) ?_
      refine gw_gI ((h.of k2).1.c (r := 15) rfl) (fun v11 ev11 => ?_)
      refine gw_if (ict.t (h.of k2).1 (Or.inr rfl)) ?_
      refine gw_bV (s_X2_passMinute (h.of k2) (Or.inr rfl)) (fun m12 g12 => ?_)
      have kk12 := k2.ch g12
      have n13 : (s1.2.2.1 + (1 : Int32)).toInt = s1.2.2.1.toInt + (1 : Int32).toInt := gx_add (by omega) (by omega)
      exact gw_some (gs_inl ⟨kk12, (by show 0 ≤ (s1.2.2.1 + (1 : Int32)).toInt ∧ (s1.2.2.1 + (1 : Int32)).toInt ≤ 61; omega)⟩ (by show (61 - (s1.2.2.1 + (1 : Int32)).toInt) < (61 - s1.2.2.1.toInt); omega) (by show 0 ≤ (61 - (s1.2.2.1 + (1 : Int32)).toInt); omega))
    ·
      refine gw_le (fun h43_14 => ?_) (fun h43_14 => ?_)
      ·
        exact hj10 _ trivial
      ·
        exact hj10 _ trivial
set_option maxHeartbeats 1000000 in
theorem s_X11_holdsWithGumOf {μ : gm_M} (h : CI μ) {a1 : Int32} {a2 : Int32} (q0 : 0 ≤ a1.toInt ∧ a1.toInt < 5) (q1 : 0 ≤ a2.toInt ∧ a2.toInt < 5) : gwI (f_X11_holdsWithGumOf 1 a1 a2 μ) (fun x m => kc μ m) := by
  refine gwI_of ?_
  unfold f_X11_holdsWithGumOf
  have l0 : (0 : Int32).toInt = 0 := rfl
  have k0 := kc.refl μ
  refine gw_gRa 63 ((h.of k0).1.c (r := 1) rfl) ((h.of k0).1.r (by decide)) ?_
  refine gw_gRa 15 ((h.of k0).1.c (r := 1) rfl) ((h.of k0).1.r (by decide)) ?_
  refine gw_gRa 16 ((h.of k0).1.c (r := 15) rfl) ((h.of k0).1.r (by decide)) ?_
  refine gw_aR (i := a1) ((h.of k0).1.t (r := 16) rfl) ((h.of k0).1.l (r := 16) rfl) (by omega) (by omega) (fun v1 ev1 => ?_)
  have cv1 : isch v1 := by rw [ev1]; exact isch.of (h.of k0).1 (by omega) (by omega)
  refine gw_if (ict.t (h.of k0).1 (Or.inr rfl)) ?_
  refine gw_bV (s_X2_copy_63 (h.of k0) cv1) (fun m2 g2 => ?_)
  have kk2 := k0.trans g2
  refine gw_gRa 63 ((h.of kk2).1.c (r := 1) rfl) ((h.of kk2).1.r (by decide)) ?_
  refine gw_gRa 15 ((h.of kk2).1.c (r := 1) rfl) ((h.of kk2).1.r (by decide)) ?_
  refine gw_gRa 16 ((h.of kk2).1.c (r := 15) rfl) ((h.of kk2).1.r (by decide)) ?_
  refine gw_aR (i := a2) ((h.of kk2).1.t (r := 16) rfl) ((h.of kk2).1.l (r := 16) rfl) (by omega) (by omega) (fun v3 ev3 => ?_)
  have cv3 : isch v3 := by rw [ev3]; exact isch.of (h.of kk2).1 (by omega) (by omega)
  refine gw_gI (ict.c (h.of kk2).1 (Or.inl cv3)) (fun v4 ev4 => ?_)
  refine gw_pI (ict.c (h.of kk2).1 (Or.inr rfl)) (fun m5 em5 => ?_)
  have km5 := kk2.wr em5 (by decide)
  refine gw_gRa 63 ((h.of km5).1.c (r := 1) rfl) ((h.of km5).1.r (by decide)) ?_
  refine gw_gRa 15 ((h.of km5).1.c (r := 1) rfl) ((h.of km5).1.r (by decide)) ?_
  refine gw_gRa 16 ((h.of km5).1.c (r := 15) rfl) ((h.of km5).1.r (by decide)) ?_
  refine gw_aR (i := a2) ((h.of km5).1.t (r := 16) rfl) ((h.of km5).1.l (r := 16) rfl) (by omega) (by omega) (fun v6 ev6 => ?_)
  have cv6 : isch v6 := by rw [ev6]; exact isch.of (h.of km5).1 (by omega) (by omega)
  refine gw_gI (ict.c (h.of km5).1 (Or.inl cv6)) (fun v7 ev7 => ?_)
  refine gw_pI (ict.c (h.of km5).1 (Or.inr rfl)) (fun m8 em8 => ?_)
  have km8 := km5.wr em8 (by decide)
  refine gw_if ((h.of km8).1.t (r := 1) rfl) ?_
  refine gw_bI (s_X11_trialBehind (h.of km8) (by omega)) (fun x9 m9 g9 => ?_)
  have kk9 := km8.trans g9
  exact gw_some (gq_I kk9)
set_option maxHeartbeats 1000000 in
theorem s_X11_fillBehind {μ : gm_M} (h : CI μ) {a1 : Int32} (q0 : 0 ≤ a1.toInt ∧ a1.toInt < 5) : gwV (f_X11_fillBehind 1 a1 μ) (fun m => kc μ m) := by
  refine gwV_of ?_
  unfold f_X11_fillBehind
  have l0 : (0 : Int32).toInt = 0 := rfl
  have l1 : (1 : Int32).toInt = 1 := rfl
  have l5 : (5 : Int32).toInt = 5 := rfl
  have k0 := kc.refl μ
  refine gw_gRa 63 ((h.of k0).1.c (r := 1) rfl) ((h.of k0).1.r (by decide)) ?_
  refine gw_gRa 15 ((h.of k0).1.c (r := 1) rfl) ((h.of k0).1.r (by decide)) ?_
  refine gw_gRa 16 ((h.of k0).1.c (r := 15) rfl) ((h.of k0).1.r (by decide)) ?_
  refine gw_aR (i := a1) ((h.of k0).1.t (r := 16) rfl) ((h.of k0).1.l (r := 16) rfl) (by omega) (by omega) (fun v1 ev1 => ?_)
  have cv1 : isch v1 := by rw [ev1]; exact isch.of (h.of k0).1 (by omega) (by omega)
  refine gw_if (ict.t (h.of k0).1 (Or.inr rfl)) ?_
  refine gw_bV (s_X2_copy_63 (h.of k0) cv1) (fun m2 g2 => ?_)
  have kk2 := k0.trans g2
  refine gw_loop (fun s3 => kc μ s3.2 ∧ (0 ≤ s3.1.toInt ∧ s3.1.toInt ≤ 5)) (fun s3 => (5 - s3.1.toInt)) (fun s3 ⟨k4, u5⟩ => ?_) 5000 ((0 : Int32), m2) ⟨kk2, (by show 0 ≤ (0 : Int32).toInt ∧ (0 : Int32).toInt ≤ 5; omega)⟩ (by show (5 - (0 : Int32).toInt) < ((5000 : Nat) : Int); omega) (by show 0 ≤ (5 - (0 : Int32).toInt); omega)
  refine gw_gRa 15 ((h.of k4).1.c (r := 1) rfl) ((h.of k4).1.r (by decide)) ?_
  refine gw_gI ((h.of k4).1.c (r := 15) rfl) (fun v6 ev6 => ?_)
  have bv6 := (h.of k4).n1
  have dv6 : v6.toInt = (s3.2.2.1 15 1).toInt := by rw [ev6]
  have yv6 : v6.toInt = (μ.2.1 15 1).toInt := by rw [dv6, k4.row (by decide)]
  refine gw_le (fun h26_7 => ?_) (fun h26_7 => ?_)
  ·
    exact gw_some (gs_inr (gq_V k4))
  ·
    refine gw_gRa 5 ((h.of k4).1.c (r := 1) rfl) ((h.of k4).1.r (by decide)) ?_
    refine gw_gRa 63 ((h.of k4).1.c (r := 1) rfl) ((h.of k4).1.r (by decide)) ?_
    refine gw_gRa 15 ((h.of k4).1.c (r := 1) rfl) ((h.of k4).1.r (by decide)) ?_
    refine gw_gR ((h.of k4).1.c (r := 15) rfl) (fun v8 ev8 => ?_)
    have cv8 : AfW s3.2 v8 := by rw [ev8]; exact (h.of k4).af
    refine gw_gRa 15 ((h.of k4).1.c (r := 1) rfl) ((h.of k4).1.r (by decide)) ?_
    refine gw_gI ((h.of k4).1.c (r := 15) rfl) (fun v9 ev9 => ?_)
    refine gw_if (ict.t (h.of k4).1 (Or.inr rfl)) ?_
    refine gw_bI (s_X2_holds (h.of k4) (Or.inr rfl) cv8) (fun x10 m10 z10 => ?_)
    replace z10 := z10.symm
    subst z10
    have n11 : (a1 * (5 : Int32)).toInt = 5 * a1.toInt := gx_mulr 5 rfl (by omega) (by omega)
    have n12 : ((a1 * (5 : Int32)) + s3.1).toInt = (a1 * (5 : Int32)).toInt + s3.1.toInt := gx_add (by omega) (by omega)
    refine gw_sI (i := ((a1 * (5 : Int32)) + s3.1)) ((h.of k4).1.t (r := 5) rfl) ((h.of k4).1.l (r := 5) rfl) (by omega) (by omega) (fun m13 em13 => ?_)
    have km13 := k4.wr em13 (by decide)
    refine gw_gRa 63 ((h.of km13).1.c (r := 1) rfl) ((h.of km13).1.r (by decide)) ?_
    refine gw_gRa 15 ((h.of km13).1.c (r := 1) rfl) ((h.of km13).1.r (by decide)) ?_
    refine gw_gI ((h.of km13).1.c (r := 15) rfl) (fun v14 ev14 => ?_)
    refine gw_if (ict.t (h.of km13).1 (Or.inr rfl)) ?_
    refine gw_bV (s_X2_passMinute (h.of km13) (Or.inr rfl)) (fun m15 g15 => ?_)
    have kk15 := km13.ch g15
    have n16 : (s3.1 + (1 : Int32)).toInt = s3.1.toInt + (1 : Int32).toInt := gx_add (by omega) (by omega)
    exact gw_some (gs_inl ⟨kk15, (by show 0 ≤ (s3.1 + (1 : Int32)).toInt ∧ (s3.1 + (1 : Int32)).toInt ≤ 5; omega)⟩ (by show (5 - (s3.1 + (1 : Int32)).toInt) < (5 - s3.1.toInt); omega) (by show 0 ≤ (5 - (s3.1 + (1 : Int32)).toInt); omega))
end
section
set_option maxHeartbeats 1000000 in
theorem s_X11_isAllSeen {μ : gm_M} (h : CI μ) {a1 : Int32} {a2 : Int32} {a3 : Int32}  : gwI (f_X11_isAllSeen 1 a1 a2 a3 μ) (fun x m => kc μ m ∧ (x.toInt = 0 ∨ x.toInt = 1)) := by
  refine gwI_of ?_
  unfold f_X11_isAllSeen
  have l0 : (0 : Int32).toInt = 0 := rfl
  have l1 : (1 : Int32).toInt = 1 := rfl
  have l2 : (2 : Int32).toInt = 2 := rfl
  have k0 := kc.refl μ
  refine gw_loop (fun s1 => kc μ s1.2 ∧ (0 ≤ s1.1.toInt ∧ s1.1.toInt ≤ 5)) (fun s1 => (5 - s1.1.toInt)) (fun s1 ⟨k2, u3⟩ => ?_) 5000 ((0 : Int32), μ) ⟨k0, (by show 0 ≤ (0 : Int32).toInt ∧ (0 : Int32).toInt ≤ 5; omega)⟩ (by show (5 - (0 : Int32).toInt) < ((5000 : Nat) : Int); omega) (by show 0 ≤ (5 - (0 : Int32).toInt); omega)
  refine gw_gRa 15 ((h.of k2).1.c (r := 1) rfl) ((h.of k2).1.r (by decide)) ?_
  refine gw_gRa 23 ((h.of k2).1.c (r := 15) rfl) ((h.of k2).1.r (by decide)) ?_
  refine gw_gI ((h.of k2).1.c (r := 23) rfl) (fun v4 ev4 => ?_)
  have bv4 := (h.of k2).n23
  have dv4 : v4.toInt = (s1.2.2.1 23 2).toInt := by rw [ev4]
  have yv4 : v4.toInt = (μ.2.1 23 2).toInt := by rw [dv4, k2.row (by decide)]
  refine gw_le (fun h15_5 => ?_) (fun h15_5 => ?_)
  ·
    refine gw_z Iff.rfl (by omega) (gs_inr (gq_I ⟨k2, by omega⟩))
  ·
    refine gw_gRa 15 ((h.of k2).1.c (r := 1) rfl) ((h.of k2).1.r (by decide)) ?_
    refine gw_gRa 23 ((h.of k2).1.c (r := 15) rfl) ((h.of k2).1.r (by decide)) ?_
    refine gw_if ((h.of k2).1.t (r := 23) rfl) ?_
    refine gw_bI (s_X7_cell_23 (h.of k2) ) (fun x6 m6 ⟨z6, f6⟩ => ?_)
    replace z6 := z6.symm
    subst z6
    refine gw_if ((h.of k2).1.t (r := 1) rfl) ?_
    refine gw_bI (s_X11_isNobody (h.of k2) ) (fun x7 m7 ⟨z7, f7⟩ => ?_)
    replace z7 := z7.symm
    subst z7
    refine gw_j (fun s8 => kc μ s8) (fun s8 k10 => ?_) (fun j9 hj9 => ?_)
    ·
      have n11 : (s1.1 + (1 : Int32)).toInt = s1.1.toInt + (1 : Int32).toInt := gx_add (by omega) (by omega)
      exact gw_some (gs_inl ⟨k10, (by show 0 ≤ (s1.1 + (1 : Int32)).toInt ∧ (s1.1 + (1 : Int32)).toInt ≤ 5; omega)⟩ (by show (5 - (s1.1 + (1 : Int32)).toInt) < (5 - s1.1.toInt); omega) (by show 0 ≤ (5 - (s1.1 + (1 : Int32)).toInt); omega))
    ·
      refine gw_eq (fun h39_12 => ?_) (fun h39_12 => ?_)
      ·
        refine gw_gRa 63 ((h.of k2).1.c (r := 1) rfl) ((h.of k2).1.r (by decide)) ?_
        refine gw_gRa 15 ((h.of k2).1.c (r := 1) rfl) ((h.of k2).1.r (by decide)) ?_
        refine gw_gRa 16 ((h.of k2).1.c (r := 15) rfl) ((h.of k2).1.r (by decide)) ?_
        refine gw_aR (i := x6) ((h.of k2).1.t (r := 16) rfl) ((h.of k2).1.l (r := 16) rfl) (by omega) (by omega) (fun v13 ev13 => ?_)
        have cv13 : isch v13 := by rw [ev13]; exact isch.of (h.of k2).1 (by omega) (by omega)
        refine gw_if (ict.t (h.of k2).1 (Or.inr rfl)) ?_
        refine gw_bV (s_X2_copy_63 (h.of k2) cv13) (fun m14 g14 => ?_)
        have kk14 := k2.trans g14
        refine gw_j (fun s15 => kc μ s15) (fun s15 k17 => ?_) (fun j16 hj16 => ?_)
        ·
          refine gw_gRa 15 ((h.of k17).1.c (r := 1) rfl) ((h.of k17).1.r (by decide)) ?_
          refine gw_gRa 23 ((h.of k17).1.c (r := 15) rfl) ((h.of k17).1.r (by decide)) ?_
          refine gw_if ((h.of k17).1.t (r := 23) rfl) ?_
          refine gw_bI (s_X7_cell_23 (h.of k17) ) (fun x18 m18 ⟨z18, f18⟩ => ?_)
          replace z18 := z18.symm
          subst z18
          refine gw_if ((h.of k17).1.t (r := 1) rfl) ?_
          refine gw_bI (s_X11_trialBehind (h.of k17) (by omega)) (fun x19 m19 g19 => ?_)
          have kk19 := k17.trans g19
          refine gw_gRa 15 ((h.of kk19).1.c (r := 1) rfl) ((h.of kk19).1.r (by decide)) ?_
          refine gw_gRa 23 ((h.of kk19).1.c (r := 15) rfl) ((h.of kk19).1.r (by decide)) ?_
          refine gw_if ((h.of kk19).1.t (r := 23) rfl) ?_
          refine gw_bI (s_X7_cell_23 (h.of kk19) ) (fun x20 m20 ⟨z20, f20⟩ => ?_)
          replace z20 := z20.symm
          subst z20
          refine gw_eq (fun h114_21 => ?_) (fun h114_21 => ?_)
          ·
            exact hj9 _ kk19
          ·
            refine gw_z Iff.rfl (by omega) (gs_inr (gq_I ⟨kk19, by omega⟩))
        ·
          refine gw_ne (fun h65_22 => ?_) (fun h65_22 => ?_)
          ·
            exact hj16 _ kk14
          ·
            refine gw_gRa 63 ((h.of kk14).1.c (r := 1) rfl) ((h.of kk14).1.r (by decide)) ?_
            refine gw_pI (ict.c (h.of kk14).1 (Or.inr rfl)) (fun m23 em23 => ?_)
            have km23 := kk14.wr em23 (by decide)
            refine gw_gRa 63 ((h.of km23).1.c (r := 1) rfl) ((h.of km23).1.r (by decide)) ?_
            refine gw_pI (ict.c (h.of km23).1 (Or.inr rfl)) (fun m24 em24 => ?_)
            have km24 := km23.wr em24 (by decide)
            exact hj16 _ km24
      ·
        exact hj9 _ k2
set_option maxHeartbeats 1000000 in
theorem s_X11_tryPlanRow {μ : gm_M} (h : CI μ) {a1 : Int32} {a2 : Int32}  : gwV (f_X11_tryPlanRow 1 a1 a2 μ) (fun m => kc μ m) := by
  refine gwV_of ?_
  unfold f_X11_tryPlanRow
  have l0 : (0 : Int32).toInt = 0 := rfl
  have l1 : (1 : Int32).toInt = 1 := rfl
  have l2 : (2 : Int32).toInt = 2 := rfl
  have l6 : (6 : Int32).toInt = 6 := rfl
  have l10 : (10 : Int32).toInt = 10 := rfl
  have l999 : (999 : Int32).toInt = 999 := rfl
  have k0 := kc.refl μ
  refine gw_ne (fun h2_1 => ?_) (fun h2_1 => ?_)
  ·
    refine gw_ne (fun h62_2 => ?_) (fun h62_2 => ?_)
    ·
      refine gw_gRa 63 ((h.of k0).1.c (r := 1) rfl) ((h.of k0).1.r (by decide)) ?_
      refine gw_gRa 63 ((h.of k0).1.c (r := 1) rfl) ((h.of k0).1.r (by decide)) ?_
      refine gw_gRa 15 ((h.of k0).1.c (r := 1) rfl) ((h.of k0).1.r (by decide)) ?_
      refine gw_gR ((h.of k0).1.c (r := 15) rfl) (fun v3 ev3 => ?_)
      have cv3 : AfW μ v3 := by rw [ev3]; exact (h.of k0).af
      refine gw_if (ict.t (h.of k0).1 (Or.inr rfl)) ?_
      refine gw_bI (s_X2_holds (h.of k0) (Or.inr rfl) cv3) (fun x4 m4 z4 => ?_)
      replace z4 := z4.symm
      subst z4
      refine gw_if (ict.t (h.of k0).1 (Or.inr rfl)) ?_
      refine gw_bI (s_X2_breathe (h.of k0) (Or.inr rfl)) (fun x5 m5 ⟨g5, f5⟩ => ?_)
      have kk5 := k0.ch g5
      exact gw_some (gq_V kk5)
    ·
      refine gw_gRa 63 ((h.of k0).1.c (r := 1) rfl) ((h.of k0).1.r (by decide)) ?_
      refine gw_pI (ict.c (h.of k0).1 (Or.inr rfl)) (fun m6 em6 => ?_)
      have km6 := k0.wr em6 (by decide)
      refine gw_gRa 63 ((h.of km6).1.c (r := 1) rfl) ((h.of km6).1.r (by decide)) ?_
      refine gw_pI (ict.c (h.of km6).1 (Or.inr rfl)) (fun m7 em7 => ?_)
      have km7 := km6.wr em7 (by decide)
      refine gw_gRa 63 ((h.of km7).1.c (r := 1) rfl) ((h.of km7).1.r (by decide)) ?_
      refine gw_pI (ict.c (h.of km7).1 (Or.inr rfl)) (fun m8 em8 => ?_)
      have km8 := km7.wr em8 (by decide)
      exact gw_some (gq_V km8)
  ·
    refine gw_gRa 63 ((h.of k0).1.c (r := 1) rfl) ((h.of k0).1.r (by decide)) ?_
    refine gw_gRa 63 ((h.of k0).1.c (r := 1) rfl) ((h.of k0).1.r (by decide)) ?_
    refine gw_gI (ict.c (h.of k0).1 (Or.inr rfl)) (fun v9 ev9 => ?_)
    refine gw_pI (ict.c (h.of k0).1 (Or.inr rfl)) (fun m10 em10 => ?_)
    have km10 := k0.wr em10 (by decide)
    refine gw_gRa 63 ((h.of km10).1.c (r := 1) rfl) ((h.of km10).1.r (by decide)) ?_
    refine gw_gRa 63 ((h.of km10).1.c (r := 1) rfl) ((h.of km10).1.r (by decide)) ?_
    refine gw_gI (ict.c (h.of km10).1 (Or.inr rfl)) (fun v11 ev11 => ?_)
    refine gw_gRa 15 ((h.of km10).1.c (r := 1) rfl) ((h.of km10).1.r (by decide)) ?_
    refine gw_gR ((h.of km10).1.c (r := 15) rfl) (fun v12 ev12 => ?_)
    have cv12 : AfW m10 v12 := by rw [ev12]; exact (h.of km10).af
    refine gw_gI (cv12.tc) (fun v13 ev13 => ?_)
    refine gw_pI (ict.c (h.of km10).1 (Or.inr rfl)) (fun m14 em14 => ?_)
    have km14 := km10.wr em14 (by decide)
    exact gw_some (gq_V km14)
set_option maxHeartbeats 1000000 in
theorem s_X11_tryPlan {μ : gm_M} (h : CI μ)   : gwV (f_X11_tryPlan 1 μ) (fun m => kc μ m) := by
  refine gwV_of ?_
  unfold f_X11_tryPlan
  have l0 : (0 : Int32).toInt = 0 := rfl
  have l1 : (1 : Int32).toInt = 1 := rfl
  have k0 := kc.refl μ
  refine gw_gRa 15 ((h.of k0).1.c (r := 1) rfl) ((h.of k0).1.r (by decide)) ?_
  refine gw_gI ((h.of k0).1.c (r := 15) rfl) (fun v1 ev1 => ?_)
  refine gw_loop (fun s2 => kc μ s2.2.2 ∧ (0 ≤ s2.2.1.toInt ∧ s2.2.1.toInt ≤ 8)) (fun s2 => (8 - s2.2.1.toInt)) (fun s2 ⟨k3, u4⟩ => ?_) 5000 (v1, (0 : Int32), μ) ⟨k0, (by show 0 ≤ (0 : Int32).toInt ∧ (0 : Int32).toInt ≤ 8; omega)⟩ (by show (8 - (0 : Int32).toInt) < ((5000 : Nat) : Int); omega) (by show 0 ≤ (8 - (0 : Int32).toInt); omega)
  refine gw_gRa 15 ((h.of k3).1.c (r := 1) rfl) ((h.of k3).1.r (by decide)) ?_
  refine gw_gRa 25 ((h.of k3).1.c (r := 15) rfl) ((h.of k3).1.r (by decide)) ?_
  refine gw_gI ((h.of k3).1.c (r := 25) rfl) (fun v5 ev5 => ?_)
  have bv5 := (h.of k3).n25
  have dv5 : v5.toInt = (s2.2.2.2.1 25 2).toInt := by rw [ev5]
  have yv5 : v5.toInt = (μ.2.1 25 2).toInt := by rw [dv5, k3.row (by decide)]
  refine gw_le (fun h21_6 => ?_) (fun h21_6 => ?_)
  ·
    exact gw_some (gs_inr (gq_V k3))
  ·
    refine gw_gRa 15 ((h.of k3).1.c (r := 1) rfl) ((h.of k3).1.r (by decide)) ?_
    refine gw_gRa 25 ((h.of k3).1.c (r := 15) rfl) ((h.of k3).1.r (by decide)) ?_
    refine gw_if ((h.of k3).1.t (r := 25) rfl) ?_
    refine gw_bI (s_X7_cell_25 (h.of k3) ) (fun x7 m7 z7 => ?_)
    replace z7 := z7.symm
    subst z7
    refine gw_j (fun s8 => kc μ s8.2) (fun s8 k10 => ?_) (fun j9 hj9 => ?_)
    ·
      have n11 : (s2.2.1 + (1 : Int32)).toInt = s2.2.1.toInt + (1 : Int32).toInt := gx_add (by omega) (by omega)
      exact gw_some (gs_inl ⟨k10, (by show 0 ≤ (s2.2.1 + (1 : Int32)).toInt ∧ (s2.2.1 + (1 : Int32)).toInt ≤ 8; omega)⟩ (by show (8 - (s2.2.1 + (1 : Int32)).toInt) < (8 - s2.2.1.toInt); omega) (by show 0 ≤ (8 - (s2.2.1 + (1 : Int32)).toInt); omega))
    ·
      refine gw_ne (fun h38_12 => ?_) (fun h38_12 => ?_)
      ·
        refine gw_gRa 15 ((h.of k3).1.c (r := 1) rfl) ((h.of k3).1.r (by decide)) ?_
        refine gw_gRa 25 ((h.of k3).1.c (r := 15) rfl) ((h.of k3).1.r (by decide)) ?_
        refine gw_if ((h.of k3).1.t (r := 25) rfl) ?_
        refine gw_bI (s_X7_cell_25 (h.of k3) ) (fun x13 m13 z13 => ?_)
        replace z13 := z13.symm
        subst z13
        refine gw_gRa 63 ((h.of k3).1.c (r := 1) rfl) ((h.of k3).1.r (by decide)) ?_
        refine gw_gI (ict.c (h.of k3).1 (Or.inr rfl)) (fun v14 ev14 => ?_)
        refine gw_ne (fun h74_15 => ?_) (fun h74_15 => ?_)
        ·
          exact hj9 _ k3
        ·
          refine gw_if ((h.of k3).1.t (r := 1) rfl) ?_
          refine gw_bV (s_X11_tryPlanRow (h.of k3) ) (fun m16 g16 => ?_)
          have kk16 := k3.trans g16
          exact hj9 _ kk16
      ·
        refine gw_gRa 63 ((h.of k3).1.c (r := 1) rfl) ((h.of k3).1.r (by decide)) ?_
        refine gw_if (ict.t (h.of k3).1 (Or.inr rfl)) ?_
        refine gw_bV (s_X2_passMinute (h.of k3) (Or.inr rfl)) (fun m17 g17 => ?_)
        have kk17 := k3.ch g17
        exact hj9 _ kk17
set_option maxHeartbeats 1000000 in
theorem sb_X11_arrange {R0 : Nat → Int32 → Int32 → Int32 → gm_M → Option (Option Value × gm_M)} (d : Nat) (hR : ∀ {m : gm_M} (h : CI m) {b1 b2 b3 : Int32}, 0 ≤ b1.toInt ∧ b1.toInt ≤ 5 → 5 - b1.toInt < d → gwV (R0 1 b1 b2 b3 m) (fun m1 => kc m m1)) {μ : gm_M} (h : CI μ) {a1 a2 a3 : Int32} (q0 : 0 ≤ a1.toInt ∧ a1.toInt ≤ 5) (q1 : 5 - a1.toInt < d + 1) : gwV (b_X11_arrange R0 1 a1 a2 a3 μ) (fun m => kc μ m) := by
  refine gwV_of ?_
  unfold b_X11_arrange
  have l0 : (0 : Int32).toInt = 0 := rfl
  have l1 : (1 : Int32).toInt = 1 := rfl
  have l5 : (5 : Int32).toInt = 5 := rfl
  have k0 := kc.refl μ
  refine gw_gRa 15 ((h.of k0).1.c (r := 1) rfl) ((h.of k0).1.r (by decide)) ?_
  refine gw_gI ((h.of k0).1.c (r := 15) rfl) (fun v1 ev1 => ?_)
  have bv1 := (h.of k0).n1
  have dv1 : v1.toInt = (μ.2.1 15 1).toInt := by rw [ev1]
  refine gw_ji ?_
  refine gw_le (fun h8_2 => ?_) (fun h8_2 => ?_)
  ·
    refine gw_gI ((h.of k0).1.c (r := 1) rfl) (fun v3 ev3 => ?_)
    refine gw_le (fun h21_4 => ?_) (fun h21_4 => ?_)
    ·
      exact gw_some (gq_V k0)
    ·
      refine gw_pI ((h.of k0).1.c (r := 1) rfl) (fun m5 em5 => ?_)
      have km5 := k0.w1 em5
      refine gw_gRa 6 ((h.of km5).1.c (r := 1) rfl) ((h.of km5).1.r (by decide)) ?_
      refine gw_gRa 7 ((h.of km5).1.c (r := 1) rfl) ((h.of km5).1.r (by decide)) ?_
      refine gx_cp (by decide) ((h.of km5).1.t (r := 6) rfl) ((h.of km5).1.t (r := 7) rfl) ((h.of km5).1.l (r := 6) rfl) ((h.of km5).1.l (r := 7) rfl) (by omega) (by omega) (by omega) (by omega) (by omega) (fun m6 e1m6 e2m6 e3m6 e4m6 => ?_)
      have km6 := km5.cp e1m6 e2m6 e3m6 (by decide)
      exact gw_some (gq_V km6)
  ·
    refine gw_lt (fun h13_7 => ?_) (fun h13_7 => ?_)
    ·
      refine gw_loop (fun s8 => kc μ s8.2 ∧ (0 ≤ s8.1.toInt ∧ s8.1.toInt ≤ 5)) (fun s8 => (5 - s8.1.toInt)) (fun s8 ⟨k9, u10⟩ => ?_) 5000 ((0 : Int32), μ) ⟨k0, (by show 0 ≤ (0 : Int32).toInt ∧ (0 : Int32).toInt ≤ 5; omega)⟩ (by show (5 - (0 : Int32).toInt) < ((5000 : Nat) : Int); omega) (by show 0 ≤ (5 - (0 : Int32).toInt); omega)
      refine gw_gRa 15 ((h.of k9).1.c (r := 1) rfl) ((h.of k9).1.r (by decide)) ?_
      refine gw_gI ((h.of k9).1.c (r := 15) rfl) (fun v11 ev11 => ?_)
      have bv11 := (h.of k9).n1
      have dv11 : v11.toInt = (s8.2.2.1 15 1).toInt := by rw [ev11]
      have yv11 : v11.toInt = (μ.2.1 15 1).toInt := by rw [dv11, k9.row (by decide)]
      refine gw_le (fun h56_12 => ?_) (fun h56_12 => ?_)
      ·
        exact gw_some (gs_inr (gq_V k9))
      ·
        refine gw_j (fun s13 => kc μ s13) (fun s13 k15 => ?_) (fun j14 hj14 => ?_)
        ·
          have n16 : (s8.1 + (1 : Int32)).toInt = s8.1.toInt + (1 : Int32).toInt := gx_add (by omega) (by omega)
          exact gw_some (gs_inl ⟨k15, (by show 0 ≤ (s8.1 + (1 : Int32)).toInt ∧ (s8.1 + (1 : Int32)).toInt ≤ 5; omega)⟩ (by show (5 - (s8.1 + (1 : Int32)).toInt) < (5 - s8.1.toInt); omega) (by show 0 ≤ (5 - (s8.1 + (1 : Int32)).toInt); omega))
        ·
          refine gw_eq (fun h65_17 => ?_) (fun h65_17 => ?_)
          ·
            refine gw_gRa 6 ((h.of k9).1.c (r := 1) rfl) ((h.of k9).1.r (by decide)) ?_
            refine gw_sI (i := a1) ((h.of k9).1.t (r := 6) rfl) ((h.of k9).1.l (r := 6) rfl) (by omega) (by omega) (fun m18 em18 => ?_)
            have km18 := k9.wr em18 (by decide)
            refine gw_gRa 5 ((h.of km18).1.c (r := 1) rfl) ((h.of km18).1.r (by decide)) ?_
            have n19 : (s8.1 * (5 : Int32)).toInt = 5 * s8.1.toInt := gx_mulr 5 rfl (by omega) (by omega)
            have n20 : ((s8.1 * (5 : Int32)) + a1).toInt = (s8.1 * (5 : Int32)).toInt + a1.toInt := gx_add (by omega) (by omega)
            refine gw_aI (i := ((s8.1 * (5 : Int32)) + a1)) ((h.of km18).1.t (r := 5) rfl) ((h.of km18).1.l (r := 5) rfl) (by omega) (by omega) (fun v21 ev21 => ?_)
            refine gw_if ((h.of km18).1.t (r := 1) rfl) ?_
            have n22 : (a1 + (1 : Int32)).toInt = a1.toInt + (1 : Int32).toInt := gx_add (by omega) (by omega)
            refine gw_bV (hR (h.of km18) (by omega) (by omega)) (fun m23 g23 => ?_)
            have kk23 := km18.trans g23
            exact hj14 _ kk23
          ·
            exact hj14 _ k9
    ·
      refine gw_gI ((h.of k0).1.c (r := 1) rfl) (fun v24 ev24 => ?_)
      refine gw_le (fun h21_25 => ?_) (fun h21_25 => ?_)
      ·
        exact gw_some (gq_V k0)
      ·
        refine gw_pI ((h.of k0).1.c (r := 1) rfl) (fun m26 em26 => ?_)
        have km26 := k0.w1 em26
        refine gw_gRa 6 ((h.of km26).1.c (r := 1) rfl) ((h.of km26).1.r (by decide)) ?_
        refine gw_gRa 7 ((h.of km26).1.c (r := 1) rfl) ((h.of km26).1.r (by decide)) ?_
        refine gx_cp (by decide) ((h.of km26).1.t (r := 6) rfl) ((h.of km26).1.t (r := 7) rfl) ((h.of km26).1.l (r := 6) rfl) ((h.of km26).1.l (r := 7) rfl) (by omega) (by omega) (by omega) (by omega) (by omega) (fun m27 e1m27 e2m27 e3m27 e4m27 => ?_)
        have km27 := km26.cp e1m27 e2m27 e3m27 (by decide)
        exact gw_some (gq_V km27)
theorem sr_X11_arrange : ∀ (d : Nat) {m : gm_M} (h : CI m) {b1 b2 b3 : Int32}, 0 ≤ b1.toInt ∧ b1.toInt ≤ 5 → 5 - b1.toInt < d → gwV (r_X11_arrange d 1 b1 b2 b3 m) (fun m1 => kc m m1)
  | 0, m, h, b1, b2, b3, q0, q1 => by omega
  | d + 1, m, h, b1, b2, b3, q0, q1 => sb_X11_arrange d (fun h => sr_X11_arrange d h) h q0 (by omega)
theorem s_X11_arrange {μ : gm_M} (h : CI μ) {a1 a2 a3 : Int32} (q0 : 0 ≤ a1.toInt ∧ a1.toInt ≤ 5) : gwV (f_X11_arrange 1 a1 a2 a3 μ) (fun m => kc μ m) := sr_X11_arrange 64 h q0 (by omega)
set_option maxHeartbeats 1000000 in
theorem s_X11_of {μ : gm_M} (h : CI μ) {a1 : Int32} {a2 : Int32}  : gwI (f_X11_of 1 a1 a2 μ) (fun x m => kc μ m) := by
  refine gwI_of ?_
  unfold f_X11_of
  have lm1 : (-1 : Int32).toInt = -1 := rfl
  have l0 : (0 : Int32).toInt = 0 := rfl
  have l1 : (1 : Int32).toInt = 1 := rfl
  have l2 : (2 : Int32).toInt = 2 := rfl
  have l3 : (3 : Int32).toInt = 3 := rfl
  have l4 : (4 : Int32).toInt = 4 := rfl
  have l5 : (5 : Int32).toInt = 5 := rfl
  have l6 : (6 : Int32).toInt = 6 := rfl
  have l7 : (7 : Int32).toInt = 7 := rfl
  have l8 : (8 : Int32).toInt = 8 := rfl
  have l9 : (9 : Int32).toInt = 9 := rfl
  have l10 : (10 : Int32).toInt = 10 := rfl
  have k0 := kc.refl μ
  refine gw_if ((h.of k0).1.t (r := 1) rfl) ?_
  refine gw_bI (s_X11_isNobody (h.of k0) ) (fun x1 m1 ⟨z1, f1⟩ => ?_)
  replace z1 := z1.symm
  subst z1
  refine gw_eq (fun h5_2 => ?_) (fun h5_2 => ?_)
  ·
    refine gw_gRa 15 ((h.of k0).1.c (r := 1) rfl) ((h.of k0).1.r (by decide)) ?_
    refine gw_gRa 16 ((h.of k0).1.c (r := 15) rfl) ((h.of k0).1.r (by decide)) ?_
    refine gw_aR (i := a1) ((h.of k0).1.t (r := 16) rfl) ((h.of k0).1.l (r := 16) rfl) (by omega) (by omega) (fun v3 ev3 => ?_)
    have cv3 : isch v3 := by rw [ev3]; exact isch.of (h.of k0).1 (by omega) (by omega)
    refine gw_eq (fun h21_4 => ?_) (fun h21_4 => ?_)
    ·
      refine gw_gR (ict.c (h.of k0).1 (Or.inl cv3)) (fun v5 ev5 => ?_)
      have cv5 : kid v5 := by rw [ev5]; exact (h.of k0).kd (Or.inl cv3)
      refine gw_gI (kid.c (h.of k0).1 cv5) (fun v6 ev6 => ?_)
      exact gw_some (gq_I k0)
    ·
      refine gw_eq (fun h21_7 => ?_) (fun h21_7 => ?_)
      ·
        refine gw_gI (ict.c (h.of k0).1 (Or.inl cv3)) (fun v8 ev8 => ?_)
        exact gw_some (gq_I k0)
      ·
        refine gw_eq (fun h21_9 => ?_) (fun h21_9 => ?_)
        ·
          refine gw_gI (ict.c (h.of k0).1 (Or.inl cv3)) (fun v10 ev10 => ?_)
          exact gw_some (gq_I k0)
        ·
          refine gw_eq (fun h21_11 => ?_) (fun h21_11 => ?_)
          ·
            refine gw_gI (ict.c (h.of k0).1 (Or.inl cv3)) (fun v12 ev12 => ?_)
            exact gw_some (gq_I k0)
          ·
            refine gw_eq (fun h21_13 => ?_) (fun h21_13 => ?_)
            ·
              refine gw_gI (ict.c (h.of k0).1 (Or.inl cv3)) (fun v14 ev14 => ?_)
              exact gw_some (gq_I k0)
            ·
              refine gw_eq (fun h21_15 => ?_) (fun h21_15 => ?_)
              ·
                refine gw_gI (ict.c (h.of k0).1 (Or.inl cv3)) (fun v16 ev16 => ?_)
                exact gw_some (gq_I k0)
              ·
                refine gw_eq (fun h21_17 => ?_) (fun h21_17 => ?_)
                ·
                  refine gw_gI (ict.c (h.of k0).1 (Or.inl cv3)) (fun v18 ev18 => ?_)
                  exact gw_some (gq_I k0)
                ·
                  refine gw_eq (fun h21_19 => ?_) (fun h21_19 => ?_)
                  ·
                    refine gw_gRa 15 ((h.of k0).1.c (r := 1) rfl) ((h.of k0).1.r (by decide)) ?_
                    refine gw_gR ((h.of k0).1.c (r := 15) rfl) (fun v20 ev20 => ?_)
                    have cv20 : AfW μ v20 := by rw [ev20]; exact (h.of k0).af
                    refine gw_gRa 15 ((h.of k0).1.c (r := 1) rfl) ((h.of k0).1.r (by decide)) ?_
                    refine gw_gI ((h.of k0).1.c (r := 15) rfl) (fun v21 ev21 => ?_)
                    refine gw_if (cv20.t) ?_
                    refine gw_bI (s_X0_stretchOf (h.of k0) cv20 (Or.inl cv3)) (fun x22 m22 z22 => ?_)
                    replace z22 := z22.symm
                    subst z22
                    exact gw_some (gq_I k0)
                  ·
                    refine gw_eq (fun h21_23 => ?_) (fun h21_23 => ?_)
                    ·
                      refine gw_gR (ict.c (h.of k0).1 (Or.inl cv3)) (fun v24 ev24 => ?_)
                      have cv24 : kid v24 := by rw [ev24]; exact (h.of k0).kd (Or.inl cv3)
                      refine gw_gRa 15 ((h.of k0).1.c (r := 1) rfl) ((h.of k0).1.r (by decide)) ?_
                      refine gw_gI ((h.of k0).1.c (r := 15) rfl) (fun v25 ev25 => ?_)
                      refine gw_bI (s_fv_sugarChewed (h.of k0) cv24 (Or.inl cv3)) (fun x26 m26 z26 => ?_)
                      replace z26 := z26.symm
                      subst z26
                      exact gw_some (gq_I k0)
                    ·
                      refine gw_eq (fun h21_27 => ?_) (fun h21_27 => ?_)
                      ·
                        refine gw_gR (ict.c (h.of k0).1 (Or.inl cv3)) (fun v28 ev28 => ?_)
                        have cv28 : kid v28 := by rw [ev28]; exact (h.of k0).kd (Or.inl cv3)
                        refine gw_bI (s_fv_jawTired (h.of k0) cv28 (Or.inl cv3)) (fun x29 m29 z29 => ?_)
                        replace z29 := z29.symm
                        subst z29
                        exact gw_some (gq_I k0)
                      ·
                        refine gw_eq (fun h21_30 => ?_) (fun h21_30 => ?_)
                        ·
                          refine gw_if ((h.of k0).1.t (r := 1) rfl) ?_
                          refine gw_bI (s_X11_holdsNow (h.of k0) (by omega)) (fun x31 m31 z31 => ?_)
                          replace z31 := z31.symm
                          subst z31
                          exact gw_some (gq_I k0)
                        ·
                          exact gw_some (gq_I k0)
  ·
    exact gw_some (gq_I k0)
set_option maxHeartbeats 1000000 in
theorem s_X11_told {μ : gm_M} (h : CI μ) {a1 : Int32}  : gwI (f_X11_told 1 a1 μ) (fun x m => kc μ m) := by
  refine gwI_of ?_
  unfold f_X11_told
  have lm1 : (-1 : Int32).toInt = -1 := rfl
  have l0 : (0 : Int32).toInt = 0 := rfl
  have l1 : (1 : Int32).toInt = 1 := rfl
  have l2 : (2 : Int32).toInt = 2 := rfl
  have l3 : (3 : Int32).toInt = 3 := rfl
  have l4 : (4 : Int32).toInt = 4 := rfl
  have k0 := kc.refl μ
  refine gw_eq (fun h1_1 => ?_) (fun h1_1 => ?_)
  ·
    refine gw_gRa 15 ((h.of k0).1.c (r := 1) rfl) ((h.of k0).1.r (by decide)) ?_
    refine gw_gI ((h.of k0).1.c (r := 15) rfl) (fun v2 ev2 => ?_)
    exact gw_some (gq_I k0)
  ·
    refine gw_eq (fun h1_3 => ?_) (fun h1_3 => ?_)
    ·
      refine gw_gRa 15 ((h.of k0).1.c (r := 1) rfl) ((h.of k0).1.r (by decide)) ?_
      refine gw_gR ((h.of k0).1.c (r := 15) rfl) (fun v4 ev4 => ?_)
      have cv4 : AfW μ v4 := by rw [ev4]; exact (h.of k0).af
      refine gw_gI (cv4.tc) (fun v5 ev5 => ?_)
      exact gw_some (gq_I k0)
    ·
      refine gw_eq (fun h1_6 => ?_) (fun h1_6 => ?_)
      ·
        refine gw_gRa 15 ((h.of k0).1.c (r := 1) rfl) ((h.of k0).1.r (by decide)) ?_
        refine gw_gR ((h.of k0).1.c (r := 15) rfl) (fun v7 ev7 => ?_)
        have cv7 : AfW μ v7 := by rw [ev7]; exact (h.of k0).af
        refine gw_gI (cv7.tc) (fun v8 ev8 => ?_)
        exact gw_some (gq_I k0)
      ·
        refine gw_eq (fun h1_9 => ?_) (fun h1_9 => ?_)
        ·
          refine gw_if ((h.of k0).1.t (r := 1) rfl) ?_
          refine gw_bI (s_X11_sumBehind (h.of k0) (by omega)) (fun x10 m10 g10 => ?_)
          have kk10 := k0.trans g10
          exact gw_some (gq_I kk10)
        ·
          refine gw_eq (fun h1_11 => ?_) (fun h1_11 => ?_)
          ·
            refine gw_if ((h.of k0).1.t (r := 1) rfl) ?_
            refine gw_bI (s_X11_bubbleBits (h.of k0) ) (fun x12 m12 z12 => ?_)
            replace z12 := z12.symm
            subst z12
            exact gw_some (gq_I k0)
          ·
            exact gw_some (gq_I k0)
set_option maxHeartbeats 1000000 in
theorem s_X11_on {μ : gm_M} (h : CI μ) {a1 : Int32} {a2 : Int32}  : gwI (f_X11_on 1 a1 a2 μ) (fun x m => kc μ m) := by
  refine gwI_of ?_
  unfold f_X11_on
  have lm2 : (-2 : Int32).toInt = -2 := rfl
  have lm1 : (-1 : Int32).toInt = -1 := rfl
  have l0 : (0 : Int32).toInt = 0 := rfl
  have l10 : (10 : Int32).toInt = 10 := rfl
  have l20 : (20 : Int32).toInt = 20 := rfl
  have l60 : (60 : Int32).toInt = 60 := rfl
  have k0 := kc.refl μ
  refine gw_ji ?_
  refine gw_lt (fun h3_1 => ?_) (fun h3_1 => ?_)
  ·
    refine gw_ji ?_
    refine gw_eq (fun h19_2 => ?_) (fun h19_2 => ?_)
    ·
      refine gw_bI (s_X11_isOutside ) (fun x3 m3 ⟨z3, f3⟩ => ?_)
      replace z3 := z3.symm
      subst z3
      refine gw_eq (fun h39_4 => ?_) (fun h39_4 => ?_)
      ·
        refine gw_ne (fun h46_5 => ?_) (fun h46_5 => ?_)
        ·
          refine gw_if ((h.of k0).1.t (r := 1) rfl) ?_
          have n6 := gx_subw a2 (10 : Int32)
          have n6a := gx_lo a2
          have n6b := gx_hi a2
          have n6c := gx_lo (a2 - (10 : Int32))
          have n6d := gx_hi (a2 - (10 : Int32))
          refine gw_bI (s_X11_holdsBehind (h.of k0) (by omega) (by omega)) (fun x7 m7 g7 => ?_)
          have kk7 := k0.trans g7
          refine gw_lt (fun h66_8 => ?_) (fun h66_8 => ?_)
          ·
            exact gw_some (gq_I kk7)
          ·
            refine gw_gRa 63 ((h.of kk7).1.c (r := 1) rfl) ((h.of kk7).1.r (by decide)) ?_
            refine gw_gI (ict.c (h.of kk7).1 (Or.inr rfl)) (fun v9 ev9 => ?_)
            exact gw_some (gq_I kk7)
        ·
          refine gw_if ((h.of k0).1.t (r := 1) rfl) ?_
          refine gw_bI (s_X11_sumBehind (h.of k0) (by omega)) (fun x10 m10 g10 => ?_)
          have kk10 := k0.trans g10
          exact gw_some (gq_I kk10)
      ·
        exact gw_some (gq_I k0)
    ·
      refine gw_if ((h.of k0).1.t (r := 1) rfl) ?_
      have n11 := gx_subw a2 (10 : Int32)
      have n11a := gx_lo a2
      have n11b := gx_hi a2
      have n11c := gx_lo (a2 - (10 : Int32))
      have n11d := gx_hi (a2 - (10 : Int32))
      refine gw_bI (s_X11_isNobody (h.of k0) ) (fun x12 m12 ⟨z12, f12⟩ => ?_)
      replace z12 := z12.symm
      subst z12
      refine gw_eq (fun h27_13 => ?_) (fun h27_13 => ?_)
      ·
        refine gw_bI (s_X11_isOutside ) (fun x14 m14 ⟨z14, f14⟩ => ?_)
        replace z14 := z14.symm
        subst z14
        refine gw_eq (fun h39_15 => ?_) (fun h39_15 => ?_)
        ·
          refine gw_ne (fun h46_16 => ?_) (fun h46_16 => ?_)
          ·
            refine gw_if ((h.of k0).1.t (r := 1) rfl) ?_
            have n17 := gx_subw a2 (10 : Int32)
            have n17a := gx_lo a2
            have n17b := gx_hi a2
            have n17c := gx_lo (a2 - (10 : Int32))
            have n17d := gx_hi (a2 - (10 : Int32))
            refine gw_bI (s_X11_holdsBehind (h.of k0) (by omega) (by omega)) (fun x18 m18 g18 => ?_)
            have kk18 := k0.trans g18
            refine gw_lt (fun h66_19 => ?_) (fun h66_19 => ?_)
            ·
              exact gw_some (gq_I kk18)
            ·
              refine gw_gRa 63 ((h.of kk18).1.c (r := 1) rfl) ((h.of kk18).1.r (by decide)) ?_
              refine gw_gI (ict.c (h.of kk18).1 (Or.inr rfl)) (fun v20 ev20 => ?_)
              exact gw_some (gq_I kk18)
          ·
            refine gw_if ((h.of k0).1.t (r := 1) rfl) ?_
            refine gw_bI (s_X11_sumBehind (h.of k0) (by omega)) (fun x21 m21 g21 => ?_)
            have kk21 := k0.trans g21
            exact gw_some (gq_I kk21)
        ·
          exact gw_some (gq_I k0)
      ·
        exact gw_some (gq_I k0)
  ·
    refine gw_ji ?_
    refine gw_eq (fun h19_22 => ?_) (fun h19_22 => ?_)
    ·
      refine gw_bI (s_X11_isOutside ) (fun x23 m23 ⟨z23, f23⟩ => ?_)
      replace z23 := z23.symm
      subst z23
      refine gw_eq (fun h39_24 => ?_) (fun h39_24 => ?_)
      ·
        refine gw_ne (fun h46_25 => ?_) (fun h46_25 => ?_)
        ·
          refine gw_if ((h.of k0).1.t (r := 1) rfl) ?_
          have n26 := gx_subw a2 (20 : Int32)
          have n26a := gx_lo a2
          have n26b := gx_hi a2
          have n26c := gx_lo (a2 - (20 : Int32))
          have n26d := gx_hi (a2 - (20 : Int32))
          refine gw_bI (s_X11_holdsBehind (h.of k0) (by omega) (by omega)) (fun x27 m27 g27 => ?_)
          have kk27 := k0.trans g27
          refine gw_lt (fun h66_28 => ?_) (fun h66_28 => ?_)
          ·
            exact gw_some (gq_I kk27)
          ·
            refine gw_gRa 63 ((h.of kk27).1.c (r := 1) rfl) ((h.of kk27).1.r (by decide)) ?_
            refine gw_gI (ict.c (h.of kk27).1 (Or.inr rfl)) (fun v29 ev29 => ?_)
            exact gw_some (gq_I kk27)
        ·
          refine gw_if ((h.of k0).1.t (r := 1) rfl) ?_
          refine gw_bI (s_X11_sumBehind (h.of k0) (by omega)) (fun x30 m30 g30 => ?_)
          have kk30 := k0.trans g30
          exact gw_some (gq_I kk30)
      ·
        exact gw_some (gq_I k0)
    ·
      refine gw_if ((h.of k0).1.t (r := 1) rfl) ?_
      have n31 := gx_subw a2 (20 : Int32)
      have n31a := gx_lo a2
      have n31b := gx_hi a2
      have n31c := gx_lo (a2 - (20 : Int32))
      have n31d := gx_hi (a2 - (20 : Int32))
      refine gw_bI (s_X11_isNobody (h.of k0) ) (fun x32 m32 ⟨z32, f32⟩ => ?_)
      replace z32 := z32.symm
      subst z32
      refine gw_eq (fun h27_33 => ?_) (fun h27_33 => ?_)
      ·
        refine gw_bI (s_X11_isOutside ) (fun x34 m34 ⟨z34, f34⟩ => ?_)
        replace z34 := z34.symm
        subst z34
        refine gw_eq (fun h39_35 => ?_) (fun h39_35 => ?_)
        ·
          refine gw_ne (fun h46_36 => ?_) (fun h46_36 => ?_)
          ·
            refine gw_if ((h.of k0).1.t (r := 1) rfl) ?_
            have n37 := gx_subw a2 (20 : Int32)
            have n37a := gx_lo a2
            have n37b := gx_hi a2
            have n37c := gx_lo (a2 - (20 : Int32))
            have n37d := gx_hi (a2 - (20 : Int32))
            refine gw_bI (s_X11_holdsBehind (h.of k0) (by omega) (by omega)) (fun x38 m38 g38 => ?_)
            have kk38 := k0.trans g38
            refine gw_lt (fun h66_39 => ?_) (fun h66_39 => ?_)
            ·
              exact gw_some (gq_I kk38)
            ·
              refine gw_gRa 63 ((h.of kk38).1.c (r := 1) rfl) ((h.of kk38).1.r (by decide)) ?_
              refine gw_gI (ict.c (h.of kk38).1 (Or.inr rfl)) (fun v40 ev40 => ?_)
              exact gw_some (gq_I kk38)
          ·
            refine gw_if ((h.of k0).1.t (r := 1) rfl) ?_
            refine gw_bI (s_X11_sumBehind (h.of k0) (by omega)) (fun x41 m41 g41 => ?_)
            have kk41 := k0.trans g41
            exact gw_some (gq_I kk41)
        ·
          exact gw_some (gq_I k0)
      ·
        exact gw_some (gq_I k0)
set_option maxHeartbeats 1000000 in
theorem s_X11_when {μ : gm_M} (h : CI μ) {a1 : Int32} {a2 : Int32}  : gwI (f_X11_when 1 a1 a2 μ) (fun x m => kc μ m) := by
  refine gwI_of ?_
  unfold f_X11_when
  have lm1 : (-1 : Int32).toInt = -1 := rfl
  have l0 : (0 : Int32).toInt = 0 := rfl
  have l1 : (1 : Int32).toInt = 1 := rfl
  have k0 := kc.refl μ
  refine gw_if ((h.of k0).1.t (r := 1) rfl) ?_
  refine gw_bI (s_X11_isNobody (h.of k0) ) (fun x1 m1 ⟨z1, f1⟩ => ?_)
  replace z1 := z1.symm
  subst z1
  refine gw_ne (fun h5_2 => ?_) (fun h5_2 => ?_)
  ·
    exact gw_some (gq_I k0)
  ·
    refine gw_bI (s_X11_isOutside ) (fun x3 m3 ⟨z3, f3⟩ => ?_)
    replace z3 := z3.symm
    subst z3
    refine gw_eq (fun h14_4 => ?_) (fun h14_4 => ?_)
    ·
      refine gw_gRa 63 ((h.of k0).1.c (r := 1) rfl) ((h.of k0).1.r (by decide)) ?_
      refine gw_gRa 15 ((h.of k0).1.c (r := 1) rfl) ((h.of k0).1.r (by decide)) ?_
      refine gw_gRa 16 ((h.of k0).1.c (r := 15) rfl) ((h.of k0).1.r (by decide)) ?_
      refine gw_aR (i := a1) ((h.of k0).1.t (r := 16) rfl) ((h.of k0).1.l (r := 16) rfl) (by omega) (by omega) (fun v5 ev5 => ?_)
      have cv5 : isch v5 := by rw [ev5]; exact isch.of (h.of k0).1 (by omega) (by omega)
      refine gw_if (ict.t (h.of k0).1 (Or.inr rfl)) ?_
      refine gw_bV (s_X2_copy_63 (h.of k0) cv5) (fun m6 g6 => ?_)
      have kk6 := k0.trans g6
      refine gw_if ((h.of kk6).1.t (r := 1) rfl) ?_
      refine gw_bI (s_X11_trialWhen (h.of kk6) ) (fun x7 m7 g7 => ?_)
      have kk7 := kk6.trans g7
      exact gw_some (gq_I kk7)
    ·
      exact gw_some (gq_I k0)
set_option maxHeartbeats 1000000 in
theorem s_X11_soon {μ : gm_M} (h : CI μ) {a1 : Int32} {a2 : Int32}  : gwI (f_X11_soon 1 a1 a2 μ) (fun x m => kc μ m) := by
  refine gwI_of ?_
  unfold f_X11_soon
  have lm5 : (-5 : Int32).toInt = -5 := rfl
  have lm2 : (-2 : Int32).toInt = -2 := rfl
  have lm1 : (-1 : Int32).toInt = -1 := rfl
  have l0 : (0 : Int32).toInt = 0 := rfl
  have l1 : (1 : Int32).toInt = 1 := rfl
  have l60 : (60 : Int32).toInt = 60 := rfl
  have l999 : (999 : Int32).toInt = 999 := rfl
  have k0 := kc.refl μ
  refine gw_if ((h.of k0).1.t (r := 1) rfl) ?_
  refine gw_bI (s_X11_isNobody (h.of k0) ) (fun x1 m1 ⟨z1, f1⟩ => ?_)
  replace z1 := z1.symm
  subst z1
  refine gw_eq (fun h5_2 => ?_) (fun h5_2 => ?_)
  ·
    refine gw_bI (s_X11_isOutside ) (fun x3 m3 ⟨z3, f3⟩ => ?_)
    replace z3 := z3.symm
    subst z3
    refine gw_eq (fun h18_4 => ?_) (fun h18_4 => ?_)
    ·
      refine gw_gRa 63 ((h.of k0).1.c (r := 1) rfl) ((h.of k0).1.r (by decide)) ?_
      refine gw_gRa 15 ((h.of k0).1.c (r := 1) rfl) ((h.of k0).1.r (by decide)) ?_
      refine gw_gRa 16 ((h.of k0).1.c (r := 15) rfl) ((h.of k0).1.r (by decide)) ?_
      refine gw_aR (i := a1) ((h.of k0).1.t (r := 16) rfl) ((h.of k0).1.l (r := 16) rfl) (by omega) (by omega) (fun v5 ev5 => ?_)
      have cv5 : isch v5 := by rw [ev5]; exact isch.of (h.of k0).1 (by omega) (by omega)
      refine gw_if (ict.t (h.of k0).1 (Or.inr rfl)) ?_
      refine gw_bV (s_X2_copy_63 (h.of k0) cv5) (fun m6 g6 => ?_)
      have kk6 := k0.trans g6
      refine gw_loop (fun s7 => kc μ s7.2 ∧ (0 ≤ s7.1.toInt ∧ s7.1.toInt ≤ 61)) (fun s7 => (61 - s7.1.toInt)) (fun s7 ⟨k8, u9⟩ => ?_) 5000 ((0 : Int32), m6) ⟨kk6, (by show 0 ≤ (0 : Int32).toInt ∧ (0 : Int32).toInt ≤ 61; omega)⟩ (by show (61 - (0 : Int32).toInt) < ((5000 : Nat) : Int); omega) (by show 0 ≤ (61 - (0 : Int32).toInt); omega)
      refine gw_lt (fun h45_10 => ?_) (fun h45_10 => ?_)
      ·
        exact gw_some (gs_inr (gq_I k8))
      ·
        refine gw_gRa 63 ((h.of k8).1.c (r := 1) rfl) ((h.of k8).1.r (by decide)) ?_
        refine gw_gRa 15 ((h.of k8).1.c (r := 1) rfl) ((h.of k8).1.r (by decide)) ?_
        refine gw_gR ((h.of k8).1.c (r := 15) rfl) (fun v11 ev11 => ?_)
        have cv11 : AfW s7.2 v11 := by rw [ev11]; exact (h.of k8).af
        refine gw_gRa 15 ((h.of k8).1.c (r := 1) rfl) ((h.of k8).1.r (by decide)) ?_
        refine gw_gI ((h.of k8).1.c (r := 15) rfl) (fun v12 ev12 => ?_)
        refine gw_if (ict.t (h.of k8).1 (Or.inr rfl)) ?_
        refine gw_bI (s_X2_holds (h.of k8) (Or.inr rfl) cv11) (fun x13 m13 z13 => ?_)
        replace z13 := z13.symm
        subst z13
        refine gw_lt (fun h72_14 => ?_) (fun h72_14 => ?_)
        ·
          refine gw_gRa 63 ((h.of k8).1.c (r := 1) rfl) ((h.of k8).1.r (by decide)) ?_
          refine gw_gRa 15 ((h.of k8).1.c (r := 1) rfl) ((h.of k8).1.r (by decide)) ?_
          refine gw_gI ((h.of k8).1.c (r := 15) rfl) (fun v15 ev15 => ?_)
          refine gw_if (ict.t (h.of k8).1 (Or.inr rfl)) ?_
          refine gw_bV (s_X2_passMinute (h.of k8) (Or.inr rfl)) (fun m16 g16 => ?_)
          have kk16 := k8.ch g16
          have n17 : (s7.1 + (1 : Int32)).toInt = s7.1.toInt + (1 : Int32).toInt := gx_add (by omega) (by omega)
          exact gw_some (gs_inl ⟨kk16, (by show 0 ≤ (s7.1 + (1 : Int32)).toInt ∧ (s7.1 + (1 : Int32)).toInt ≤ 61; omega)⟩ (by show (61 - (s7.1 + (1 : Int32)).toInt) < (61 - s7.1.toInt); omega) (by show 0 ≤ (61 - (s7.1 + (1 : Int32)).toInt); omega))
        ·
          exact gw_some (gs_inr (gq_I k8))
    ·
      exact gw_some (gq_I k0)
  ·
    exact gw_some (gq_I k0)
set_option maxHeartbeats 1000000 in
theorem s_X11_pieces {μ : gm_M} (h : CI μ) {a1 : Int32} {a2 : Int32}  : gwI (f_X11_pieces 1 a1 a2 μ) (fun x m => kc μ m) := by
  refine gwI_of ?_
  unfold f_X11_pieces
  have lm1 : (-1 : Int32).toInt = -1 := rfl
  have l0 : (0 : Int32).toInt = 0 := rfl
  have l1 : (1 : Int32).toInt = 1 := rfl
  have l6 : (6 : Int32).toInt = 6 := rfl
  have k0 := kc.refl μ
  refine gw_if ((h.of k0).1.t (r := 1) rfl) ?_
  refine gw_bI (s_X11_isNobody (h.of k0) ) (fun x1 m1 ⟨z1, f1⟩ => ?_)
  replace z1 := z1.symm
  subst z1
  refine gw_ne (fun h5_2 => ?_) (fun h5_2 => ?_)
  ·
    exact gw_some (gq_I k0)
  ·
    refine gw_bI (s_X11_isOutside ) (fun x3 m3 ⟨z3, f3⟩ => ?_)
    replace z3 := z3.symm
    subst z3
    refine gw_eq (fun h14_4 => ?_) (fun h14_4 => ?_)
    ·
      refine gw_loop (fun s5 => kc μ s5.2.2.2 ∧ (0 ≤ s5.2.2.1.toInt ∧ s5.2.2.1.toInt ≤ 7)) (fun s5 => (7 - s5.2.2.1.toInt)) (fun s5 ⟨k6, u7⟩ => ?_) 5000 ((-1 : Int32), (0 : Int32), (0 : Int32), μ) ⟨k0, (by show 0 ≤ (0 : Int32).toInt ∧ (0 : Int32).toInt ≤ 7; omega)⟩ (by show (7 - (0 : Int32).toInt) < ((5000 : Nat) : Int); omega) (by show 0 ≤ (7 - (0 : Int32).toInt); omega)
      refine gw_lt (fun h31_8 => ?_) (fun h31_8 => ?_)
      ·
        refine gw_ne (fun h114_9 => ?_) (fun h114_9 => ?_)
        ·
          exact gw_some (gs_inr (gq_I k6))
        ·
          exact gw_some (gs_inr (gq_I k6))
      ·
        refine gw_gRa 63 ((h.of k6).1.c (r := 1) rfl) ((h.of k6).1.r (by decide)) ?_
        refine gw_gRa 15 ((h.of k6).1.c (r := 1) rfl) ((h.of k6).1.r (by decide)) ?_
        refine gw_gRa 16 ((h.of k6).1.c (r := 15) rfl) ((h.of k6).1.r (by decide)) ?_
        refine gw_aR (i := a1) ((h.of k6).1.t (r := 16) rfl) ((h.of k6).1.l (r := 16) rfl) (by omega) (by omega) (fun v10 ev10 => ?_)
        have cv10 : isch v10 := by rw [ev10]; exact isch.of (h.of k6).1 (by omega) (by omega)
        refine gw_if (ict.t (h.of k6).1 (Or.inr rfl)) ?_
        refine gw_bV (s_X2_copy_63 (h.of k6) cv10) (fun m11 g11 => ?_)
        have kk11 := k6.trans g11
        refine gw_gRa 63 ((h.of kk11).1.c (r := 1) rfl) ((h.of kk11).1.r (by decide)) ?_
        refine gw_pI (ict.c (h.of kk11).1 (Or.inr rfl)) (fun m12 em12 => ?_)
        have km12 := kk11.wr em12 (by decide)
        refine gw_gRa 63 ((h.of km12).1.c (r := 1) rfl) ((h.of km12).1.r (by decide)) ?_
        refine gw_gRa 15 ((h.of km12).1.c (r := 1) rfl) ((h.of km12).1.r (by decide)) ?_
        refine gw_gR ((h.of km12).1.c (r := 15) rfl) (fun v13 ev13 => ?_)
        have cv13 : AfW m12 v13 := by rw [ev13]; exact (h.of km12).af
        refine gw_gI (cv13.tc) (fun v14 ev14 => ?_)
        refine gw_pI (ict.c (h.of km12).1 (Or.inr rfl)) (fun m15 em15 => ?_)
        have km15 := km12.wr em15 (by decide)
        refine gw_gRa 63 ((h.of km15).1.c (r := 1) rfl) ((h.of km15).1.r (by decide)) ?_
        refine gw_pI (ict.c (h.of km15).1 (Or.inr rfl)) (fun m16 em16 => ?_)
        have km16 := km15.wr em16 (by decide)
        refine gw_if ((h.of km16).1.t (r := 1) rfl) ?_
        refine gw_bI (s_X11_trialWhen (h.of km16) ) (fun x17 m17 g17 => ?_)
        have kk17 := km16.trans g17
        refine gw_j (fun s18 => True) (fun s18 _ => ?_) (fun j19 hj19 => ?_)
        ·
          have n20 : (s5.2.2.1 + (1 : Int32)).toInt = s5.2.2.1.toInt + (1 : Int32).toInt := gx_add (by omega) (by omega)
          exact gw_some (gs_inl ⟨kk17, (by show 0 ≤ (s5.2.2.1 + (1 : Int32)).toInt ∧ (s5.2.2.1 + (1 : Int32)).toInt ≤ 7; omega)⟩ (by show (7 - (s5.2.2.1 + (1 : Int32)).toInt) < (7 - s5.2.2.1.toInt); omega) (by show 0 ≤ (7 - (s5.2.2.1 + (1 : Int32)).toInt); omega))
        ·
          refine gw_le (fun h97_21 => ?_) (fun h97_21 => ?_)
          ·
            exact hj19 _ trivial
          ·
            exact hj19 _ trivial
    ·
      exact gw_some (gq_I k0)
set_option maxHeartbeats 1000000 in
theorem s_X11_breaths {μ : gm_M} (h : CI μ) {a1 : Int32} {a2 : Int32}  : gwI (f_X11_breaths 1 a1 a2 μ) (fun x m => kc μ m) := by
  refine gwI_of ?_
  unfold f_X11_breaths
  have lm2 : (-2 : Int32).toInt = -2 := rfl
  have lm1 : (-1 : Int32).toInt = -1 := rfl
  have l0 : (0 : Int32).toInt = 0 := rfl
  have l1 : (1 : Int32).toInt = 1 := rfl
  have l99 : (99 : Int32).toInt = 99 := rfl
  have k0 := kc.refl μ
  refine gw_if ((h.of k0).1.t (r := 1) rfl) ?_
  refine gw_bI (s_X11_isNobody (h.of k0) ) (fun x1 m1 ⟨z1, f1⟩ => ?_)
  replace z1 := z1.symm
  subst z1
  refine gw_eq (fun h5_2 => ?_) (fun h5_2 => ?_)
  ·
    refine gw_bI (s_X11_isOutside ) (fun x3 m3 ⟨z3, f3⟩ => ?_)
    replace z3 := z3.symm
    subst z3
    refine gw_eq (fun h17_4 => ?_) (fun h17_4 => ?_)
    ·
      refine gw_if ((h.of k0).1.t (r := 1) rfl) ?_
      refine gw_bI (s_X11_holdsNow (h.of k0) (by omega)) (fun x5 m5 z5 => ?_)
      replace z5 := z5.symm
      subst z5
      refine gw_gRa 15 ((h.of k0).1.c (r := 1) rfl) ((h.of k0).1.r (by decide)) ?_
      refine gw_gRa 16 ((h.of k0).1.c (r := 15) rfl) ((h.of k0).1.r (by decide)) ?_
      refine gw_aR (i := a1) ((h.of k0).1.t (r := 16) rfl) ((h.of k0).1.l (r := 16) rfl) (by omega) (by omega) (fun v6 ev6 => ?_)
      have cv6 : isch v6 := by rw [ev6]; exact isch.of (h.of k0).1 (by omega) (by omega)
      refine gw_gI (ict.c (h.of k0).1 (Or.inl cv6)) (fun v7 ev7 => ?_)
      refine gw_dv (by omega) ?_
      exact gw_some (gq_I k0)
    ·
      exact gw_some (gq_I k0)
  ·
    exact gw_some (gq_I k0)
set_option maxHeartbeats 1000000 in
theorem s_X11_slack {μ : gm_M} (h : CI μ) {a1 : Int32}  : gwI (f_X11_slack 1 a1 μ) (fun x m => kc μ m) := by
  refine gwI_of ?_
  unfold f_X11_slack
  have lm10001 : (-10001 : Int32).toInt = -10001 := rfl
  have l0 : (0 : Int32).toInt = 0 := rfl
  have k0 := kc.refl μ
  refine gw_if ((h.of k0).1.t (r := 1) rfl) ?_
  refine gw_bI (s_X11_isNobody (h.of k0) ) (fun x1 m1 ⟨z1, f1⟩ => ?_)
  replace z1 := z1.symm
  subst z1
  refine gw_eq (fun h5_2 => ?_) (fun h5_2 => ?_)
  ·
    refine gw_if ((h.of k0).1.t (r := 1) rfl) ?_
    refine gw_bI (s_X11_holdsNow (h.of k0) (by omega)) (fun x3 m3 z3 => ?_)
    replace z3 := z3.symm
    subst z3
    refine gw_gRa 15 ((h.of k0).1.c (r := 1) rfl) ((h.of k0).1.r (by decide)) ?_
    refine gw_gRa 16 ((h.of k0).1.c (r := 15) rfl) ((h.of k0).1.r (by decide)) ?_
    refine gw_aR (i := a1) ((h.of k0).1.t (r := 16) rfl) ((h.of k0).1.l (r := 16) rfl) (by omega) (by omega) (fun v4 ev4 => ?_)
    have cv4 : isch v4 := by rw [ev4]; exact isch.of (h.of k0).1 (by omega) (by omega)
    refine gw_gI (ict.c (h.of k0).1 (Or.inl cv4)) (fun v5 ev5 => ?_)
    exact gw_some (gq_I k0)
  ·
    exact gw_some (gq_I k0)
set_option maxHeartbeats 1000000 in
theorem s_X11_likely {μ : gm_M} (h : CI μ) {a1 : Int32} {a2 : Int32} {a3 : Int32}  : gwL (f_X11_likely 1 a1 a2 a3 μ) (fun x m => kc μ m) := by
  refine gwL_of ?_
  unfold f_X11_likely
  have l0 : (0 : Int32).toInt = 0 := rfl
  have l1 : (1 : Int32).toInt = 1 := rfl
  have l10 : (10 : Int32).toInt = 10 := rfl
  have l999 : (999 : Int32).toInt = 999 := rfl
  have k0 := kc.refl μ
  refine gw_if ((h.of k0).1.t (r := 1) rfl) ?_
  refine gw_bI (s_X11_isNobody (h.of k0) ) (fun x1 m1 ⟨z1, f1⟩ => ?_)
  replace z1 := z1.symm
  subst z1
  refine gw_j (fun s2 => kc μ s2) (fun s2 k4 => ?_) (fun j3 hj3 => ?_)
  ·
    exact gw_some (gq_L k4)
  ·
    refine gw_ne (fun h5_5 => ?_) (fun h5_5 => ?_)
    ·
      exact hj3 _ k0
    ·
      refine gw_bI (s_X11_isOutside ) (fun x6 m6 ⟨z6, f6⟩ => ?_)
      replace z6 := z6.symm
      subst z6
      refine gw_ne (fun h16_7 => ?_) (fun h16_7 => ?_)
      ·
        exact hj3 _ k0
      ·
        refine gw_bI (s_X11_isOutside ) (fun x8 m8 ⟨z8, f8⟩ => ?_)
        replace z8 := z8.symm
        subst z8
        refine gw_eq (fun h25_9 => ?_) (fun h25_9 => ?_)
        ·
          refine gw_if ((h.of k0).1.t (r := 1) rfl) ?_
          refine gw_bI (s_X11_holdsNow (h.of k0) (by omega)) (fun x10 m10 z10 => ?_)
          replace z10 := z10.symm
          subst z10
          refine gw_bI (s_X11_thinsBearing ) (fun x11 m11 z11 => ?_)
          replace z11 := z11.symm
          subst z11
          refine gw_bL (s_X11_fraction ) (fun x12 m12 z12 => ?_)
          replace z12 := z12.symm
          subst z12
          exact gw_some (gq_L k0)
        ·
          exact hj3 _ k0
set_option maxHeartbeats 1000000 in
theorem s_X11_dare {μ : gm_M} (h : CI μ) {a1 : Int32}  : gwI (f_X11_dare 1 a1 μ) (fun x m => kc μ m) := by
  refine gwI_of ?_
  unfold f_X11_dare
  have lm1 : (-1 : Int32).toInt = -1 := rfl
  have l0 : (0 : Int32).toInt = 0 := rfl
  have l9 : (9 : Int32).toInt = 9 := rfl
  have l999 : (999 : Int32).toInt = 999 := rfl
  have k0 := kc.refl μ
  refine gw_if ((h.of k0).1.t (r := 1) rfl) ?_
  refine gw_bI (s_X11_isNobody (h.of k0) ) (fun x1 m1 ⟨z1, f1⟩ => ?_)
  replace z1 := z1.symm
  subst z1
  refine gw_eq (fun h5_2 => ?_) (fun h5_2 => ?_)
  ·
    refine gw_if ((h.of k0).1.t (r := 1) rfl) ?_
    refine gw_bI (s_X11_holdsNow (h.of k0) (by omega)) (fun x3 m3 z3 => ?_)
    replace z3 := z3.symm
    subst z3
    refine gw_loop (fun s4 => kc μ s4.2.2.2 ∧ (-1 ≤ s4.2.2.1.toInt ∧ s4.2.2.1.toInt ≤ 9)) (fun s4 => (s4.2.2.1.toInt + 1)) (fun s4 ⟨k5, u6⟩ => ?_) 5000 ((0 : Int32), (0 : Int32), (9 : Int32), μ) ⟨k0, (by show -1 ≤ (9 : Int32).toInt ∧ (9 : Int32).toInt ≤ 9; omega)⟩ (by show ((9 : Int32).toInt + 1) < ((5000 : Nat) : Int); omega) (by show 0 ≤ ((9 : Int32).toInt + 1); omega)
    refine gw_lt (fun h27_7 => ?_) (fun h27_7 => ?_)
    ·
      exact gw_some (gs_inr (gq_I k5))
    ·
      refine gw_bI (s_X11_thinned ) (fun x8 m8 z8 => ?_)
      replace z8 := z8.symm
      subst z8
      refine gw_bI (s_X11_thinsBearing ) (fun x9 m9 z9 => ?_)
      replace z9 := z9.symm
      subst z9
      refine gw_j (fun s10 => True) (fun s10 _ => ?_) (fun j11 hj11 => ?_)
      ·
        have n12 : (s4.2.2.1 + (-1 : Int32)).toInt = s4.2.2.1.toInt + (-1 : Int32).toInt := gx_add (by omega) (by omega)
        obtain ⟨w13, hw13⟩ : ∃ w : Int32, w = (s4.2.2.1 + (-1 : Int32)) := ⟨_, rfl⟩
        rw [← hw13]
        rw [← hw13] at n12
        exact gw_some (gs_inl ⟨k5, (by show -1 ≤ w13.toInt ∧ w13.toInt ≤ 9; omega)⟩ (by show (w13.toInt + 1) < (s4.2.2.1.toInt + 1); omega) (by show 0 ≤ (w13.toInt + 1); omega))
      ·
        refine gw_le (fun h58_14 => ?_) (fun h58_14 => ?_)
        ·
          exact hj11 _ trivial
        ·
          exact hj11 _ trivial
  ·
    exact gw_some (gq_I k0)
set_option maxHeartbeats 1000000 in
theorem s_X11_first {μ : gm_M} (h : CI μ)   : gwI (f_X11_first 1 μ) (fun x m => kc μ m) := by
  refine gwI_of ?_
  unfold f_X11_first
  have lm5 : (-5 : Int32).toInt = -5 := rfl
  have lm1 : (-1 : Int32).toInt = -1 := rfl
  have l0 : (0 : Int32).toInt = 0 := rfl
  have l1 : (1 : Int32).toInt = 1 := rfl
  have k0 := kc.refl μ
  refine gw_loop (fun s1 => kc μ s1.2.2.2 ∧ (0 ≤ s1.2.2.1.toInt ∧ s1.2.2.1.toInt ≤ 5)) (fun s1 => (5 - s1.2.2.1.toInt)) (fun s1 ⟨k2, u3⟩ => ?_) 5000 ((-5 : Int32), (-1 : Int32), (0 : Int32), μ) ⟨k0, (by show 0 ≤ (0 : Int32).toInt ∧ (0 : Int32).toInt ≤ 5; omega)⟩ (by show (5 - (0 : Int32).toInt) < ((5000 : Nat) : Int); omega) (by show 0 ≤ (5 - (0 : Int32).toInt); omega)
  refine gw_gRa 15 ((h.of k2).1.c (r := 1) rfl) ((h.of k2).1.r (by decide)) ?_
  refine gw_gI ((h.of k2).1.c (r := 15) rfl) (fun v4 ev4 => ?_)
  have bv4 := (h.of k2).n1
  have dv4 : v4.toInt = (s1.2.2.2.2.1 15 1).toInt := by rw [ev4]
  have yv4 : v4.toInt = (μ.2.1 15 1).toInt := by rw [dv4, k2.row (by decide)]
  refine gw_le (fun h15_5 => ?_) (fun h15_5 => ?_)
  ·
    exact gw_some (gs_inr (gq_I k2))
  ·
    refine gw_if ((h.of k2).1.t (r := 1) rfl) ?_
    refine gw_bI (s_X11_holdsNow (h.of k2) (by omega)) (fun x6 m6 z6 => ?_)
    replace z6 := z6.symm
    subst z6
    refine gw_j (fun s7 => True) (fun s7 _ => ?_) (fun j8 hj8 => ?_)
    ·
      have n9 : (s1.2.2.1 + (1 : Int32)).toInt = s1.2.2.1.toInt + (1 : Int32).toInt := gx_add (by omega) (by omega)
      exact gw_some (gs_inl ⟨k2, (by show 0 ≤ (s1.2.2.1 + (1 : Int32)).toInt ∧ (s1.2.2.1 + (1 : Int32)).toInt ≤ 5; omega)⟩ (by show (5 - (s1.2.2.1 + (1 : Int32)).toInt) < (5 - s1.2.2.1.toInt); omega) (by show 0 ≤ (5 - (s1.2.2.1 + (1 : Int32)).toInt); omega))
    ·
      refine gw_le (fun h28_10 => ?_) (fun h28_10 => ?_)
      ·
        exact hj8 _ trivial
      ·
        exact hj8 _ trivial
set_option maxHeartbeats 1000000 in
theorem s_X11_beats {μ : gm_M} (h : CI μ) {a1 : Int32} {a2 : Int32} {a3 : Int32}  : gwL (f_X11_beats 1 a1 a2 a3 μ) (fun x m => kc μ m) := by
  refine gwL_of ?_
  unfold f_X11_beats
  have l0 : (0 : Int32).toInt = 0 := rfl
  have l1 : (1 : Int32).toInt = 1 := rfl
  have l10 : (10 : Int32).toInt = 10 := rfl
  have l100 : (100 : Int32).toInt = 100 := rfl
  have k0 := kc.refl μ
  refine gw_if ((h.of k0).1.t (r := 1) rfl) ?_
  refine gw_bI (s_X11_isNobody (h.of k0) ) (fun x1 m1 ⟨z1, f1⟩ => ?_)
  replace z1 := z1.symm
  subst z1
  refine gw_j (fun s2 => kc μ s2) (fun s2 k4 => ?_) (fun j3 hj3 => ?_)
  ·
    exact gw_some (gq_L k4)
  ·
    refine gw_ne (fun h5_5 => ?_) (fun h5_5 => ?_)
    ·
      exact hj3 _ k0
    ·
      refine gw_if ((h.of k0).1.t (r := 1) rfl) ?_
      refine gw_bI (s_X11_isNobody (h.of k0) ) (fun x6 m6 ⟨z6, f6⟩ => ?_)
      replace z6 := z6.symm
      subst z6
      refine gw_ne (fun h13_7 => ?_) (fun h13_7 => ?_)
      ·
        exact hj3 _ k0
      ·
        refine gw_bI (s_X11_isOutside ) (fun x8 m8 ⟨z8, f8⟩ => ?_)
        replace z8 := z8.symm
        subst z8
        refine gw_ne (fun h22_9 => ?_) (fun h22_9 => ?_)
        ·
          exact hj3 _ k0
        ·
          refine gw_ne (fun h27_10 => ?_) (fun h27_10 => ?_)
          ·
            refine gw_if ((h.of k0).1.t (r := 1) rfl) ?_
            refine gw_bI (s_X11_holdsNow (h.of k0) (by omega)) (fun x11 m11 z11 => ?_)
            replace z11 := z11.symm
            subst z11
            refine gw_if ((h.of k0).1.t (r := 1) rfl) ?_
            refine gw_bI (s_X11_holdsNow (h.of k0) (by omega)) (fun x12 m12 z12 => ?_)
            replace z12 := z12.symm
            subst z12
            refine gw_loop (fun s13 => kc μ s13.2.2 ∧ (0 ≤ s13.2.1.toInt ∧ s13.2.1.toInt ≤ 10)) (fun s13 => (10 - s13.2.1.toInt)) (fun s13 ⟨k14, u15⟩ => ?_) 5000 ((0 : Int32), (0 : Int32), μ) ⟨k0, (by show 0 ≤ (0 : Int32).toInt ∧ (0 : Int32).toInt ≤ 10; omega)⟩ (by show (10 - (0 : Int32).toInt) < ((5000 : Nat) : Int); omega) (by show 0 ≤ (10 - (0 : Int32).toInt); omega)
            refine gw_le (fun h58_16 => ?_) (fun h58_16 => ?_)
            ·
              refine gw_bL (s_X11_fraction ) (fun x17 m17 z17 => ?_)
              replace z17 := z17.symm
              subst z17
              exact gw_some (gs_inr (gq_L k14))
            ·
              refine gw_bI (s_X11_thinned ) (fun x18 m18 z18 => ?_)
              replace z18 := z18.symm
              subst z18
              refine gw_bI (s_X11_thinsBelow ) (fun x19 m19 z19 => ?_)
              replace z19 := z19.symm
              subst z19
              have n20 : (s13.2.1 + (1 : Int32)).toInt = s13.2.1.toInt + (1 : Int32).toInt := gx_add (by omega) (by omega)
              exact gw_some (gs_inl ⟨k14, (by show 0 ≤ (s13.2.1 + (1 : Int32)).toInt ∧ (s13.2.1 + (1 : Int32)).toInt ≤ 10; omega)⟩ (by show (10 - (s13.2.1 + (1 : Int32)).toInt) < (10 - s13.2.1.toInt); omega) (by show 0 ≤ (10 - (s13.2.1 + (1 : Int32)).toInt); omega))
          ·
            exact hj3 _ k0
set_option maxHeartbeats 1000000 in
theorem s_X11_swap {μ : gm_M} (h : CI μ)   : gwI (f_X11_swap 1 μ) (fun x m => kc μ m) := by
  refine gwI_of ?_
  unfold f_X11_swap
  have lm5 : (-5 : Int32).toInt = -5 := rfl
  have l0 : (0 : Int32).toInt = 0 := rfl
  have l1 : (1 : Int32).toInt = 1 := rfl
  have l10 : (10 : Int32).toInt = 10 := rfl
  have k0 := kc.refl μ
  refine gw_loop (fun s1 => kc μ s1.2.2.2 ∧ (0 ≤ s1.2.2.1.toInt ∧ s1.2.2.1.toInt ≤ 5)) (fun s1 => (5 - s1.2.2.1.toInt)) (fun s1 ⟨k2, u3⟩ => ?_) 5000 ((0 : Int32), (-5 : Int32), (0 : Int32), μ) ⟨k0, (by show 0 ≤ (0 : Int32).toInt ∧ (0 : Int32).toInt ≤ 5; omega)⟩ (by show (5 - (0 : Int32).toInt) < ((5000 : Nat) : Int); omega) (by show 0 ≤ (5 - (0 : Int32).toInt); omega)
  refine gw_gRa 15 ((h.of k2).1.c (r := 1) rfl) ((h.of k2).1.r (by decide)) ?_
  refine gw_gI ((h.of k2).1.c (r := 15) rfl) (fun v4 ev4 => ?_)
  have bv4 := (h.of k2).n1
  have dv4 : v4.toInt = (s1.2.2.2.2.1 15 1).toInt := by rw [ev4]
  have yv4 : v4.toInt = (μ.2.1 15 1).toInt := by rw [dv4, k2.row (by decide)]
  refine gw_le (fun h15_5 => ?_) (fun h15_5 => ?_)
  ·
    exact gw_some (gs_inr (gq_I k2))
  ·
    have n7 : (s1.2.2.1 + (1 : Int32)).toInt = s1.2.2.1.toInt + (1 : Int32).toInt := gx_add (by omega) (by omega)
    refine gw_loop (fun s6 => kc μ s6.2.2.2 ∧ (0 ≤ s6.2.2.1.toInt ∧ s6.2.2.1.toInt ≤ 5)) (fun s6 => (5 - s6.2.2.1.toInt)) (fun s6 ⟨k8, u9⟩ => ?_) 5000 (s1.1, s1.2.1, (s1.2.2.1 + (1 : Int32)), s1.2.2.2) ⟨k2, (by show 0 ≤ (s1.2.2.1 + (1 : Int32)).toInt ∧ (s1.2.2.1 + (1 : Int32)).toInt ≤ 5; omega)⟩ (by show (5 - (s1.2.2.1 + (1 : Int32)).toInt) < ((5000 : Nat) : Int); omega) (by show 0 ≤ (5 - (s1.2.2.1 + (1 : Int32)).toInt); omega)
    refine gw_gRa 15 ((h.of k8).1.c (r := 1) rfl) ((h.of k8).1.r (by decide)) ?_
    refine gw_gI ((h.of k8).1.c (r := 15) rfl) (fun v10 ev10 => ?_)
    have bv10 := (h.of k8).n1
    have dv10 : v10.toInt = (s6.2.2.2.2.1 15 1).toInt := by rw [ev10]
    have yv10 : v10.toInt = (μ.2.1 15 1).toInt := by rw [dv10, k8.row (by decide)]
    refine gw_le (fun h32_11 => ?_) (fun h32_11 => ?_)
    ·
      have n12 : (s1.2.2.1 + (1 : Int32)).toInt = s1.2.2.1.toInt + (1 : Int32).toInt := gx_add (by omega) (by omega)
      exact gw_some (gs_inr (gs_inl ⟨k8, (by show 0 ≤ (s1.2.2.1 + (1 : Int32)).toInt ∧ (s1.2.2.1 + (1 : Int32)).toInt ≤ 5; omega)⟩ (by show (5 - (s1.2.2.1 + (1 : Int32)).toInt) < (5 - s1.2.2.1.toInt); omega) (by show 0 ≤ (5 - (s1.2.2.1 + (1 : Int32)).toInt); omega)))
    ·
      refine gw_if ((h.of k8).1.t (r := 1) rfl) ?_
      refine gw_bI (s_X11_holdsWithGumOf (h.of k8) (by omega) (by omega)) (fun x13 m13 g13 => ?_)
      have kk13 := k8.trans g13
      refine gw_if ((h.of kk13).1.t (r := 1) rfl) ?_
      refine gw_bI (s_X11_holdsWithGumOf (h.of kk13) (by omega) (by omega)) (fun x14 m14 g14 => ?_)
      have kk14 := kk13.trans g14
      refine gw_if ((h.of kk14).1.t (r := 1) rfl) ?_
      refine gw_bI (s_X11_holdsNow (h.of kk14) (by omega)) (fun x15 m15 z15 => ?_)
      replace z15 := z15.symm
      subst z15
      refine gw_if ((h.of kk14).1.t (r := 1) rfl) ?_
      refine gw_bI (s_X11_holdsNow (h.of kk14) (by omega)) (fun x16 m16 z16 => ?_)
      replace z16 := z16.symm
      subst z16
      refine gw_j (fun s17 => True) (fun s17 _ => ?_) (fun j18 hj18 => ?_)
      ·
        have n19 : (s6.2.2.1 + (1 : Int32)).toInt = s6.2.2.1.toInt + (1 : Int32).toInt := gx_add (by omega) (by omega)
        exact gw_some (gs_inl ⟨kk14, (by show 0 ≤ (s6.2.2.1 + (1 : Int32)).toInt ∧ (s6.2.2.1 + (1 : Int32)).toInt ≤ 5; omega)⟩ (by show (5 - (s6.2.2.1 + (1 : Int32)).toInt) < (5 - s6.2.2.1.toInt); omega) (by show 0 ≤ (5 - (s6.2.2.1 + (1 : Int32)).toInt); omega))
      ·
        refine gw_le (fun h68_20 => ?_) (fun h68_20 => ?_)
        ·
          exact hj18 _ trivial
        ·
          exact hj18 _ trivial
set_option maxHeartbeats 1000000 in
theorem s_X11_order {μ : gm_M} (h : CI μ) {a1 : Int32}  : gwI (f_X11_order 1 a1 μ) (fun x m => kc μ m) := by
  refine gwI_of ?_
  unfold f_X11_order
  have lm5 : (-5 : Int32).toInt = -5 := rfl
  have lm1 : (-1 : Int32).toInt = -1 := rfl
  have l0 : (0 : Int32).toInt = 0 := rfl
  have l1 : (1 : Int32).toInt = 1 := rfl
  have l4 : (4 : Int32).toInt = 4 := rfl
  have k0 := kc.refl μ
  refine gw_bI (s_X11_isOutside ) (fun x1 m1 ⟨z1, f1⟩ => ?_)
  replace z1 := z1.symm
  subst z1
  refine gw_eq (fun h6_2 => ?_) (fun h6_2 => ?_)
  ·
    refine gw_gRa 15 ((h.of k0).1.c (r := 1) rfl) ((h.of k0).1.r (by decide)) ?_
    refine gw_gI ((h.of k0).1.c (r := 15) rfl) (fun v3 ev3 => ?_)
    have bv3 := (h.of k0).n1
    have dv3 : v3.toInt = (μ.2.1 15 1).toInt := by rw [ev3]
    refine gw_lt (fun h19_4 => ?_) (fun h19_4 => ?_)
    ·
      refine gw_loop (fun s5 => kc μ s5.2 ∧ (0 ≤ s5.1.toInt ∧ s5.1.toInt ≤ 5)) (fun s5 => (5 - s5.1.toInt)) (fun s5 ⟨k6, u7⟩ => ?_) 5000 ((0 : Int32), μ) ⟨k0, (by show 0 ≤ (0 : Int32).toInt ∧ (0 : Int32).toInt ≤ 5; omega)⟩ (by show (5 - (0 : Int32).toInt) < ((5000 : Nat) : Int); omega) (by show 0 ≤ (5 - (0 : Int32).toInt); omega)
      refine gw_gRa 15 ((h.of k6).1.c (r := 1) rfl) ((h.of k6).1.r (by decide)) ?_
      refine gw_gI ((h.of k6).1.c (r := 15) rfl) (fun v8 ev8 => ?_)
      have bv8 := (h.of k6).n1
      have dv8 : v8.toInt = (s5.2.2.1 15 1).toInt := by rw [ev8]
      have yv8 : v8.toInt = (μ.2.1 15 1).toInt := by rw [dv8, k6.row (by decide)]
      refine gw_le (fun h35_9 => ?_) (fun h35_9 => ?_)
      ·
        refine gw_pI ((h.of k6).1.c (r := 1) rfl) (fun m10 em10 => ?_)
        have km10 := k6.w1 em10
        refine gw_if ((h.of km10).1.t (r := 1) rfl) ?_
        refine gw_bV (s_X11_arrange (h.of km10) (by omega)) (fun m11 g11 => ?_)
        have kk11 := km10.trans g11
        refine gw_le (fun h62_12 => ?_) (fun h62_12 => ?_)
        ·
          refine gw_gRa 7 ((h.of kk11).1.c (r := 1) rfl) ((h.of kk11).1.r (by decide)) ?_
          refine gw_aI (i := a1) ((h.of kk11).1.t (r := 7) rfl) ((h.of kk11).1.l (r := 7) rfl) (by omega) (by omega) (fun v13 ev13 => ?_)
          exact gw_some (gs_inr (gq_I kk11))
        ·
          refine gw_gI ((h.of kk11).1.c (r := 1) rfl) (fun v14 ev14 => ?_)
          exact gw_some (gs_inr (gq_I kk11))
      ·
        refine gw_if ((h.of k6).1.t (r := 1) rfl) ?_
        refine gw_bV (s_X11_fillBehind (h.of k6) (by omega)) (fun m15 g15 => ?_)
        have kk15 := k6.trans g15
        have n16 : (s5.1 + (1 : Int32)).toInt = s5.1.toInt + (1 : Int32).toInt := gx_add (by omega) (by omega)
        exact gw_some (gs_inl ⟨kk15, (by show 0 ≤ (s5.1 + (1 : Int32)).toInt ∧ (s5.1 + (1 : Int32)).toInt ≤ 5; omega)⟩ (by show (5 - (s5.1 + (1 : Int32)).toInt) < (5 - s5.1.toInt); omega) (by show 0 ≤ (5 - (s5.1 + (1 : Int32)).toInt); omega))
    ·
      exact gw_some (gq_I k0)
  ·
    exact gw_some (gq_I k0)
set_option maxHeartbeats 1000000 in
theorem s_X11_clean {μ : gm_M} (h : CI μ) {a1 : Int32} {a2 : Int32}  : gwI (f_X11_clean 1 a1 a2 μ) (fun x m => kc μ m) := by
  refine gwI_of ?_
  unfold f_X11_clean
  have lm2 : (-2 : Int32).toInt = -2 := rfl
  have lm1 : (-1 : Int32).toInt = -1 := rfl
  have l0 : (0 : Int32).toInt = 0 := rfl
  have l1 : (1 : Int32).toInt = 1 := rfl
  have l99 : (99 : Int32).toInt = 99 := rfl
  have k0 := kc.refl μ
  refine gw_if ((h.of k0).1.t (r := 1) rfl) ?_
  refine gw_bI (s_X11_isNobody (h.of k0) ) (fun x1 m1 ⟨z1, f1⟩ => ?_)
  replace z1 := z1.symm
  subst z1
  refine gw_eq (fun h5_2 => ?_) (fun h5_2 => ?_)
  ·
    refine gw_bI (s_X11_isOutside ) (fun x3 m3 ⟨z3, f3⟩ => ?_)
    replace z3 := z3.symm
    subst z3
    refine gw_eq (fun h17_4 => ?_) (fun h17_4 => ?_)
    ·
      refine gw_gRa 15 ((h.of k0).1.c (r := 1) rfl) ((h.of k0).1.r (by decide)) ?_
      refine gw_gRa 16 ((h.of k0).1.c (r := 15) rfl) ((h.of k0).1.r (by decide)) ?_
      refine gw_aR (i := a1) ((h.of k0).1.t (r := 16) rfl) ((h.of k0).1.l (r := 16) rfl) (by omega) (by omega) (fun v5 ev5 => ?_)
      have cv5 : isch v5 := by rw [ev5]; exact isch.of (h.of k0).1 (by omega) (by omega)
      refine gw_gI (ict.c (h.of k0).1 (Or.inl cv5)) (fun v6 ev6 => ?_)
      refine gw_dv (by omega) ?_
      exact gw_some (gq_I k0)
    ·
      exact gw_some (gq_I k0)
  ·
    exact gw_some (gq_I k0)
set_option maxHeartbeats 1000000 in
theorem s_X11_who {μ : gm_M} (h : CI μ) {a1 : Int32} {a2 : Int32}  : gwI (f_X11_who 1 a1 a2 μ) (fun x m => kc μ m) := by
  refine gwI_of ?_
  unfold f_X11_who
  have lm2 : (-2 : Int32).toInt = -2 := rfl
  have l0 : (0 : Int32).toInt = 0 := rfl
  have l1 : (1 : Int32).toInt = 1 := rfl
  have l40 : (40 : Int32).toInt = 40 := rfl
  have l999 : (999 : Int32).toInt = 999 := rfl
  have k0 := kc.refl μ
  refine gw_bI (s_X11_isOutside ) (fun x1 m1 ⟨z1, f1⟩ => ?_)
  replace z1 := z1.symm
  subst z1
  refine gw_ne (fun h8_2 => ?_) (fun h8_2 => ?_)
  ·
    exact gw_some (gq_I k0)
  ·
    refine gw_bI (s_X11_isOutside ) (fun x3 m3 ⟨z3, f3⟩ => ?_)
    replace z3 := z3.symm
    subst z3
    refine gw_eq (fun h18_4 => ?_) (fun h18_4 => ?_)
    ·
      refine gw_loop (fun s5 => kc μ s5.2.2 ∧ (0 ≤ s5.2.1.toInt ∧ s5.2.1.toInt ≤ 5)) (fun s5 => (5 - s5.2.1.toInt)) (fun s5 ⟨k6, u7⟩ => ?_) 5000 ((0 : Int32), (0 : Int32), μ) ⟨k0, (by show 0 ≤ (0 : Int32).toInt ∧ (0 : Int32).toInt ≤ 5; omega)⟩ (by show (5 - (0 : Int32).toInt) < ((5000 : Nat) : Int); omega) (by show 0 ≤ (5 - (0 : Int32).toInt); omega)
      refine gw_gRa 15 ((h.of k6).1.c (r := 1) rfl) ((h.of k6).1.r (by decide)) ?_
      refine gw_gI ((h.of k6).1.c (r := 15) rfl) (fun v8 ev8 => ?_)
      have bv8 := (h.of k6).n1
      have dv8 : v8.toInt = (s5.2.2.2.1 15 1).toInt := by rw [ev8]
      have yv8 : v8.toInt = (μ.2.1 15 1).toInt := by rw [dv8, k6.row (by decide)]
      refine gw_le (fun h38_9 => ?_) (fun h38_9 => ?_)
      ·
        exact gw_some (gs_inr (gq_I k6))
      ·
        refine gw_if ((h.of k6).1.t (r := 1) rfl) ?_
        refine gw_bI (s_X11_holdsBehind (h.of k6) (by omega) (by omega)) (fun x10 m10 g10 => ?_)
        have kk10 := k6.trans g10
        refine gw_j (fun s11 => True) (fun s11 _ => ?_) (fun j12 hj12 => ?_)
        ·
          have n13 : (s5.2.1 + (1 : Int32)).toInt = s5.2.1.toInt + (1 : Int32).toInt := gx_add (by omega) (by omega)
          exact gw_some (gs_inl ⟨kk10, (by show 0 ≤ (s5.2.1 + (1 : Int32)).toInt ∧ (s5.2.1 + (1 : Int32)).toInt ≤ 5; omega)⟩ (by show (5 - (s5.2.1 + (1 : Int32)).toInt) < (5 - s5.2.1.toInt); omega) (by show 0 ≤ (5 - (s5.2.1 + (1 : Int32)).toInt); omega))
        ·
          refine gw_ne (fun h49_14 => ?_) (fun h49_14 => ?_)
          ·
            exact hj12 _ trivial
          ·
            exact hj12 _ trivial
    ·
      exact gw_some (gq_I k0)
set_option maxHeartbeats 1000000 in
theorem s_X11_firm {μ : gm_M} (h : CI μ) {a1 : Int32} {a2 : Int32}  : gwI (f_X11_firm 1 a1 a2 μ) (fun x m => kc μ m) := by
  refine gwI_of ?_
  unfold f_X11_firm
  have lm5 : (-5 : Int32).toInt = -5 := rfl
  have lm1 : (-1 : Int32).toInt = -1 := rfl
  have l0 : (0 : Int32).toInt = 0 := rfl
  have l1 : (1 : Int32).toInt = 1 := rfl
  have l9 : (9 : Int32).toInt = 9 := rfl
  have k0 := kc.refl μ
  refine gw_if ((h.of k0).1.t (r := 1) rfl) ?_
  refine gw_bI (s_X11_isNobody (h.of k0) ) (fun x1 m1 ⟨z1, f1⟩ => ?_)
  replace z1 := z1.symm
  subst z1
  refine gw_ne (fun h5_2 => ?_) (fun h5_2 => ?_)
  ·
    exact gw_some (gq_I k0)
  ·
    refine gw_bI (s_X11_isOutside ) (fun x3 m3 ⟨z3, f3⟩ => ?_)
    replace z3 := z3.symm
    subst z3
    refine gw_eq (fun h14_4 => ?_) (fun h14_4 => ?_)
    ·
      refine gw_loop (fun s5 => kc μ s5.2.2.2 ∧ (-1 ≤ s5.2.2.1.toInt ∧ s5.2.2.1.toInt ≤ 9)) (fun s5 => (s5.2.2.1.toInt + 1)) (fun s5 ⟨k6, u7⟩ => ?_) 5000 ((0 : Int32), (-5 : Int32), (9 : Int32), μ) ⟨k0, (by show -1 ≤ (9 : Int32).toInt ∧ (9 : Int32).toInt ≤ 9; omega)⟩ (by show ((9 : Int32).toInt + 1) < ((5000 : Nat) : Int); omega) (by show 0 ≤ ((9 : Int32).toInt + 1); omega)
      refine gw_lt (fun h31_8 => ?_) (fun h31_8 => ?_)
      ·
        refine gw_ne (fun h70_9 => ?_) (fun h70_9 => ?_)
        ·
          exact gw_some (gs_inr (gq_I k6))
        ·
          exact gw_some (gs_inr (gq_I k6))
      ·
        refine gw_gRa 15 ((h.of k6).1.c (r := 1) rfl) ((h.of k6).1.r (by decide)) ?_
        refine gw_gRa 16 ((h.of k6).1.c (r := 15) rfl) ((h.of k6).1.r (by decide)) ?_
        refine gw_aR (i := a1) ((h.of k6).1.t (r := 16) rfl) ((h.of k6).1.l (r := 16) rfl) (by omega) (by omega) (fun v10 ev10 => ?_)
        have cv10 : isch v10 := by rw [ev10]; exact isch.of (h.of k6).1 (by omega) (by omega)
        refine gw_gI (ict.c (h.of k6).1 (Or.inl cv10)) (fun v11 ev11 => ?_)
        refine gw_if ((h.of k6).1.t (r := 1) rfl) ?_
        refine gw_bI (s_X11_isAllSeen (h.of k6) ) (fun x12 m12 ⟨g12, f12⟩ => ?_)
        have kk12 := k6.trans g12
        refine gw_j (fun s13 => True) (fun s13 _ => ?_) (fun j14 hj14 => ?_)
        ·
          have n15 : (s5.2.2.1 + (-1 : Int32)).toInt = s5.2.2.1.toInt + (-1 : Int32).toInt := gx_add (by omega) (by omega)
          obtain ⟨w16, hw16⟩ : ∃ w : Int32, w = (s5.2.2.1 + (-1 : Int32)) := ⟨_, rfl⟩
          rw [← hw16]
          rw [← hw16] at n15
          exact gw_some (gs_inl ⟨kk12, (by show -1 ≤ w16.toInt ∧ w16.toInt ≤ 9; omega)⟩ (by show (w16.toInt + 1) < (s5.2.2.1.toInt + 1); omega) (by show 0 ≤ (w16.toInt + 1); omega))
        ·
          refine gw_eq (fun h53_17 => ?_) (fun h53_17 => ?_)
          ·
            exact hj14 _ trivial
          ·
            exact hj14 _ trivial
    ·
      exact gw_some (gq_I k0)
set_option maxHeartbeats 1000000 in
theorem s_X11_had {μ : gm_M} (h : CI μ) {a1 : Int32}  : gwI (f_X11_had 1 a1 μ) (fun x m => kc μ m) := by
  refine gwI_of ?_
  unfold f_X11_had
  have lm1 : (-1 : Int32).toInt = -1 := rfl
  have l0 : (0 : Int32).toInt = 0 := rfl
  have l1 : (1 : Int32).toInt = 1 := rfl
  have l6 : (6 : Int32).toInt = 6 := rfl
  have k0 := kc.refl μ
  refine gw_if ((h.of k0).1.t (r := 1) rfl) ?_
  refine gw_bI (s_X11_isNobody (h.of k0) ) (fun x1 m1 ⟨z1, f1⟩ => ?_)
  replace z1 := z1.symm
  subst z1
  refine gw_eq (fun h5_2 => ?_) (fun h5_2 => ?_)
  ·
    refine gw_loop (fun s3 => kc μ s3.2.2 ∧ (0 ≤ s3.2.1.toInt ∧ s3.2.1.toInt ≤ 7)) (fun s3 => (7 - s3.2.1.toInt)) (fun s3 ⟨k4, u5⟩ => ?_) 5000 ((0 : Int32), (0 : Int32), μ) ⟨k0, (by show 0 ≤ (0 : Int32).toInt ∧ (0 : Int32).toInt ≤ 7; omega)⟩ (by show (7 - (0 : Int32).toInt) < ((5000 : Nat) : Int); omega) (by show 0 ≤ (7 - (0 : Int32).toInt); omega)
    refine gw_lt (fun h17_6 => ?_) (fun h17_6 => ?_)
    ·
      exact gw_some (gs_inr (gq_I k4))
    ·
      refine gw_gRa 15 ((h.of k4).1.c (r := 1) rfl) ((h.of k4).1.r (by decide)) ?_
      refine gw_gRa 16 ((h.of k4).1.c (r := 15) rfl) ((h.of k4).1.r (by decide)) ?_
      refine gw_aR (i := a1) ((h.of k4).1.t (r := 16) rfl) ((h.of k4).1.l (r := 16) rfl) (by omega) (by omega) (fun v7 ev7 => ?_)
      have cv7 : isch v7 := by rw [ev7]; exact isch.of (h.of k4).1 (by omega) (by omega)
      refine gw_gI (ict.c (h.of k4).1 (Or.inl cv7)) (fun v8 ev8 => ?_)
      refine gw_if ((h.of k4).1.t (r := 1) rfl) ?_
      refine gw_bI (s_X11_isAllSeen (h.of k4) ) (fun x9 m9 ⟨g9, f9⟩ => ?_)
      have kk9 := k4.trans g9
      refine gw_j (fun s10 => True) (fun s10 _ => ?_) (fun j11 hj11 => ?_)
      ·
        have n12 : (s3.2.1 + (1 : Int32)).toInt = s3.2.1.toInt + (1 : Int32).toInt := gx_add (by omega) (by omega)
        exact gw_some (gs_inl ⟨kk9, (by show 0 ≤ (s3.2.1 + (1 : Int32)).toInt ∧ (s3.2.1 + (1 : Int32)).toInt ≤ 7; omega)⟩ (by show (7 - (s3.2.1 + (1 : Int32)).toInt) < (7 - s3.2.1.toInt); omega) (by show 0 ≤ (7 - (s3.2.1 + (1 : Int32)).toInt); omega))
      ·
        refine gw_eq (fun h38_13 => ?_) (fun h38_13 => ?_)
        ·
          exact hj11 _ trivial
        ·
          exact hj11 _ trivial
  ·
    exact gw_some (gq_I k0)
set_option maxHeartbeats 1000000 in
theorem s_X11_mean {μ : gm_M} (h : CI μ) {a1 : Int32} {a2 : Int32}  : gwL (f_X11_mean 1 a1 a2 μ) (fun x m => kc μ m) := by
  refine gwL_of ?_
  unfold f_X11_mean
  have l0 : (0 : Int32).toInt = 0 := rfl
  have l1 : (1 : Int32).toInt = 1 := rfl
  have l60 : (60 : Int32).toInt = 60 := rfl
  have k0 := kc.refl μ
  refine gw_bI (s_X11_isOutside ) (fun x1 m1 ⟨z1, f1⟩ => ?_)
  replace z1 := z1.symm
  subst z1
  refine gw_j (fun s2 => kc μ s2) (fun s2 k4 => ?_) (fun j3 hj3 => ?_)
  ·
    exact gw_some (gq_L k4)
  ·
    refine gw_ne (fun h7_5 => ?_) (fun h7_5 => ?_)
    ·
      exact hj3 _ k0
    ·
      refine gw_bI (s_X11_isOutside ) (fun x6 m6 ⟨z6, f6⟩ => ?_)
      replace z6 := z6.symm
      subst z6
      refine gw_ne (fun h16_7 => ?_) (fun h16_7 => ?_)
      ·
        exact hj3 _ k0
      ·
        refine gw_gRa 15 ((h.of k0).1.c (r := 1) rfl) ((h.of k0).1.r (by decide)) ?_
        refine gw_gI ((h.of k0).1.c (r := 15) rfl) (fun v8 ev8 => ?_)
        have bv8 := (h.of k0).n1
        have dv8 : v8.toInt = (μ.2.1 15 1).toInt := by rw [ev8]
        refine gw_ne (fun h26_9 => ?_) (fun h26_9 => ?_)
        ·
          refine gw_if ((h.of k0).1.t (r := 1) rfl) ?_
          refine gw_bI (s_X11_sumBehind (h.of k0) (by omega)) (fun x10 m10 g10 => ?_)
          have kk10 := k0.trans g10
          refine gw_gRa 15 ((h.of kk10).1.c (r := 1) rfl) ((h.of kk10).1.r (by decide)) ?_
          refine gw_gI ((h.of kk10).1.c (r := 15) rfl) (fun v11 ev11 => ?_)
          have bv11 := (h.of kk10).n1
          have dv11 : v11.toInt = (m10.2.1 15 1).toInt := by rw [ev11]
          have yv11 : v11.toInt = (μ.2.1 15 1).toInt := by rw [dv11, kk10.row (by decide)]
          refine gw_bL (s_X11_fraction ) (fun x12 m12 z12 => ?_)
          replace z12 := z12.symm
          subst z12
          exact gw_some (gq_L kk10)
        ·
          exact hj3 _ k0
set_option maxHeartbeats 1000000 in
theorem s_X11_done {μ : gm_M} (h : CI μ) {a1 : Int32}  : gwI (f_X11_done 1 a1 μ) (fun x m => kc μ m) := by
  refine gwI_of ?_
  unfold f_X11_done
  have lm1 : (-1 : Int32).toInt = -1 := rfl
  have l0 : (0 : Int32).toInt = 0 := rfl
  have l1 : (1 : Int32).toInt = 1 := rfl
  have k0 := kc.refl μ
  refine gw_bI (s_X11_isOutside ) (fun x1 m1 ⟨z1, f1⟩ => ?_)
  replace z1 := z1.symm
  subst z1
  refine gw_eq (fun h6_2 => ?_) (fun h6_2 => ?_)
  ·
    refine gw_loop (fun s3 => kc μ s3.2.2 ∧ (0 ≤ s3.2.1.toInt ∧ s3.2.1.toInt ≤ 5)) (fun s3 => (5 - s3.2.1.toInt)) (fun s3 ⟨k4, u5⟩ => ?_) 5000 ((0 : Int32), (0 : Int32), μ) ⟨k0, (by show 0 ≤ (0 : Int32).toInt ∧ (0 : Int32).toInt ≤ 5; omega)⟩ (by show (5 - (0 : Int32).toInt) < ((5000 : Nat) : Int); omega) (by show 0 ≤ (5 - (0 : Int32).toInt); omega)
    refine gw_gRa 15 ((h.of k4).1.c (r := 1) rfl) ((h.of k4).1.r (by decide)) ?_
    refine gw_gI ((h.of k4).1.c (r := 15) rfl) (fun v6 ev6 => ?_)
    have bv6 := (h.of k4).n1
    have dv6 : v6.toInt = (s3.2.2.2.1 15 1).toInt := by rw [ev6]
    have yv6 : v6.toInt = (μ.2.1 15 1).toInt := by rw [dv6, k4.row (by decide)]
    refine gw_le (fun h23_7 => ?_) (fun h23_7 => ?_)
    ·
      exact gw_some (gs_inr (gq_I k4))
    ·
      refine gw_gRa 63 ((h.of k4).1.c (r := 1) rfl) ((h.of k4).1.r (by decide)) ?_
      refine gw_gRa 15 ((h.of k4).1.c (r := 1) rfl) ((h.of k4).1.r (by decide)) ?_
      refine gw_gRa 16 ((h.of k4).1.c (r := 15) rfl) ((h.of k4).1.r (by decide)) ?_
      refine gw_aR (i := s3.2.1) ((h.of k4).1.t (r := 16) rfl) ((h.of k4).1.l (r := 16) rfl) (by omega) (by omega) (fun v8 ev8 => ?_)
      have cv8 : isch v8 := by rw [ev8]; exact isch.of (h.of k4).1 (by omega) (by omega)
      refine gw_if (ict.t (h.of k4).1 (Or.inr rfl)) ?_
      refine gw_bV (s_X2_copy_63 (h.of k4) cv8) (fun m9 g9 => ?_)
      have kk9 := k4.trans g9
      refine gw_if ((h.of kk9).1.t (r := 1) rfl) ?_
      refine gw_bV (s_X11_tryPlan (h.of kk9) ) (fun m10 g10 => ?_)
      have kk10 := kk9.trans g10
      refine gw_j (fun s11 => True) (fun s11 _ => ?_) (fun j12 hj12 => ?_)
      ·
        have n13 : (s3.2.1 + (1 : Int32)).toInt = s3.2.1.toInt + (1 : Int32).toInt := gx_add (by omega) (by omega)
        exact gw_some (gs_inl ⟨kk10, (by show 0 ≤ (s3.2.1 + (1 : Int32)).toInt ∧ (s3.2.1 + (1 : Int32)).toInt ≤ 5; omega)⟩ (by show (5 - (s3.2.1 + (1 : Int32)).toInt) < (5 - s3.2.1.toInt); omega) (by show 0 ≤ (5 - (s3.2.1 + (1 : Int32)).toInt); omega))
      ·
        refine gw_ne (fun h48_14 => ?_) (fun h48_14 => ?_)
        ·
          refine gw_gRa 63 ((h.of kk10).1.c (r := 1) rfl) ((h.of kk10).1.r (by decide)) ?_
          refine gw_gI (ict.c (h.of kk10).1 (Or.inr rfl)) (fun v15 ev15 => ?_)
          refine gw_gRa 15 ((h.of kk10).1.c (r := 1) rfl) ((h.of kk10).1.r (by decide)) ?_
          refine gw_gRa 16 ((h.of kk10).1.c (r := 15) rfl) ((h.of kk10).1.r (by decide)) ?_
          refine gw_aR (i := s3.2.1) ((h.of kk10).1.t (r := 16) rfl) ((h.of kk10).1.l (r := 16) rfl) (by omega) (by omega) (fun v16 ev16 => ?_)
          have cv16 : isch v16 := by rw [ev16]; exact isch.of (h.of kk10).1 (by omega) (by omega)
          refine gw_gI (ict.c (h.of kk10).1 (Or.inl cv16)) (fun v17 ev17 => ?_)
          exact hj12 _ trivial
        ·
          refine gw_gRa 63 ((h.of kk10).1.c (r := 1) rfl) ((h.of kk10).1.r (by decide)) ?_
          refine gw_gI (ict.c (h.of kk10).1 (Or.inr rfl)) (fun v18 ev18 => ?_)
          exact hj12 _ trivial
  ·
    exact gw_some (gq_I k0)
set_option maxHeartbeats 1000000 in
theorem s_X11_looked {μ : gm_M} (h : CI μ)   : gwI (f_X11_looked 1 μ) (fun x m => kc μ m) := by
  refine gwI_of ?_
  unfold f_X11_looked
  have lm5 : (-5 : Int32).toInt = -5 := rfl
  have l0 : (0 : Int32).toInt = 0 := rfl
  have l1 : (1 : Int32).toInt = 1 := rfl
  have k0 := kc.refl μ
  refine gw_loop (fun s1 => kc μ s1.2 ∧ (0 ≤ s1.1.toInt ∧ s1.1.toInt ≤ 8)) (fun s1 => (8 - s1.1.toInt)) (fun s1 ⟨k2, u3⟩ => ?_) 5000 ((0 : Int32), μ) ⟨k0, (by show 0 ≤ (0 : Int32).toInt ∧ (0 : Int32).toInt ≤ 8; omega)⟩ (by show (8 - (0 : Int32).toInt) < ((5000 : Nat) : Int); omega) (by show 0 ≤ (8 - (0 : Int32).toInt); omega)
  refine gw_gRa 15 ((h.of k2).1.c (r := 1) rfl) ((h.of k2).1.r (by decide)) ?_
  refine gw_gRa 27 ((h.of k2).1.c (r := 15) rfl) ((h.of k2).1.r (by decide)) ?_
  refine gw_gI ((h.of k2).1.c (r := 27) rfl) (fun v4 ev4 => ?_)
  have bv4 := (h.of k2).n27
  have dv4 : v4.toInt = (s1.2.2.1 27 2).toInt := by rw [ev4]
  have yv4 : v4.toInt = (μ.2.1 27 2).toInt := by rw [dv4, k2.row (by decide)]
  refine gw_le (fun h13_5 => ?_) (fun h13_5 => ?_)
  ·
    exact gw_some (gs_inr (gq_I k2))
  ·
    refine gw_gRa 15 ((h.of k2).1.c (r := 1) rfl) ((h.of k2).1.r (by decide)) ?_
    refine gw_gRa 27 ((h.of k2).1.c (r := 15) rfl) ((h.of k2).1.r (by decide)) ?_
    refine gw_if ((h.of k2).1.t (r := 27) rfl) ?_
    refine gw_bI (s_X7_cell_27 (h.of k2) ) (fun x6 m6 z6 => ?_)
    replace z6 := z6.symm
    subst z6
    refine gw_if ((h.of k2).1.t (r := 1) rfl) ?_
    refine gw_bI (s_X11_isNobody (h.of k2) ) (fun x7 m7 ⟨z7, f7⟩ => ?_)
    replace z7 := z7.symm
    subst z7
    refine gw_j (fun s8 => kc μ s8) (fun s8 k10 => ?_) (fun j9 hj9 => ?_)
    ·
      have n11 : (s1.1 + (1 : Int32)).toInt = s1.1.toInt + (1 : Int32).toInt := gx_add (by omega) (by omega)
      exact gw_some (gs_inl ⟨k10, (by show 0 ≤ (s1.1 + (1 : Int32)).toInt ∧ (s1.1 + (1 : Int32)).toInt ≤ 8; omega)⟩ (by show (8 - (s1.1 + (1 : Int32)).toInt) < (8 - s1.1.toInt); omega) (by show 0 ≤ (8 - (s1.1 + (1 : Int32)).toInt); omega))
    ·
      refine gw_ne (fun h34_12 => ?_) (fun h34_12 => ?_)
      ·
        exact hj9 _ k2
      ·
        refine gw_gRa 15 ((h.of k2).1.c (r := 1) rfl) ((h.of k2).1.r (by decide)) ?_
        refine gw_gRa 16 ((h.of k2).1.c (r := 15) rfl) ((h.of k2).1.r (by decide)) ?_
        refine gw_aR (i := x6) ((h.of k2).1.t (r := 16) rfl) ((h.of k2).1.l (r := 16) rfl) (by omega) (by omega) (fun v13 ev13 => ?_)
        have cv13 : isch v13 := by rw [ev13]; exact isch.of (h.of k2).1 (by omega) (by omega)
        refine gw_gI (ict.c (h.of k2).1 (Or.inl cv13)) (fun v14 ev14 => ?_)
        refine gw_gRa 15 ((h.of k2).1.c (r := 1) rfl) ((h.of k2).1.r (by decide)) ?_
        refine gw_gRa 27 ((h.of k2).1.c (r := 15) rfl) ((h.of k2).1.r (by decide)) ?_
        refine gw_if ((h.of k2).1.t (r := 27) rfl) ?_
        refine gw_bI (s_X7_cell_27 (h.of k2) ) (fun x15 m15 z15 => ?_)
        replace z15 := z15.symm
        subst z15
        refine gw_eq (fun h61_16 => ?_) (fun h61_16 => ?_)
        ·
          exact hj9 _ k2
        ·
          exact gw_some (gs_inr (gq_I k2))
set_option maxHeartbeats 1000000 in
theorem s_X11_as {μ : gm_M} (h : CI μ) {a1 : Int32} {a2 : Int32}  : gwI (f_X11_as 1 a1 a2 μ) (fun x m => kc μ m) := by
  refine gwI_of ?_
  unfold f_X11_as
  have lm6 : (-6 : Int32).toInt = -6 := rfl
  have lm1 : (-1 : Int32).toInt = -1 := rfl
  have l0 : (0 : Int32).toInt = 0 := rfl
  have l6 : (6 : Int32).toInt = 6 := rfl
  have k0 := kc.refl μ
  refine gw_if ((h.of k0).1.t (r := 1) rfl) ?_
  refine gw_bI (s_X11_isNobody (h.of k0) ) (fun x1 m1 ⟨z1, f1⟩ => ?_)
  replace z1 := z1.symm
  subst z1
  refine gw_ne (fun h5_2 => ?_) (fun h5_2 => ?_)
  ·
    exact gw_some (gq_I k0)
  ·
    refine gw_bI (s_X11_isOutside ) (fun x3 m3 ⟨z3, f3⟩ => ?_)
    replace z3 := z3.symm
    subst z3
    refine gw_eq (fun h15_4 => ?_) (fun h15_4 => ?_)
    ·
      refine gw_gRa 15 ((h.of k0).1.c (r := 1) rfl) ((h.of k0).1.r (by decide)) ?_
      refine gw_gRa 16 ((h.of k0).1.c (r := 15) rfl) ((h.of k0).1.r (by decide)) ?_
      refine gw_aR (i := a1) ((h.of k0).1.t (r := 16) rfl) ((h.of k0).1.l (r := 16) rfl) (by omega) (by omega) (fun v5 ev5 => ?_)
      have cv5 : isch v5 := by rw [ev5]; exact isch.of (h.of k0).1 (by omega) (by omega)
      refine gw_gR (ict.c (h.of k0).1 (Or.inl cv5)) (fun v6 ev6 => ?_)
      have cv6 : kid v6 := by rw [ev6]; exact (h.of k0).kd (Or.inl cv5)
      refine gw_bI (s_X11_isUnder (h.of k0) cv6) (fun x7 m7 ⟨z7, f7⟩ => ?_)
      replace z7 := z7.symm
      subst z7
      refine gw_eq (fun h38_8 => ?_) (fun h38_8 => ?_)
      ·
        exact gw_some (gq_I k0)
      ·
        refine gw_gI (ict.c (h.of k0).1 (Or.inl cv5)) (fun v9 ev9 => ?_)
        exact gw_some (gq_I k0)
    ·
      exact gw_some (gq_I k0)
set_option maxHeartbeats 1000000 in
theorem s_X11_count {μ : gm_M} (h : CI μ) {a1 : Int32}  : gwI (f_X11_count 1 a1 μ) (fun x m => kc μ m) := by
  refine gwI_of ?_
  unfold f_X11_count
  have lm1 : (-1 : Int32).toInt = -1 := rfl
  have l0 : (0 : Int32).toInt = 0 := rfl
  have l1 : (1 : Int32).toInt = 1 := rfl
  have l2 : (2 : Int32).toInt = 2 := rfl
  have l3 : (3 : Int32).toInt = 3 := rfl
  have l4 : (4 : Int32).toInt = 4 := rfl
  have l5 : (5 : Int32).toInt = 5 := rfl
  have l6 : (6 : Int32).toInt = 6 := rfl
  have k0 := kc.refl μ
  refine gw_eq (fun h1_1 => ?_) (fun h1_1 => ?_)
  ·
    refine gw_gRa 15 ((h.of k0).1.c (r := 1) rfl) ((h.of k0).1.r (by decide)) ?_
    refine gw_gI ((h.of k0).1.c (r := 15) rfl) (fun v2 ev2 => ?_)
    have bv2 := (h.of k0).n1
    have dv2 : v2.toInt = (μ.2.1 15 1).toInt := by rw [ev2]
    exact gw_some (gq_I k0)
  ·
    refine gw_eq (fun h1_3 => ?_) (fun h1_3 => ?_)
    ·
      refine gw_gRa 15 ((h.of k0).1.c (r := 1) rfl) ((h.of k0).1.r (by decide)) ?_
      refine gw_gI ((h.of k0).1.c (r := 15) rfl) (fun v4 ev4 => ?_)
      have bv4 := (h.of k0).n5
      have dv4 : v4.toInt = (μ.2.1 15 5).toInt := by rw [ev4]
      exact gw_some (gq_I k0)
    ·
      refine gw_eq (fun h1_5 => ?_) (fun h1_5 => ?_)
      ·
        refine gw_gRa 15 ((h.of k0).1.c (r := 1) rfl) ((h.of k0).1.r (by decide)) ?_
        refine gw_gRa 23 ((h.of k0).1.c (r := 15) rfl) ((h.of k0).1.r (by decide)) ?_
        refine gw_gI ((h.of k0).1.c (r := 23) rfl) (fun v6 ev6 => ?_)
        have bv6 := (h.of k0).n23
        have dv6 : v6.toInt = (μ.2.1 23 2).toInt := by rw [ev6]
        exact gw_some (gq_I k0)
      ·
        refine gw_eq (fun h1_7 => ?_) (fun h1_7 => ?_)
        ·
          refine gw_gRa 15 ((h.of k0).1.c (r := 1) rfl) ((h.of k0).1.r (by decide)) ?_
          refine gw_gRa 25 ((h.of k0).1.c (r := 15) rfl) ((h.of k0).1.r (by decide)) ?_
          refine gw_gI ((h.of k0).1.c (r := 25) rfl) (fun v8 ev8 => ?_)
          have bv8 := (h.of k0).n25
          have dv8 : v8.toInt = (μ.2.1 25 2).toInt := by rw [ev8]
          exact gw_some (gq_I k0)
        ·
          refine gw_eq (fun h1_9 => ?_) (fun h1_9 => ?_)
          ·
            refine gw_gRa 15 ((h.of k0).1.c (r := 1) rfl) ((h.of k0).1.r (by decide)) ?_
            refine gw_gRa 27 ((h.of k0).1.c (r := 15) rfl) ((h.of k0).1.r (by decide)) ?_
            refine gw_gI ((h.of k0).1.c (r := 27) rfl) (fun v10 ev10 => ?_)
            have bv10 := (h.of k0).n27
            have dv10 : v10.toInt = (μ.2.1 27 2).toInt := by rw [ev10]
            exact gw_some (gq_I k0)
          ·
            refine gw_eq (fun h1_11 => ?_) (fun h1_11 => ?_)
            ·
              refine gw_gRa 15 ((h.of k0).1.c (r := 1) rfl) ((h.of k0).1.r (by decide)) ?_
              refine gw_gI ((h.of k0).1.c (r := 15) rfl) (fun v12 ev12 => ?_)
              have bv12 := (h.of k0).n4
              have dv12 : v12.toInt = (μ.2.1 15 4).toInt := by rw [ev12]
              exact gw_some (gq_I k0)
            ·
              refine gw_eq (fun h1_13 => ?_) (fun h1_13 => ?_)
              ·
                refine gw_gRa 3 ((h.of k0).1.c (r := 1) rfl) ((h.of k0).1.r (by decide)) ?_
                refine gw_gI ((h.of k0).1.c (r := 3) rfl) (fun v14 ev14 => ?_)
                have bv14 := (h.of k0).n3
                have dv14 : v14.toInt = (μ.2.1 3 2).toInt := by rw [ev14]
                exact gw_some (gq_I k0)
              ·
                exact gw_some (gq_I k0)
set_option maxHeartbeats 1000000 in
theorem s_X11_trace {μ : gm_M} (h : CI μ) {a1 : Int32}  : gwI (f_X11_trace 1 a1 μ) (fun x m => kc μ m) := by
  refine gwI_of ?_
  unfold f_X11_trace
  have lm1 : (-1 : Int32).toInt = -1 := rfl
  have l0 : (0 : Int32).toInt = 0 := rfl
  have k0 := kc.refl μ
  refine gw_gRa 3 ((h.of k0).1.c (r := 1) rfl) ((h.of k0).1.r (by decide)) ?_
  refine gw_if ((h.of k0).1.t (r := 3) rfl) ?_
  refine gw_bI (s_X7_isKept_3 (h.of k0) ) (fun x1 m1 ⟨z1, f1⟩ => ?_)
  replace z1 := z1.symm
  subst z1
  refine gw_eq (fun h8_2 => ?_) (fun h8_2 => ?_)
  ·
    exact gw_some (gq_I k0)
  ·
    refine gw_gRa 3 ((h.of k0).1.c (r := 1) rfl) ((h.of k0).1.r (by decide)) ?_
    refine gw_if ((h.of k0).1.t (r := 3) rfl) ?_
    refine gw_bI (s_X7_cell_3 (h.of k0) ) (fun x3 m3 z3 => ?_)
    replace z3 := z3.symm
    subst z3
    exact gw_some (gq_I k0)
end
