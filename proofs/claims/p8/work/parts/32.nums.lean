theorem gx_mod (x y : Int32) : x - x / y * y = x % y := by
  apply Int32.toInt_inj.mp
  rw [Int32.toInt_sub, Int32.toInt_mul, Int32.toInt_div, Int.bmod_mul_bmod, Int.sub_bmod_bmod]
  have e : x.toInt - x.toInt.tdiv y.toInt * y.toInt = x.toInt.tmod y.toInt := by rw [Int.tmod_def, Int.mul_comm]
  rw [e, ← Int32.toInt_mod]
  exact Int32.toInt_bmod _
theorem gx_mod64 (x y : Int64) : x - x / y * y = x % y := by
  apply Int64.toInt_inj.mp
  rw [Int64.toInt_sub, Int64.toInt_mul, Int64.toInt_div, Int.bmod_mul_bmod, Int.sub_bmod_bmod]
  have e : x.toInt - x.toInt.tdiv y.toInt * y.toInt = x.toInt.tmod y.toInt := by rw [Int.tmod_def, Int.mul_comm]
  rw [e, ← Int64.toInt_mod]
  exact Int64.toInt_bmod _
theorem gx_remk4 (x : Int32) : -3 ≤ (x - x / 4 * 4).toInt ∧ (x - x / 4 * 4).toInt ≤ 3 := by
  rw [gx_mod, Int32.toInt_mod]
  have e : (4 : Int32).toInt = 4 := rfl
  rw [e]
  have h1 := Int.lt_tmod_of_pos x.toInt (b := 4) (by decide)
  have h2 := Int.tmod_lt_of_pos x.toInt (b := 4) (by decide)
  omega
theorem gx_remk8 {x : Int32} (h : 0 ≤ x.toInt) : (x - x / 8 * 8).toInt = x.toInt % 8 := by
  rw [gx_mod, Int32.toInt_mod]
  have e : (8 : Int32).toInt = 8 := rfl
  rw [e]
  exact Int.tmod_eq_emod_of_nonneg h
theorem gx_addw (x y : Int32) : (x + y).toInt = x.toInt + y.toInt ∨ (x + y).toInt = x.toInt + y.toInt + 4294967296 ∨ (x + y).toInt = x.toInt + y.toInt - 4294967296 := by
  have a := gx_lo x
  have b := gx_hi x
  have c := gx_lo y
  have d := gx_hi y
  rw [Int32.toInt_add, Int.bmod_def]
  have e : ((2 : Nat) ^ 32 : Nat) = 4294967296 := by decide
  split <;> omega
theorem gx_subw (x y : Int32) : (x - y).toInt = x.toInt - y.toInt ∨ (x - y).toInt = x.toInt - y.toInt + 4294967296 ∨ (x - y).toInt = x.toInt - y.toInt - 4294967296 := by
  have a := gx_lo x
  have b := gx_hi x
  have c := gx_lo y
  have d := gx_hi y
  rw [Int32.toInt_sub, Int.bmod_def]
  have e : ((2 : Nat) ^ 32 : Nat) = 4294967296 := by decide
  split <;> omega
