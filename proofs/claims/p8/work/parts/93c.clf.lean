theorem ch_id {c : Int32} (h0 : 0 ≤ c.toInt) (h1 : c.toInt ≤ 127) : UInt32.toInt32 (Int32.toUInt32 c % 65536) = c ∧ Int8.toInt32 (Int32.toInt8 c) = c := by
  have k : ∀ k : Fin 128, UInt32.toInt32 (Int32.toUInt32 (Int32.ofNat k.val) % 65536) = Int32.ofNat k.val ∧ Int8.toInt32 (Int32.toInt8 (Int32.ofNat k.val)) = Int32.ofNat k.val := by decide +kernel
  have := k ⟨c.toInt.toNat, by omega⟩
  rw [show Int32.ofNat (⟨c.toInt.toNat, by omega⟩ : Fin 128).val = c from gx_of h0] at this
  exact this
theorem pOi_rng (u : UInt32) (x : Int32) : ∀ k i : Nat, i + k ≤ 100 → pOi u x k i = -1 ∨ 0 ≤ (pOi u x k i).toInt
  | 0, _, _ => Or.inl rfl
  | k + 1, i, h => by
    unfold pOi
    split
    · right; rw [ofn (by omega)]; omega
    · exact pOi_rng u x k (i + 1) (by omega)
theorem pO_rng {u : UInt32} (hu : gm_isS u) (x : Int32) : pO u x = -1 ∨ 0 ≤ (pO u x).toInt := pOi_rng u x _ _ (by have := (tx_len (μ := gi0) hu).2; omega)
theorem tx_pO {μ : gm_M} {u : UInt32} (hu : gm_isS u) {c : Int32} (h0 : 0 ≤ c.toInt) (h1 : c.toInt ≤ 127) : gwI (f_J0_indexOf_0f7a4 u c μ) (fun x m => x = pO u c ∧ m = μ) := by
  have hl := tx_len (μ := μ) hu
  have hb : gm_isB (u + 6) := by
    obtain ⟨h1, h2⟩ := hu
    have e : (u + 6).toNat = u.toNat + 6 := by
      rw [UInt32.toNat_add, show (6 : UInt32).toNat = 6 from rfl]
      omega
    constructor <;> omega
  have l0 : (0 : Int32).toInt = 0 := rfl
  have l1 : (1 : Int32).toInt = 1 := rfl
  have l255 : (255 : Int32).toInt = 255 := rfl
  have ln : (Int32.ofNat (gm_bn (u + 6))).toInt = gm_bn (u + 6) := Int32.toInt_ofNat_of_lt (by omega)
  have c8 := (ch_id h0 h1).2
  have C : gwI (f_J1_indexOfChar_4cfef (u + 6) c 0 (Int32.ofNat (gm_bn (u + 6))) μ) (fun x m => x = pO u c ∧ m = μ) := by
    refine gwI_of ?_
    unfold f_J1_indexOfChar_4cfef
    refine gw_loop (fun s => ∃ i : Nat, s = Int32.ofNat i ∧ i ≤ gm_bn (u + 6) ∧ pOi u c (gm_bn (u + 6) - i) i = pO u c) (fun s => 6 - s.toInt) (fun s ⟨i, es, hi, hp⟩ => ?_) 5000 (0 : Int32) ⟨0, rfl, Nat.zero_le _, rfl⟩ (by omega) (by omega)
    subst es
    have oi := ofn (k := i) (by omega)
    refine gw_le (fun g => gw_some (gs_inr (gq_I ⟨?_, rfl⟩))) (fun g => ?_)
    · rw [← hp, show gm_bn (u + 6) - i = 0 by omega]; rfl
    unfold gm_bl
    rw [if_pos ⟨hb, (gw_ix (i := Int32.ofNat i) (n := gm_bn (u + 6)) (by omega) (by omega)).1, (gw_ix (i := Int32.ofNat i) (n := gm_bn (u + 6)) (by omega) (by omega)).2⟩, c8]
    have ei : (Int32.ofNat i).toNatClampNeg = i := by show (Int32.ofNat i).toInt.toNat = i; omega
    rw [ei]
    rw [show gm_bn (u + 6) - i = (gm_bn (u + 6) - (i + 1)) + 1 by omega] at hp
    unfold pOi at hp
    refine gw_ite (fun g2 => gw_some (gs_inl ⟨i + 1, ofn1 (by omega), by omega, ?_⟩ (by rw [ofn1 (by omega), ofn (k := i + 1) (by omega)]; omega) (by rw [ofn1 (by omega), ofn (k := i + 1) (by omega)]; omega))) (fun g2 => gw_some (gs_inr (gq_I ⟨?_, rfl⟩)))
    · rw [if_neg (fun e => g2 e.symm)] at hp; exact hp
    · rw [if_pos (Decidable.not_not.mp g2).symm] at hp; exact hp
  have D : gwI (f_J1_indexOf_4cfef (u + 6) c 0 (Int32.ofNat (gm_bn (u + 6))) μ) (fun x m => x = pO u c ∧ m = μ) := by
    refine gwI_of ?_
    unfold f_J1_indexOf_4cfef
    have E : gwI (f_J1_canEncode_9a6ad c μ) (fun x m => m = μ ∧ x = 1) := by
      refine gwI_of ?_
      unfold f_J1_canEncode_9a6ad
      exact gw_lt (fun _ => by omega) (fun _ => gw_lt (fun _ => by omega) (fun _ => gw_z Iff.rfl (Or.inr rfl) (gq_I ⟨rfl, rfl⟩)))
    refine gw_bI E (fun x m ⟨z, ex⟩ => ?_)
    subst z
    subst ex
    refine gw_if (by decide) ?_
    refine gw_if hb ?_
    have q1 : (if (0 : Int32) < (0 : Int32) then (0 : Int32) else 0) = 0 := by split <;> rfl
    have q2 : (if Int32.ofNat (gm_bn (u + 6)) < Int32.ofNat (gm_bn (u + 6)) then Int32.ofNat (gm_bn (u + 6)) else Int32.ofNat (gm_bn (u + 6))) = Int32.ofNat (gm_bn (u + 6)) := by split <;> rfl
    rw [q1, q2]
    refine gw_lt (fun _ => ?_) (fun g => ?_)
    · refine gw_bI C (fun x m ⟨z, b⟩ => ?_)
      exact gw_some (gq_I ⟨z, b⟩)
    · refine gw_some (gq_I ⟨?_, rfl⟩)
      unfold pO
      rw [show gm_bn (u + 6) = 0 by omega]; rfl
  refine gwI_of ?_
  unfold f_J0_indexOf_0f7a4
  refine gw_if hu ?_
  have F : gwI (f_J0_indexOf_7cf53 u c 0 μ) (fun x m => x = pO u c ∧ m = μ) := by
    refine gwI_of ?_
    unfold f_J0_indexOf_7cf53
    refine gw_if hu ?_
    have L : f_J0_isLatin1_aae02 u μ = some (some (.int 1), μ) := by
      unfold f_J0_isLatin1_aae02
      rw [if_neg (by decide), if_pos hu, if_neg (by decide), if_pos (by decide)]
    refine gw_bI (R := fun x m => m = μ ∧ x = 1) ⟨1, μ, L, rfl, rfl⟩ (fun x m ⟨z, ex⟩ => ?_)
    subst z
    subst ex
    refine gw_eq (fun g => absurd g (by decide)) (fun _ => ?_)
    refine gw_if hu ?_
    refine gw_if hu ?_
    refine gw_bI (R := fun x m' => m' = m ∧ x = Int32.ofNat (gm_bn (u + 6))) ⟨_, m, hl.1, rfl, rfl⟩ (fun x m' ⟨z, ex⟩ => ?_)
    subst z
    subst ex
    refine gw_bI D (fun x m ⟨z, b⟩ => ?_)
    exact gw_some (gq_I ⟨z, b⟩)
  refine gw_bI F (fun x m ⟨z, b⟩ => ?_)
  exact gw_some (gq_I ⟨z, b⟩)
theorem cv_neg {s : Int32} (h : s.toInt < 0) : cv s = s := by unfold cv; rw [if_pos h]
theorem cv_test {a b v : Int32} (ha : 0 ≤ a.toInt ∧ a.toInt < 6) (hb : 0 ≤ b.toInt ∧ b.toInt < 3) (hv : 0 ≤ v.toInt ∧ v.toInt ≤ 99) : cv ((a + 8 * b) + 32 * v) = (1000 * a + 100 * b) + v := by
  have k : ∀ a : Fin 6, ∀ b : Fin 3, ∀ v : Fin 100, cv ((Int32.ofNat a.val + 8 * Int32.ofNat b.val) + 32 * Int32.ofNat v.val) = (1000 * Int32.ofNat a.val + 100 * Int32.ofNat b.val) + Int32.ofNat v.val := by decide +kernel
  have := k ⟨a.toInt.toNat, by omega⟩ ⟨b.toInt.toNat, by omega⟩ ⟨v.toInt.toNat, by omega⟩
  rw [show Int32.ofNat (⟨a.toInt.toNat, by omega⟩ : Fin 6).val = a from gx_of ha.1, show Int32.ofNat (⟨b.toInt.toNat, by omega⟩ : Fin 3).val = b from gx_of hb.1, show Int32.ofNat (⟨v.toInt.toNat, by omega⟩ : Fin 100).val = v from gx_of hv.1] at this
  exact this
/-- how a piece of reading ends -/
def vo (A n : Nat) (μ : gm_M) (C : List Int32) (r : pA) (x : Int32) (m : gm_M) : Prop := (x = 1 ∧ r.1 = true ∧ cst A n μ r.2.1 (C ++ r.2.2.map cv) m) ∨ (x = 0 ∧ r.1 = false ∧ ∃ C' : List Int32, cst A n μ r.2.1 C' m)
theorem vo.p1 {A n : Nat} {μ : gm_M} {C : List Int32} {r : pA} {x : Int32} {m : gm_M} (h : vo A n μ C r x m) : x = 0 ∨ x = 1 := h.elim (fun h => Or.inr h.1) (fun h => Or.inl h.1)
section
variable {A n p : Nat} {tx : Nat → Int32} {μ m : gm_M} {C : List Int32}
theorem v_one (b : BS A n tx μ) (c : cst A n μ p C m) {u : UInt32} (hu : gm_isS u) (h5 : pO u (-1) = -1) : gwI (f_X0_readOneOf A u m) (fun x m' => x = pO u (pd tx n p) ∧ cst A n μ (if pO u (pd tx n p) = -1 then p else p + 1) C m') := by
  refine gwI_of ?_
  unfold f_X0_readOneOf
  have hn := b.2.2.2.2.1
  have hp := c.2.1
  have op : (Int32.ofNat p).toInt = p := ofn (by omega)
  have on : (Int32.ofNat n).toInt = n := ofn (by omega)
  have l0 : (0 : Int32).toInt = 0 := rfl
  refine gw_gIw (c.tc b) ?_
  refine gw_gIw (c.tc b) ?_
  rw [c.e9, c.e8 b]
  refine gw_lt (fun g => ?_) (fun g => ?_)
  · refine gw_gRa 17 (c.tc b) (c.r7 b) ?_
    refine gw_gIw (c.tc b) ?_
    rw [c.e9]
    refine gw_aIw p ((c.S b).t (r := 17) rfl) ((c.S b).l (r := 17) rfl) op (by omega) ?_
    rw [c.txt b (show p < n by omega)]
    have e : pd tx n p = tx p := by unfold pd; rw [if_pos (by omega)]
    have hx := b.2.2.2.2.2.2.2 p
    rw [(ch_id hx.1 hx.2).1, e]
    refine gw_if hu ?_
    refine gw_bI (tx_pO hu hx.1 hx.2) (fun x m' ⟨ex, em⟩ => ?_)
    subst em
    subst ex
    refine gw_lt (fun g2 => ?_) (fun g2 => ?_)
    · have e1 : pO u (tx p) = -1 := (pO_rng hu (tx p)).elim id (fun h => by omega)
      rw [e1, if_pos rfl]
      exact gw_some (gq_I ⟨rfl, c⟩)
    · have e1 : pO u (tx p) ≠ -1 := fun h => by rw [h] at g2; exact absurd g2 (by decide)
      rw [if_neg e1]
      refine gw_gIw (c.tc b) ?_
      refine gw_pIw (c.tc b) ?_
      rw [c.e9, ofn1 (by omega)]
      exact gw_some (gq_I ⟨rfl, c.at (by omega)⟩)
  · have e : pd tx n p = -1 := by unfold pd; rw [if_neg (by omega)]
    rw [e, h5, if_pos rfl]
    exact gw_some (gq_I ⟨rfl, c⟩)
theorem v_test (b : BS A n tx μ) (c : cst A n μ p C m) (hC : C.length ≤ p) : gwI (f_X0_readTest A m) (fun x m' => vo A n μ C (pT tx n p) x m') := by
  refine gwI_of ?_
  unfold f_X0_readTest
  have hn := b.2.2.2.2.1
  have l0 : (0 : Int32).toInt = 0 := rfl
  have gT := pT_g (tx := tx) c.2.1
  refine gw_if (c.t b) ?_
  refine gw_bI (v_one b c (u := 5) (by decide) (by decide)) (fun x1 m1 ⟨e1, c1⟩ => ?_)
  refine gw_le (fun g1 => ?_) (fun g1 => ?_)
  · have n1 : pO 5 (pd tx n p) ≠ -1 := fun h => by rw [e1, h] at g1; exact absurd g1 (by decide)
    rw [if_neg n1] at c1
    refine gw_if (c1.t b) ?_
    refine gw_bI (v_one b c1 (u := 6) (by decide) (by decide)) (fun x2 m2 ⟨e2, c2⟩ => ?_)
    refine gw_le (fun g2 => ?_) (fun g2 => ?_)
    · have n2 : pO 6 (pd tx n (p + 1)) ≠ -1 := fun h => by rw [e2, h] at g2; exact absurd g2 (by decide)
      rw [if_neg n2] at c2
      refine gw_if (c2.t b) ?_
      refine gw_bI (v_number b c2) (fun x3 m3 ⟨e3, c3⟩ => ?_)
      have gN := pN_g (tx := tx) c2.2.1
      have c3' : cst A n μ (pN tx n (p + 2)).2.1 C m3 := c3
      refine gw_le (fun g3 => ?_) (fun g3 => ?_)
      · have n3 : (pN tx n (p + 2)).1 = true := by
          cases h : (pN tx n (p + 2)).1 with
          | true => rfl
          | false => rw [show (pN tx n (p + 1 + 1)).1 = false from h, if_neg (by decide)] at e3; rw [e3] at g3; exact absurd g3 (by decide)
        rw [show (pN tx n (p + 1 + 1)).1 = true from n3, if_pos rfl] at e3
        have eT : pT tx n p = (true, (pN tx n (p + 2)).2.1, [(pO 5 (pd tx n p) + 8 * pO 6 (pd tx n (p + 1))) + 32 * (pN tx n (p + 2)).2.2]) := by
          unfold pT; rw [if_neg n1, if_neg n2, if_pos n3]
        rw [eT] at gT
        have gT2 := gT.2.2 rfl
        have r5 := pO_b5 n1
        have r6 := pO_b6 n2
        have rN := gN.2.2 n3
        have gT1 : (pN tx n (p + 2)).2.1 ≤ n := gT.2.1
        have gT3 : p < (pN tx n (p + 2)).2.1 := gT2.1
        refine gw_if (c3.t b) ?_
        refine gw_bV (v_put b c3 (by omega) _) (fun m4 c4 => ?_)
        refine gw_z Iff.rfl (Or.inr rfl) (gq_I (Or.inl ⟨rfl, by rw [eT], ?_⟩))
        rw [eT]
        show cst A n μ (pN tx n (p + 2)).2.1 (C ++ [cv ((pO 5 (pd tx n p) + 8 * pO 6 (pd tx n (p + 1))) + 32 * (pN tx n (p + 2)).2.2)]) m4
        rw [cv_test ⟨r5.1, r5.2.1⟩ ⟨r6.1, r6.2.1⟩ rN.2, ← e1, ← e2, ← show x3 = (pN tx n (p + 2)).2.2 from e3]
        exact c4
      · have n3 : (pN tx n (p + 2)).1 = false := by
          cases h : (pN tx n (p + 2)).1 with
          | false => rfl
          | true => rw [show (pN tx n (p + 1 + 1)).1 = true from h, if_pos rfl] at e3; have := (gN.2.2 h).2.1; rw [← show x3 = (pN tx n (p + 1 + 1)).2.2 from e3] at this; omega
        have eT : pT tx n p = (false, (pN tx n (p + 2)).2.1, []) := by
          unfold pT; rw [if_neg n1, if_neg n2, if_neg (by rw [n3]; decide)]
        exact gw_z Iff.rfl (Or.inl rfl) (gq_I (Or.inr ⟨rfl, by rw [eT], C, by rw [eT]; exact c3'⟩))
    · have n2 : pO 6 (pd tx n (p + 1)) = -1 := (pO_rng (u := 6) (by decide) _).elim id (fun h => by rw [← e2] at h; omega)
      rw [if_pos n2] at c2
      have eT : pT tx n p = (false, p + 1, []) := by unfold pT; rw [if_neg n1, if_pos n2]
      exact gw_z Iff.rfl (Or.inl rfl) (gq_I (Or.inr ⟨rfl, by rw [eT], C, by rw [eT]; exact c2⟩))
  · have n1 : pO 5 (pd tx n p) = -1 := (pO_rng (u := 5) (by decide) _).elim id (fun h => by rw [← e1] at h; omega)
    rw [if_pos n1] at c1
    have eT : pT tx n p = (false, p, []) := by unfold pT; rw [if_pos n1]
    exact gw_z Iff.rfl (Or.inl rfl) (gq_I (Or.inr ⟨rfl, by rw [eT], C, by rw [eT]; exact c1⟩))
end
