/-! the class: a row of truths as bits, the newest lowest -/
def RB (t : Int32) (S : List Bool) : Prop := ∀ (i : Nat) (b : Bool), S[i]? = some b → t.toBitVec.getLsbD i = b
theorem sh1 : ((1 : Int32) &&& 31).toBitVec.smod 32 = 1#32 := by decide
theorem bit1 (i : Nat) : (1 : Int32).toBitVec.getLsbD i = decide (i = 0) := by
  show (1#32).getLsbD i = _
  rw [BitVec.getLsbD_one]; simp
theorem bit_shl (t : Int32) {i : Nat} (h : i < 31) : (t <<< ((1 : Int32) &&& 31)).toBitVec.getLsbD (i + 1) = t.toBitVec.getLsbD i := by
  rw [Int32.toBitVec_shiftLeft, sh1]
  show (t.toBitVec <<< (1 : Nat)).getLsbD (i + 1) = _
  rw [BitVec.getLsbD_shiftLeft, decide_eq_true (show i + 1 < 32 by omega), decide_eq_false (show ¬ i + 1 < 1 by omega), Nat.add_sub_cancel]
  rfl
theorem bit_shl0 (t : Int32) : (t <<< ((1 : Int32) &&& 31)).toBitVec.getLsbD 0 = false := by
  rw [Int32.toBitVec_shiftLeft, sh1]
  show (t.toBitVec <<< (1 : Nat)).getLsbD 0 = _
  rw [BitVec.getLsbD_shiftLeft, decide_eq_true (show 0 < 1 by omega)]
  simp
theorem bit_shr (t : Int32) {i : Nat} (h : i < 31) : (t >>> ((1 : Int32) &&& 31)).toBitVec.getLsbD i = t.toBitVec.getLsbD (i + 1) := by
  rw [Int32.toBitVec_shiftRight, sh1]
  show (t.toBitVec.sshiftRight 1).getLsbD i = _
  rw [BitVec.getLsbD_sshiftRight, decide_eq_false (show ¬ 32 ≤ i by omega), if_pos (show 1 + i < 32 by omega), Nat.add_comm 1 i]
  rfl
theorem bw_bit (b : Bool) (i : Nat) : (bw b).toBitVec.getLsbD i = (decide (i = 0) && b) := by
  cases b with
  | true => show (1 : Int32).toBitVec.getLsbD i = _; rw [bit1, Bool.and_true]
  | false => show (0#32).getLsbD i = _; simp
theorem RB.hd {t : Int32} {a : Bool} {S : List Bool} (h : RB t (a :: S)) : t.toBitVec.getLsbD 0 = a := h 0 a rfl
theorem RB.tl {t : Int32} {a : Bool} {S : List Bool} (h : RB t (a :: S)) {i : Nat} {b : Bool} (e : S[i]? = some b) : t.toBitVec.getLsbD (i + 1) = b := h (i + 1) b e
theorem RB.nil (t : Int32) : RB t [] := fun i b h => by cases h
theorem RB.len {S : List Bool} {i : Nat} {b : Bool} (e : S[i]? = some b) : i < S.length := (List.getElem?_eq_some_iff.mp e).1
theorem RB.push {t : Int32} {S : List Bool} (h : RB t S) (hl : S.length ≤ 30) (a : Bool) : RB ((t <<< ((1 : Int32) &&& 31)) ||| bw a) (a :: S) := fun i b e => by
  rw [Int32.toBitVec_or, BitVec.getLsbD_or, bw_bit]
  cases i with
  | zero =>
    injection e with e
    rw [bit_shl0, e]; rfl
  | succ i =>
    replace e : S[i]? = some b := e
    have := RB.len e
    rw [bit_shl t (by omega), h i b e]
    simp
theorem RB.not {t : Int32} {a : Bool} {S : List Bool} (h : RB t (a :: S)) : RB (t ^^^ 1) ((!a) :: S) := fun i b e => by
  rw [Int32.toBitVec_xor, BitVec.getLsbD_xor, bit1]
  cases i with
  | zero =>
    injection e with e
    rw [h.hd, ← e]; simp
  | succ i =>
    rw [h.tl e]; simp
theorem RB.or {t : Int32} {a b : Bool} {S : List Bool} (h : RB t (a :: b :: S)) (hl : S.length ≤ 28) : RB ((t >>> ((1 : Int32) &&& 31)) ||| (t &&& 1)) ((b || a) :: S) := fun i c e => by
  rw [Int32.toBitVec_or, BitVec.getLsbD_or, Int32.toBitVec_and, BitVec.getLsbD_and, bit1]
  cases i with
  | zero =>
    injection e with e
    rw [bit_shr t (by omega), h.hd, h.tl (i := 0) rfl, ← e]; simp
  | succ i =>
    replace e : S[i]? = some c := e
    have := RB.len e
    rw [bit_shr t (by omega), h.tl (i := i + 1) e]; simp
theorem RB.and1 {t : Int32} {b : Bool} {S : List Bool} (h : RB t (true :: b :: S)) (hl : S.length ≤ 28) : RB (t >>> ((1 : Int32) &&& 31)) ((b && true) :: S) := fun i c e => by
  cases i with
  | zero =>
    injection e with e
    rw [bit_shr t (by omega), h.tl (i := 0) rfl, ← e]; simp
  | succ i =>
    replace e : S[i]? = some c := e
    have := RB.len e
    rw [bit_shr t (by omega), h.tl (i := i + 1) e]
theorem bitm2 {i : Nat} (h : i < 32) : (-2 : Int32).toBitVec.getLsbD i = !decide (i = 0) := by
  have k : ∀ i : Fin 32, (-2 : Int32).toBitVec.getLsbD i.val = !decide (i.val = 0) := by decide
  exact k ⟨i, h⟩
theorem RB.and0 {t : Int32} {b : Bool} {S : List Bool} (h : RB t (false :: b :: S)) (hl : S.length ≤ 28) : RB ((t >>> ((1 : Int32) &&& 31)) &&& (-2)) ((b && false) :: S) := fun i c e => by
  have hi : i < 31 := by
    have := RB.len e
    rw [List.length_cons] at this
    omega
  rw [Int32.toBitVec_and, BitVec.getLsbD_and, bitm2 (by omega), bit_shr t hi]
  cases i with
  | zero =>
    injection e with e
    rw [← e]; simp
  | succ i =>
    rw [h.tl (i := i + 1) e]; simp
theorem bit_is {t : Int32} {a : Bool} (h : t.toBitVec.getLsbD 0 = a) : t &&& 1 = bw a := by
  have : (t &&& 1).toBitVec = (bw a).toBitVec := by
    apply BitVec.eq_of_getLsbD_eq
    intro i hi
    rw [Int32.toBitVec_and, BitVec.getLsbD_and, bit1, bw_bit]
    by_cases e : i = 0
    · subst e; rw [h]; simp
    · simp [e]
  exact Int32.toBitVec_inj.mp this
/-! a child as twelve numbers -/
def kC (μ : gm_M) (t j : Nat) : Int32 := if j = 1 then Int32.ofNat (μ.2.2 t 1 - 8) else if j < 8 then μ.2.1 t j else if j < 12 then μ.2.1 (t + 1) (j - 8) else 0
def KD (μ : gm_M) : Prop := ∀ i : Nat, i < 7 → μ.2.1 (8 + i) 0 = Int32.ofNat i
theorem KD.at {μ : gm_M} (h : KD μ) {a : Nat} (p : kid a) : μ.2.1 a 0 = Int32.ofNat (a - 8) := by
  obtain ⟨p1, p2⟩ := p
  have := h (a - 8) (by omega)
  rwa [show 8 + (a - 8) = a by omega] at this
def vt (s : Int32) : Prop := 0 ≤ s.toInt ∧ s.toInt % 8 < 6 ∧ s.toInt / 8 % 4 < 3 ∧ s.toInt / 32 < 100
theorem v_passes {μ : gm_M} (hg : gS μ) (hn : KD μ) {t : Nat} (ht : ict t) (hk : kid (μ.2.2 t 1)) {s : Int32} (hs : vt s) (mi : Int32) : gwI (f_X0_passes (cv s) t mi μ) (fun x m => x = bw (tst s (fv (kC μ t) mi (s % 8))) ∧ m = μ) := by
  obtain ⟨⟨a0, a1⟩, e0, e1, e2, -, e4⟩ := tok_nums hs.1 hs.2.1 hs.2.2.1 hs.2.2.2
  have l100 : (100 : Int32).toInt = 100 := rfl
  have l1000 : (1000 : Int32).toInt = 1000 := rfl
  have l10 : (10 : Int32).toInt = 10 := rfl
  refine gwI_of ?_
  unfold f_X0_passes
  have q1 : cv s - cv s / 100 * 100 = s / 32 := by rw [gx_mod]; exact e2
  have q2 : cv s / 100 - cv s / 100 / 10 * 10 = s / 8 % 4 := by rw [gx_mod]; exact e1
  rw [q1, q2, e0]
  refine gw_dv (by omega) ?_
  refine gw_j (fun x => x = fv (kC μ t) mi (s % 8)) (fun x hx => ?_) (fun j hj => ?_)
  · subst hx
    refine gw_dv (by omega) ?_
    refine gw_dv (by omega) ?_
    refine gw_dv (by omega) ?_
    generalize fv (kC μ t) mi (s % 8) = x
    refine gw_ite (fun g => ?_) (fun g => ?_)
    · refine gw_ite (fun g2 => ?_) (fun g2 => ?_)
      · refine gw_z Iff.rfl (Or.inl rfl) (gq_I ⟨?_, rfl⟩)
        unfold tst
        rw [if_pos g, decide_eq_false (by rw [Int32.not_lt]; exact g2)]; rfl
      · refine gw_z Iff.rfl (Or.inr rfl) (gq_I ⟨?_, rfl⟩)
        unfold tst
        rw [if_pos g, decide_eq_true (by rw [Int32.not_le] at g2; exact g2)]; rfl
    · refine gw_ite (fun g1 => ?_) (fun g1 => ?_)
      · refine gw_ite (fun g2 => ?_) (fun g2 => ?_)
        · refine gw_z Iff.rfl (Or.inl rfl) (gq_I ⟨?_, rfl⟩)
          unfold tst
          rw [if_neg g, if_pos g1, decide_eq_false g2]; rfl
        · refine gw_z Iff.rfl (Or.inr rfl) (gq_I ⟨?_, rfl⟩)
          unfold tst
          rw [if_neg g, if_pos g1, decide_eq_true (Decidable.not_not.mp g2)]; rfl
      · refine gw_ite (fun g2 => ?_) (fun g2 => ?_)
        · refine gw_z Iff.rfl (Or.inl rfl) (gq_I ⟨?_, rfl⟩)
          unfold tst
          rw [if_neg g, if_neg g1, decide_eq_false (by rw [Int32.not_lt]; exact g2)]; rfl
        · refine gw_z Iff.rfl (Or.inr rfl) (gq_I ⟨?_, rfl⟩)
          unfold tst
          rw [if_neg g, if_neg g1, decide_eq_true (by rw [Int32.not_le] at g2; exact g2)]; rfl
  · generalize s % 8 = a at *
    refine gw_ite (fun g => ?_) (fun g => ?_)
    · refine gw_gIw (ict.c hg ht) ?_
      exact hj _ (by rw [fv, if_pos g]; rfl)
    · refine gw_ite (fun g1 => ?_) (fun g1 => ?_)
      · refine gw_gR (ict.c hg ht) (fun q eq => ?_)
        rw [← eq] at hk
        refine gw_gIw (hk.c hg) ?_
        refine hj _ ?_
        rw [hn.at hk, fv, if_neg g, if_pos g1, eq]; rfl
      · refine gw_ite (fun g2 => ?_) (fun g2 => ?_)
        · refine gw_gIw (ict.c hg ht) ?_
          exact hj _ (by rw [fv, if_neg g, if_neg g1, if_pos g2]; rfl)
        · refine gw_ite (fun g3 => ?_) (fun g3 => ?_)
          · refine gw_gIw (ict.c hg ht) ?_
            exact hj _ (by rw [fv, if_neg g, if_neg g1, if_neg g2, if_pos g3]; rfl)
          · refine gw_ite (fun g4 => ?_) (fun g4 => ?_)
            · refine gw_gIw (ict.c hg ht) ?_
              refine gw_dv (by omega) ?_
              exact hj _ (by rw [fv, if_neg g, if_neg g1, if_neg g2, if_neg g3, if_pos g4]; rfl)
            · refine gw_dv (by omega) ?_
              exact hj _ (by rw [fv, if_neg g, if_neg g1, if_neg g2, if_neg g3, if_neg g4, gx_mod])
theorem es_len {k : Nat → Int32} {mi : Int32} : ∀ (T : List Int32) (S : List Bool) (d : Nat), dr T S.length = some d → (es k mi T S).length = d
  | [], S, d, h => by injection h
  | s :: T, S, d, h => by
    show (es k mi T (stp k mi s S)).length = d
    refine es_len T _ d ?_
    rw [dr] at h
    unfold stp
    by_cases h0 : 0 ≤ s.toInt
    · rw [if_pos h0] at h ⊢
      split at h
      · exact h
      · cases h
    · rw [if_neg h0] at h ⊢
      by_cases h1 : s = -1
      · rw [if_pos h1] at h ⊢
        split at h
        · rename_i g
          cases S with
          | nil => exact absurd g (by decide)
          | cons a S => exact h
        · cases h
      · rw [if_neg h1] at h ⊢
        split at h
        · split at h
          · rename_i g2
            cases S with
            | nil => exact absurd g2 (by decide)
            | cons a S =>
              cases S with
              | nil => exact absurd (show 2 ≤ 1 from g2) (by decide)
              | cons b S => exact h
          · cases h
        · cases h
theorem v_isSo {μ : gm_M} (hg : gS μ) (hn : KD μ) {A t : Nat} (hA : AfW μ A) (ht : ict t) (hk : kid (μ.2.2 t 1)) {T : List Int32} {o : Nat} (ho : o + T.length ≤ 100) (hT : dr T 0 = some 1) (hc : ∀ i : Nat, i < T.length → (T.map cv)[i]? = some (μ.2.1 (A + 3) (o + i))) (mi : Int32) : gwI (f_X0_isSo A (Int32.ofNat o) (Int32.ofNat (o + T.length)) t mi μ) (fun x m => x = bw ((es (kC μ t) mi T []).headD false) ∧ m = μ) := by
  refine gwI_of ?_
  unfold f_X0_isSo
  have l1 : (1 : Int32).toInt = 1 := rfl
  have oT := ofn (k := o + T.length) (by omega)
  refine gw_loop (fun s => s.2.2 = μ ∧ ∃ (i : Nat) (S : List Bool), s.2.1 = Int32.ofNat (o + i) ∧ i ≤ T.length ∧ RB s.1 S ∧ dr (T.drop i) S.length = some 1 ∧ es (kC μ t) mi (T.drop i) S = es (kC μ t) mi T [] ∧ S.length ≤ 30) (fun s => 200 - s.2.1.toInt) (fun s hs => ?_) 5000 ((0 : Int32), Int32.ofNat o, μ) ⟨rfl, 0, [], rfl, Nat.zero_le _, RB.nil _, hT, rfl, Nat.zero_le _⟩ (by show 200 - (Int32.ofNat o).toInt < ((5000 : Nat) : Int); rw [ofn (by omega)]; omega) (by show 0 ≤ 200 - (Int32.ofNat o).toInt; rw [ofn (by omega)]; omega)
  obtain ⟨s1, s2, s3⟩ := s
  obtain ⟨em, i, S, ei, hi, hR, hd, he, h30⟩ := hs
  replace em : s3 = μ := em
  replace ei : s2 = Int32.ofNat (o + i) := ei
  replace hR : RB s1 S := hR
  subst em
  subst ei
  have oi := ofn (k := o + i) (by omega)
  refine gw_le (fun g => ?_) (fun g => ?_)
  · replace g : (Int32.ofNat (o + T.length)).toInt ≤ (Int32.ofNat (o + i)).toInt := g
    rw [List.drop_eq_nil_of_le (show T.length ≤ i by omega)] at hd he
    injection hd with hd
    rw [← he]
    show gw (if (s1 &&& (1 : Int32)) ≠ (1 : Int32) then _ else _) _
    cases S with
    | nil => cases hd
    | cons a S =>
      rw [bit_is hR.hd]
      cases a with
      | true => rw [if_neg (by decide)]; exact gw_z Iff.rfl (Or.inr rfl) (gs_inr (gq_I ⟨rfl, rfl⟩))
      | false => rw [if_pos (by decide)]; exact gw_z Iff.rfl (Or.inl rfl) (gs_inr (gq_I ⟨rfl, rfl⟩))
  · replace g : (Int32.ofNat (o + i)).toInt < (Int32.ofNat (o + T.length)).toInt := g
    have hlt : i < T.length := by omega
    have eT : T.drop i = T[i] :: T.drop (i + 1) := List.drop_eq_getElem_cons hlt
    have ec := hc i hlt
    rw [List.getElem?_map, List.getElem?_eq_getElem hlt] at ec
    injection ec with ec
    rw [eT] at hd he
    generalize T[i] = s at *
    refine gw_gRa (A + 3) hA.tc hA.r3 ?_
    refine gw_aIw (o + i) hA.t3 hA.l3 oi (by omega) ?_
    rw [← ec]
    have nx : ∀ (x : Int32) (S' : List Bool), RB x S' → dr (T.drop (i + 1)) S'.length = some 1 → stp (kC s3 t) mi s S = S' → S'.length ≤ 30 → gw (some (Sum.inl (x, Int32.ofNat (o + i) + 1, s3)) : Option ((Int32 × Int32 × gm_M) ⊕ (Option Value × gm_M))) (gs_st (fun s => s.2.2 = s3 ∧ ∃ (i : Nat) (S : List Bool), s.2.1 = Int32.ofNat (o + i) ∧ i ≤ T.length ∧ RB s.1 S ∧ dr (T.drop i) S.length = some 1 ∧ es (kC s3 t) mi (T.drop i) S = es (kC s3 t) mi T [] ∧ S.length ≤ 30) (fun s => 200 - s.2.1.toInt) (s1, Int32.ofNat (o + i), s3) (gqI (fun x m => x = bw ((es (kC s3 t) mi T []).headD false) ∧ m = s3))) := fun x S' h1 h2 h3 h4 => by
      refine gw_some (gs_inl ⟨rfl, i + 1, S', ofn1 (by omega), hlt, h1, h2, ?_, h4⟩ ?_ ?_)
      · rw [← he, ← h3]; rfl
      · show 200 - (Int32.ofNat (o + i) + 1).toInt < 200 - (Int32.ofNat (o + i)).toInt
        rw [ofn1 (by omega), ofn (k := o + i + 1) (by omega)]; omega
      · show 0 ≤ 200 - (Int32.ofNat (o + i) + 1).toInt
        rw [ofn1 (by omega), ofn (k := o + i + 1) (by omega)]; omega
    refine gw_j (fun q => q.2 = s3 ∧ ∃ S' : List Bool, RB q.1 S' ∧ dr (T.drop (i + 1)) S'.length = some 1 ∧ stp (kC s3 t) mi s S = S' ∧ S'.length ≤ 30) (fun q ⟨e1, S', h1, h2, h3, h4⟩ => by
      obtain ⟨q1, q2⟩ := q
      replace e1 : q2 = s3 := e1
      subst e1
      exact nx q1 S' h1 h2 h3 h4) (fun j hj => ?_)
    by_cases h0 : 0 ≤ s.toInt
    · rw [dr, if_pos h0] at hd
      split at hd
      · rename_i v
        have tn := tok_nums h0 v.1 v.2.1 v.2.2.1
        have lm1 : (-1 : Int32).toInt = -1 := rfl
        have lm2 : (-2 : Int32).toInt = -2 := rfl
        have lm3 : (-3 : Int32).toInt = -3 := rfl
        have c0 := tn.2.2.2.2.1
        rw [if_pos (show cv s ≠ -1 from fun e => by rw [e] at c0; omega), if_pos (show cv s ≠ -2 from fun e => by rw [e] at c0; omega), if_pos (show cv s ≠ -3 from fun e => by rw [e] at c0; omega)]
        refine gw_bI (v_passes hg hn ht hk ⟨h0, v.1, v.2.1, v.2.2.1⟩ mi) (fun x7 m6 ⟨ex, em⟩ => ?_)
        subst em
        subst ex
        refine gw_j (fun z => z = bw (tst s (fv (kC m6 t) mi (s % 8)))) (fun z ez => ?_) (fun j9 hj9 => ?_)
        · subst ez
          refine hj _ ⟨rfl, _, hR.push h30 _, ?_, by unfold stp; rw [if_pos h0], ?_⟩
          · exact hd
          · rw [List.length_cons]; omega
        · cases hb : tst s (fv (kC m6 t) mi (s % 8)) with
          | true => rw [if_neg (by decide)]; exact hj9 _ (by rw [hb]; rfl)
          | false => rw [if_pos (show bw false = 0 from rfl)]; exact hj9 _ (by rw [hb]; rfl)
      · cases hd
    · rw [dr, if_neg h0] at hd
      rw [cv_neg (by omega)]
      by_cases h1 : s = -1
      · rw [if_pos h1] at hd
        split at hd
        · subst h1
          rw [if_neg (by decide)]
          cases S with
          | nil => rename_i gg; exact absurd gg (by decide)
          | cons a S => exact hj _ ⟨rfl, _, hR.not, hd, rfl, h30⟩
        · cases hd
      · rw [if_neg h1] at hd
        rw [if_pos h1]
        split at hd
        · rename_i h23
          split at hd
          · rename_i h2
            cases S with
            | nil => exact absurd h2 (by decide)
            | cons a S =>
              cases S with
              | nil => exact absurd (show 2 ≤ 1 from h2) (by decide)
              | cons b S =>
                have hlS : S.length ≤ 28 := by
                  rw [List.length_cons, List.length_cons] at h30
                  omega
                rcases h23 with e | e
                · subst e
                  rw [if_neg (by decide)]
                  refine gw_j (fun z => RB z ((b && a) :: S)) (fun z hz => hj _ ⟨rfl, _, hz, hd, rfl, by rw [List.length_cons]; omega⟩) (fun j11 hj11 => ?_)
                  show gw (if (s1 &&& (1 : Int32)) ≠ (1 : Int32) then _ else _) _
                  rw [bit_is hR.hd]
                  cases a with
                  | true => rw [if_neg (by decide)]; exact hj11 _ (hR.and1 hlS)
                  | false => rw [if_pos (by decide)]; exact hj11 _ (hR.and0 hlS)
                · subst e
                  rw [if_pos (by decide), if_neg (by decide)]
                  exact hj _ ⟨rfl, _, hR.or hlS, hd, rfl, by rw [List.length_cons]; omega⟩
          · cases hd
        · cases hd
