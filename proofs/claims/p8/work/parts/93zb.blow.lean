/-! a breath: agreed behind it -/
theorem kud6 {k : Nat → Int32} {x : Int32} {j : Nat} (h : j ≠ 6) : kud k 6 x j = k j := if_neg h
theorem fv_6 {k : Nat → Int32} {x mi a : Int32} : fv (kud k 6 x) mi a = fv k mi a := by
  unfold fv
  rw [kud6 (k := k) (x := x) (j := 0) (by decide), kud6 (k := k) (x := x) (j := 1) (by decide), kud6 (k := k) (x := x) (j := 2) (by decide), kud6 (k := k) (x := x) (j := 3) (by decide), kud6 (k := k) (x := x) (j := 4) (by decide)]
theorem stp_6 {k : Nat → Int32} {x mi s : Int32} {S : List Bool} : stp (kud k 6 x) mi s S = stp k mi s S := by
  unfold stp; rw [fv_6]
theorem es_6 {k : Nat → Int32} {x mi : Int32} : ∀ (T : List Int32) (S : List Bool), es (kud k 6 x) mi T S = es k mi T S
  | [], S => rfl
  | s :: T, S => by
    show es (kud k 6 x) mi T (stp (kud k 6 x) mi s S) = es k mi T (stp k mi s S)
    rw [stp_6, es_6 T]
theorem cSum_6 {k : Nat → Int32} {x mi : Int32} : ∀ (P : List (List Int32 × Int32)) (a : Int32), cSum (kud k 6 x) mi P a = cSum k mi P a
  | [], a => rfl
  | q :: P, a => by
    show cSum (kud k 6 x) mi P (if (es (kud k 6 x) mi q.1 []).headD false = true then a + amt q.2 else a) = cSum k mi P (if (es k mi q.1 []).headD false = true then a + amt q.2 else a)
    rw [es_6, cSum_6 P]
theorem cHold_6 {k : Nat → Int32} {x w mi : Int32} {P : List (List Int32 × Int32)} : cHold w P (kud k 6 x) mi = cHold w P k mi := by
  unfold cHold cBear cSt
  rw [cSum_6, kud6 (k := k) (x := x) (j := 1) (by decide), kud6 (k := k) (x := x) (j := 3) (by decide), kud6 (k := k) (x := x) (j := 4) (by decide), kud6 (k := k) (x := x) (j := 5) (by decide)]
theorem cSt_b {k : Nat → Int32} {mi : Int32} {P : List (List Int32 × Int32)} (ok : okP P) (pl : P.length ≤ 10) : 1 ≤ (cSt k mi P).toInt ∧ (cSt k mi P).toInt ≤ 9900 := by
  have l30 : (30 : Int32).toInt = 30 := rfl
  have l1 : (1 : Int32).toInt = 1 := rfl
  have s := cSum_b (k := k) (mi := mi) P 30 1 ok (by omega) (by omega) (by omega)
  unfold cSt
  by_cases h : 1 < cSum k mi P 30
  · rw [if_pos h]; rw [Int32.lt_iff_toInt_lt] at h; omega
  · rw [if_neg h]; omega
theorem cHold_b {w : Int32} {P : List (List Int32 × Int32)} {k : Nat → Int32} (hk : RK k) (ok : okP P) (pl : P.length ≤ 10) (hw : 0 ≤ w.toInt ∧ w.toInt ≤ 99) (mi : Int32) : 0 ≤ (cHold w P k mi).toInt ∧ (cHold w P k mi).toInt ≤ 59400 := by
  obtain ⟨l0, l1, l2, l3, l4, l5, l6, l10, l99⟩ := i_lit
  have s := cSt_b (k := k) (mi := mi) ok pl
  obtain ⟨⟨-, -, h3⟩, ⟨h4, h5, -, -⟩, -⟩ := hk
  have m : 0 ≤ (k 3 * cSt k mi P).toInt ∧ (k 3 * cSt k mi P).toInt ≤ 59400 := by
    have e : (k 3).toInt = 0 ∨ (k 3).toInt = 1 ∨ (k 3).toInt = 2 ∨ (k 3).toInt = 3 ∨ (k 3).toInt = 4 ∨ (k 3).toInt = 5 ∨ (k 3).toInt = 6 := by omega
    rcases e with e | e | e | e | e | e | e
    all_goals (rw [gx_mul _ e (by omega) (by omega)]; omega)
  have d := idiv2 (x := k 5) h5.1
  have s1 : (k 3 * cSt k mi P - k 4).toInt = (k 3 * cSt k mi P).toInt - (k 4).toInt := gx_sub (by omega) (by omega)
  have s2 : (k 3 * cSt k mi P - k 4 - k 5 / 2).toInt = (k 3 * cSt k mi P - k 4).toInt - (k 5 / 2).toInt := gx_sub (by omega) (by omega)
  have s3 : (k 3 * cSt k mi P - k 4 - k 5 / 2 - w).toInt = (k 3 * cSt k mi P - k 4 - k 5 / 2).toInt - w.toInt := gx_sub (by omega) (by omega)
  have b : 0 ≤ (cBear w P k mi).toInt ∧ (cBear w P k mi).toInt ≤ 59400 := by
    unfold cBear
    rw [ab_i]
    split <;> omega
  unfold cHold
  split
  · have s4 : (cBear w P k mi - 10).toInt = (cBear w P k mi).toInt - (10 : Int32).toInt := gx_sub (by omega) (by omega)
    rw [ab_i]
    split <;> omega
  · exact b
def mn9 (y : Int32) : Int32 := if y < 9999 then y else 9999
theorem mn9_b {y : Int32} (h : 0 ≤ y.toInt) : 0 ≤ (mn9 y).toInt ∧ (mn9 y).toInt ≤ 9999 := by
  have l9 : (9999 : Int32).toInt = 9999 := rfl
  unfold mn9
  by_cases q : y < 9999
  · rw [if_pos q]; rw [Int32.lt_iff_toInt_lt] at q; omega
  · rw [if_neg q]; omega
def bl (k : Nat → Int32) (n H : Int32) : Nat → Int32 := if H < k 6 + n then kud (kud (kud k 6 (k 6 + n)) 7 (mn9 (k 7 + (k 6 + n) / 10))) 6 0 else kud k 6 (k 6 + n)
theorem bl_nums {k : Nat → Int32} (hk : RK k) {n : Int32} (hn : 1 ≤ n.toInt ∧ n.toInt ≤ 99) : (k 6 + n).toInt = (k 6).toInt + n.toInt ∧ 0 ≤ (k 7 + (k 6 + n) / 10).toInt := by
  obtain ⟨-, ⟨-, -, h6, h7⟩, -⟩ := hk
  have l10 : (10 : Int32).toInt = 10 := rfl
  have s : (k 6 + n).toInt = (k 6).toInt + n.toInt := gx_add (by omega) (by omega)
  have d : ((k 6 + n) / 10).toInt = (k 6 + n).toInt / 10 := by
    rw [gx_div (by decide), l10, Int.tdiv_eq_ediv_of_nonneg (by omega)]
  refine ⟨s, ?_⟩
  rw [gx_add (by omega) (by omega)]
  omega
theorem RK.bln {k : Nat → Int32} (hk : RK k) {n H : Int32} (hn : 1 ≤ n.toInt ∧ n.toInt ≤ 99) (hH : 0 ≤ H.toInt ∧ H.toInt ≤ 59400) : RK (bl k n H) := by
  obtain ⟨b1, b2⟩ := bl_nums hk hn
  have l0 : (0 : Int32).toInt = 0 := rfl
  have h6 := hk.2.1.2.2.1
  unfold bl
  by_cases q : H < k 6 + n
  · rw [if_pos q]
    have e : kud (kud (kud k 6 (k 6 + n)) 7 (mn9 (k 7 + (k 6 + n) / 10))) 6 0 = kud (kud k 7 (mn9 (k 7 + (k 6 + n) / 10))) 6 0 := by
      funext i
      unfold kud
      by_cases q6 : i = 6
      · rw [if_pos q6, if_pos q6]
      · rw [if_neg q6, if_neg q6, if_neg q6]
    rw [e]
    have m := mn9_b b2
    exact (hk.u (j := 7) (Or.inr (Or.inr (Or.inr (Or.inr (Or.inr ⟨rfl, m⟩)))))).u (j := 6) (Or.inr (Or.inr (Or.inr (Or.inr (Or.inl ⟨rfl, by omega, by omega⟩)))))
  · rw [if_neg q]
    rw [Int32.lt_iff_toInt_lt] at q
    exact hk.u (j := 6) (Or.inr (Or.inr (Or.inr (Or.inr (Or.inl ⟨rfl, by omega, by omega⟩)))))
section
variable {w sw : Int32} {P : List (List Int32 × Int32)} {μ : gm_M} {c t : Nat}
theorem v_breathe (hg : gS μ) (ht : ict t) {n H : Int32} : gwI (f_X2_breathe t n H μ) (fun x m => x = (if H < kC μ t 6 + n then 1 else 0) ∧ chg t μ m ∧ kC m t = bl (kC μ t) n H) := by
  have tc := ict.c hg ht
  refine gwI_of ?_
  unfold f_X2_breathe
  have g6 : kC μ t 6 = μ.2.1 t 6 := rfl
  have g7 : kC μ t 7 = μ.2.1 t 7 := rfl
  have r0 := chg.refl t μ
  refine gw_gIw tc ?_
  refine gw_pIw tc ?_
  refine gw_gIw tc ?_
  rw [wI_e, ← g6]
  refine gw_ite (fun c => ?_) (fun c => ?_)
  · refine gw_gIw tc ?_
    refine gw_gIw tc ?_
    rw [wI_e, wI_n _ _ _ _ (show (7 : Nat) ≠ 6 by decide), ← g7]
    refine gw_dv (by decide) ?_
    refine gw_pIw tc ?_
    refine gw_pIw tc ?_
    refine gw_if (Or.inr rfl) ?_
    refine gw_some (gq_I ⟨by rw [if_pos c], ((r0.w rfl (by decide)).w rfl (by decide)).w rfl (by decide), ?_⟩)
    rw [kC_w (by decide) (by decide), kC_w (by decide) (by decide), kC_w (by decide) (by decide), bl, if_pos c]; rfl
  · refine gw_if (Or.inl rfl) ?_
    refine gw_some (gq_I ⟨by rw [if_neg c], r0.w rfl (by decide), ?_⟩)
    rw [kC_w (by decide) (by decide), bl, if_neg c]
theorem v_holdsNow (h : CW w P μ) (hc : c < 5) : gwI (f_X11_holdsNow 1 (Int32.ofNat c) μ) (fun x m => x = cHold w P (kC μ (29 + 2 * c)) (μ.2.1 15 0) ∧ m = μ) := by
  have hg := h.1.1
  refine gwI_of ?_
  unfold f_X11_holdsNow
  refine gw_kid hg hc ?_
  refine gw_gRa 15 (hg.c (r := 1) rfl) (hg.r (by decide)) ?_
  refine gw_gR (hg.c (r := 15) rfl) (fun q eq => ?_)
  subst eq
  refine gw_gRa 15 (hg.c (r := 1) rfl) (hg.r (by decide)) ?_
  refine gw_gIw (hg.c (r := 15) rfl) ?_
  refine gw_if (isch.t hg (isch_c hc)) ?_
  refine gw_bI (v_holds h (ict_c hc) _) (fun x m ⟨ex, em⟩ => ?_)
  exact gw_some (gq_I ⟨ex, em⟩)
theorem m_w9 {x : Int32} (h : 0 ≤ x.toInt) : gwI (f_X12_within x 0 9999 μ) (fun y m => m = μ ∧ y = mn9 x) := by
  have l0 : (0 : Int32).toInt = 0 := rfl
  have l9 : (9999 : Int32).toInt = 9999 := rfl
  refine gwI_of ?_
  unfold f_X12_within mn9
  refine gw_le (fun g => ?_) (fun g => by exfalso; omega)
  refine gw_le (fun g2 => gw_some (gq_I ⟨rfl, ?_⟩)) (fun g2 => gw_some (gq_I ⟨rfl, ?_⟩))
  · by_cases q : x < 9999
    · rw [if_pos q]
    · rw [if_neg q]
      rw [Int32.lt_iff_toInt_lt] at q
      exact Int32.toInt_inj.mp (by omega)
  · rw [if_neg (by rw [Int32.lt_iff_toInt_lt]; omega)]
set_option maxHeartbeats 2000000 in
theorem w_blows (h : MW w sw P μ) (hc : c < 5) {n : Int32} (hk : RK (kR (μ.2.1 66) c)) (hn : 1 ≤ n.toInt ∧ n.toInt ≤ 99) : gwI (f_X12_blows 65 (Int32.ofNat c) n μ) (fun x m => km A3 μ m ∧ x = (if cHold w P (kR (μ.2.1 66) c) (μ.2.1 66 0) < kR (μ.2.1 66) c 6 + n then 1 else 0) ∧ kR (m.2.1 66) c = bl (kR (μ.2.1 66) c) n (cHold w P (kR (μ.2.1 66) c) (μ.2.1 66 0)) ∧ oth c μ m) := by
  have oc := ofn (k := c) (by omega)
  refine gwI_mono (gwI_and (s_X12_blows h.1 (a1 := Int32.ofNat c) (a2 := n) ⟨by omega, by omega⟩) (S := fun x m => x = (if cHold w P (kR (μ.2.1 66) c) (μ.2.1 66 0) < kR (μ.2.1 66) c 6 + n then 1 else 0) ∧ kR (m.2.1 66) c = bl (kR (μ.2.1 66) c) n (cHold w P (kR (μ.2.1 66) c) (μ.2.1 66 0)) ∧ oth c μ m) ?_) (fun x m ⟨⟨a, _⟩, b⟩ => ⟨a, b⟩)
  refine gwI_of ?_
  unfold f_X12_blows
  have e6 : kR (μ.2.1 66) c 6 = μ.2.1 66 (16 + c) := rfl
  have e7 : kR (μ.2.1 66) c 7 = μ.2.1 66 (21 + c) := rfl
  have o0 : oth c μ μ := fun _ _ _ => rfl
  have i6 : 16 + c = 5 * 6 - 14 + c := by omega
  have i7 : 21 + c = 5 * 7 - 14 + c := by omega
  refine gw_gRa 66 (h.1.1.c (r := 65) rfl) (h.1.1.r (by decide)) ?_
  refine gw_aIw (16 + c) (h.1.1.t (r := 66) rfl) (h.1.1.l (r := 66) rfl) (ixc hc 16 16 rfl (by decide)) (by omega) ?_
  rw [← e6]
  refine gw_wr h.1 hc 16 rfl (by decide) ?_
  generalize hb : kR (μ.2.1 66) c 6 + n = b
  have k1 : kR ((wI μ 66 (16 + c) b).2.1 66) c = kud (kR (μ.2.1 66) c) 6 b := by
    rw [kR_w hc hc (j := 6) (by decide) (by decide) i6, if_pos rfl]
  have o1 : oth c μ (wI μ 66 (16 + c) b) := o0.wr hc (j := 6) (by decide) (by decide) i6
  have hM : MW w sw P (wI μ 66 (16 + c) b) := h.k1 ((km.refl A1 μ).ws rfl (by unfold A1; omega))
  have n0 : (wI μ 66 (16 + c) b).2.1 66 0 = μ.2.1 66 0 := wI_n _ _ _ _ (by omega)
  have n16 : (wI μ 66 (16 + c) b).2.1 66 (16 + c) = b := wI_e _ _ _ _
  have n21 : (wI μ 66 (16 + c) b).2.1 66 (21 + c) = μ.2.1 66 (21 + c) := wI_n _ _ _ _ (by omega)
  generalize wI μ 66 (16 + c) b = M at *
  refine gw_rd hM.1 hc 16 rfl (by decide) ?_
  rw [n16]
  refine gw_if (hM.1.1.t (r := 65) rfl) ?_
  refine gw_bI (w_holds hM hc) (fun x m6 ⟨k6, ex⟩ => ?_)
  subst ex
  rw [k1, cHold_6, n0]
  have r6 := k6.row
  have M6 : MI m6 := hM.1.of2 k6.w02
  refine gw_ite (fun g => ?_) (fun g => ?_)
  · refine gw_gRa 66 (M6.1.c (r := 65) rfl) (M6.1.r (by decide)) ?_
    refine gw_rd M6 hc 21 rfl (by decide) ?_
    refine gw_rd M6 hc 16 rfl (by decide) ?_
    rw [r6, n16, n21, ← e7]
    refine gw_dv (by decide) ?_
    refine gw_bI (m_w9 (by rw [← hb]; exact (bl_nums hk hn).2)) (fun y m' ⟨em, ey⟩ => ?_)
    subst em
    subst ey
    refine gw_wr M6 hc 21 rfl (by decide) ?_
    have M7 : MI (wI m' 66 (21 + c) (mn9 (kR (μ.2.1 66) c 7 + b / 10))) := M6.of1 ((km.refl A1 m').ws rfl (by unfold A1; omega))
    refine gw_gRa 66 (M7.1.c (r := 65) rfl) (M7.1.r (by decide)) ?_
    refine gw_wr M7 hc 16 rfl (by decide) ?_
    refine gw_if (Or.inr rfl) ?_
    refine gw_some (gq_I ⟨by rw [if_pos g], ?_, ?_⟩)
    · rw [kR_w hc hc (j := 6) (by decide) (by decide) i6, if_pos rfl, kR_w hc hc (j := 7) (by decide) (by decide) i7, if_pos rfl, r6, k1, bl, hb, if_pos g]
    · have o6 : oth c μ m' := fun d hd hdc => by rw [r6]; exact o1 d hd hdc
      exact (o6.wr hc (j := 7) (by decide) (by decide) i7).wr hc (j := 6) (by decide) (by decide) i6
  · refine gw_if (Or.inl rfl) ?_
    refine gw_some (gq_I ⟨by rw [if_neg g], ?_, fun d hd hdc => by rw [r6]; exact o1 d hd hdc⟩)
    rw [r6, k1, bl, hb, if_neg g]
set_option maxHeartbeats 4000000 in
theorem N_blow (h : REL μ) {a n : Int32} : PR (f_X11_blow 1 a n μ) (f_X12_blow 65 a n) := by
  refine PR.mk (c_blow h.1) (fun m k => m_blow k) ?_
  have hg := h.ci.1
  have e26 := h.sz.symm
  obtain ⟨w, sw, P, ⟨hcw, hmw, -, -⟩, hw, -⟩ := h.ex
  have l1 : (1 : Int32).toInt = 1 := rfl
  have l99 : (99 : Int32).toInt = 99 := rfl
  refine gwI_of ?_
  unfold f_X11_blow
  -- a refusal on both sides
  have no : ∀ (y : Int32), (ALL μ → gwI (f_X12_blow 65 a n μ) (fun z m2 => z = y ∧ m2 = μ)) → gw (some (some (.int y), μ)) (gqI (fun x m => ALL m → gwI (f_X12_blow 65 a n m) (fun y m2 => y = x ∧ (ALL m2 → REL m2)))) := fun y q =>
    gw_some (gq_I (fun hA => gwI_mono (q hA) (fun z m2 ⟨e1, e2⟩ => ⟨e1, fun _ => by rw [e2]; exact h⟩)))
  refine gw_if (hg.t (r := 1) rfl) ?_
  refine gw_nob h (fun hC => ?_) (fun nC => ?_)
  · rw [if_pos rfl]
    refine gw_out (fun hn => ?_) (fun nn => ?_)
    · rw [if_pos rfl]
      obtain ⟨c, hc, ea, oc⟩ := hC.at
      subst ea
      have tc := ict.c hg (ict_c hc)
      obtain ⟨ke, kr⟩ := h.kk hc
      have e3 : μ.2.1 (29 + 2 * c) 3 = μ.2.1 66 (1 + c) := (show kC μ (29 + 2 * c) 3 = kR (μ.2.1 66) c 3 by rw [ke])
      refine gw_kid hg hc ?_
      refine gw_gIw tc ?_
      refine gw_ite (fun g3 => ?_) (fun g3 => ?_)
      · refine gw_if (hg.t (r := 1) rfl) ?_
        refine gw_bI (v_holdsNow hcw hc) (fun x m ⟨ex, em⟩ => ?_)
        subst em
        subst ex
        refine gw_if (ict.t hg (ict_c hc)) ?_
        refine gw_bI (v_breathe hg (ict_c hc)) (fun x m1 ⟨ex, g1, k1⟩ => ?_)
        have hH := cHold_b kr hcw.2.2.1.1 hcw.2.2.1.2.1 hw (m.2.1 66 0)
        rw [ke, h.mn] at k1 ex
        have r66 : m1.2.1 66 = m.2.1 66 := g1.2.2.1 66 (by omega)
        have tc1 : [7].contains (gm_tag m1 (29 + 2 * c)) = true := by rw [show gm_tag m1 (29 + 2 * c) = gm_tag m (29 + 2 * c) by unfold gm_tag; rw [g1.1]]; exact tc
        have fin : ∀ (x0 : Int32), (x = 0 → x0 = bl (kR (m.2.1 66) c) n (cHold w P (kR (m.2.1 66) c) (m.2.1 66 0)) 6) → (x ≠ 0 → x0 = -6) → gw (some (some (.int x0), m1)) (gqI (fun x m' => ALL m' → gwI (f_X12_blow 65 (Int32.ofNat c) n m') (fun y m2 => y = x ∧ (ALL m2 → REL m2)))) := fun x0 f1 f2 => by
          refine gw_some (gq_I (fun hA => gwI_of ?_))
          have hM : MW w sw P m1 := ⟨hA.1, by rw [r66]; exact hmw.2⟩
          unfold f_X12_blow
          refine gw_if hA.t65 ?_
          refine gw_isc (μ := m) hA.1 (by rw [r66]; exact e26) (fun _ => ?_) (fun q => absurd hC q)
          rw [if_pos (by decide)]
          refine gw_inn (fun _ => ?_) (fun q => absurd hn q)
          rw [if_pos (by decide)]
          refine gw_rd hA.1 hc 1 rfl (by decide) ?_
          rw [r66, ← e3]
          refine gw_if g3 ?_
          refine gw_if hA.t65 ?_
          refine gw_bI (w_blows hM hc (by rw [r66]; exact kr) (n := n) (by omega)) (fun z m7 ⟨g7, ez, kz, oz⟩ => ?_)
          rw [r66, ← ex] at ez
          rw [r66] at kz
          have fn : ∀ y : Int32, y = x0 → gw (some (some (.int y), m7)) (gqI (fun y m2 => y = x0 ∧ (ALL m2 → REL m2))) := fun y ey => by
            refine gw_some (gq_I ⟨ey, fun hB => ?_⟩)
            have ro : ∀ r : Nat, (r ≠ 65 ∧ r ≠ 66 ∧ r ≠ 69 ∧ r ≠ 70 ∧ r ≠ 71 ∧ r ≠ 72 ∧ r ≠ 73) → m7.2.1 r = m1.2.1 r := fun r q => g7.2.2.1 r q.1 q.2.1 q.2.2.1 q.2.2.2.1 q.2.2.2.2.1 q.2.2.2.2.2.1 q.2.2.2.2.2.2
            refine h.one hc hB (fun r r1 r2 r3 => (ro r (by omega)).trans (g1.2.2.1 r r1)) (g7.2.1.trans g1.2.1) (fun i hi => by rw [g7.2.2.2.1 i (by unfold A3; omega), r66]) (fun d hd hdc => by rw [oz d hd hdc, r66]) ⟨?_, ?_⟩
            · rw [kz, kC_o (μ := m1) (m := m7) (t := 29 + 2 * c) (by rw [g7.2.1]) (ro _ (by omega)) (fun j _ => by rw [ro _ (by omega)]), k1]
            · rw [kz]; exact kr.bln ⟨by omega, by omega⟩ hH
          refine gw_ite (fun gz => ?_) (fun gz => ?_)
          · refine gw_rd (hA.1.of1 g7.w31) hc 16 rfl (by decide) ?_
            refine fn _ ?_
            have e16 : m7.2.1 66 (16 + c) = kR (m7.2.1 66) c 6 := rfl
            rw [e16, kz]
            exact (f1 (by rw [← ez]; exact gz)).symm
          · exact fn _ (f2 (by rw [← ez]; exact gz)).symm
        refine gw_ite (fun gx => ?_) (fun gx => ?_)
        · refine gw_gIw tc1 ?_
          refine fin _ (fun _ => ?_) (fun q => absurd gx q)
          have e6 : m1.2.1 (29 + 2 * c) 6 = kC m1 (29 + 2 * c) 6 := rfl
          rw [e6, k1]
        · exact fin _ (fun q => absurd q gx) (fun _ => rfl)
      · refine no _ (fun hA => gwI_of ?_)
        unfold f_X12_blow
        refine gw_if hA.t65 ?_
        refine gw_isc hA.1 e26 (fun _ => ?_) (fun q => absurd hC q)
        rw [if_pos (by decide)]
        refine gw_inn (fun _ => ?_) (fun q => absurd hn q)
        rw [if_pos (by decide)]
        refine gw_rd hA.1 hc 1 rfl (by decide) ?_
        rw [← e3, if_neg g3]
        exact gw_some (gq_I ⟨rfl, rfl⟩)
    · rw [if_neg (by decide)]
      refine no _ (fun hA => gwI_of ?_)
      unfold f_X12_blow
      refine gw_if hA.t65 ?_
      refine gw_isc hA.1 e26 (fun _ => ?_) (fun q => absurd hC q)
      rw [if_pos (by decide)]
      refine gw_inn (fun q => absurd q nn) (fun _ => ?_)
      rw [if_neg (by decide)]
      exact gw_some (gq_I ⟨rfl, rfl⟩)
  · rw [if_neg (by decide)]
    refine no _ (fun hA => gwI_of ?_)
    unfold f_X12_blow
    refine gw_if hA.t65 ?_
    refine gw_isc hA.1 e26 (fun q => absurd q nC) (fun _ => ?_)
    rw [if_neg (by decide)]
    exact gw_some (gq_I ⟨rfl, rfl⟩)
end
