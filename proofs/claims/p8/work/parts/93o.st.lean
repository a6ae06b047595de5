/-! stretch, on both sides: P the changes, each behind its E's steps -/
def cSum (k : Nat → Int32) (mi : Int32) : List (List Int32 × Int32) → Int32 → Int32
  | [], a => a
  | q :: P, a => cSum k mi P (if (es k mi q.1 []).headD false = true then a + amt q.2 else a)
theorem cSum_add {k : Nat → Int32} {mi : Int32} (b : Int32) : ∀ (P : List (List Int32 × Int32)) (a : Int32), cSum k mi P (b + a) = b + cSum k mi P a
  | [], a => rfl
  | q :: P, a => by
    show cSum k mi P (if (es k mi q.1 []).headD false = true then b + a + amt q.2 else b + a) = b + cSum k mi P (if (es k mi q.1 []).headD false = true then a + amt q.2 else a)
    rw [← cSum_add b P]
    split
    · rw [Int32.add_assoc]
    · rfl
theorem cSum_b {k : Nat → Int32} {mi : Int32} : ∀ (P : List (List Int32 × Int32)) (a : Int32) (n : Nat), okP P → P.length + n ≤ 100 → -99 * (n : Int) ≤ a.toInt → a.toInt ≤ 99 * n → -9900 ≤ (cSum k mi P a).toInt ∧ (cSum k mi P a).toInt ≤ 9900
  | [], a, n, _, h, h1, h2 => by
    rw [List.length_nil] at h
    exact ⟨by show -9900 ≤ a.toInt; omega, by show a.toInt ≤ 9900; omega⟩
  | q :: P, a, n, ok, h, h1, h2 => by
    rw [List.length_cons] at h
    obtain ⟨-, -, -, o1, o2⟩ := ok q List.mem_cons_self
    refine cSum_b P _ (n + 1) (fun x hx => ok x (List.mem_cons_of_mem _ hx)) (by omega) ?_ ?_
    · split
      · rw [gx_add (by omega) (by omega)]; omega
      · omega
    · split
      · rw [gx_add (by omega) (by omega)]; omega
      · omega
def cSt (k : Nat → Int32) (mi : Int32) (P : List (List Int32 × Int32)) : Int32 := if 1 < cSum k mi P 30 then cSum k mi P 30 else 1
/-! where in the class's arrays a change stands -/
def offs (P : List (List Int32 × Int32)) : Nat := (cds (fl P)).length
theorem cds_q {q : List Int32 × Int32} (h : tkn q.1) (h2 : q.2.toInt ≤ -10) : cds (q.1 ++ [q.2]) = q.1.map cv := by
  rw [cds_app, cds_all h]
  have : cds [q.2] = [] := by
    unfold cds; rw [List.filter_cons_of_neg (by rw [decide_eq_true_eq]; omega)]; rfl
  rw [this, List.append_nil]
theorem chs_q {q : List Int32 × Int32} (h : tkn q.1) (h2 : q.2.toInt ≤ -10) (k : Nat) : chs (q.1 ++ [q.2]) k = [(amt q.2, k + q.1.length)] := by
  rw [chs_app, chs_all h, cds_all h, List.length_map]
  show [] ++ (if -10 < q.2.toInt then _ else _) = _
  rw [if_neg (by omega)]; rfl
theorem chs_fl : ∀ (P : List (List Int32 × Int32)) (k : Nat), okP P → (chs (fl P) k).length = P.length
  | [], _, _ => rfl
  | q :: P, k, h => by
    have ⟨_, h1, h2, _⟩ := h q List.mem_cons_self
    show (chs ((q.1 ++ [q.2]) ++ fl P) k).length = _
    rw [chs_app, List.length_append, chs_q h1 h2, chs_fl P _ (fun x hx => h x (List.mem_cons_of_mem _ hx)), List.length_singleton, List.length_cons]; omega
theorem okP.app {P Q : List (List Int32 × Int32)} (h : okP (P ++ Q)) : okP P ∧ okP Q := ⟨fun q hq => h q (List.mem_append_left _ hq), fun q hq => h q (List.mem_append_right _ hq)⟩
theorem at_chs {P1 P2 : List (List Int32 × Int32)} {q : List Int32 × Int32} (h : okP (P1 ++ q :: P2)) : (chs (fl (P1 ++ q :: P2)) 0)[P1.length]? = some (amt q.2, offs P1 + q.1.length) := by
  obtain ⟨o1, o2⟩ := h.app
  have ⟨_, h1, h2, _⟩ := o2 q List.mem_cons_self
  rw [fl_app, chs_app, List.getElem?_append_right (by rw [chs_fl P1 0 o1]; exact Nat.le_refl _), chs_fl P1 0 o1, Nat.sub_self]
  show (chs ((q.1 ++ [q.2]) ++ fl P2) (0 + (cds (fl P1)).length))[0]? = _
  rw [chs_app, chs_q h1 h2, Nat.zero_add]; rfl
theorem at_cds {P1 P2 : List (List Int32 × Int32)} {q : List Int32 × Int32} (h : okP (P1 ++ q :: P2)) {i : Nat} (hi : i < q.1.length) : (cds (fl (P1 ++ q :: P2)))[offs P1 + i]? = (q.1.map cv)[i]? := by
  obtain ⟨o1, o2⟩ := h.app
  have ⟨_, h1, h2, _⟩ := o2 q List.mem_cons_self
  rw [fl_app, cds_app, List.getElem?_append_right (by unfold offs; omega), show offs P1 + i - (cds (fl P1)).length = i by unfold offs; omega]
  show (cds ((q.1 ++ [q.2]) ++ fl P2))[i]? = _
  rw [cds_app, cds_q h1 h2, List.getElem?_append_left (by rw [List.length_map]; exact hi)]
theorem offs_snoc {P1 : List (List Int32 × Int32)} {q : List Int32 × Int32} (h1 : tkn q.1) (h2 : q.2.toInt ≤ -10) : offs (P1 ++ [q]) = offs P1 + q.1.length := by
  unfold offs
  rw [fl_app, cds_app, List.length_append]
  show _ + (cds ((q.1 ++ [q.2]) ++ [])).length = _
  rw [List.append_nil, cds_q h1 h2, List.length_map]
theorem offs_le (P1 P2 : List (List Int32 × Int32)) : offs P1 ≤ (cds (fl (P1 ++ P2))).length := by
  unfold offs; rw [fl_app, cds_app, List.length_append]; omega
theorem v_stretch {μ : gm_M} (hg : gS μ) (hn : KD μ) {A t : Nat} (hA : AfW μ A) (ht : ict t) (hk : kid (μ.2.2 t 1)) {w sw : Int32} {P : List (List Int32 × Int32)} (hP : okP P) (hl : P.length ≤ 10) (hL : (fl P).length ≤ 100) (ha : AFC μ A w sw (fl P)) (mi : Int32) : gwI (f_X0_stretchOf A t mi μ) (fun x m => x = cSt (kC μ t) mi P ∧ m = μ) := by
  obtain ⟨-, ⟨a1, a2⟩, a3, a4⟩ := ha
  refine gwI_of ?_
  unfold f_X0_stretchOf
  have l0 : (0 : Int32).toInt = 0 := rfl
  have l1 : (1 : Int32).toInt = 1 := rfl
  rw [chs_fl P 0 hP] at a3
  have oP := ofn (k := P.length) (by omega)
  have hcl := cds_len (fl P)
  refine gw_loop (fun s => s.2.2.2 = μ ∧ ∃ P1 P2 : List (List Int32 × Int32), P = P1 ++ P2 ∧ s.2.1 = Int32.ofNat (offs P1) ∧ s.2.2.1 = Int32.ofNat P1.length ∧ cSum (kC μ t) mi P2 s.1 = cSum (kC μ t) mi P 30) (fun s => 200 - s.2.2.1.toInt) (fun s hs => ?_) 5000 ((30 : Int32), (0 : Int32), (0 : Int32), μ) ⟨rfl, [], P, rfl, rfl, rfl, rfl⟩ (by show 200 - (0 : Int32).toInt < ((5000 : Nat) : Int); omega) (by show 0 ≤ 200 - (0 : Int32).toInt; omega)
  obtain ⟨s1, s2, s3, s4⟩ := s
  obtain ⟨em, P1, P2, eP, e2, e3, he⟩ := hs
  replace em : s4 = μ := em
  replace e2 : s2 = Int32.ofNat (offs P1) := e2
  replace e3 : s3 = Int32.ofNat P1.length := e3
  replace he : cSum (kC μ t) mi P2 s1 = cSum (kC μ t) mi P 30 := he
  subst em
  subst e2
  subst e3
  have hl1 : P1.length + P2.length = P.length := by rw [eP, List.length_append]
  have o1 := ofn (k := P1.length) (by omega)
  refine gw_gIw hA.tc ?_
  show gw (if s4.2.1 A 2 ≤ Int32.ofNat P1.length then _ else _) _
  rw [a3]
  refine gw_le (fun g => ?_) (fun g => ?_)
  · have e : P2 = [] := List.eq_nil_of_length_eq_zero (by omega)
    subst e
    refine gw_some (gs_inr (gq_I ⟨?_, rfl⟩))
    show (if (1 : Int32) < s1 then s1 else 1) = _
    unfold cSt
    rw [← he]; rfl
  · cases P2 with
    | nil => exfalso; rw [List.length_nil] at hl1; omega
    | cons q P2 =>
      subst eP
      have ⟨hd, h1, h2, _⟩ := (hP.app).2 q List.mem_cons_self
      have ac := at_chs hP
      have b4 := a4 P1.length _ ac
      have hoff := offs_le (P1 ++ [q]) P2
      rw [offs_snoc h1 h2, List.append_assoc] at hoff
      replace hoff : offs P1 + q.1.length ≤ (cds (fl (P1 ++ q :: P2))).length := hoff
      refine gw_gRa (A + 2) hA.tc hA.r2 ?_
      refine gw_aIw P1.length hA.t2 hA.l2 o1 (by omega) ?_
      rw [b4.2]
      refine gw_if hA.t ?_
      refine gw_bI (v_isSo hg hn hA ht hk (T := q.1) (o := offs P1) (by omega) hd (fun i hi => by rw [← at_cds hP hi]; exact a2 _ (by omega)) mi) (fun x7 m6 ⟨ex, em⟩ => ?_)
      subst em
      subst ex
      have hms : (200 - (Int32.ofNat P1.length + 1).toInt < 200 - (Int32.ofNat P1.length).toInt) ∧ 0 ≤ 200 - (Int32.ofNat P1.length + 1).toInt := by
        rw [ofn1 (by omega), ofn (k := P1.length + 1) (by omega)]; omega
      refine gw_j (fun z => z = (if (es (kC m6 t) mi q.1 []).headD false = true then s1 + amt q.2 else s1)) (fun z ez => ?_) (fun j9 hj9 => ?_)
      · refine gw_gRa (A + 2) hA.tc hA.r2 ?_
        refine gw_aIw P1.length hA.t2 hA.l2 o1 (by omega) ?_
        rw [b4.2]
        refine gw_some (gs_inl ⟨rfl, P1 ++ [q], P2, by rw [List.append_assoc]; rfl, by rw [offs_snoc h1 h2], ?_, ?_⟩ hms.1 hms.2)
        · rw [List.length_append, List.length_singleton]; exact ofn1 (by omega)
        · rw [← he, ez]; rfl
      · cases hb : (es (kC m6 t) mi q.1 []).headD false with
        | true =>
          rw [if_neg (by decide)]
          refine gw_gRa (A + 1) hA.tc hA.r1 ?_
          refine gw_aIw P1.length hA.t1 hA.l1 o1 (by omega) ?_
          rw [b4.1]
          exact hj9 _ (by rw [hb, if_pos rfl])
        | false =>
          rw [if_pos (show bw false = 0 from rfl)]
          exact hj9 _ (by rw [hb, if_neg (by decide)])
