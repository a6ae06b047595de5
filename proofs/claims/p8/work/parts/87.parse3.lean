def Ff (d : Nat) (c : Int) (F : Nat → gm_M → Option (Option Value × gm_M)) : Prop := ∀ {μ : gm_M} {A t : Nat}, PM A μ t → 0 ≤ op μ ∧ op μ ≤ 6 → (wr μ = 0 → op μ ≤ 5) → 3 * (5 - op μ) + c ≤ d → gwV (F 65 μ) (fun m => FP A t μ m)
/-- one factor, then signs and factors -/
theorem s_chain {A t : Nat} {μ m1 : gm_M} {F : Nat → gm_M → Option (Option Value × gm_M)} {d : Nat} {c : Int} (hF : Ff d c F) (p : PM A μ t) (ho : 0 ≤ op μ ∧ op μ ≤ 6) (hw : wr μ = 0 → op μ ≤ 5) (hd : 3 * (5 - op μ) + c ≤ d) (h1 : FP A t μ m1) {sg cd : Int32} (hcd : cd.toInt = -2 ∨ cd.toInt = -3) (hsg : 0 ≤ sg.toInt) : gw (gm_loop (fun (s3 : gm_M) => gm_gI s3 [17] 65 8 (fun v4 => if v4 ≠ 0 then some (Sum.inr (none, s3)) else if gm_tag s3 65 = 17 then gm_bI (f_X12_here 65 s3) (fun x6 m5 => if x6 ≠ sg then some (Sum.inr (none, m5)) else gm_gI m5 [17] 65 6 (fun v7 => gm_pI m5 [17] 65 6 (v7 + (1 : Int32)) (fun m8 => if gm_tag m8 65 = 17 then gm_bV (F 65 m8) (fun m9 => if gm_tag m9 65 = 17 then gm_bV (f_X12_emits 65 cd m9) (fun m11 => some (Sum.inl m11)) else none) else none))) else none)) 5000 m1) (gqV (fun m => FP A t μ m)) := by
  have l0 : (0 : Int32).toInt = 0 := rfl
  have l1 : (1 : Int32).toInt = 1 := rfl
  have h0 : sp μ - mn A μ ≥ 0 := by have := p.2.2.2.1; omega
  refine gw_loop (fun s => FP A t μ s) (fun s => 200 - sp s) (fun s hs => ?_) 5000 m1 h1 (by have := h1.1.2.2.1; have := p.1.2.1; show 200 - sp m1 < ((5000 : Nat) : Int); omega) (by obtain ⟨-, -, t', q, -⟩ := h1; have := q.1.2.1; show 0 ≤ 200 - sp m1; omega)
  obtain ⟨k, ko, t', q, kw⟩ := hs
  have hg := q.g
  have hb := q.1.2.1
  have d8 : (s.2.1 65 8).toInt = wr s := rfl
  have d6 : (s.2.1 65 6).toInt = sp s := rfl
  refine gw_gIw (hg.c (r := 65) rfl) ?_
  refine gw_ne (fun _ => gw_some (gs_inr (gq_V ⟨k, ko, t', q, kw⟩))) (fun g => ?_)
  refine gw_if (hg.t (r := 65) rfl) ?_
  refine gw_bI (s_here q.1) (fun x m ⟨z, fx⟩ => ?_)
  replace z := z.symm
  subst z
  refine gw_ne (fun _ => gw_some (gs_inr (gq_V ⟨k, ko, t', q, kw⟩))) (fun g2 => ?_)
  obtain ⟨e1, e2⟩ := kw (by omega)
  subst e1
  refine gw_gIw (hg.c (r := 65) rfl) ?_
  refine gw_pIw (hg.c (r := 65) rfl) ?_
  have n6 : (s.2.1 65 6 + (1 : Int32)).toInt = (s.2.1 65 6).toInt + (1 : Int32).toInt := gx_add (by omega) (by omega)
  obtain ⟨r1, r2, r3⟩ := (fq.refl q.1).on q.1 (x := s.2.1 65 6 + (1 : Int32)) (by omega) (by omega)
  obtain ⟨q1, q2, q3, q4, q5⟩ := q.q r1
  refine gw_if (q1.g.t (r := 65) rfl) ?_
  refine gw_bV (hF q1 (by rw [q4, ko]; exact ho) (fun z => by rw [q4, ko]; exact hw (k.2.2.2 (by omega))) (by rw [q4, ko]; exact hd)) (fun m9 ⟨f1, f2, u, f3, f4⟩ => ?_)
  refine gw_if (f3.g.t (r := 65) rfl) ?_
  have ft := f3.t20
  have fb := f3.1.2.1
  have k9 := k.trans (q5.trans f1)
  have w1 := f1.2.1
  have w2 := k.2.1
  have w3 := f1.2.2.1
  have w4 := k.2.2.1
  have f35 := f3.2.2.2.2.1
  refine gw_bV (s_emit (t' := t + 1) f3 k9 (x := cd) (fun z => ?_) h0) (fun m11 ⟨e1, e3, e4, e5, v, e6, e7⟩ => ?_)
  · obtain ⟨y1, y2⟩ := f4 z
    subst y1
    exact ⟨⟨by omega, Or.inr (Or.inr (Or.inl ⟨by omega, by omega, by omega, by omega⟩))⟩, by omega, by omega⟩
  · have vb := e6.1.2.1
    refine gw_some (gs_inl ⟨e1, by omega, v, e6, fun z => ⟨e7 z, ?_⟩⟩ (by show 200 - sp m11 < 200 - sp s; omega) (by show 0 ≤ 200 - sp m11; omega))
    omega
theorem s_every {R0 R1 R2 : Nat → gm_M → Option (Option Value × gm_M)} {d : Nat} (h1 : Ff d 4 R1) : Ff (d + 1) 5 (b_X12_every R0 R1 R2) := by
  intro μ A t p ho hw hd
  refine gwV_of ?_
  unfold b_X12_every
  refine gw_if (p.g.t (r := 65) rfl) ?_
  refine gw_bV (h1 p ho hw (by omega)) (fun m1 hm => ?_)
  exact s_chain h1 p ho hw (by omega) hm (Or.inl rfl) (by decide)
theorem s_some {R0 R1 R2 : Nat → gm_M → Option (Option Value × gm_M)} {d : Nat} (h0 : Ff d 5 R0) : Ff (d + 1) 6 (b_X12_some R0 R1 R2) := by
  intro μ A t p ho hw hd
  refine gwV_of ?_
  unfold b_X12_some
  refine gw_if (p.g.t (r := 65) rfl) ?_
  refine gw_bV (h0 p ho hw (by omega)) (fun m1 hm => ?_)
  exact s_chain h0 p ho hw (by omega) hm (Or.inr rfl) (by decide)
set_option maxHeartbeats 2000000 in
theorem s_factor {R0 R1 R2 : Nat → gm_M → Option (Option Value × gm_M)} {d : Nat} (h1 : Ff d 4 R1) (h2 : Ff d 6 R2) : Ff (d + 1) 4 (b_X12_factor R0 R1 R2) := by
  intro μ A t p ho hw hd
  have l0 : (0 : Int32).toInt = 0 := rfl
  have l1 : (1 : Int32).toInt = 1 := rfl
  have lm : (-1 : Int32).toInt = -1 := rfl
  have l5 : (5 : Int32).toInt = 5 := rfl
  have l8 : (8 : Int32).toInt = 8 := rfl
  have l32 : (32 : Int32).toInt = 32 := rfl
  have l33 : (33 : Int32).toInt = 33 := rfl
  have l40 : (40 : Int32).toInt = 40 := rfl
  have hg := p.g
  have hb := p.1.2.1
  have h0 : sp μ - mn A μ ≥ 0 := by have := p.2.2.2.1; omega
  have hmn := p.2.2.2.1
  have ht3 := p.2.2.2.2.1
  have d8 : (μ.2.1 65 8).toInt = wr μ := rfl
  refine gwV_of ?_
  unfold b_X12_factor
  refine gw_gIw (hg.c (r := 65) rfl) ?_
  refine gw_eq (fun g => ?_) (fun g => gw_some (gq_V ⟨po.refl A μ, rfl, t, p, fun z => by omega⟩))
  have hw0 : wr μ = 0 := by omega
  have ho5 := hw hw0
  refine gw_if (hg.t (r := 65) rfl) ?_
  refine gw_bI (s_here p.1) (fun x3 m ⟨z, fx⟩ => ?_)
  replace z := z.symm
  subst z
  refine gw_j (fun _ => sp μ < en μ) (fun _ hlt => ?_) (fun j hj => ?_)
  · -- ! or (
    have d9 : (μ.2.1 65 9).toInt = op μ := rfl
    refine gw_gIw (hg.c (r := 65) rfl) ?_
    refine gw_j (fun s => (s.toInt = 0 ∧ op μ ≤ 4) ∨ s.toInt = 1) (fun s hs => ?_) (fun j2 hj2 => ?_)
    · obtain ⟨a1, a2, a3⟩ := (fq.refl p.1).ww (x := s) (by omega) (fun _ => hw0)
      obtain ⟨b1, b2, b3, b4, b5⟩ := p.q a1
      refine gw_pZw (hg.c (r := 65) rfl) (by omega) ?_
      generalize wI μ 65 8 s = M at *
      have e9 : (M.2.1 65 9).toInt = op M := rfl
      refine gw_gIw (b1.g.c (r := 65) rfl) ?_
      have n9 : (M.2.1 65 9 + (1 : Int32)).toInt = (M.2.1 65 9).toInt + (1 : Int32).toInt := gx_add (by omega) (by omega)
      refine gw_pIw (b1.g.c (r := 65) rfl) ?_
      obtain ⟨c1, c2, c3, c4, c5, c6⟩ := b1.w rfl (M.2.1 65 9 + (1 : Int32))
      have en1 : en (wI M 65 9 (M.2.1 65 9 + (1 : Int32))) = en M := by unfold en; rw [wI_n _ _ _ _ (by decide)]
      generalize wI M 65 9 (M.2.1 65 9 + (1 : Int32)) = N at *
      have enM := fq_en a1
      have f6 : (N.2.1 65 6).toInt = sp N := rfl
      have f8 : (N.2.1 65 8).toInt = wr N := rfl
      refine gw_gIw (c1.g.c (r := 65) rfl) ?_
      refine gw_gIw (c1.g.c (r := 65) rfl) ?_
      refine gw_j (fun q => (q.toInt = 1 ∧ wr N = 0) ∨ (q.toInt = 0 ∧ wr N = 1)) (fun q hq => ?_) (fun j3 hj3 => ?_)
      · have n6 : (N.2.1 65 6 + q).toInt = (N.2.1 65 6).toInt + q.toInt := gx_add (by omega) (by omega)
        refine gw_pIw (c1.g.c (r := 65) rfl) ?_
        obtain ⟨r1, r2, r3⟩ := (fq.refl c1.1).st (x := N.2.1 65 6 + q) (by omega) (by omega)
        obtain ⟨z1, y2, y3, y4, y5⟩ := c1.q r1
        have z2 := (b5.trans c2).trans y5
        generalize wI N 65 6 (N.2.1 65 6 + q) = Z at *
        have z3 : op Z = op μ + 1 := by omega
        have z6 : mn A Z = mn A μ := by omega
        clear y2 y5
        refine gw_j (fun m => po A μ m ∧ op m = op μ + 1 ∧ ∃ u : Nat, PM A m u ∧ (wr m = 0 → u = t + 1 ∧ sp μ + 3 ≤ sp m)) (fun m ⟨k1, k2, u, k3, k4⟩ => ?_) (fun j4 hj4 => ?_)
        · have e9 : (m.2.1 65 9).toInt = op m := rfl
          have nn : (m.2.1 65 9 - (1 : Int32)).toInt = (m.2.1 65 9).toInt - (1 : Int32).toInt := gx_sub (by omega) (by omega)
          refine gw_gIw (k3.g.c (r := 65) rfl) ?_
          refine gw_pIw (k3.g.c (r := 65) rfl) ?_
          obtain ⟨v1, v2, v3, v4, v5, v6⟩ := k3.w rfl (m.2.1 65 9 - (1 : Int32))
          exact gw_some (gq_V ⟨k1.trans v2, by omega, u, v1, fun y => by rw [v3]; exact k4 (by omega)⟩)
        · have oZ : wr Z = 0 → op Z ≤ 5 := fun y => by omega
          refine gw_ne (fun g3 => ?_) (fun g3 => ?_)
          · refine gw_if (z1.g.t (r := 65) rfl) ?_
            refine gw_bV (h2 z1 (by omega) oZ (by omega)) (fun m21 ⟨s1, s2, u, s3, s4⟩ => ?_)
            refine gw_if (s3.g.t (r := 65) rfl) ?_
            refine gw_bV (s_must s3.1 (by decide)) (fun m23 ⟨w1, _⟩ => ?_)
            obtain ⟨x1, x2, x3, x4, x5⟩ := s3.q w1
            refine hj4 _ ⟨(z2.trans s1).trans x5, by omega, u, x1, fun y => ?_⟩
            have b := s4 (w1.2.2.2 y)
            have c := w1.2.1.1
            exact ⟨b.1, by omega⟩
          · refine gw_if (z1.g.t (r := 65) rfl) ?_
            refine gw_bV (h1 z1 (by omega) oZ (by omega)) (fun m25 ⟨s1, s2, u, s3, s4⟩ => ?_)
            refine gw_if (s3.g.t (r := 65) rfl) ?_
            have k := z2.trans s1
            have s1a := s1.2.1
            have s1c := s1.2.2.2
            have s35 := s3.2.2.2.2.1
            have st := s3.t20
            refine gw_bV (s_emit (t' := t + 1) s3 k (x := (-1 : Int32)) (fun y => ?_) h0) (fun m27 ⟨w1, w2, w3, w4, v, w5, w6⟩ => ?_)
            · obtain ⟨y1, y2⟩ := s4 y
              subst y1
              have := s1c y
              exact ⟨⟨by omega, Or.inr (Or.inl ⟨lm, by omega, rfl⟩)⟩, by omega, by omega⟩
            · refine hj4 _ ⟨w1, by omega, v, w5, fun y => ⟨w6 y, ?_⟩⟩
              have b := s4 (by omega)
              omega
      · exact gw_eq (fun g => hj3 _ (Or.inl ⟨l1, by omega⟩)) (fun g => hj3 _ (Or.inr ⟨l0, by have := c1.1.2.2; omega⟩))
    · exact gw_ne (fun g => hj2 _ (Or.inl ⟨l0, by omega⟩)) (fun g => hj2 _ (Or.inr l1))
  · refine gw_eq (fun g3 => hj _ (by omega)) (fun g3 => ?_)
    refine gw_ne (fun g4 => ?_) (fun g4 => hj _ (by omega))
    refine gw_if (hg.t (r := 65) rfl) ?_
    refine gw_bI (s_among p.1 (u := 5) (by decide)) (fun x30 m29 ⟨a1, a2, a3⟩ => ?_)
    have b6 : gm_bn ((5 : UInt32) + 6) = 6 := by decide
    have b3' : gm_bn ((6 : UInt32) + 6) = 3 := by decide
    rw [b6] at a3
    obtain ⟨c1, -, -, c4, c5⟩ := p.q a1
    refine gw_j (fun s => (s.toInt = 0 ∧ x30.toInt ≠ -1) ∨ s.toInt = 1) (fun s hs => ?_) (fun j2 hj2 => ?_)
    · obtain ⟨d1, d2, d3⟩ := (fq.refl c1.1).ww (x := s) (by omega) (fun _ => by omega)
      obtain ⟨e1, -, -, e4, e5⟩ := c1.q d1
      have k1 := c5.trans e5
      refine gw_pZw (c1.g.c (r := 65) rfl) (by omega) ?_
      generalize wI m29 65 8 s = M at *
      have f8 : (M.2.1 65 8).toInt = wr M := rfl
      refine gw_gIw (e1.g.c (r := 65) rfl) ?_
      refine gw_j (fun q => fq M q.2 ∧ (wr q.2 = 0 → (q.1.toInt = -1 ∨ ((0 ≤ q.1.toInt ∧ q.1.toInt < 3) ∧ sp M + 1 ≤ sp q.2)))) (fun q ⟨q1, q2⟩ => ?_) (fun j3 hj3 => ?_)
      · obtain ⟨r1, -, -, r4, r5⟩ := e1.q q1
        have k2 := k1.trans r5
        have g8 : (q.2.2.1 65 8).toInt = wr q.2 := rfl
        refine gw_gIw (r1.g.c (r := 65) rfl) ?_
        refine gw_j (fun y => (y.toInt = 0 ∧ wr q.2 = 0 ∧ q.1.toInt ≠ -1) ∨ y.toInt = 1) (fun y hy => ?_) (fun j4 hj4 => ?_)
        · obtain ⟨u1, u2, u3⟩ := (fq.refl r1.1).ww (x := y) (by omega) (fun _ => by omega)
          obtain ⟨v1, -, -, v4, v5⟩ := r1.q u1
          have k3 := k2.trans v5
          refine gw_pZw (r1.g.c (r := 65) rfl) (by omega) ?_
          generalize wI q.2 65 8 y = N at *
          refine gw_if (v1.g.t (r := 65) rfl) ?_
          refine gw_bI (s_figures v1.1) (fun x42 m41 ⟨o1, o2⟩ => ?_)
          obtain ⟨w1, -, w3, w4, w5⟩ := v1.q o1
          have k4 := k3.trans w5
          refine gw_if (w1.g.t (r := 65) rfl) ?_
          have wz := o1.2.2.2
          have mz := k3.2.1
          have wb := w1.1.2.1
          have qm1 := q1.2.1.1
          refine gw_bV (s_emit (t' := t + 1) w1 k4 (x := (x30 + (8 : Int32) * q.1) + (32 : Int32) * x42) (fun z => ?_) h0) (fun m43 ⟨y1, y2, y3, y4, v, y5, y6⟩ => ?_)
          · obtain ⟨t1, t2⟩ := o2 z
            have zz := wz z
            have hq2 := q2 (by omega)
            have hM := q1.2.2.2 (by omega)
            have n1 : ((8 : Int32) * q.1).toInt = 8 * q.1.toInt := gx_mul 8 rfl (by omega) (by omega)
            have n2 : ((32 : Int32) * x42).toInt = 32 * x42.toInt := gx_mul 32 rfl (by omega) (by omega)
            have n3 : (x30 + (8 : Int32) * q.1).toInt = x30.toInt + ((8 : Int32) * q.1).toInt := gx_add (by omega) (by omega)
            have n4 : ((x30 + (8 : Int32) * q.1) + (32 : Int32) * x42).toInt = (x30 + (8 : Int32) * q.1).toInt + ((32 : Int32) * x42).toInt := gx_add (by omega) (by omega)
            have wt := w1.t20
            have k4a := k4.2.1
            have k1a := k1.2.1
            have k2a := k2.2.1
            exact ⟨⟨by omega, Or.inl ⟨by omega, by omega, by omega, rfl⟩⟩, by omega, by omega⟩
          · refine gw_some (gq_V ⟨y1, by omega, v, y5, fun z => ⟨y6 z, ?_⟩⟩)
            have hz := o2 (by omega)
            have zz := wz (by omega)
            have hq2 := q2 (by omega)
            have hM := q1.2.2.2 (by omega)
            omega
        · refine gw_j (fun _ => True) (fun _ _ => hj4 _ (Or.inr l1)) (fun j5 hj5 => ?_)
          refine gw_ne (fun g => hj5 _ trivial) (fun g => ?_)
          exact gw_ne (fun g2 => hj4 _ (Or.inl ⟨l0, by omega, by omega⟩)) (fun g2 => hj5 _ trivial)
      · refine gw_eq (fun g => ?_) (fun g => hj3 _ ⟨fq.refl e1.1, fun (z : wr M = 0) => by exfalso; omega⟩)
        refine gw_if (e1.g.t (r := 65) rfl) ?_
        refine gw_bI (s_among e1.1 (u := 6) (by decide)) (fun x48 m47 ⟨o1, o2, o3⟩ => ?_)
        rw [b3'] at o3
        exact hj3 _ ⟨o1, fun _ => by show x48.toInt = -1 ∨ ((0 ≤ x48.toInt ∧ x48.toInt < 3) ∧ sp M + 1 ≤ sp m47); omega⟩
    · exact gw_ne (fun g => hj2 _ (Or.inl ⟨l0, by omega⟩)) (fun g => hj2 _ (Or.inr l1))
