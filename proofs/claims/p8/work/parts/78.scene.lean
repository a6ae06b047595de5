def SF (μ : gm_M) (s c : Nat) : Prop := (gm_tag μ s = 13 ∧ μ.2.2 s 2 = s + 1 ∧ μ.2.2 s 3 = s + 2 ∧ μ.2.2 s 7 = s + 8 ∧ μ.2.2 s 8 = s + 10 ∧ μ.2.2 s 9 = s + 12) ∧ (gm_tag μ (s + 1) = 4 ∧ gm_len μ (s + 1) = 5 ∧ ∀ k : Nat, k < 5 → μ.2.2 (s + 1) k = c + 2 * k) ∧ (gm_tag μ (s + 2) = 1 ∧ gm_len μ (s + 2) = 100) ∧ (gm_tag μ (s + 8) = 12 ∧ μ.2.2 (s + 8) 1 = s + 9 ∧ gm_tag μ (s + 9) = 1 ∧ gm_len μ (s + 9) = 15) ∧ (gm_tag μ (s + 10) = 12 ∧ μ.2.2 (s + 10) 1 = s + 11 ∧ gm_tag μ (s + 11) = 1 ∧ gm_len μ (s + 11) = 24) ∧ (gm_tag μ (s + 12) = 12 ∧ μ.2.2 (s + 12) 1 = s + 13 ∧ gm_tag μ (s + 13) = 1 ∧ gm_len μ (s + 13) = 24)
def Sc (s c : Nat) : Prop := (s = 15 ∧ c = 29) ∨ (s = 39 ∧ c = 53)
theorem Sc.f {s c : Nat} (H : Sc s c) {μ : gm_M} (h : gS μ) : SF μ s c := by
  rcases H with ⟨rfl, rfl⟩ | ⟨rfl, rfl⟩
  · exact ⟨⟨h.t rfl, h.r (by decide), h.r (by decide), h.r (by decide), h.r (by decide), h.r (by decide)⟩, ⟨h.t rfl, h.l rfl, fun k hk => isch.at h hk⟩, ⟨h.t rfl, h.l rfl⟩, ⟨h.t rfl, h.r (by decide), h.t rfl, h.l rfl⟩, ⟨h.t rfl, h.r (by decide), h.t rfl, h.l rfl⟩, ⟨h.t rfl, h.r (by decide), h.t rfl, h.l rfl⟩⟩
  · refine ⟨⟨h.t rfl, h.r (by decide), h.r (by decide), h.r (by decide), h.r (by decide), h.r (by decide)⟩, ⟨h.t rfl, h.l rfl, fun k hk => ?_⟩, ⟨h.t rfl, h.l rfl⟩, ⟨h.t rfl, h.r (by decide), h.t rfl, h.l rfl⟩, ⟨h.t rfl, h.r (by decide), h.t rfl, h.l rfl⟩, ⟨h.t rfl, h.r (by decide), h.t rfl, h.l rfl⟩⟩
    have e : k = 0 ∨ k = 1 ∨ k = 2 ∨ k = 3 ∨ k = 4 := by omega
    rcases e with rfl | rfl | rfl | rfl | rfl <;> exact h.r (by decide)
theorem gS.w6 {μ m : gm_M} (h : gS μ) {s v : Nat} (hs : s = 15 ∨ s = 39) (e1 : m.1 = μ.1) (e2 : m.2.2 = gm_u μ.2.2 s 6 v) : gS m := by
  refine ⟨fun r q e => by rw [e1]; exact h.1 r q e, fun q hq => ?_⟩
  rw [e2]
  have : ∀ q ∈ gRl, ¬ ((q.1 = 15 ∨ q.1 = 39) ∧ q.2.1 = 6) := by decide
  have hn := this q hq
  by_cases e : q.1 = s
  · rw [e, gu_ne (fun e3 => hn ⟨by omega, e3⟩), ← e]; exact h.2 q hq
  · rw [gu_row e]; exact h.2 q hq
/-- the first i children of a scene are copied -/
def pcp (c d i : Nat) (μ m : gm_M) : Prop := m.1 = μ.1 ∧ (∀ r j : Nat, (∀ k : Nat, k < i → ¬ (r = c + 2 * k ∧ j = 1)) → m.2.2 r j = μ.2.2 r j) ∧ (∀ r : Nat, (∀ k : Nat, k < i → r ≠ c + 2 * k ∧ r ≠ c + 2 * k + 1) → m.2.1 r = μ.2.1 r) ∧ ∀ k : Nat, k < i → m.2.2 (c + 2 * k) 1 = μ.2.2 (d + 2 * k) 1 ∧ (∀ j : Nat, j < 8 → j ≠ 1 → m.2.1 (c + 2 * k) j = μ.2.1 (d + 2 * k) j) ∧ ∀ j : Nat, j < 4 → m.2.1 (c + 2 * k + 1) j = μ.2.1 (d + 2 * k + 1) j
theorem pcp.zero (c d : Nat) (μ : gm_M) : pcp c d 0 μ μ := ⟨rfl, fun _ _ _ => rfl, fun _ _ => rfl, fun k hk => absurd hk (Nat.not_lt_zero k)⟩
theorem pcp.succ {c d i : Nat} {μ m m' : gm_M} (H : (c = 29 ∧ d = 53) ∨ (c = 53 ∧ d = 29)) (hi : i < 5) (p : pcp c d i μ m) (g : ccp (c + 2 * i) (d + 2 * i) m m') : pcp c d (i + 1) μ m' := by
  obtain ⟨p1, p2, p3, p4⟩ := p
  obtain ⟨g1, g2, g3, g4, g5⟩ := g
  refine ⟨g1.trans p1, fun r j hr => ?_, fun r hr => ?_, fun k hk => ?_⟩
  · rw [g2]
    by_cases e : r = c + 2 * i
    · rw [e, gu_ne (fun q => hr i (by omega) ⟨e, q⟩), ← e]
      exact p2 r j (fun k hk => hr k (by omega))
    · rw [gu_row e]; exact p2 r j (fun k hk => hr k (by omega))
  · rw [g3 r (hr i (by omega)).1 (hr i (by omega)).2]
    exact p3 r (fun k hk => hr k (by omega))
  · by_cases e : k = i
    · subst e
      refine ⟨?_, fun j hj h1 => ?_, fun j hj => ?_⟩
      · rw [g2, gu_eq]; exact p2 _ _ (fun q hq => by omega)
      · rw [g4 j hj h1, p3 _ (fun q hq => by omega)]
      · rw [g5 j hj, p3 _ (fun q hq => by omega)]
    · obtain ⟨q1, q2, q3⟩ := p4 k (by omega)
      refine ⟨?_, fun j hj h1 => ?_, fun j hj => ?_⟩
      · rw [g2, gu_row (by omega)]; exact q1
      · rw [g3 _ (by omega) (by omega)]; exact q2 j hj h1
      · rw [g3 _ (by omega) (by omega)]; exact q3 j hj
/-- a scene is copied -/
def scp (s t c d : Nat) (μ m : gm_M) : Prop := m.1 = μ.1 ∧ (m.2.2 s 6 = μ.2.2 t 6 ∧ ∀ r j : Nat, ¬ (r = s ∧ j = 6) → (∀ k : Nat, k < 5 → ¬ (r = c + 2 * k ∧ j = 1)) → m.2.2 r j = μ.2.2 r j) ∧ (∀ r : Nat, r ≠ s → r ≠ s + 2 → (r < s + 8 ∨ s + 13 < r) → (∀ k : Nat, k < 5 → r ≠ c + 2 * k ∧ r ≠ c + 2 * k + 1) → m.2.1 r = μ.2.1 r) ∧ (m.2.1 s 0 = μ.2.1 t 0 ∧ m.2.1 s 1 = μ.2.1 t 1 ∧ m.2.1 s 4 = μ.2.1 t 4 ∧ m.2.1 s 5 = μ.2.1 t 5) ∧ (∀ j : Nat, j < 100 → m.2.1 (s + 2) j = μ.2.1 (t + 2) j) ∧ (∀ r : Nat, (r = 8 ∨ r = 10 ∨ r = 12) → m.2.1 (s + r) 2 = μ.2.1 (t + r) 2 ∧ (∀ j : Nat, j ≠ 2 → m.2.1 (s + r) j = μ.2.1 (s + r) j) ∧ ∀ j : Nat, (j < 15 ∨ (r ≠ 8 ∧ j < 24)) → m.2.1 (s + r + 1) j = μ.2.1 (t + r + 1) j) ∧ ∀ k : Nat, k < 5 → m.2.2 (c + 2 * k) 1 = μ.2.2 (d + 2 * k) 1 ∧ (∀ j : Nat, j < 8 → j ≠ 1 → m.2.1 (c + 2 * k) j = μ.2.1 (d + 2 * k) j) ∧ ∀ j : Nat, j < 4 → m.2.1 (c + 2 * k + 1) j = μ.2.1 (d + 2 * k + 1) j
theorem gS.pc {c d i : Nat} {μ m : gm_M} (h : gS μ) (hc : c = 29 ∨ c = 53) (hi : i ≤ 5) (p : pcp c d i μ m) : gS m := by
  refine ⟨fun r q e => by rw [p.1]; exact h.1 r q e, fun q hq => ?_⟩
  have : ∀ q ∈ gRl, ¬ ((q.1 = 29 ∨ q.1 = 31 ∨ q.1 = 33 ∨ q.1 = 35 ∨ q.1 = 37 ∨ q.1 = 53 ∨ q.1 = 55 ∨ q.1 = 57 ∨ q.1 = 59 ∨ q.1 = 61) ∧ q.2.1 = 1) := by decide
  have hn := this q hq
  rw [p.2.1 q.1 q.2.1 (fun k hk e => hn ⟨by omega, e.2⟩)]
  exact h.2 q hq
set_option maxHeartbeats 2000000 in
theorem s_scopy {μ : gm_M} (h : gS μ) {s t c d : Nat} (H : (s = 15 ∧ t = 39 ∧ c = 29 ∧ d = 53) ∨ (s = 39 ∧ t = 15 ∧ c = 53 ∧ d = 29)) : gwV (f_X8_copy s t μ) (fun m => scp s t c d μ m) := by
  refine gwV_of ?_
  unfold f_X8_copy
  have l0 : (0 : Int32).toInt = 0 := rfl
  have l1 : (1 : Int32).toInt = 1 := rfl
  have l5 : (5 : Int32).toInt = 5 := rfl
  have Hs : Sc s c := by unfold Sc; omega
  have Ht : Sc t d := by unfold Sc; omega
  have c13 : ∀ x : Nat, x = 13 → [13].contains x = true := fun x e => by rw [e]; rfl
  have fs := Hs.f h
  have ft := Ht.f h
  refine gw_gIw (c13 _ ft.1.1) ?_
  refine gw_pIw (c13 _ fs.1.1) ?_
  refine gw_gIw (c13 _ ft.1.1) ?_
  refine gw_pIw (c13 _ fs.1.1) ?_
  rw [wI_o _ _ _ _ (show t ≠ s by omega)]
  generalize hB : wI (wI μ s 0 (μ.2.1 t 0)) s 1 (μ.2.1 t 1) = B
  have hSB : gS B := by rw [← hB]; exact h
  have B1 : B.1 = μ.1 := by rw [← hB]; rfl
  have B2 : B.2.2 = μ.2.2 := by rw [← hB]; rfl
  have Bo : ∀ r : Nat, r ≠ s → B.2.1 r = μ.2.1 r := fun r hr => by rw [← hB, wI_o _ _ _ _ hr, wI_o _ _ _ _ hr]
  have Bs0 : B.2.1 s 0 = μ.2.1 t 0 := by rw [← hB, wI_n _ _ _ _ (by decide), wI_e]
  have Bs1 : B.2.1 s 1 = μ.2.1 t 1 := by rw [← hB, wI_e]
  clear hB
  refine gw_loop (fun q => (0 ≤ q.1.toInt ∧ q.1.toInt ≤ 5) ∧ pcp c d q.1.toInt.toNat B q.2) (fun q => 5 - q.1.toInt) (fun q ⟨q1, q2⟩ => ?_) 5000 ((0 : Int32), B) ⟨⟨by show 0 ≤ (0 : Int32).toInt; omega, by show (0 : Int32).toInt ≤ 5; omega⟩, pcp.zero c d B⟩ (by show 5 - (0 : Int32).toInt < ((5000 : Nat) : Int); omega) (by show 0 ≤ 5 - (0 : Int32).toInt; omega)
  have hq := hSB.pc (by omega) (by omega) q2
  have gs := Hs.f hq
  have gt := Ht.f hq
  refine gw_le (fun g => ?_) (fun g => ?_)
  · rw [show q.1.toInt.toNat = 5 by omega] at q2
    obtain ⟨p1, p2, p3, p4⟩ := q2
    generalize q.2 = D at *
    refine gw_gIw (c13 _ gt.1.1) ?_
    refine gw_pIw (c13 _ gs.1.1) ?_
    refine gw_gRa _ (c13 _ gt.1.1) rfl ?_
    refine gw_pRw (c13 _ gs.1.1) ?_
    generalize hE : wR (wI D s 5 (D.2.1 t 5)) s 6 ((wI D s 5 (D.2.1 t 5)).2.2 t 6) = E
    have E1 : E.1 = D.1 := by rw [← hE]; rfl
    have E2 : E.2.2 = gm_u D.2.2 s 6 (D.2.2 t 6) := by rw [← hE]; rfl
    have Eo : ∀ r : Nat, r ≠ s → E.2.1 r = D.2.1 r := fun r hr => by rw [← hE]; exact wI_o _ _ _ _ hr
    have En : ∀ j : Nat, j ≠ 5 → E.2.1 s j = D.2.1 s j := fun j hj => by rw [← hE]; exact wI_n _ _ _ _ hj
    have E5 : E.2.1 s 5 = D.2.1 t 5 := by rw [← hE]; exact wI_e _ _ _ _
    clear hE
    have hE : gS E := hq.w6 (by omega) E1 E2
    have es := Hs.f hE
    have et := Ht.f hE
    refine gw_gRa _ (c13 _ et.1.1) et.1.2.2.1 ?_
    refine gw_gRa _ (c13 _ es.1.1) es.1.2.2.1 ?_
    refine gw_gRa _ (c13 _ es.1.1) es.1.2.2.1 ?_
    refine gw_al es.2.2.1.1 es.2.2.1.2 ?_
    have lo : (Int32.ofNat 100).toInt = 100 := rfl
    refine gx_cp (by omega) et.2.2.1.1 es.2.2.1.1 et.2.2.1.2 es.2.2.1.2 (by omega) (by omega) (by omega) (by omega) (by omega) (fun F f1 f2 f3 f4 => ?_)
    have hF : gS F := hE.same f1 f2
    have Ft : ∀ j : Nat, j < 100 → F.2.1 (s + 2) j = E.2.1 (t + 2) j := fun j hj => by
      rw [f4 j]; unfold va_cpy; rw [if_pos ⟨by omega, by omega⟩]; exact congrArg _ (by omega)
    have fs2 := Hs.f hF
    have ft2 := Ht.f hF
    refine gw_gIw (c13 _ ft2.1.1) ?_
    refine gw_pIw (c13 _ fs2.1.1) ?_
    generalize hG : wI F s 4 (F.2.1 t 4) = G
    have G1 : G.1 = F.1 := by rw [← hG]; rfl
    have G2 : G.2.2 = F.2.2 := by rw [← hG]; rfl
    have Go : ∀ r : Nat, r ≠ s → G.2.1 r = F.2.1 r := fun r hr => by rw [← hG]; exact wI_o _ _ _ _ hr
    have Gn : ∀ j : Nat, j ≠ 4 → G.2.1 s j = F.2.1 s j := fun j hj => by rw [← hG]; exact wI_n _ _ _ _ hj
    have G4 : G.2.1 s 4 = F.2.1 t 4 := by rw [← hG]; exact wI_e _ _ _ _
    clear hG
    have hG : gS G := hF.same G1 G2
    have us := Hs.f hG
    have ut := Ht.f hG
    refine gw_gRa _ (c13 _ us.1.1) us.1.2.2.2.1 ?_
    refine gw_gRa _ (c13 _ ut.1.1) ut.1.2.2.2.1 ?_
    refine gw_if us.2.2.2.1.1 ?_
    refine gw_bV (s_rcopy (by omega) (by omega) (by omega) us.2.2.2.1.1 ut.2.2.2.1.1 us.2.2.2.1.2.1 ut.2.2.2.1.2.1 us.2.2.2.1.2.2.1 ut.2.2.2.1.2.2.1 us.2.2.2.1.2.2.2 ut.2.2.2.1.2.2.2 (by decide)) (fun K ⟨a1, a2, a3, a4, a5, a6⟩ => ?_)
    have hK : gS K := hG.same a1 a2
    have vs := Hs.f hK
    have vt := Ht.f hK
    refine gw_gRa _ (c13 _ vs.1.1) vs.1.2.2.2.2.1 ?_
    refine gw_gRa _ (c13 _ vt.1.1) vt.1.2.2.2.2.1 ?_
    refine gw_if vs.2.2.2.2.1.1 ?_
    refine gw_bV (s_rcopy (by omega) (by omega) (by omega) vs.2.2.2.2.1.1 vt.2.2.2.2.1.1 vs.2.2.2.2.1.2.1 vt.2.2.2.2.1.2.1 vs.2.2.2.2.1.2.2.1 vt.2.2.2.2.1.2.2.1 vs.2.2.2.2.1.2.2.2 vt.2.2.2.2.1.2.2.2 (by decide)) (fun N ⟨b1, b2, b3, b4, b5, b6⟩ => ?_)
    have hN : gS N := hK.same b1 b2
    have ws := Hs.f hN
    have wt := Ht.f hN
    refine gw_gRa _ (c13 _ ws.1.1) ws.1.2.2.2.2.2 ?_
    refine gw_gRa _ (c13 _ wt.1.1) wt.1.2.2.2.2.2 ?_
    refine gw_if ws.2.2.2.2.2.1 ?_
    refine gw_bV (s_rcopy (by omega) (by omega) (by omega) ws.2.2.2.2.2.1 wt.2.2.2.2.2.1 ws.2.2.2.2.2.2.1 wt.2.2.2.2.2.2.1 ws.2.2.2.2.2.2.2.1 wt.2.2.2.2.2.2.2.1 ws.2.2.2.2.2.2.2.2 wt.2.2.2.2.2.2.2.2 (by decide)) (fun O ⟨o1, o2, o3, o4, o5, o6⟩ => ?_)
    -- what stands in the end
    have R : O.2.2 = gm_u D.2.2 s 6 (D.2.2 t 6) := by rw [o2, b2, a2, G2, f2, E2]
    have Row : ∀ r : Nat, r ≠ s → r ≠ s + 2 → (r < s + 8 ∨ s + 13 < r) → O.2.1 r = D.2.1 r := fun r r1 r2 r3 => by
      rw [o3 r (by omega) (by omega), b3 r (by omega) (by omega), a3 r (by omega) (by omega), Go r r1, f3 r r2, Eo r r1]
    have Rs : ∀ j : Nat, O.2.1 s j = G.2.1 s j := fun j => by rw [o3 s (by omega) (by omega), b3 s (by omega) (by omega), a3 s (by omega) (by omega)]
    have Rt : ∀ r : Nat, r ≠ s → r ≠ s + 2 → (∀ k : Nat, k < 5 → r ≠ c + 2 * k ∧ r ≠ c + 2 * k + 1) → G.2.1 r = μ.2.1 r := fun r r1 r2 r3 => by rw [Go r r1, f3 r r2, Eo r r1, p3 r r3, Bo r r1]
    refine gw_some (gs_inr (gq_V ⟨by rw [o1, b1, a1, G1, f1, E1, p1, B1], ⟨?_, fun r j r1 r2 => ?_⟩, fun r r1 r2 r3 r4 => ?_, ⟨?_, ?_, ?_, ?_⟩, fun j hj => ?_, fun r hr => ?_, fun k hk => ?_⟩))
    · rw [R, gu_eq, p2 t 6 (fun k hk => by omega), B2]
    · rw [R]
      by_cases e : r = s
      · rw [e, gu_ne (fun z => r1 ⟨e, z⟩), ← e, p2 r j r2, B2]
      · rw [gu_row e, p2 r j r2, B2]
    · rw [Row r r1 r2 r3, p3 r r4, Bo r r1]
    · rw [Rs, Gn 0 (by decide), f3 s (by omega), En 0 (by decide), p3 s (fun k hk => by omega), Bs0]
    · rw [Rs, Gn 1 (by decide), f3 s (by omega), En 1 (by decide), p3 s (fun k hk => by omega), Bs1]
    · rw [Rs, G4, f3 t (by omega), Eo t (by omega), p3 t (fun k hk => by omega), Bo t (by omega)]
    · rw [Rs, Gn 5 (by decide), f3 s (by omega), E5, p3 t (fun k hk => by omega), Bo t (by omega)]
    · rw [o3 (s + 2) (by omega) (by omega), b3 (s + 2) (by omega) (by omega), a3 (s + 2) (by omega) (by omega), Go (s + 2) (by omega), Ft j hj, Eo (t + 2) (by omega), p3 (t + 2) (fun k hk => by omega), Bo (t + 2) (by omega)]
    · rcases hr with rfl | rfl | rfl
      · refine ⟨?_, fun j hj => ?_, fun j hj => ?_⟩
        · rw [o3 (s + 8) (by omega) (by omega), b3 (s + 8) (by omega) (by omega), a5, Rt (t + 8) (by omega) (by omega) (fun k hk => by omega)]
        · rw [o3 (s + 8) (by omega) (by omega), b3 (s + 8) (by omega) (by omega), a4 j hj, Rt (s + 8) (by omega) (by omega) (fun k hk => by omega)]
        · rw [o3 (s + 8 + 1) (by omega) (by omega), b3 (s + 8 + 1) (by omega) (by omega), a6 j (by omega), Rt (t + 8 + 1) (by omega) (by omega) (fun k hk => by omega)]
      · refine ⟨?_, fun j hj => ?_, fun j hj => ?_⟩
        · rw [o3 (s + 10) (by omega) (by omega), b5, a3 (t + 10) (by omega) (by omega), Rt (t + 10) (by omega) (by omega) (fun k hk => by omega)]
        · rw [o3 (s + 10) (by omega) (by omega), b4 j hj, a3 (s + 10) (by omega) (by omega), Rt (s + 10) (by omega) (by omega) (fun k hk => by omega)]
        · rw [o3 (s + 10 + 1) (by omega) (by omega), b6 j (by omega), a3 (t + 10 + 1) (by omega) (by omega), Rt (t + 10 + 1) (by omega) (by omega) (fun k hk => by omega)]
      · refine ⟨?_, fun j hj => ?_, fun j hj => ?_⟩
        · rw [o5, b3 (t + 12) (by omega) (by omega), a3 (t + 12) (by omega) (by omega), Rt (t + 12) (by omega) (by omega) (fun k hk => by omega)]
        · rw [o4 j hj, b3 (s + 12) (by omega) (by omega), a3 (s + 12) (by omega) (by omega), Rt (s + 12) (by omega) (by omega) (fun k hk => by omega)]
        · rw [o6 j (by omega), b3 (t + 12 + 1) (by omega) (by omega), a3 (t + 12 + 1) (by omega) (by omega), Rt (t + 12 + 1) (by omega) (by omega) (fun k hk => by omega)]
    · obtain ⟨k1, k2, k3⟩ := p4 k hk
      refine ⟨?_, fun j hj h1 => ?_, fun j hj => ?_⟩
      · rw [R, gu_row (by omega), k1, B2]
      · rw [Row _ (by omega) (by omega) (by omega), k2 j hj h1, Bo _ (by omega)]
      · rw [Row _ (by omega) (by omega) (by omega), k3 j hj, Bo _ (by omega)]
  · refine gw_gRa _ (c13 _ gs.1.1) gs.1.2.1 ?_
    refine gw_aR (i := q.1) gs.2.1.1 gs.2.1.2.1 (by omega) (by omega) (fun v ev => ?_)
    rw [gs.2.1.2.2 _ (by omega)] at ev
    subst ev
    refine gw_gRa _ (c13 _ gt.1.1) gt.1.2.1 ?_
    refine gw_aR (i := q.1) gt.2.1.1 gt.2.1.2.1 (by omega) (by omega) (fun w ew => ?_)
    rw [gt.2.1.2.2 _ (by omega)] at ew
    subst ew
    have ia : icl (c + 2 * q.1.toInt.toNat) := by unfold icl ict isch; omega
    have ib : icl (d + 2 * q.1.toInt.toNat) := by unfold icl ict isch; omega
    refine gw_if (ia.t hq) ?_
    refine gw_bV (s_ccopy hq ia ib (by omega)) (fun m' hm' => ?_)
    have n : (q.1 + (1 : Int32)).toInt = q.1.toInt + (1 : Int32).toInt := gx_add (by omega) (by omega)
    refine gw_some (gs_inl ⟨⟨by show 0 ≤ (q.1 + (1 : Int32)).toInt; omega, by show (q.1 + (1 : Int32)).toInt ≤ 5; omega⟩, ?_⟩ (by show 5 - (q.1 + (1 : Int32)).toInt < 5 - q.1.toInt; omega) (by show 0 ≤ 5 - (q.1 + (1 : Int32)).toInt; omega))
    show pcp c d (q.1 + (1 : Int32)).toInt.toNat B m'
    rw [show (q.1 + (1 : Int32)).toInt.toNat = q.1.toInt.toNat + 1 by omega]
    exact q2.succ (by omega) (by omega) hm'
