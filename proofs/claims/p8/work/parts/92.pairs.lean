/-! the two sides, one asking after the other -/
def QI (z : Option (Option Value × gm_M)) (g : gm_M → Option (Option Value × gm_M)) : Prop := gwI z (fun _ m => gm_tag m 65 = 17 ∧ gwI (g m) (fun _ m2 => ALL m2))
def QL (z : Option (Option Value × gm_M)) (g : gm_M → Option (Option Value × gm_M)) : Prop := gwL z (fun _ m => gm_tag m 65 = 17 ∧ gwL (g m) (fun _ m2 => ALL m2))
def PI (z : Option (Option Value × gm_M)) (g : gm_M → Option (Option Value × gm_M)) : Prop := gwI z (fun x m => gm_tag m 65 = 17 ∧ gwI (g m) (fun y m2 => y = x ∧ ALL m2))
def PL (z : Option (Option Value × gm_M)) (g : gm_M → Option (Option Value × gm_M)) : Prop := gwL z (fun x m => gm_tag m 65 = 17 ∧ gwL (g m) (fun y m2 => y = x ∧ ALL m2))
theorem ALL.t65 {μ : gm_M} (h : ALL μ) : gm_tag μ 65 = 17 := h.1.1.t (r := 65) rfl
theorem PI.q {z : Option (Option Value × gm_M)} {g : gm_M → Option (Option Value × gm_M)} (h : PI z g) : QI z g := by
  refine gwI_mono h (fun x m ⟨a, b⟩ => ⟨a, gwI_mono b (fun y m2 c => c.2)⟩)
theorem QI.kq {μ : gm_M} {z : Option (Option Value × gm_M)} {g : gm_M → Option (Option Value × gm_M)} (h : ALL μ) (h1 : gwI z (fun _ m => kc μ m)) (h2 : ∀ m, MI m → gwI (g m) (fun _ m2 => qm m m2)) : QI z g := by
  refine gwI_mono h1 (fun x m a => ?_)
  have hm := h.kc a
  exact ⟨hm.t65, gwI_mono (h2 m hm.1) (fun y m2 b => hm.qm b)⟩
theorem QL.kq {μ : gm_M} {z : Option (Option Value × gm_M)} {g : gm_M → Option (Option Value × gm_M)} (h : ALL μ) (h1 : gwL z (fun _ m => kc μ m)) (h2 : ∀ m, MI m → gwL (g m) (fun _ m2 => qm m m2)) : QL z g := by
  obtain ⟨x, m, e, a⟩ := h1
  have hm := h.kc a
  obtain ⟨y, m2, e2, b⟩ := h2 m hm.1
  exact ⟨x, m, e, hm.t65, y, m2, e2, hm.qm b⟩
theorem QI.cm {z : Option (Option Value × gm_M)} {g : gm_M → Option (Option Value × gm_M)} (h1 : gwI z (fun _ m => ALL m)) (h2 : ∀ m, ALL m → gwI (g m) (fun _ m2 => ALL m2)) : QI z g := by
  refine gwI_mono h1 (fun x m a => ⟨a.t65, h2 m a⟩)
theorem gwI_and {z : Option (Option Value × gm_M)} {R S : Int32 → gm_M → Prop} (h : gwI z R) (k : gwI z S) : gwI z (fun x m => R x m ∧ S x m) := by
  obtain ⟨x, m, e, a⟩ := h
  obtain ⟨x2, m2, e2, b⟩ := k
  rw [e] at e2
  injection e2 with e3
  injection e3 with e4 e5
  injection e4 with e6
  injection e6 with e7
  subst e7; subst e5
  exact ⟨x, m, e, a, b⟩
theorem PI.of {z : Option (Option Value × gm_M)} {g : gm_M → Option (Option Value × gm_M)} (h : gwI z (fun x m => gwI (g m) (fun y m2 => y = x ∧ ALL m2))) (t : ∀ m R, gwI (g m) R → gm_tag m 65 = 17) : PI z g :=
  gwI_mono h (fun x m a => ⟨t m _ a, a⟩)
theorem nR {β : Type} {m : gm_M} (h : ¬ gm_tag m 65 = 17) (j : Nat) (f : Nat → Option β) : gm_gR m [17] 65 j f = none := by
  unfold gm_gR; rw [if_neg (fun e => h (by simpa using e))]
theorem ngI {β : Type} {m : gm_M} (h : ¬ gm_tag m 65 = 17) (j : Nat) (f : Int32 → Option β) : gm_gI m [17] 65 j f = none := by
  unfold gm_gI; rw [if_neg (fun e => h (by simpa using e))]
theorem npI {β : Type} {m : gm_M} (h : ¬ gm_tag m 65 = 17) (j : Nat) (x : Int32) (f : gm_M → Option β) : gm_pI m [17] 65 j x f = none := by
  unfold gm_pI; rw [if_neg (fun e => h (by simpa using e))]
theorem T_row {m : gm_M} {a b c : Int32} {R : Int32 → gm_M → Prop} (h : gwI (f_X12_row 65 a b c m) R) : gm_tag m 65 = 17 := by
  by_cases hn : gm_tag m 65 = 17
  · exact hn
  · obtain ⟨x, m2, e, -⟩ := h
    unfold f_X12_row at e
    rw [if_neg hn] at e; cases e
theorem T_as {m : gm_M} {a b : Int32} {R : Int32 → gm_M → Prop} (h : gwI (f_X12_as 65 a b m) R) : gm_tag m 65 = 17 := by
  by_cases hn : gm_tag m 65 = 17
  · exact hn
  · obtain ⟨x, m2, e, -⟩ := h
    unfold f_X12_as at e
    rw [if_neg hn] at e; cases e
theorem T_see {m : gm_M} {a b c : Int32} {R : Int32 → gm_M → Prop} (h : gwI (f_X12_see 65 a b c m) R) : gm_tag m 65 = 17 := by
  by_cases hn : gm_tag m 65 = 17
  · exact hn
  · obtain ⟨x, m2, e, -⟩ := h
    unfold f_X12_see at e
    by_cases ha : a ≠ (-1 : Int32)
    · rw [if_pos ha, if_neg hn] at e; cases e
    · rw [if_neg ha, nR hn] at e; cases e
theorem T_book {m : gm_M} {a b : Int32} {R : Int32 → gm_M → Prop} (h : gwI (f_X12_book 65 a b m) R) : gm_tag m 65 = 17 := by
  by_cases hn : gm_tag m 65 = 17
  · exact hn
  · obtain ⟨x, m2, e, -⟩ := h
    unfold f_X12_book at e
    by_cases ha : a ≠ (-1 : Int32)
    · rw [if_pos ha, if_neg hn] at e; cases e
    · rw [if_neg ha, nR hn] at e; cases e
theorem T_trace {m : gm_M} {a : Int32} {R : Int32 → gm_M → Prop} (h : gwI (f_X12_trace 65 a m) R) : gm_tag m 65 = 17 := by
  by_cases hn : gm_tag m 65 = 17
  · exact hn
  · obtain ⟨x, m2, e, -⟩ := h
    unfold f_X12_trace at e
    rw [ngI hn] at e; cases e
theorem T_undo {m : gm_M} {R : Int32 → gm_M → Prop} (h : gwI (f_X12_undo 65 m) R) : gm_tag m 65 = 17 := by
  by_cases hn : gm_tag m 65 = 17
  · exact hn
  · obtain ⟨x, m2, e, -⟩ := h
    unfold f_X12_undo at e
    rw [ngI hn] at e; cases e
theorem T_act {m : gm_M} {a b c : Int32} {R : Int32 → gm_M → Prop} (h : gwI (f_X12_act 65 a b c m) R) : gm_tag m 65 = 17 := by
  by_cases hn : gm_tag m 65 = 17
  · exact hn
  · obtain ⟨x, m2, e, -⟩ := h
    unfold f_X12_act at e
    rw [npI hn] at e; cases e
theorem T_image {m : gm_M} {R : Int32 → gm_M → Prop} (h : gwI (f_X12_image 65 m) R) : gm_tag m 65 = 17 := by
  by_cases hn : gm_tag m 65 = 17
  · exact hn
  · obtain ⟨x, m2, e, -⟩ := h
    unfold f_X12_image at e
    rw [show (5000 : Nat) = 4999 + 1 from rfl] at e
    unfold gm_loop at e
    dsimp only at e
    rw [if_neg (by decide), nR hn] at e
    cases e
theorem T_in {β : Type} {m : gm_M} {a b c : Int32} (h1 : b.toInt ≤ a.toInt) (h2 : a.toInt ≤ c.toInt) (f : Int32 → gm_M → Option β) : ∃ x : Int32, x ≠ 0 ∧ gm_bI (f_X12_in a b c m) f = f x m := by
  obtain ⟨x, m1, e, rfl, q⟩ := s_X12_in (μ := m) (a0 := a) (a1 := b) (a2 := c)
  refine ⟨x, fun hx => ?_, by rw [e]; rfl⟩
  have l0 : (0 : Int32).toInt = 0 := rfl
  subst hx
  omega
theorem T_pass {m : gm_M} {a : Int32} {R : Int32 → gm_M → Prop} (h0 : 0 ≤ a.toInt) (h1 : a.toInt ≤ 60) (h : gwI (f_X12_pass 65 a m) R) : gm_tag m 65 = 17 := by
  by_cases hn : gm_tag m 65 = 17
  · exact hn
  · obtain ⟨x, m2, e, -⟩ := h
    unfold f_X12_pass at e
    obtain ⟨y, hy, ey⟩ := T_in (m := m) (a := a) (b := 0) (c := 60) h0 h1 (β := Option Value × gm_M) _
    rw [ey, if_pos hy, nR hn] at e; cases e
theorem T_child {m : gm_M} {a b : Int32} {R : Int32 → gm_M → Prop} (h0 : 0 ≤ a.toInt ∧ a.toInt ≤ 6) (h1 : 0 ≤ b.toInt ∧ b.toInt ≤ 9) (h : gwI (f_X12_child 65 a b m) R) : gm_tag m 65 = 17 := by
  by_cases hn : gm_tag m 65 = 17
  · exact hn
  · obtain ⟨x, m2, e, -⟩ := h
    unfold f_X12_child at e
    obtain ⟨y, hy, ey⟩ := T_in (m := m) (a := a) (b := 0) (c := 6) h0.1 h0.2 (β := Option Value × gm_M) _
    rw [ey, if_pos hy] at e
    obtain ⟨z, hz, ez⟩ := T_in (m := m) (a := b) (b := 0) (c := 9) h1.1 h1.2 (β := Option Value × gm_M) _
    rw [ez, if_pos hz, nR hn] at e; cases e
theorem T_plan {m : gm_M} {a b : Int32} {R : Int32 → gm_M → Prop} (h0 : a = -1 ∨ (0 ≤ a.toInt ∧ a.toInt ≤ 3)) (h : gwI (f_X12_plan 65 a b m) R) : gm_tag m 65 = 17 := by
  by_cases hn : gm_tag m 65 = 17
  · exact hn
  · obtain ⟨x, m2, e, -⟩ := h
    unfold f_X12_plan at e
    rcases h0 with h0 | h0
    · rw [if_neg (fun g => g h0), nR hn] at e; cases e
    · have ha : a ≠ (-1 : Int32) := fun g => by
        rw [g] at h0
        exact absurd h0.1 (by decide)
      rw [if_pos ha] at e
      obtain ⟨y, hy, ey⟩ := T_in (m := m) (a := a) (b := 0) (c := 3) h0.1 h0.2 (β := Option Value × gm_M) _
      rw [ey, if_neg hy] at e
      unfold gm_j at e
      dsimp only at e
      by_cases h3 : a ≤ 0
      · rw [if_pos h3, nR hn] at e; cases e
      · rw [if_neg h3, if_neg hn] at e; cases e
theorem plan_bad {μ : gm_M} {a b : Int32} (ha : a ≠ -1) (h : a.toInt < 0 ∨ 3 < a.toInt) : gwI (f_X11_plan 1 a b μ) (fun _ m => m = μ) := by
  refine gwI_of ?_
  unfold f_X11_plan
  refine gw_if ha ?_
  have l3 : (3 : Int32).toInt = 3 := rfl
  have l0 : (0 : Int32).toInt = 0 := rfl
  refine gw_bI (s_X11_isOutside) (fun x m ⟨e, q⟩ => ?_)
  subst e
  refine gw_ne (fun _ => gw_some (gq_I rfl)) (fun g => ?_)
  exfalso
  omega
theorem L_child {μ : gm_M} (h : ALL μ) {a b : Int32} : PI (f_X11_child 1 a b μ) (f_X12_child 65 a b) := by
  refine gwI_mono (gwI_and (p_child h) (c_child h)) (fun x m ⟨c, d⟩ => ⟨?_, c⟩)
  rcases d with ⟨rfl, _⟩ | ⟨rfl, _⟩ | ⟨rfl, _⟩ | ⟨q1, q2, _⟩
  · exact h.t65
  · exact h.t65
  · exact h.t65
  · exact T_child (by omega) (by omega) c
theorem L_pass {μ : gm_M} (h : ALL μ) {a : Int32} : PI (f_X11_pass 1 a μ) (f_X12_pass 65 a) := by
  refine gwI_mono (gwI_and (p_pass h) (c_pass h.2.2.1)) (fun x m ⟨c, d⟩ => ⟨?_, c⟩)
  rcases d with ⟨rfl, _⟩ | ⟨rfl, _⟩ | ⟨q1, _⟩
  · exact h.t65
  · exact h.t65
  · exact T_pass q1.1 q1.2 c
theorem L_row {μ : gm_M} (h : ALL μ) {a b c : Int32} : PI (f_X11_row 1 a b c μ) (f_X12_row 65 a b c) := PI.of (p_row h) (fun _ _ k => T_row k)
theorem L_act {μ : gm_M} (h : ALL μ) {a b c : Int32} : PI (f_X11_act 1 a b c μ) (f_X12_act 65 a b c) := PI.of (p_act h) (fun _ _ k => T_act k)
theorem L_as {μ : gm_M} (h : ALL μ) {a b : Int32} : PI (f_X11_as 1 a b μ) (f_X12_as 65 a b) := PI.of (p_as h) (fun _ _ k => T_as k)
theorem L_trace {μ : gm_M} (h : ALL μ) {a : Int32} : PI (f_X11_trace 1 a μ) (f_X12_trace 65 a) := PI.of (p_trace h) (fun _ _ k => T_trace k)
theorem L_image {μ : gm_M} (h : ALL μ) : PI (f_X11_image 1 μ) (f_X12_image 65) := PI.of (p_image h) (fun _ _ k => T_image k)
theorem L_undo {μ : gm_M} (h : ALL μ) : PI (f_X11_undo 1 μ) (f_X12_undo 65) := PI.of (p_undo h) (fun _ _ k => T_undo k)
theorem L_feed {μ : gm_M} (h : ALL μ) {a : Int32} : QI (f_X11_feed 1 a μ) (f_X12_feed 65 a) := QI.cm (c_feed h) (fun _ k => m_feed k)
theorem L_afternoon {μ : gm_M} (h : ALL μ) : QI (f_X11_afternoon 1 μ) (f_X12_afternoon 65) := QI.cm (c_afternoon h) (fun _ k => m_afternoon k)
theorem L_set {μ : gm_M} (h : ALL μ) {a b c : Int32} : QI (f_X11_set 1 a b c μ) (f_X12_set 65 a b c) := QI.cm (c_set h) (fun _ k => m_set k)
theorem L_blow {μ : gm_M} (h : ALL μ) {a b : Int32} : QI (f_X11_blow 1 a b μ) (f_X12_blow 65 a b) := QI.cm (c_blow h) (fun _ k => m_blow k)
theorem L_of {μ : gm_M} (h : ALL μ) {a b : Int32} : QI (f_X11_of 1 a b μ) (f_X12_of 65 a b) := QI.kq h (s_X11_of h.2.2.1) (fun _ k => s_X12_of k)
theorem L_told {μ : gm_M} (h : ALL μ) {a : Int32} : QI (f_X11_told 1 a μ) (f_X12_told 65 a) := QI.kq h (s_X11_told h.2.2.1) (fun _ k => s_X12_told k)
theorem L_on {μ : gm_M} (h : ALL μ) {a b : Int32} : QI (f_X11_on 1 a b μ) (f_X12_on 65 a b) := QI.kq h (s_X11_on h.2.2.1) (fun _ k => s_X12_on k)
theorem L_when {μ : gm_M} (h : ALL μ) {a b : Int32} : QI (f_X11_when 1 a b μ) (f_X12_when 65 a b) := QI.kq h (s_X11_when h.2.2.1) (fun _ k => s_X12_when k)
theorem L_soon {μ : gm_M} (h : ALL μ) {a b : Int32} : QI (f_X11_soon 1 a b μ) (f_X12_soon 65 a b) := QI.kq h (s_X11_soon h.2.2.1) (fun _ k => s_X12_soon k)
theorem L_pieces {μ : gm_M} (h : ALL μ) {a b : Int32} : QI (f_X11_pieces 1 a b μ) (f_X12_pieces 65 a b) := QI.kq h (s_X11_pieces h.2.2.1) (fun _ k => s_X12_pieces k)
theorem L_breaths {μ : gm_M} (h : ALL μ) {a b : Int32} : QI (f_X11_breaths 1 a b μ) (f_X12_breaths 65 a b) := QI.kq h (s_X11_breaths h.2.2.1) (fun _ k => s_X12_breaths k)
theorem L_slack {μ : gm_M} (h : ALL μ) {a : Int32} : QI (f_X11_slack 1 a μ) (f_X12_slack 65 a) := QI.kq h (s_X11_slack h.2.2.1) (fun _ k => s_X12_slack k)
theorem L_likely {μ : gm_M} (h : ALL μ) {a b c : Int32} : QL (f_X11_likely 1 a b c μ) (f_X12_likely 65 a b c) := QL.kq h (s_X11_likely h.2.2.1) (fun _ k => s_X12_likely k)
theorem L_dare {μ : gm_M} (h : ALL μ) {a : Int32} : QI (f_X11_dare 1 a μ) (f_X12_dare 65 a) := QI.kq h (s_X11_dare h.2.2.1) (fun _ k => s_X12_dare k)
theorem L_first {μ : gm_M} (h : ALL μ) : QI (f_X11_first 1 μ) (f_X12_first 65) := QI.kq h (s_X11_first h.2.2.1) (fun _ k => s_X12_first k)
theorem L_beats {μ : gm_M} (h : ALL μ) {a b c : Int32} : QL (f_X11_beats 1 a b c μ) (f_X12_beats 65 a b c) := QL.kq h (s_X11_beats h.2.2.1) (fun _ k => s_X12_beats k)
theorem L_swap {μ : gm_M} (h : ALL μ) : QI (f_X11_swap 1 μ) (f_X12_swap 65) := QI.kq h (s_X11_swap h.2.2.1) (fun _ k => s_X12_swap k)
theorem L_order {μ : gm_M} (h : ALL μ) {a : Int32} : QI (f_X11_order 1 a μ) (f_X12_order 65 a) := QI.kq h (s_X11_order h.2.2.1) (fun _ k => s_X12_order k)
theorem L_clean {μ : gm_M} (h : ALL μ) {a b : Int32} : QI (f_X11_clean 1 a b μ) (f_X12_clean 65 a b) := QI.kq h (s_X11_clean h.2.2.1) (fun _ k => s_X12_clean k)
theorem L_who {μ : gm_M} (h : ALL μ) {a b : Int32} : QI (f_X11_who 1 a b μ) (f_X12_who 65 a b) := QI.kq h (s_X11_who h.2.2.1) (fun _ k => s_X12_who k)
theorem L_firm {μ : gm_M} (h : ALL μ) {a b : Int32} : QI (f_X11_firm 1 a b μ) (f_X12_firm 65 a b) := QI.kq h (s_X11_firm h.2.2.1) (fun _ k => s_X12_firm k)
theorem L_had {μ : gm_M} (h : ALL μ) {a : Int32} : QI (f_X11_had 1 a μ) (f_X12_had 65 a) := QI.kq h (s_X11_had h.2.2.1) (fun _ k => s_X12_had k)
theorem L_mean {μ : gm_M} (h : ALL μ) {a b : Int32} : QL (f_X11_mean 1 a b μ) (f_X12_mean 65 a b) := QL.kq h (s_X11_mean h.2.2.1) (fun _ k => s_X12_mean k)
theorem L_done {μ : gm_M} (h : ALL μ) {a : Int32} : QI (f_X11_done 1 a μ) (f_X12_done 65 a) := QI.kq h (s_X11_done h.2.2.1) (fun _ k => s_X12_done k)
theorem L_looked {μ : gm_M} (h : ALL μ) : QI (f_X11_looked 1 μ) (f_X12_looked 65) := QI.kq h (s_X11_looked h.2.2.1) (fun _ k => s_X12_looked k)
theorem L_count {μ : gm_M} (h : ALL μ) {a : Int32} : QI (f_X11_count 1 a μ) (f_X12_count 65 a) := QI.kq h (s_X11_count h.2.2.1) (fun _ k => s_X12_count k)
