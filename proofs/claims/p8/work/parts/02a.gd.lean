/-! what stands at a place of the code: the opcodes one by one, so that no decision goes over all of them -/
noncomputable def gd_dr (l : List UInt8) (k : Nat) : List UInt8 := Nat.rec l (fun _ r => r.tail) k
theorem gd_dr_eq (l : List UInt8) (k : Nat) : gd_dr l k = l.drop k := by
  induction k with
  | zero => rfl
  | succ k ih =>
    show (gd_dr l k).tail = _
    rw [ih, List.tail_drop]
theorem gd_u1 {cc : ByteArray} {pc : Nat} {a : UInt8} {r : List UInt8} (h : cc.data.toList.drop pc = a :: r) : (Reader.u1 : Decoder Nat) cc pc = .ok (a.toNat, pc + 1) ∧ cc.data.toList.drop (pc + 1) = r := by
  have h1 : cc.data.toList[pc]? = some a := by
    have := congrArg List.head? h
    rwa [List.head?_drop] at this
  have h2 : cc.data.toList.drop (pc + 1) = r := by
    rw [← List.tail_drop, h]
    rfl
  obtain ⟨hl, hv⟩ := List.getElem?_eq_some_iff.mp h1
  have hs : pc < cc.size := hl
  refine ⟨?_, h2⟩
  have e : (cc[pc]'hs) = a := by rw [← hv]; rfl
  show (dite (pc < cc.size) (fun h => (do set (pc + 1); Pure.pure (cc[pc]'h).toNat : Decoder Nat)) (fun _ => throw (HasTruncated.truncated pc))) cc pc = _
  rw [dif_pos hs, e]
  rfl
theorem gd_bd {α : Type} {x : Decoder Nat} {F : Nat → Decoder α} {cc : ByteArray} {pc v n : Nat} (h : x cc pc = .ok (v, n)) : (x >>= F) cc pc = F v cc n := by
  show Except.bind (x cc pc) (fun q => F q.1 cc q.2) = _
  rw [h]
  rfl
theorem gd_dec {cc : ByteArray} {pc : Nat} {r : Instr} {nx : Nat} (h : Decoder.instr pc cc pc = .ok (r, nx)) : decode cc pc = .ok (r, nx - pc) := by
  show Except.bind (Decoder.instr pc cc pc) (fun q => Pure.pure (q.1, q.2 - pc)) = _
  rw [h]
  rfl
noncomputable def gd_k0 (cc : ByteArray) (pc op : Nat) : Bool := match gd_dr cc.data.toList pc with
  | a :: _ => a.toNat == op
  | _ => false
noncomputable def gd_k1 (cc : ByteArray) (pc op w : Nat) : Bool := match gd_dr cc.data.toList pc with
  | a :: b :: _ => a.toNat == op && b.toNat == w
  | _ => false
noncomputable def gd_k1s (cc : ByteArray) (pc op : Nat) (w : Int) : Bool := match gd_dr cc.data.toList pc with
  | a :: b :: _ => a.toNat == op && decide (Reader.signed 8 b.toNat = w)
  | _ => false
noncomputable def gd_k2 (cc : ByteArray) (pc op w : Nat) : Bool := match gd_dr cc.data.toList pc with
  | a :: b :: c :: _ => a.toNat == op && b.toNat * 256 + c.toNat == w
  | _ => false
noncomputable def gd_k2s (cc : ByteArray) (pc op : Nat) (w : Int) : Bool := match gd_dr cc.data.toList pc with
  | a :: b :: c :: _ => a.toNat == op && decide (Reader.signed 16 (b.toNat * 256 + c.toNat) = w)
  | _ => false
noncomputable def gd_k11 (cc : ByteArray) (pc op w : Nat) (x : Int) : Bool := match gd_dr cc.data.toList pc with
  | a :: b :: c :: _ => a.toNat == op && (b.toNat == w && decide (Reader.signed 8 c.toNat = x))
  | _ => false
section
variable {cc : ByteArray} {pc : Nat} {F : Nat → Decoder Instr}
theorem gd_0 (v : Nat) (r : Instr) (hF : Decoder.instr pc = Reader.u1 >>= F) (k : F v = Pure.pure r) (h : gd_k0 cc pc v = true) : decode cc pc = .ok (r, 1) := by
  unfold gd_k0 at h
  rw [gd_dr_eq] at h
  split at h
  · rename_i a r' e
    have e1 := eq_of_beq h
    have g := gd_dec (r := r) (nx := pc + 1) (by rw [hF, gd_bd (gd_u1 e).1, e1, k]; rfl)
    rw [g, show pc + 1 - pc = 1 by omega]
  · cases h
theorem gd_1 (v : Nat) (c : Nat → Instr) {w : Nat} (hF : Decoder.instr pc = Reader.u1 >>= F) (k : F v = (Reader.u1 >>= fun a => Pure.pure (c a))) (h : gd_k1 cc pc v w = true) : decode cc pc = .ok (c w, 2) := by
  unfold gd_k1 at h
  rw [gd_dr_eq] at h
  split at h
  · rename_i a b r' e
    rw [Bool.and_eq_true] at h
    have e1 := eq_of_beq h.1
    have e2 := eq_of_beq h.2
    have g := gd_dec (cc := cc) (pc := pc) (r := c w) (nx := pc + 2) (by rw [hF, gd_bd (gd_u1 e).1, e1, k, gd_bd (gd_u1 (gd_u1 e).2).1, e2]; rfl)
    rw [g, show pc + 2 - pc = 2 by omega]
  · cases h
theorem gd_s1 {F : Int → Decoder Instr} {n : Nat} (h : (Reader.u1 : Decoder Nat) cc pc = .ok (n, pc + 1)) : ((Reader.s1 : Decoder Int) >>= F) cc pc = F (Reader.signed 8 n) cc (pc + 1) := by
  have e : (Reader.s1 : Decoder Int) cc pc = .ok (Reader.signed 8 n, pc + 1) := by
    show Except.bind (Reader.u1 cc pc) (fun q => .ok (Reader.signed 8 q.1, q.2)) = _
    rw [h]
    rfl
  show Except.bind (Reader.s1 cc pc) (fun q => F q.1 cc q.2) = _
  rw [e]
  rfl
theorem gd_u2 {a b : UInt8} {r : List UInt8} (h : cc.data.toList.drop pc = a :: b :: r) : (Reader.u2 : Decoder Nat) cc pc = .ok (a.toNat * 256 + b.toNat, pc + 2) := by
  show ((Reader.u1 : Decoder Nat) >>= fun x => Reader.u1 >>= fun y => Pure.pure (x * 256 + y)) cc pc = _
  rw [gd_bd (gd_u1 h).1, gd_bd (gd_u1 (gd_u1 h).2).1]
  rfl
theorem gd_s2 {F : Int → Decoder Instr} {n : Nat} (h : (Reader.u2 : Decoder Nat) cc pc = .ok (n, pc + 2)) : ((Reader.s2 : Decoder Int) >>= F) cc pc = F (Reader.signed 16 n) cc (pc + 2) := by
  have e : (Reader.s2 : Decoder Int) cc pc = .ok (Reader.signed 16 n, pc + 2) := by
    show Except.bind (Reader.u2 cc pc) (fun q => .ok (Reader.signed 16 q.1, q.2)) = _
    rw [h]
    rfl
  show Except.bind (Reader.s2 cc pc) (fun q => F q.1 cc q.2) = _
  rw [e]
  rfl
theorem gd_1s (v : Nat) (c : Int → Instr) {w : Int} (hF : Decoder.instr pc = Reader.u1 >>= F) (k : F v = (Reader.s1 >>= fun a => Pure.pure (c a))) (h : gd_k1s cc pc v w = true) : decode cc pc = .ok (c w, 2) := by
  unfold gd_k1s at h
  rw [gd_dr_eq] at h
  split at h
  · rename_i a b r' e
    rw [Bool.and_eq_true] at h
    have e1 := eq_of_beq h.1
    have e2 := of_decide_eq_true h.2
    have g := gd_dec (cc := cc) (pc := pc) (r := c w) (nx := pc + 2) (by rw [hF, gd_bd (gd_u1 e).1, e1, k, gd_s1 (gd_u1 (gd_u1 e).2).1, e2]; rfl)
    rw [g, show pc + 2 - pc = 2 by omega]
  · cases h
theorem gd_2 (v : Nat) (c : Nat → Instr) {w : Nat} (hF : Decoder.instr pc = Reader.u1 >>= F) (k : F v = (Reader.u2 >>= fun a => Pure.pure (c a))) (h : gd_k2 cc pc v w = true) : decode cc pc = .ok (c w, 3) := by
  unfold gd_k2 at h
  rw [gd_dr_eq] at h
  split at h
  · rename_i a b b' r' e
    rw [Bool.and_eq_true] at h
    have e1 := eq_of_beq h.1
    have e2 := eq_of_beq h.2
    have g := gd_dec (cc := cc) (pc := pc) (r := c w) (nx := pc + 3) (by rw [hF, gd_bd (gd_u1 e).1, e1, k, gd_bd (gd_u2 (gd_u1 e).2), e2]; rfl)
    rw [g, show pc + 3 - pc = 3 by omega]
  · cases h
theorem gd_2s (v : Nat) (c : Int → Instr) {w : Int} (hF : Decoder.instr pc = Reader.u1 >>= F) (k : F v = (Reader.s2 >>= fun a => Pure.pure (c a))) (h : gd_k2s cc pc v w = true) : decode cc pc = .ok (c w, 3) := by
  unfold gd_k2s at h
  rw [gd_dr_eq] at h
  split at h
  · rename_i a b b' r' e
    rw [Bool.and_eq_true] at h
    have e1 := eq_of_beq h.1
    have e2 := of_decide_eq_true h.2
    have g := gd_dec (cc := cc) (pc := pc) (r := c w) (nx := pc + 3) (by rw [hF, gd_bd (gd_u1 e).1, e1, k, gd_s2 (gd_u2 (gd_u1 e).2), e2]; rfl)
    rw [g, show pc + 3 - pc = 3 by omega]
  · cases h
theorem gd_11 (v : Nat) (c : Nat → Int → Instr) {w : Nat} {x : Int} (hF : Decoder.instr pc = Reader.u1 >>= F) (k : F v = (Reader.u1 >>= fun a => Reader.s1 >>= fun b => Pure.pure (c a b))) (h : gd_k11 cc pc v w x = true) : decode cc pc = .ok (c w x, 3) := by
  unfold gd_k11 at h
  rw [gd_dr_eq] at h
  split at h
  · rename_i a b b' r' e
    rw [Bool.and_eq_true, Bool.and_eq_true] at h
    have e1 := eq_of_beq h.1
    have e2 := eq_of_beq h.2.1
    have e3 := of_decide_eq_true h.2.2
    have f1 := gd_u1 (gd_u1 e).2
    have g := gd_dec (cc := cc) (pc := pc) (r := c w x) (nx := pc + 3) (by rw [hF, gd_bd (gd_u1 e).1, e1, k, gd_bd f1.1, e2, gd_s1 (gd_u1 f1.2).1, e3]; rfl)
    rw [g, show pc + 3 - pc = 3 by omega]
  · cases h
end
