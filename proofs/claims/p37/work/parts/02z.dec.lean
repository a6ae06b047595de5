section
/-! what stands at a place of the code: the opcodes one by one, so that no decision goes over all of them -/
noncomputable def gd_dr (l : List UInt8) (k : Nat) : List UInt8 := Nat.rec l (fun _ r => r.tail) k
theorem gd_dr_eq (l : List UInt8) (k : Nat) : gd_dr l k = l.drop k := by
  induction k with
  | zero => rfl
  | succ k ih =>
    show (gd_dr l k).tail = _
    rw [ih, List.tail_drop]
theorem gd_u1 {cc : ByteArray} {pc : Nat} {a : UInt8} {r : List UInt8} (h : cc.data.toList.drop pc = a :: r) : (Reader.u1 : Decoder Nat) cc pc = .ok (a.toNat, pc + 1) ∧ cc.data.toList.drop (pc + 1) = r := by
  have h1 : cc.data.toList[pc]? = some a := by
    have := congrArg List.head? h
    rwa [List.head?_drop] at this
  have h2 : cc.data.toList.drop (pc + 1) = r := by
    rw [← List.tail_drop, h]
    rfl
  obtain ⟨hl, hv⟩ := List.getElem?_eq_some_iff.mp h1
  have hs : pc < cc.size := hl
  refine ⟨?_, h2⟩
  have e : (cc[pc]'hs) = a := by rw [← hv]; rfl
  show (dite (pc < cc.size) (fun h => (do set (pc + 1); Pure.pure (cc[pc]'h).toNat : Decoder Nat)) (fun _ => throw (HasTruncated.truncated pc))) cc pc = _
  rw [dif_pos hs, e]
  rfl
theorem gd_bd {α : Type} {x : Decoder Nat} {F : Nat → Decoder α} {cc : ByteArray} {pc v n : Nat} (h : x cc pc = .ok (v, n)) : (x >>= F) cc pc = F v cc n := by
  show Except.bind (x cc pc) (fun q => F q.1 cc q.2) = _
  rw [h]
  rfl
theorem gd_dec {cc : ByteArray} {pc : Nat} {r : Instr} {nx : Nat} (h : Decoder.instr pc cc pc = .ok (r, nx)) : decode cc pc = .ok (r, nx - pc) := by
  show Except.bind (Decoder.instr pc cc pc) (fun q => Pure.pure (q.1, q.2 - pc)) = _
  rw [h]
  rfl
noncomputable def gd_k0 (cc : ByteArray) (pc op : Nat) : Bool := match gd_dr cc.data.toList pc with
  | a :: _ => a.toNat == op
  | _ => false
noncomputable def gd_k1 (cc : ByteArray) (pc op w : Nat) : Bool := match gd_dr cc.data.toList pc with
  | a :: b :: _ => a.toNat == op && b.toNat == w
  | _ => false
noncomputable def gd_k1s (cc : ByteArray) (pc op : Nat) (w : Int) : Bool := match gd_dr cc.data.toList pc with
  | a :: b :: _ => a.toNat == op && decide (Reader.signed 8 b.toNat = w)
  | _ => false
noncomputable def gd_k2 (cc : ByteArray) (pc op w : Nat) : Bool := match gd_dr cc.data.toList pc with
  | a :: b :: c :: _ => a.toNat == op && b.toNat * 256 + c.toNat == w
  | _ => false
noncomputable def gd_k2s (cc : ByteArray) (pc op : Nat) (w : Int) : Bool := match gd_dr cc.data.toList pc with
  | a :: b :: c :: _ => a.toNat == op && decide (Reader.signed 16 (b.toNat * 256 + c.toNat) = w)
  | _ => false
noncomputable def gd_k11 (cc : ByteArray) (pc op w : Nat) (x : Int) : Bool := match gd_dr cc.data.toList pc with
  | a :: b :: c :: _ => a.toNat == op && (b.toNat == w && decide (Reader.signed 8 c.toNat = x))
  | _ => false
section
variable {cc : ByteArray} {pc : Nat} {F : Nat → Decoder Instr}
theorem gd_0 (v : Nat) (r : Instr) (hF : Decoder.instr pc = Reader.u1 >>= F) (k : F v = Pure.pure r) (h : gd_k0 cc pc v = true) : decode cc pc = .ok (r, 1) := by
  unfold gd_k0 at h
  rw [gd_dr_eq] at h
  split at h
  · rename_i a r' e
    have e1 := eq_of_beq h
    have g := gd_dec (r := r) (nx := pc + 1) (by rw [hF, gd_bd (gd_u1 e).1, e1, k]; rfl)
    rw [g, show pc + 1 - pc = 1 by omega]
  · cases h
theorem gd_1 (v : Nat) (c : Nat → Instr) {w : Nat} (hF : Decoder.instr pc = Reader.u1 >>= F) (k : F v = (Reader.u1 >>= fun a => Pure.pure (c a))) (h : gd_k1 cc pc v w = true) : decode cc pc = .ok (c w, 2) := by
  unfold gd_k1 at h
  rw [gd_dr_eq] at h
  split at h
  · rename_i a b r' e
    rw [Bool.and_eq_true] at h
    have e1 := eq_of_beq h.1
    have e2 := eq_of_beq h.2
    have g := gd_dec (cc := cc) (pc := pc) (r := c w) (nx := pc + 2) (by rw [hF, gd_bd (gd_u1 e).1, e1, k, gd_bd (gd_u1 (gd_u1 e).2).1, e2]; rfl)
    rw [g, show pc + 2 - pc = 2 by omega]
  · cases h
theorem gd_s1 {F : Int → Decoder Instr} {n : Nat} (h : (Reader.u1 : Decoder Nat) cc pc = .ok (n, pc + 1)) : ((Reader.s1 : Decoder Int) >>= F) cc pc = F (Reader.signed 8 n) cc (pc + 1) := by
  have e : (Reader.s1 : Decoder Int) cc pc = .ok (Reader.signed 8 n, pc + 1) := by
    show Except.bind (Reader.u1 cc pc) (fun q => .ok (Reader.signed 8 q.1, q.2)) = _
    rw [h]
    rfl
  show Except.bind (Reader.s1 cc pc) (fun q => F q.1 cc q.2) = _
  rw [e]
  rfl
theorem gd_u2 {a b : UInt8} {r : List UInt8} (h : cc.data.toList.drop pc = a :: b :: r) : (Reader.u2 : Decoder Nat) cc pc = .ok (a.toNat * 256 + b.toNat, pc + 2) := by
  show ((Reader.u1 : Decoder Nat) >>= fun x => Reader.u1 >>= fun y => Pure.pure (x * 256 + y)) cc pc = _
  rw [gd_bd (gd_u1 h).1, gd_bd (gd_u1 (gd_u1 h).2).1]
  rfl
theorem gd_s2 {F : Int → Decoder Instr} {n : Nat} (h : (Reader.u2 : Decoder Nat) cc pc = .ok (n, pc + 2)) : ((Reader.s2 : Decoder Int) >>= F) cc pc = F (Reader.signed 16 n) cc (pc + 2) := by
  have e : (Reader.s2 : Decoder Int) cc pc = .ok (Reader.signed 16 n, pc + 2) := by
    show Except.bind (Reader.u2 cc pc) (fun q => .ok (Reader.signed 16 q.1, q.2)) = _
    rw [h]
    rfl
  show Except.bind (Reader.s2 cc pc) (fun q => F q.1 cc q.2) = _
  rw [e]
  rfl
theorem gd_1s (v : Nat) (c : Int → Instr) {w : Int} (hF : Decoder.instr pc = Reader.u1 >>= F) (k : F v = (Reader.s1 >>= fun a => Pure.pure (c a))) (h : gd_k1s cc pc v w = true) : decode cc pc = .ok (c w, 2) := by
  unfold gd_k1s at h
  rw [gd_dr_eq] at h
  split at h
  · rename_i a b r' e
    rw [Bool.and_eq_true] at h
    have e1 := eq_of_beq h.1
    have e2 := of_decide_eq_true h.2
    have g := gd_dec (cc := cc) (pc := pc) (r := c w) (nx := pc + 2) (by rw [hF, gd_bd (gd_u1 e).1, e1, k, gd_s1 (gd_u1 (gd_u1 e).2).1, e2]; rfl)
    rw [g, show pc + 2 - pc = 2 by omega]
  · cases h
theorem gd_2 (v : Nat) (c : Nat → Instr) {w : Nat} (hF : Decoder.instr pc = Reader.u1 >>= F) (k : F v = (Reader.u2 >>= fun a => Pure.pure (c a))) (h : gd_k2 cc pc v w = true) : decode cc pc = .ok (c w, 3) := by
  unfold gd_k2 at h
  rw [gd_dr_eq] at h
  split at h
  · rename_i a b b' r' e
    rw [Bool.and_eq_true] at h
    have e1 := eq_of_beq h.1
    have e2 := eq_of_beq h.2
    have g := gd_dec (cc := cc) (pc := pc) (r := c w) (nx := pc + 3) (by rw [hF, gd_bd (gd_u1 e).1, e1, k, gd_bd (gd_u2 (gd_u1 e).2), e2]; rfl)
    rw [g, show pc + 3 - pc = 3 by omega]
  · cases h
theorem gd_2s (v : Nat) (c : Int → Instr) {w : Int} (hF : Decoder.instr pc = Reader.u1 >>= F) (k : F v = (Reader.s2 >>= fun a => Pure.pure (c a))) (h : gd_k2s cc pc v w = true) : decode cc pc = .ok (c w, 3) := by
  unfold gd_k2s at h
  rw [gd_dr_eq] at h
  split at h
  · rename_i a b b' r' e
    rw [Bool.and_eq_true] at h
    have e1 := eq_of_beq h.1
    have e2 := of_decide_eq_true h.2
    have g := gd_dec (cc := cc) (pc := pc) (r := c w) (nx := pc + 3) (by rw [hF, gd_bd (gd_u1 e).1, e1, k, gd_s2 (gd_u2 (gd_u1 e).2), e2]; rfl)
    rw [g, show pc + 3 - pc = 3 by omega]
  · cases h
theorem gd_11 (v : Nat) (c : Nat → Int → Instr) {w : Nat} {x : Int} (hF : Decoder.instr pc = Reader.u1 >>= F) (k : F v = (Reader.u1 >>= fun a => Reader.s1 >>= fun b => Pure.pure (c a b))) (h : gd_k11 cc pc v w x = true) : decode cc pc = .ok (c w x, 3) := by
  unfold gd_k11 at h
  rw [gd_dr_eq] at h
  split at h
  · rename_i a b b' r' e
    rw [Bool.and_eq_true, Bool.and_eq_true] at h
    have e1 := eq_of_beq h.1
    have e2 := eq_of_beq h.2.1
    have e3 := of_decide_eq_true h.2.2
    have f1 := gd_u1 (gd_u1 e).2
    have g := gd_dec (cc := cc) (pc := pc) (r := c w x) (nx := pc + 3) (by rw [hF, gd_bd (gd_u1 e).1, e1, k, gd_bd f1.1, e2, gd_s1 (gd_u1 f1.2).1, e3]; rfl)
    rw [g, show pc + 3 - pc = 3 by omega]
  · cases h
end
end
section
/-! opcodes -/
section
variable {cc : ByteArray} {pc : Nat}
theorem ge_iconst_m1_ (h : gd_k0 cc pc 2 = true) : decode cc pc = .ok (Instr.iconst (-1), 1) := gd_0 2 (Instr.iconst (-1)) rfl rfl h
theorem ge_iconst_0 (h : gd_k0 cc pc 3 = true) : decode cc pc = .ok (Instr.iconst 0, 1) := gd_0 3 (Instr.iconst 0) rfl rfl h
theorem ge_iconst_1 (h : gd_k0 cc pc 4 = true) : decode cc pc = .ok (Instr.iconst 1, 1) := gd_0 4 (Instr.iconst 1) rfl rfl h
theorem ge_iconst_2 (h : gd_k0 cc pc 5 = true) : decode cc pc = .ok (Instr.iconst 2, 1) := gd_0 5 (Instr.iconst 2) rfl rfl h
theorem ge_iconst_3 (h : gd_k0 cc pc 6 = true) : decode cc pc = .ok (Instr.iconst 3, 1) := gd_0 6 (Instr.iconst 3) rfl rfl h
theorem ge_iconst_4 (h : gd_k0 cc pc 7 = true) : decode cc pc = .ok (Instr.iconst 4, 1) := gd_0 7 (Instr.iconst 4) rfl rfl h
theorem ge_iconst_5 (h : gd_k0 cc pc 8 = true) : decode cc pc = .ok (Instr.iconst 5, 1) := gd_0 8 (Instr.iconst 5) rfl rfl h
theorem ge_lconst_0 (h : gd_k0 cc pc 9 = true) : decode cc pc = .ok (Instr.lconst 0, 1) := gd_0 9 (Instr.lconst 0) rfl rfl h
theorem ge_lconst_1 (h : gd_k0 cc pc 10 = true) : decode cc pc = .ok (Instr.lconst 1, 1) := gd_0 10 (Instr.lconst 1) rfl rfl h
theorem ge_bipush {w : Int} (h : gd_k1s cc pc 16 w = true) : decode cc pc = .ok (Instr.bipush w, 2) := gd_1s 16 (fun w => Instr.bipush w) rfl rfl h
theorem ge_sipush {w : Int} (h : gd_k2s cc pc 17 w = true) : decode cc pc = .ok (Instr.sipush w, 3) := gd_2s 17 (fun w => Instr.sipush w) rfl rfl h
theorem ge_ldc {w : Nat} (h : gd_k1 cc pc 18 w = true) : decode cc pc = .ok (Instr.ldc w, 2) := gd_1 18 (fun w => Instr.ldc w) rfl rfl h
theorem ge_ldc2_w {w : Nat} (h : gd_k2 cc pc 20 w = true) : decode cc pc = .ok (Instr.ldc2_w w, 3) := gd_2 20 (fun w => Instr.ldc2_w w) rfl rfl h
theorem ge_iload {w : Nat} (h : gd_k1 cc pc 21 w = true) : decode cc pc = .ok (Instr.iload w, 2) := gd_1 21 (fun w => Instr.iload w) rfl rfl h
theorem ge_lload {w : Nat} (h : gd_k1 cc pc 22 w = true) : decode cc pc = .ok (Instr.lload w, 2) := gd_1 22 (fun w => Instr.lload w) rfl rfl h
theorem ge_aload {w : Nat} (h : gd_k1 cc pc 25 w = true) : decode cc pc = .ok (Instr.aload w, 2) := gd_1 25 (fun w => Instr.aload w) rfl rfl h
theorem ge_iload_n_0 (h : gd_k0 cc pc 26 = true) : decode cc pc = .ok (Instr.iload_n 0, 1) := gd_0 26 (Instr.iload_n 0) rfl rfl h
theorem ge_iload_n_1 (h : gd_k0 cc pc 27 = true) : decode cc pc = .ok (Instr.iload_n 1, 1) := gd_0 27 (Instr.iload_n 1) rfl rfl h
theorem ge_iload_n_2 (h : gd_k0 cc pc 28 = true) : decode cc pc = .ok (Instr.iload_n 2, 1) := gd_0 28 (Instr.iload_n 2) rfl rfl h
theorem ge_iload_n_3 (h : gd_k0 cc pc 29 = true) : decode cc pc = .ok (Instr.iload_n 3, 1) := gd_0 29 (Instr.iload_n 3) rfl rfl h
theorem ge_lload_n_0 (h : gd_k0 cc pc 30 = true) : decode cc pc = .ok (Instr.lload_n 0, 1) := gd_0 30 (Instr.lload_n 0) rfl rfl h
theorem ge_lload_n_2 (h : gd_k0 cc pc 32 = true) : decode cc pc = .ok (Instr.lload_n 2, 1) := gd_0 32 (Instr.lload_n 2) rfl rfl h
theorem ge_aload_n_0 (h : gd_k0 cc pc 42 = true) : decode cc pc = .ok (Instr.aload_n 0, 1) := gd_0 42 (Instr.aload_n 0) rfl rfl h
theorem ge_aload_n_1 (h : gd_k0 cc pc 43 = true) : decode cc pc = .ok (Instr.aload_n 1, 1) := gd_0 43 (Instr.aload_n 1) rfl rfl h
theorem ge_aload_n_2 (h : gd_k0 cc pc 44 = true) : decode cc pc = .ok (Instr.aload_n 2, 1) := gd_0 44 (Instr.aload_n 2) rfl rfl h
theorem ge_aload_n_3 (h : gd_k0 cc pc 45 = true) : decode cc pc = .ok (Instr.aload_n 3, 1) := gd_0 45 (Instr.aload_n 3) rfl rfl h
theorem ge_iaload (h : gd_k0 cc pc 46 = true) : decode cc pc = .ok (Instr.iaload, 1) := gd_0 46 (Instr.iaload) rfl rfl h
theorem ge_aaload (h : gd_k0 cc pc 50 = true) : decode cc pc = .ok (Instr.aaload, 1) := gd_0 50 (Instr.aaload) rfl rfl h
theorem ge_baload (h : gd_k0 cc pc 51 = true) : decode cc pc = .ok (Instr.baload, 1) := gd_0 51 (Instr.baload) rfl rfl h
theorem ge_istore {w : Nat} (h : gd_k1 cc pc 54 w = true) : decode cc pc = .ok (Instr.istore w, 2) := gd_1 54 (fun w => Instr.istore w) rfl rfl h
theorem ge_lstore {w : Nat} (h : gd_k1 cc pc 55 w = true) : decode cc pc = .ok (Instr.lstore w, 2) := gd_1 55 (fun w => Instr.lstore w) rfl rfl h
theorem ge_astore {w : Nat} (h : gd_k1 cc pc 58 w = true) : decode cc pc = .ok (Instr.astore w, 2) := gd_1 58 (fun w => Instr.astore w) rfl rfl h
theorem ge_istore_n_0 (h : gd_k0 cc pc 59 = true) : decode cc pc = .ok (Instr.istore_n 0, 1) := gd_0 59 (Instr.istore_n 0) rfl rfl h
theorem ge_istore_n_1 (h : gd_k0 cc pc 60 = true) : decode cc pc = .ok (Instr.istore_n 1, 1) := gd_0 60 (Instr.istore_n 1) rfl rfl h
theorem ge_istore_n_2 (h : gd_k0 cc pc 61 = true) : decode cc pc = .ok (Instr.istore_n 2, 1) := gd_0 61 (Instr.istore_n 2) rfl rfl h
theorem ge_istore_n_3 (h : gd_k0 cc pc 62 = true) : decode cc pc = .ok (Instr.istore_n 3, 1) := gd_0 62 (Instr.istore_n 3) rfl rfl h
theorem ge_astore_n_1 (h : gd_k0 cc pc 76 = true) : decode cc pc = .ok (Instr.astore_n 1, 1) := gd_0 76 (Instr.astore_n 1) rfl rfl h
theorem ge_astore_n_2 (h : gd_k0 cc pc 77 = true) : decode cc pc = .ok (Instr.astore_n 2, 1) := gd_0 77 (Instr.astore_n 2) rfl rfl h
theorem ge_astore_n_3 (h : gd_k0 cc pc 78 = true) : decode cc pc = .ok (Instr.astore_n 3, 1) := gd_0 78 (Instr.astore_n 3) rfl rfl h
theorem ge_iastore (h : gd_k0 cc pc 79 = true) : decode cc pc = .ok (Instr.iastore, 1) := gd_0 79 (Instr.iastore) rfl rfl h
theorem ge_aastore (h : gd_k0 cc pc 83 = true) : decode cc pc = .ok (Instr.aastore, 1) := gd_0 83 (Instr.aastore) rfl rfl h
theorem ge_bastore (h : gd_k0 cc pc 84 = true) : decode cc pc = .ok (Instr.bastore, 1) := gd_0 84 (Instr.bastore) rfl rfl h
theorem ge_pop (h : gd_k0 cc pc 87 = true) : decode cc pc = .ok (Instr.pop, 1) := gd_0 87 (Instr.pop) rfl rfl h
theorem ge_pop2 (h : gd_k0 cc pc 88 = true) : decode cc pc = .ok (Instr.pop2, 1) := gd_0 88 (Instr.pop2) rfl rfl h
theorem ge_dup (h : gd_k0 cc pc 89 = true) : decode cc pc = .ok (Instr.dup, 1) := gd_0 89 (Instr.dup) rfl rfl h
theorem ge_dup2 (h : gd_k0 cc pc 92 = true) : decode cc pc = .ok (Instr.dup2, 1) := gd_0 92 (Instr.dup2) rfl rfl h
theorem ge_iadd (h : gd_k0 cc pc 96 = true) : decode cc pc = .ok (Instr.iadd, 1) := gd_0 96 (Instr.iadd) rfl rfl h
theorem ge_ladd (h : gd_k0 cc pc 97 = true) : decode cc pc = .ok (Instr.ladd, 1) := gd_0 97 (Instr.ladd) rfl rfl h
theorem ge_isub (h : gd_k0 cc pc 100 = true) : decode cc pc = .ok (Instr.isub, 1) := gd_0 100 (Instr.isub) rfl rfl h
theorem ge_imul (h : gd_k0 cc pc 104 = true) : decode cc pc = .ok (Instr.imul, 1) := gd_0 104 (Instr.imul) rfl rfl h
theorem ge_idiv (h : gd_k0 cc pc 108 = true) : decode cc pc = .ok (Instr.idiv, 1) := gd_0 108 (Instr.idiv) rfl rfl h
theorem ge_ldiv (h : gd_k0 cc pc 109 = true) : decode cc pc = .ok (Instr.ldiv, 1) := gd_0 109 (Instr.ldiv) rfl rfl h
theorem ge_irem (h : gd_k0 cc pc 112 = true) : decode cc pc = .ok (Instr.irem, 1) := gd_0 112 (Instr.irem) rfl rfl h
theorem ge_lrem (h : gd_k0 cc pc 113 = true) : decode cc pc = .ok (Instr.lrem, 1) := gd_0 113 (Instr.lrem) rfl rfl h
theorem ge_ineg (h : gd_k0 cc pc 116 = true) : decode cc pc = .ok (Instr.ineg, 1) := gd_0 116 (Instr.ineg) rfl rfl h
theorem ge_ishl (h : gd_k0 cc pc 120 = true) : decode cc pc = .ok (Instr.ishl, 1) := gd_0 120 (Instr.ishl) rfl rfl h
theorem ge_ishr (h : gd_k0 cc pc 122 = true) : decode cc pc = .ok (Instr.ishr, 1) := gd_0 122 (Instr.ishr) rfl rfl h
theorem ge_iand (h : gd_k0 cc pc 126 = true) : decode cc pc = .ok (Instr.iand, 1) := gd_0 126 (Instr.iand) rfl rfl h
theorem ge_ior (h : gd_k0 cc pc 128 = true) : decode cc pc = .ok (Instr.ior, 1) := gd_0 128 (Instr.ior) rfl rfl h
theorem ge_ixor (h : gd_k0 cc pc 130 = true) : decode cc pc = .ok (Instr.ixor, 1) := gd_0 130 (Instr.ixor) rfl rfl h
theorem ge_iinc {w : Nat} {x : Int} (h : gd_k11 cc pc 132 w x = true) : decode cc pc = .ok (Instr.iinc w x, 3) := gd_11 132 (fun w x => Instr.iinc w x) rfl rfl h
theorem ge_i2l (h : gd_k0 cc pc 133 = true) : decode cc pc = .ok (Instr.i2l, 1) := gd_0 133 (Instr.i2l) rfl rfl h
theorem ge_i2b (h : gd_k0 cc pc 145 = true) : decode cc pc = .ok (Instr.i2b, 1) := gd_0 145 (Instr.i2b) rfl rfl h
theorem ge_i2c (h : gd_k0 cc pc 146 = true) : decode cc pc = .ok (Instr.i2c, 1) := gd_0 146 (Instr.i2c) rfl rfl h
theorem ge_lcmp (h : gd_k0 cc pc 148 = true) : decode cc pc = .ok (Instr.lcmp, 1) := gd_0 148 (Instr.lcmp) rfl rfl h
theorem ge_ifCond_eq {w : Int} (h : gd_k2s cc pc 153 w = true) : decode cc pc = .ok (Instr.ifCond .eq w, 3) := gd_2s 153 (fun w => Instr.ifCond .eq w) rfl rfl h
theorem ge_ifCond_ne {w : Int} (h : gd_k2s cc pc 154 w = true) : decode cc pc = .ok (Instr.ifCond .ne w, 3) := gd_2s 154 (fun w => Instr.ifCond .ne w) rfl rfl h
theorem ge_ifCond_lt {w : Int} (h : gd_k2s cc pc 155 w = true) : decode cc pc = .ok (Instr.ifCond .lt w, 3) := gd_2s 155 (fun w => Instr.ifCond .lt w) rfl rfl h
theorem ge_ifCond_ge {w : Int} (h : gd_k2s cc pc 156 w = true) : decode cc pc = .ok (Instr.ifCond .ge w, 3) := gd_2s 156 (fun w => Instr.ifCond .ge w) rfl rfl h
theorem ge_ifCond_le {w : Int} (h : gd_k2s cc pc 158 w = true) : decode cc pc = .ok (Instr.ifCond .le w, 3) := gd_2s 158 (fun w => Instr.ifCond .le w) rfl rfl h
theorem ge_if_icmp_eq {w : Int} (h : gd_k2s cc pc 159 w = true) : decode cc pc = .ok (Instr.if_icmp .eq w, 3) := gd_2s 159 (fun w => Instr.if_icmp .eq w) rfl rfl h
theorem ge_if_icmp_ne {w : Int} (h : gd_k2s cc pc 160 w = true) : decode cc pc = .ok (Instr.if_icmp .ne w, 3) := gd_2s 160 (fun w => Instr.if_icmp .ne w) rfl rfl h
theorem ge_if_icmp_lt {w : Int} (h : gd_k2s cc pc 161 w = true) : decode cc pc = .ok (Instr.if_icmp .lt w, 3) := gd_2s 161 (fun w => Instr.if_icmp .lt w) rfl rfl h
theorem ge_if_icmp_ge {w : Int} (h : gd_k2s cc pc 162 w = true) : decode cc pc = .ok (Instr.if_icmp .ge w, 3) := gd_2s 162 (fun w => Instr.if_icmp .ge w) rfl rfl h
theorem ge_if_icmp_gt {w : Int} (h : gd_k2s cc pc 163 w = true) : decode cc pc = .ok (Instr.if_icmp .gt w, 3) := gd_2s 163 (fun w => Instr.if_icmp .gt w) rfl rfl h
theorem ge_if_icmp_le {w : Int} (h : gd_k2s cc pc 164 w = true) : decode cc pc = .ok (Instr.if_icmp .le w, 3) := gd_2s 164 (fun w => Instr.if_icmp .le w) rfl rfl h
theorem ge_goto {w : Int} (h : gd_k2s cc pc 167 w = true) : decode cc pc = .ok (Instr.goto w, 3) := gd_2s 167 (fun w => Instr.goto w) rfl rfl h
theorem ge_ireturn (h : gd_k0 cc pc 172 = true) : decode cc pc = .ok (Instr.ireturn, 1) := gd_0 172 (Instr.ireturn) rfl rfl h
theorem ge_lreturn (h : gd_k0 cc pc 173 = true) : decode cc pc = .ok (Instr.lreturn, 1) := gd_0 173 (Instr.lreturn) rfl rfl h
theorem ge_return_ (h : gd_k0 cc pc 177 = true) : decode cc pc = .ok (Instr.return_, 1) := gd_0 177 (Instr.return_) rfl rfl h
theorem ge_getstatic {w : Nat} (h : gd_k2 cc pc 178 w = true) : decode cc pc = .ok (Instr.getstatic w, 3) := gd_2 178 (fun w => Instr.getstatic w) rfl rfl h
theorem ge_getfield {w : Nat} (h : gd_k2 cc pc 180 w = true) : decode cc pc = .ok (Instr.getfield w, 3) := gd_2 180 (fun w => Instr.getfield w) rfl rfl h
theorem ge_putfield {w : Nat} (h : gd_k2 cc pc 181 w = true) : decode cc pc = .ok (Instr.putfield w, 3) := gd_2 181 (fun w => Instr.putfield w) rfl rfl h
theorem ge_invokevirtual {w : Nat} (h : gd_k2 cc pc 182 w = true) : decode cc pc = .ok (Instr.invokevirtual w, 3) := gd_2 182 (fun w => Instr.invokevirtual w) rfl rfl h
theorem ge_invokespecial {w : Nat} (h : gd_k2 cc pc 183 w = true) : decode cc pc = .ok (Instr.invokespecial w, 3) := gd_2 183 (fun w => Instr.invokespecial w) rfl rfl h
theorem ge_invokestatic {w : Nat} (h : gd_k2 cc pc 184 w = true) : decode cc pc = .ok (Instr.invokestatic w, 3) := gd_2 184 (fun w => Instr.invokestatic w) rfl rfl h
theorem ge_new {w : Nat} (h : gd_k2 cc pc 187 w = true) : decode cc pc = .ok (Instr.new w, 3) := gd_2 187 (fun w => Instr.new w) rfl rfl h
theorem ge_anewarray {w : Nat} (h : gd_k2 cc pc 189 w = true) : decode cc pc = .ok (Instr.anewarray w, 3) := gd_2 189 (fun w => Instr.anewarray w) rfl rfl h
theorem ge_arraylength (h : gd_k0 cc pc 190 = true) : decode cc pc = .ok (Instr.arraylength, 1) := gd_0 190 (Instr.arraylength) rfl rfl h
theorem ge_instanceof {w : Nat} (h : gd_k2 cc pc 193 w = true) : decode cc pc = .ok (Instr.instanceof w, 3) := gd_2 193 (fun w => Instr.instanceof w) rfl rfl h
end
end
