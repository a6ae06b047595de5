/-! A small machine of our own over the kit's: memory is a list of (tag, length) of the cells made since the law began, what ints they hold, what references -/
abbrev gm_M : Type := List (Nat × Nat) × (Nat → Nat → Int32) × (Nat → Nat → Nat)
/-- slots, array classes by tag, special addresses, the heap at the law's start -/
abbrev gm_E : Type := va_G × (Nat → ClassId) × (Nat → Nat) × Heap
def gm_rv (o r : Nat) : Value := if r = 0 then .null else .ref (o + r)
/-- the formatter, one more than its address, 0 where it is null; a text or the script by its number -/
def gm_fm (a : Nat) : Value := match a with
  | 0 => .null
  | k + 1 => .ref k
def gm_tv (E : gm_E) (u : UInt32) : Value := if u.toNat = 13 then gm_fm (E.2.2.1 13) else .ref (E.2.2.1 u.toNat)
theorem gm_fm_cat (a : Nat) : (gm_fm a).category = 1 := by
  cases a with
  | zero => rfl
  | succ k => rfl
def gm_cv (E : gm_E) (o : Nat) (v : Value) : Value := match v with
  | .ref r => gm_rv o r
  | .float u => gm_tv E u
  | v => v
theorem gm_tv_of {E : gm_E} {u : UInt32} (h : u.toNat ≤ 12) : gm_tv E u = .ref (E.2.2.1 u.toNat) := by
  unfold gm_tv; rw [if_neg (by omega)]
theorem gm_tv_cases {E : gm_E} {u : UInt32} : gm_tv E u = .null ∨ ∃ a : Nat, gm_tv E u = .ref a := by
  unfold gm_tv
  by_cases h : u.toNat = 13
  · rw [if_pos h]
    cases E.2.2.1 13 with
    | zero => exact Or.inl rfl
    | succ k => exact Or.inr ⟨k, rfl⟩
  · rw [if_neg h]; exact Or.inr ⟨_, rfl⟩
theorem gm_mf {E : gm_E} {o : Nat} {u : UInt32} {st : List Value} (h : u.toNat ≤ 12) : (Value.float u :: st).map (gm_cv E o) = .ref (E.2.2.1 u.toNat) :: st.map (gm_cv E o) := by
  rw [List.map_cons]
  show gm_tv E u :: _ = _
  rw [gm_tv_of h]
theorem gm_mf13 {E : gm_E} {o : Nat} {st : List Value} : (Value.float 13 :: st).map (gm_cv E o) = gm_fm (E.2.2.1 13) :: st.map (gm_cv E o) := by
  rw [List.map_cons]
  show gm_tv E 13 :: _ = _
  unfold gm_tv; rw [if_pos (by decide)]
theorem gm_cv_cat (E : gm_E) (o : Nat) (v : Value) : (gm_cv E o v).category = v.category := by
  cases v with
  | ref r =>
    simp only [gm_cv, gm_rv]
    by_cases h : r = 0
    · rw [if_pos h]; rfl
    · rw [if_neg h]; rfl
  | float u =>
    show (gm_tv E u).category = 1
    unfold gm_tv
    by_cases h : u.toNat = 13
    · rw [if_pos h]; exact gm_fm_cat _
    · rw [if_neg h]; rfl
  | _ => rfl
def gm_isT (t : Option FieldType) : Bool := match t with
  | some (.object _) => true
  | some (.array _) => true
  | _ => false
def gm_isr (k j : Nat) : Bool := match gm_cls[k]? with
  | some q => gm_isT (parseFieldDescriptor (q.2.1 j).2.2.1)
  | none => false
def gm_fv (o : Nat) (μ : gm_M) (k r j : Nat) : Value := if gm_isr k j then gm_rv o (μ.2.2 r j) else .int (μ.2.1 r j)
def gm_cell (E : gm_E) (o : Nat) (μ : gm_M) (H : Heap) (r t n : Nat) : Prop := match t with
  | 0 => True
  | 1 => H[o + r]? = some (arrV (E.2.1 1) n (fun j => .int (μ.2.1 r j)))
  | 2 => H[o + r]? = some (arrV (E.2.1 2) n (fun j => .int (μ.2.1 r j)))
  | 3 => H[o + r]? = some (arrV (E.2.1 3) n (fun j => gm_rv o (μ.2.2 r j)))
  | 4 => H[o + r]? = some (arrV (E.2.1 4) n (fun j => gm_rv o (μ.2.2 r j)))
  | k + 5 => ∃ q : vw_C, gm_cls[k]? = some q ∧ n = q.2.2 ∧ t_OB (o + r) (E.1.1 k) q.2.2 (E.1.2 k) H (gm_fv o μ k r)
def gm_C (E : gm_E) (o : Nat) (μ : gm_M) (H : Heap) : Prop := H.size = o + μ.1.length ∧ μ.1[0]? = some (0, 0) ∧ (E.2.2.2.size = o + 1 ∧ ∀ q, q ≤ o → H[q]? = E.2.2.2[q]?) ∧ ∀ r t n, μ.1[r]? = some (t, n) → gm_cell E o μ H r t n
def gm_tys (E : gm_E) : List (ClassId × FieldType) := [(E.2.1 1, .int), (E.2.1 2, .boolean), (E.2.1 3, .object "GumBubble$Plain"), (E.2.1 4, .object "GumBubble$Child")]
def gm_As (a b : String) (U : State) : Prop := ∃ c t : ClassId, U.vm.findClass a = some c ∧ U.vm.findClass b = some t ∧ U.vm.assignable c t = true
theorem gm_As.moved {a b : String} {u U : State} (hvm : u.vm.Alike U.vm) (h : gm_As a b u) : gm_As a b U := by
  obtain ⟨c, t, h1, h2, h3⟩ := h
  exact ⟨c, t, by rw [hvm.findClass]; exact h1, by rw [hvm.findClass]; exact h2, by rw [hvm.assignable]; exact h3⟩
def gm_yes : List (String × String) := [("GumBubble$Plain", "GumBubble$Plain"), ("GumBubble$Child", "GumBubble$Child"), ("GumBubble$Quick", "GumBubble$Quick"), ("GumBubble$Slow", "GumBubble$Slow"), ("GumBubble$Cold", "GumBubble$Cold"), ("GumBubble$Greedy", "GumBubble$Greedy"), ("GumBubble$Careful", "GumBubble$Careful"), ("GumBubble$Told", "GumBubble$Told"), ("GumBubble$Quick", "GumBubble$Plain"), ("GumBubble$Slow", "GumBubble$Plain"), ("GumBubble$Cold", "GumBubble$Plain"), ("GumBubble$Greedy", "GumBubble$Plain"), ("GumBubble$Careful", "GumBubble$Plain"), ("GumBubble$Told", "GumBubble$Plain"), ("GumBubble$Greedy", "GumBubble$Quick"), ("GumBubble$Careful", "GumBubble$Slow"), ("GumBubble$Told", "GumBubble$Cold")]
def gm_no0 : List (String × String) := [("GumBubble$Plain", "GumBubble$Told"), ("GumBubble$Quick", "GumBubble$Told"), ("GumBubble$Slow", "GumBubble$Told"), ("GumBubble$Cold", "GumBubble$Told"), ("GumBubble$Greedy", "GumBubble$Told"), ("GumBubble$Careful", "GumBubble$Told"), ("GumBubble$Plain", "GumBubble$Quick"), ("GumBubble$Slow", "GumBubble$Quick"), ("GumBubble$Cold", "GumBubble$Quick"), ("GumBubble$Careful", "GumBubble$Quick"), ("GumBubble$Told", "GumBubble$Quick"), ("GumBubble$Plain", "GumBubble$Slow"), ("GumBubble$Quick", "GumBubble$Slow"), ("GumBubble$Cold", "GumBubble$Slow"), ("GumBubble$Greedy", "GumBubble$Slow"), ("GumBubble$Told", "GumBubble$Slow"), ("GumBubble$Plain", "GumBubble$Cold"), ("GumBubble$Quick", "GumBubble$Cold"), ("GumBubble$Slow", "GumBubble$Cold"), ("GumBubble$Greedy", "GumBubble$Cold"), ("GumBubble$Careful", "GumBubble$Cold"), ("GumBubble$Plain", "GumBubble$Greedy"), ("GumBubble$Quick", "GumBubble$Greedy"), ("GumBubble$Slow", "GumBubble$Greedy"), ("GumBubble$Cold", "GumBubble$Greedy"), ("GumBubble$Careful", "GumBubble$Greedy"), ("GumBubble$Told", "GumBubble$Greedy"), ("GumBubble$Plain", "GumBubble$Careful"), ("GumBubble$Quick", "GumBubble$Careful"), ("GumBubble$Slow", "GumBubble$Careful"), ("GumBubble$Cold", "GumBubble$Careful"), ("GumBubble$Greedy", "GumBubble$Careful"), ("GumBubble$Told", "GumBubble$Careful")]
def gm_N1 : Cond := .methodLinkNest "GumBubble$Scene" 23 ⟨"GumBubble$Afternoon", "<init>", "()V"⟩ "GumBubble"
def gm_N2 : Cond := .methodLinkNest "GumBubble" 92 ⟨"GumBubble$Afternoon", "<init>", "()V"⟩ "GumBubble"
/-! the six texts: read only, below the law's memory -/
def gm_txt : List (List Int32) := [[119, 105, 110, 100, 32], [119, 101, 101, 116, 32], [114, 101, 116, 99, 104, 32], [105, 102, 102, 32], [99, 107, 118, 112, 115, 109], [60, 61, 62]]
def gm_tls : List Nat := [5, 5, 6, 4, 6, 3]
def gm_sr : List (String × Nat × String × Nat) := [("GumBubble$Afternoon", 63, "wind ", 0), ("GumBubble$Afternoon", 69, "weet ", 1), ("GumBubble$Afternoon", 71, "retch ", 2), ("GumBubble$Afternoon", 73, "iff ", 3), ("GumBubble$Afternoon", 104, "ckvpsm", 4), ("GumBubble$Afternoon", 109, "<=>", 5), ("GumBubbleModel", 121, "wind ", 0), ("GumBubbleModel", 108, "weet ", 1), ("GumBubbleModel", 114, "retch ", 2), ("GumBubbleModel", 119, "iff ", 3), ("GumBubbleModel", 90, "ckvpsm", 4), ("GumBubbleModel", 96, "<=>", 5)]
def gm_never : Nat → Prop := fun _ => False
def gm_TS (E : gm_E) (U : State) (H : Heap) : Prop := vk_S 6 gm_tls gm_txt (fun i => E.2.2.1 (i + 1)) (fun i => E.2.2.1 (i + 7)) gm_never U H ∧ va_Z "java/lang/String" "COMPACT_STRINGS" "Z" (.int 1) gm_never U H ∧ va_Z "jdk/internal/util/Preconditions" "SIOOBE_FORMATTER" "Ljava/util/function/BiFunction;" (gm_fm (E.2.2.1 13)) gm_never U H
def gm_TX (E : gm_E) (U : State) : Prop := gm_TS E U E.2.2.2 ∧ ∀ q ∈ gm_sr, vk_R q.1 q.2.1 q.2.2.1 (E.2.2.1 (q.2.2.2 + 1)) U
theorem gm_TS.moved {E : gm_E} {u U : State} {H : Heap} (hvm : u.vm.Alike U.vm) (h : gm_TS E u H) : gm_TS E U H := ⟨vk_S.moved hvm h.1, va_Z.moved hvm h.2.1, va_Z.moved hvm h.2.2⟩
theorem gm_TS.kept {E : gm_E} {U : State} {H H1 : Heap} (h : gm_TS E U H) (hq : ∀ a : Nat, a < H.size → ¬ gm_never a → H1[a]? = H[a]?) : gm_TS E U H1 := ⟨vk_S.kept h.1 hq, va_Z.kept h.2.1 hq, va_Z.kept h.2.2 hq⟩
def gm_K (E : gm_E) (U : State) : Prop := va_K E.1 gm_cls (gm_tys E) U ∧ va_AO "GumBubble$Plain" U ∧ va_AO "GumBubble$Child" U ∧ (∀ q ∈ gm_yes, gm_As q.1 q.2 U) ∧ va_Nw gm_N1 U ∧ va_Nw gm_N2 U ∧ (∀ q ∈ gm_no0, va_Nc q.1 q.2 U) ∧ gm_TX E U
theorem gm_K.warm {E : gm_E} {s U : State} (hW : s.WarmedH U.vm) (h : gm_K E s) : gm_K E U := by
  obtain ⟨h1, h2, h3, h4, h5, h6, h7, h8⟩ := h
  exact ⟨h1.moved hW.alike, h2.moved hW.alike, h3.moved hW.alike, fun q hq => (h4 q hq).moved hW.alike, va_Nw.warmM hW h5, va_Nw.warmM hW h6, fun q hq => (h7 q hq).moved hW.alike, h8.1.moved hW.alike, fun q hq => vk_R.warm hW (h8.2 q hq)⟩
theorem gm_K.same {E : gm_E} {s U : State} (e : s.vm = U.vm) (h : gm_K E s) : gm_K E U := by
  obtain ⟨h1, h2, h3, h4, h5, h6, h7, h8⟩ := h
  have hA : s.vm.Alike U.vm := by rw [e]; exact Vm.Alike.refl U.vm
  exact ⟨h1.moved hA, h2.moved hA, h3.moved hA, fun q hq => (h4 q hq).moved hA, va_tabs rfl e h5, va_tabs rfl e h6, fun q hq => (h7 q hq).moved hA, h8.1.moved hA, fun q hq => vk_R.same e.symm (h8.2 q hq)⟩
/-- a method's name, and what is known where it began -/
abbrev gm_Nm : Type := String × (gm_E → State → Prop)
def gm_nm (s : String) : gm_Nm := (s, fun _ _ => True)
def gm_X (own : String) (nm : gm_Nm) (cc : ByteArray) (nL : Nat) (rt : Option FieldType) (E : gm_E) (p : Program) (s : State) (m : MethodId) (args : Array Value) (meth : Method) (c : Code) : Prop :=
  p.tables.exec = Jvm.exec ∧ c.code = cc ∧ c.maxLocals = nL ∧ meth.sig.returnType = rt ∧ s.vm.findClass own = some m.cls ∧ (∀ w ∈ gm_G, w.before args s = true) ∧ meth.locks = false ∧ gm_K E s ∧ meth.name = nm.1 ∧ nm.2 E s
def gm_Qc (E : gm_E) (o : Nat) (res : Option Value) (μ : gm_M) : Array Value → State → Outcome → State → Prop := fun _ _ oc t => oc = .returned (res.map (gm_cv E o)) ∧ gm_C E o μ t.heap
def gm_Goal (own : String) (nm : gm_Nm) (cc : ByteArray) (nL : Nat) (rt : Option FieldType) (R : Room) (res : Option Value) (μe : gm_M) (k n : Nat) (μ : gm_M) (pc : Nat) (L : List (Nat × Value)) (st : List Value) : Prop :=
  ∀ (p : Program) (l : Launch) (e : Env) (s : State) (m : MethodId) (args : Array Value) (below : List Frame) (meth : Method) (c : Code) (H : Heap) (locs : List Loc) (ls : Array Slot) (E : gm_E) (o : Nat),
    gm_X own nm cc nL rt E p s m args meth c → gm_C E o μ H → lv_has ls nL (L.map fun q => (q.1, gm_cv E o q.2)) → (∀ q ∈ locs, o < q.base) →
    W p l e R s m args below meth c H locs k n (MQ below (gm_Qc E o res μe) args s R.cells R.slots (fun q => o < q)) (F0 m pc ls (st.map (gm_cv E o)))
/-- whatever z gives, with what κ says of it, the machine goes there -/
def gm_A (own : String) (nm : gm_Nm) (cc : ByteArray) (nL : Nat) (rt : Option FieldType) (R : Room) (res : Option Value) (μe : gm_M) {β : Type} (k n : Nat) (μ : gm_M) (pc : Nat) (L : List (Nat × Value)) (st : List Value) (z : Option β) (κ : β → Prop) : Prop :=
  ∀ b : β, z = some b → κ b → gm_Goal own nm cc nL rt R res μe k n μ pc L st
def gm_up1 (L : List (Nat × Value)) (i : Nat) (v : Value) : List (Nat × Value) := (i, v) :: L.filter (fun q => !(q.1 == i) && !(q.1 + 1 == i && q.2.category == 2))
def gm_up2 (L : List (Nat × Value)) (i : Nat) (v : Value) : List (Nat × Value) := (i, v) :: L.filter (fun q => !(q.1 == i) && (!(q.1 == i + 1) && !(q.1 + 1 == i && q.2.category == 2)))
theorem gm_map {E : gm_E} {o q i : Nat} {L : List (Nat × Value)} {v : Value} (h : L[q]? = some (i, v)) : (L.map fun q => (q.1, gm_cv E o q.2))[q]? = some (i, gm_cv E o v) := by
  rw [List.getElem?_map, h]; rfl
theorem gm_up1_map {E : gm_E} {o i : Nat} {L L' : List (Nat × Value)} {v : Value} (h : gm_up1 L i v = L') : (i, gm_cv E o v) :: (L.map fun q => (q.1, gm_cv E o q.2)).filter (fun q => !(q.1 == i) && !(q.1 + 1 == i && q.2.category == 2)) = L'.map fun q => (q.1, gm_cv E o q.2) := by
  rw [← h, gm_up1, List.map_cons, List.filter_map]
  congr 3
  funext q
  simp only [Function.comp, gm_cv_cat]
theorem gm_up2_map {E : gm_E} {o i : Nat} {L L' : List (Nat × Value)} {v : Value} (h : gm_up2 L i v = L') : (i, gm_cv E o v) :: (L.map fun q => (q.1, gm_cv E o q.2)).filter (fun q => !(q.1 == i) && (!(q.1 == i + 1) && !(q.1 + 1 == i && q.2.category == 2))) = L'.map fun q => (q.1, gm_cv E o q.2) := by
  rw [← h, gm_up2, List.map_cons, List.filter_map]
  congr 3
  funext q
  simp only [Function.comp, gm_cv_cat]
section GX
variable {p : Program} {l : Launch} {e : Env} {R : Room} {s : State} {m : MethodId} {args : Array Value} {below : List Frame} {meth : Method} {c : Code} {H : Heap} {locs : List Loc} {cells slots : Nat} {Q : State → Prop} {cc : ByteArray} {pc : Nat} {ls : Array Slot} {rest : List Value}
theorem gm_xaload_n (hexec : p.tables.exec = Jvm.exec) (hb : c.code = cc) {k : Fin 4} {i o r : Nat} (hdg : decode cc pc = .ok (.aload_n k, 1)) (hi : (k : Nat) = i) (hl : ls[i]? = some (.val (gm_rv o r))) (kk : W p l e R s m args below meth c H locs cells slots Q (F0 m (pc + 1) ls (gm_rv o r :: rest))) : W p l e R s m args below meth c H locs cells slots Q (F0 m pc ls rest) := by
  unfold gm_rv at hl kk
  split at hl
  · rw [if_pos ‹_›] at kk
    exact lv_aload_nN hexec hb hdg hi hl kk
  · rw [if_neg ‹_›] at kk
    exact lv_aload_n hexec hb hdg hi hl kk
theorem gm_xaload (hexec : p.tables.exec = Jvm.exec) (hb : c.code = cc) {i o r : Nat} (hdg : decode cc pc = .ok (.aload i, 2)) (hl : ls[i]? = some (.val (gm_rv o r))) (kk : W p l e R s m args below meth c H locs cells slots Q (F0 m (pc + 2) ls (gm_rv o r :: rest))) : W p l e R s m args below meth c H locs cells slots Q (F0 m pc ls rest) := by
  unfold gm_rv at hl kk
  split at hl
  · rw [if_pos ‹_›] at kk
    exact lv_aloadN hexec hb hdg hl kk
  · rw [if_neg ‹_›] at kk
    exact lv_aload hexec hb hdg hl kk
theorem gm_xastore_n (hexec : p.tables.exec = Jvm.exec) (hb : c.code = cc) {k : Fin 4} {i nL o r : Nat} {lv lv' : List (Nat × Value)} (hdg : decode cc pc = .ok (.astore_n k, 1)) (hi : (k : Nat) = i) (h : lv_has ls nL lv) (hn : i < nL) (hl : (i, gm_rv o r) :: lv.filter (fun q => !(q.1 == i) && !(q.1 + 1 == i && q.2.category == 2)) = lv')
    (kk : ∀ ls' : Array Slot, lv_has ls' nL lv' → W p l e R s m args below meth c H locs cells slots Q (F0 m (pc + 1) ls' rest)) : W p l e R s m args below meth c H locs cells slots Q (F0 m pc ls (gm_rv o r :: rest)) := by
  unfold gm_rv at hl ⊢
  split at hl
  · rw [if_pos ‹_›]
    exact lv_astore_nN hexec hb hdg hi h hn hl kk
  · rw [if_neg ‹_›]
    exact lv_astore_n hexec hb hdg hi h hn hl kk
theorem gm_xastore (hexec : p.tables.exec = Jvm.exec) (hb : c.code = cc) {i nL o r : Nat} {lv lv' : List (Nat × Value)} (hdg : decode cc pc = .ok (.astore i, 2)) (h : lv_has ls nL lv) (hn : i < nL) (hl : (i, gm_rv o r) :: lv.filter (fun q => !(q.1 == i) && !(q.1 + 1 == i && q.2.category == 2)) = lv')
    (kk : ∀ ls' : Array Slot, lv_has ls' nL lv' → W p l e R s m args below meth c H locs cells slots Q (F0 m (pc + 2) ls' rest)) : W p l e R s m args below meth c H locs cells slots Q (F0 m pc ls (gm_rv o r :: rest)) := by
  unfold gm_rv at hl ⊢
  split at hl
  · rw [if_pos ‹_›]
    exact lv_astoreN hexec hb hdg h hn hl kk
  · rw [if_neg ‹_›]
    exact lv_astore hexec hb hdg h hn hl kk
end GX
section
variable {p : Program} {l : Launch} {e : Env} {R : Room} {s : State} {m : MethodId} {args : Array Value} {below : List Frame} {meth : Method} {c : Code}
theorem gm_cSU2 {T : State} {locs : List Loc} {cells slots : Nat} (X : Stand p l e R s m args below meth c T locs cells slots) (hexec : p.tables.exec = Jvm.exec) {own C1 : String} {index : Nat} {y : MethodName} {bytes : ByteArray} {maxL : Nat} {ret : Option FieldType}
    (hown : s.vm.findClass own = some m.cls) (hlink : (Cond.methodLink own index ⟨C1, y.name, y.desc⟩).before args s = true) (hsame : (Cond.sameMethod C1 y.cls y.name y.desc).before args s = true) (hsup : (Cond.superclass own C1).before args s = true) (hsup2 : (Cond.superclass C1 y.cls).before args s = true)
    (hinst : (Cond.instanceMethod y).before args s = true) (hcode : (Cond.code y bytes maxL ret).before args s = true) (hno : y.name ≠ "<init>")
    {W : Nat} {Pre : Pt → Array Value → Prop} {Post : Pt → Array Value → Option Value → Pt → Prop} (hK : Back l R p e below s args y 3 W Pre Post)
    {b : Addr} {cellB : Cell} {kB : Class} (hcell : T.heap[b]? = some cellB) (hobj : cellB.vm.isStatics = false) (hkB : s.vm.classes[cellB.cls]? = some kB)
    {g : JFrame} (hg : g.method = m) (hsize : g.locals.size = c.maxLocals) {argsL rest : List Value} (hlen : ∀ sig, parseMethodDescriptor y.desc = some sig → argsL.length = sig.parameters.length)
    (hstack : g.stack = argsL.reverse ++ .ref b :: rest) (hW : 2 * g.monitorRoom + (rest.map fun v => v.category).sum ≤ W) (hdg : decode c.code g.pc = .ok (.invokespecial index, 3))
    (hpre : ∀ vm₁, s.WarmedH vm₁ → Pre ⟨T.setVm vm₁, locs, cells, slots⟩ (Value.ref b :: argsL).toArray) :
    ∃ (v : Option Value) (vm₁ : Vm) (B : Pt), s.WarmedH vm₁ ∧ Stand p l e R s m args below meth c B.U B.locs B.cells B.slots ∧ Post ⟨T.setVm vm₁, locs, cells, slots⟩ (Value.ref b :: argsL).toArray v B ∧
      ∀ target, Steps p.tables e below (B.U.setTop { g with pc := g.pc + 3, stack := v.toList ++ rest }) target → Steps p.tables e below (T.setTop g) target := by
  obtain ⟨mk, methM, hnamed, hmethM, hstM, habM⟩ := Cond.instanceMethod_spec hinst
  obtain ⟨methM', cM, hmethM', -, -, -, -, -, -, hsigM⟩ := Cond.code_spec hnamed hcode
  cases hmethM.symm.trans hmethM'
  obtain ⟨ps, dk, kp, hps, hdk, hkp, hsuper, -, -, hnid⟩ := Cond.superclass_spec hown hsup
  obtain ⟨ps2, dk2, kp2, hps2, hdk2, hkp2, hsuper2, -, -, -⟩ := Cond.superclass_spec hps hsup2
  have hn : s.methodNamed? ⟨y.cls, y.name, y.desc⟩ = some mk := hnamed
  have hpm : ps2 = mk.cls := Option.some.inj (hps2.symm.trans (findClass_of_methodNamed hnamed))
  have hsz : ∃ n, s.vm.classes.size = n + 1 := by
    obtain ⟨hlt, -⟩ := Array.getElem?_eq_some_iff.mp hdk2
    exact ⟨s.vm.classes.size - 1, by omega⟩
  obtain ⟨n, hn1⟩ := hsz
  have hsub : s.vm.isSubclass ps mk.cls = true := by
    rw [← hpm]
    unfold Vm.isSubclass
    rw [hn1]
    simp [Vm.isSubclassAux, hdk2, hsuper2]
  obtain ⟨vm₁, X₁, hstep₁⟩ := X.invokespecialUp hexec (x := ⟨C1, y.name, y.desc⟩) hown hlink hsame hn hmethM hstM habM hno hdk hnid hps hsuper hsub (a := b) (cell := cellB) hcell
    (fun z h => by rw [h] at hobj; cases hobj) hkB (g := g) hg (argsL := argsL) (rest := rest) (hlen _ hsigM) hstack hdg
  obtain ⟨v, B, X', hpost, hsteps⟩ := hK m meth c ⟨T.setVm vm₁, locs, cells, slots⟩ { g with stack := rest } (.invokespecial index) mk (Value.ref b :: argsL).toArray X₁ hg hsize hdg hW (X₁.named hnamed) (hpre vm₁ X₁.warmed)
  exact ⟨v, vm₁, B, X₁.warmed, X', hpost, fun target h => hstep₁ _ (by rw [doInvoke_state]; exact hsteps.trans h)⟩
variable {H : Heap} {locs : List Loc} {cells slots : Nat}
theorem gm_runSU2 {y : MethodName} {bytes cc : ByteArray} {maxL nL mc ms n index : Nat} {ret : Option FieldType} {ws : List Cond} {rm : Room} {Pc : Array Value → State → Prop} {Qc : Array Value → State → Outcome → State → Prop} {free : Addr → Prop} {Ts : List Cond} {own C C1 : String} {cC : ClassId} {b : Addr} {As rest : List Value} {g : JFrame}
    (hat : ClassAt s C cC) (S : CallFix p m c cc nL s args Ts own) (hM : Met l y ws rm Pc Qc mc ms free)
    (hrc : rm.cells = mc) (hrs : rm.slots = ms) (hfr : rm.frames + 1 ≤ R.frames) (hlo : 8 + (maxL + 11) + rm.locals ≤ R.locals) (hws : ∀ w ∈ ws, ∀ (a' : Array Value) (U : State), s.WarmedH U.vm → w.before a' U = true) (hcw : Cond.code y bytes maxL ret ∈ ws)
    (hl1 : (Cond.methodLink own index ⟨C1, y.name, y.desc⟩).before args s = true) (hl2 : (Cond.sameMethod C1 y.cls y.name y.desc).before args s = true) (hl3 : (Cond.superclass own C1).before args s = true) (hl5 : (Cond.superclass C1 y.cls).before args s = true) (hl4 : (Cond.instanceMethod y).before args s = true) (hini : (Cond.initialized y.cls).before args s = true) (hcode : (Cond.code y bytes maxL ret).before args s = true) (hno : y.name ≠ "<init>") (hlen : ∀ sig, parseMethodDescriptor y.desc = some sig → n = sig.parameters.length)
    (hp : PreV s H C b Pc As)
    (hg : g.method = m) (hn : As.length = n) (hsize : g.locals.size = nL) (hstack : g.stack = As.reverse ++ .ref b :: rest) (hW : 2 * g.monitorRoom + (rest.map fun v => v.category).sum ≤ 8) (hdg : decode cc g.pc = .ok (.invokespecial index, 3)) (hf : cells + mc ≤ R.cells ∧ slots + ms ≤ R.slots) :
    va_Run p l e R s m args below meth c H locs cells slots mc ms g rest (Qc (Value.ref b :: As).toArray) (free) := by
  have hK : Back l R p e below s args y 3 8 (PreOf R mc ms Pc) (PostOf Qc mc ms free) := back_of (bytes := bytes) (maxL := maxL) (ret := ret) hM hp.1 hrc hrs hfr hlo hws hcw (fun a' U hW => word_at hW (Or.inl (by first | rfl | simp [Cond.onTables, Cond.keeps, Cond.steady])) hini)
  obtain ⟨hx, hb, hml, ho, -⟩ := S
  obtain ⟨-, ⟨cellB, hcB, hoB, hclB⟩, hPc⟩ := hp
  obtain ⟨hfc, kB, hkB, -⟩ := hat
  cases hfc.symm.trans hclB
  intro T hT X
  obtain ⟨v, vm₁, ⟨U', l2, c2, s2⟩, hW₁, X', ⟨g', mk, t, L, e1, e2, hq, h1, hL, h2, h3⟩, st⟩ := gm_cSU2 X hx (bytes := bytes) (maxL := maxL) (ret := ret) ho hl1 hl2 hl3 hl5 hl4 hcode hno hK (by rw [hT]; exact hcB) hoB hkB hg (hsize.trans hml.symm) (argsL := As) (rest := rest) (fun sig h => hn.trans (hlen sig h)) hstack hW (by rw [hb]; exact hdg)
    (fun vm₁ hW₁ => ⟨hf.1, hf.2, hPc (T.setVm vm₁) hT hW₁⟩)
  dsimp only [Pt.U, Pt.locs, Pt.cells, Pt.slots] at X' e1 e2 h1 h2 h3 st
  subst h1; subst h2; subst h3
  exact ⟨v, (T.setVm vm₁).calling g' mk (Value.ref b :: As).toArray, t, U', L, hT, X', hL, e1, e2, hq, st⟩
end
section GA
variable {own : String} {nm : gm_Nm} {cc : ByteArray} {nL : Nat} {rt : Option FieldType} {R : Room} {res : Option Value} {μe : gm_M} {β : Type} {k n : Nat} {μ : gm_M} {pc : Nat} {L : List (Nat × Value)} {st : List Value} {z : Option β} {κ : β → Prop}
theorem gm_iconst {i : Int} {v : Int32} (hd : decode cc pc = .ok (.iconst i, 1)) (hv : Int32.ofInt i = v) (kk : gm_A own nm cc nL rt R res μe k n μ (pc + 1) L (.int v :: st) z κ) : gm_A own nm cc nL rt R res μe k n μ pc L st z κ := by
  intro b hz hk p l e s m args below meth c H locs ls E o X C hl hf
  have kk := kk b hz hk p l e s m args below meth c H locs ls E o X C hl hf
  obtain ⟨hx, hb, hml, hr, hown, hts, hlk, hK, hnm⟩ := X
  exact lv_iconst hx hb hd hv kk
theorem gm_bipush {i : Int} {v : Int32} (hd : decode cc pc = .ok (.bipush i, 2)) (hv : (Int8.ofInt i).toInt32 = v) (kk : gm_A own nm cc nL rt R res μe k n μ (pc + 2) L (.int v :: st) z κ) : gm_A own nm cc nL rt R res μe k n μ pc L st z κ := by
  intro b hz hk p l e s m args below meth c H locs ls E o X C hl hf
  have kk := kk b hz hk p l e s m args below meth c H locs ls E o X C hl hf
  obtain ⟨hx, hb, hml, hr, hown, hts, hlk, hK, hnm⟩ := X
  exact lv_bipush hx hb hd hv kk
theorem gm_sipush {i : Int} {v : Int32} (hd : decode cc pc = .ok (.sipush i, 3)) (hv : (Int16.ofInt i).toInt32 = v) (kk : gm_A own nm cc nL rt R res μe k n μ (pc + 3) L (.int v :: st) z κ) : gm_A own nm cc nL rt R res μe k n μ pc L st z κ := by
  intro b hz hk p l e s m args below meth c H locs ls E o X C hl hf
  have kk := kk b hz hk p l e s m args below meth c H locs ls E o X C hl hf
  obtain ⟨hx, hb, hml, hr, hown, hts, hlk, hK, hnm⟩ := X
  exact lv_sipush hx hb hd hv kk
theorem gm_lconst {i : Fin 2} {v : Int64} (hd : decode cc pc = .ok (.lconst i, 1)) (hv : Int64.ofNat (i : Nat) = v) (kk : gm_A own nm cc nL rt R res μe k n μ (pc + 1) L (.long v :: st) z κ) : gm_A own nm cc nL rt R res μe k n μ pc L st z κ := by
  intro b hz hk p l e s m args below meth c H locs ls E o X C hl hf
  have kk := kk b hz hk p l e s m args below meth c H locs ls E o X C hl hf
  obtain ⟨hx, hb, hml, hr, hown, hts, hlk, hK, hnm⟩ := X
  exact lv_lconst hx hb hd hv kk
theorem gm_ldc {i : Nat} {v : Int32} (hw : Jvm.Cond.constant own i v ∈ gm_G) (hd : decode cc pc = .ok (.ldc i, 2)) (kk : gm_A own nm cc nL rt R res μe k n μ (pc + 2) L (.int v :: st) z κ) : gm_A own nm cc nL rt R res μe k n μ pc L st z κ := by
  intro b hz hk p l e s m args below meth c H locs ls E o X C hl hf
  have kk := kk b hz hk p l e s m args below meth c H locs ls E o X C hl hf
  obtain ⟨hx, hb, hml, hr, hown, hts, hlk, hK, hnm⟩ := X
  exact lv_ldc hx hb hown (hts _ hw) hd kk
theorem gm_ldc2 {i : Nat} {v : Int64} (hw : Jvm.Cond.constantLong own i v ∈ gm_G) (hd : decode cc pc = .ok (.ldc2_w i, 3)) (kk : gm_A own nm cc nL rt R res μe k n μ (pc + 3) L (.long v :: st) z κ) : gm_A own nm cc nL rt R res μe k n μ pc L st z κ := by
  intro b hz hk p l e s m args below meth c H locs ls E o X C hl hf
  have kk := kk b hz hk p l e s m args below meth c H locs ls E o X C hl hf
  obtain ⟨hx, hb, hml, hr, hown, hts, hlk, hK, hnm⟩ := X
  exact lv_ldc2 hx hb hown (hts _ hw) hd kk
theorem gm_iload_n {f : Fin 4} {i : Nat} {x : Int32} (hd : decode cc pc = .ok (.iload_n f, 1)) (hi : (f : Nat) = i) (q : Nat) (hq : L[q]? = some (i, .int x)) (kk : gm_A own nm cc nL rt R res μe k n μ (pc + 1) L (.int x :: st) z κ) : gm_A own nm cc nL rt R res μe k n μ pc L st z κ := by
  intro b hz hk p l e s m args below meth c H locs ls E o X C hl hf
  have kk := kk b hz hk p l e s m args below meth c H locs ls E o X C hl hf
  obtain ⟨hx, hb, hml, hr, hown, hts, hlk, hK, hnm⟩ := X
  exact lv_iload_n hx hb hd hi (lv_at hl q (gm_map hq)) kk
theorem gm_iload {i : Nat} {x : Int32} (hd : decode cc pc = .ok (.iload i, 2)) (q : Nat) (hq : L[q]? = some (i, .int x)) (kk : gm_A own nm cc nL rt R res μe k n μ (pc + 2) L (.int x :: st) z κ) : gm_A own nm cc nL rt R res μe k n μ pc L st z κ := by
  intro b hz hk p l e s m args below meth c H locs ls E o X C hl hf
  have kk := kk b hz hk p l e s m args below meth c H locs ls E o X C hl hf
  obtain ⟨hx, hb, hml, hr, hown, hts, hlk, hK, hnm⟩ := X
  exact lv_iload hx hb hd (lv_at hl q (gm_map hq)) kk
theorem gm_lload_n {f : Fin 4} {i : Nat} {x : Int64} (hd : decode cc pc = .ok (.lload_n f, 1)) (hi : (f : Nat) = i) (q : Nat) (hq : L[q]? = some (i, .long x)) (kk : gm_A own nm cc nL rt R res μe k n μ (pc + 1) L (.long x :: st) z κ) : gm_A own nm cc nL rt R res μe k n μ pc L st z κ := by
  intro b hz hk p l e s m args below meth c H locs ls E o X C hl hf
  have kk := kk b hz hk p l e s m args below meth c H locs ls E o X C hl hf
  obtain ⟨hx, hb, hml, hr, hown, hts, hlk, hK, hnm⟩ := X
  exact lv_lload_n hx hb hd hi (lv_at hl q (gm_map hq)) kk
theorem gm_lload {i : Nat} {x : Int64} (hd : decode cc pc = .ok (.lload i, 2)) (q : Nat) (hq : L[q]? = some (i, .long x)) (kk : gm_A own nm cc nL rt R res μe k n μ (pc + 2) L (.long x :: st) z κ) : gm_A own nm cc nL rt R res μe k n μ pc L st z κ := by
  intro b hz hk p l e s m args below meth c H locs ls E o X C hl hf
  have kk := kk b hz hk p l e s m args below meth c H locs ls E o X C hl hf
  obtain ⟨hx, hb, hml, hr, hown, hts, hlk, hK, hnm⟩ := X
  exact lv_lload hx hb hd (lv_at hl q (gm_map hq)) kk
theorem gm_aload_n {f : Fin 4} {i : Nat} {x : Nat} (hd : decode cc pc = .ok (.aload_n f, 1)) (hi : (f : Nat) = i) (q : Nat) (hq : L[q]? = some (i, .ref x)) (kk : gm_A own nm cc nL rt R res μe k n μ (pc + 1) L (.ref x :: st) z κ) : gm_A own nm cc nL rt R res μe k n μ pc L st z κ := by
  intro b hz hk p l e s m args below meth c H locs ls E o X C hl hf
  have kk := kk b hz hk p l e s m args below meth c H locs ls E o X C hl hf
  obtain ⟨hx, hb, hml, hr, hown, hts, hlk, hK, hnm⟩ := X
  exact gm_xaload_n hx hb hd hi (lv_at hl q (gm_map hq)) kk
theorem gm_aload {i : Nat} {x : Nat} (hd : decode cc pc = .ok (.aload i, 2)) (q : Nat) (hq : L[q]? = some (i, .ref x)) (kk : gm_A own nm cc nL rt R res μe k n μ (pc + 2) L (.ref x :: st) z κ) : gm_A own nm cc nL rt R res μe k n μ pc L st z κ := by
  intro b hz hk p l e s m args below meth c H locs ls E o X C hl hf
  have kk := kk b hz hk p l e s m args below meth c H locs ls E o X C hl hf
  obtain ⟨hx, hb, hml, hr, hown, hts, hlk, hK, hnm⟩ := X
  exact gm_xaload hx hb hd (lv_at hl q (gm_map hq)) kk
theorem gm_istore_n {f : Fin 4} {i : Nat} {x : Int32} {L' : List (Nat × Value)} (hd : decode cc pc = .ok (.istore_n f, 1)) (hi : (f : Nat) = i) (hn : i < nL) (hL : gm_up1 L i (.int x) = L') (kk : gm_A own nm cc nL rt R res μe k n μ (pc + 1) L' st z κ) : gm_A own nm cc nL rt R res μe k n μ pc L (.int x :: st) z κ := by
  intro b hz hk p l e s m args below meth c H locs ls E o X C hl hf
  obtain ⟨hx, hb, hml, hr, hown, hts, hlk, hK, hnm⟩ := id X
  exact lv_istore_n hx hb hd hi hl hn (gm_up1_map hL) (fun ls hl => kk b hz hk p l e s m args below meth c H locs ls E o X C hl hf)
theorem gm_istore {i : Nat} {x : Int32} {L' : List (Nat × Value)} (hd : decode cc pc = .ok (.istore i, 2)) (hn : i < nL) (hL : gm_up1 L i (.int x) = L') (kk : gm_A own nm cc nL rt R res μe k n μ (pc + 2) L' st z κ) : gm_A own nm cc nL rt R res μe k n μ pc L (.int x :: st) z κ := by
  intro b hz hk p l e s m args below meth c H locs ls E o X C hl hf
  obtain ⟨hx, hb, hml, hr, hown, hts, hlk, hK, hnm⟩ := id X
  exact lv_istore hx hb hd hl hn (gm_up1_map hL) (fun ls hl => kk b hz hk p l e s m args below meth c H locs ls E o X C hl hf)
theorem gm_lstore_n {f : Fin 4} {i : Nat} {x : Int64} {L' : List (Nat × Value)} (hd : decode cc pc = .ok (.lstore_n f, 1)) (hi : (f : Nat) = i) (hn : i + 1 < nL) (hL : gm_up2 L i (.long x) = L') (kk : gm_A own nm cc nL rt R res μe k n μ (pc + 1) L' st z κ) : gm_A own nm cc nL rt R res μe k n μ pc L (.long x :: st) z κ := by
  intro b hz hk p l e s m args below meth c H locs ls E o X C hl hf
  obtain ⟨hx, hb, hml, hr, hown, hts, hlk, hK, hnm⟩ := id X
  exact lv_lstore_n hx hb hd hi hl hn (gm_up2_map hL) (fun ls hl => kk b hz hk p l e s m args below meth c H locs ls E o X C hl hf)
theorem gm_lstore {i : Nat} {x : Int64} {L' : List (Nat × Value)} (hd : decode cc pc = .ok (.lstore i, 2)) (hn : i + 1 < nL) (hL : gm_up2 L i (.long x) = L') (kk : gm_A own nm cc nL rt R res μe k n μ (pc + 2) L' st z κ) : gm_A own nm cc nL rt R res μe k n μ pc L (.long x :: st) z κ := by
  intro b hz hk p l e s m args below meth c H locs ls E o X C hl hf
  obtain ⟨hx, hb, hml, hr, hown, hts, hlk, hK, hnm⟩ := id X
  exact lv_lstore hx hb hd hl hn (gm_up2_map hL) (fun ls hl => kk b hz hk p l e s m args below meth c H locs ls E o X C hl hf)
theorem gm_astore_n {f : Fin 4} {i : Nat} {x : Nat} {L' : List (Nat × Value)} (hd : decode cc pc = .ok (.astore_n f, 1)) (hi : (f : Nat) = i) (hn : i < nL) (hL : gm_up1 L i (.ref x) = L') (kk : gm_A own nm cc nL rt R res μe k n μ (pc + 1) L' st z κ) : gm_A own nm cc nL rt R res μe k n μ pc L (.ref x :: st) z κ := by
  intro b hz hk p l e s m args below meth c H locs ls E o X C hl hf
  obtain ⟨hx, hb, hml, hr, hown, hts, hlk, hK, hnm⟩ := id X
  exact gm_xastore_n hx hb hd hi hl hn (gm_up1_map hL) (fun ls hl => kk b hz hk p l e s m args below meth c H locs ls E o X C hl hf)
theorem gm_astore {i : Nat} {x : Nat} {L' : List (Nat × Value)} (hd : decode cc pc = .ok (.astore i, 2)) (hn : i < nL) (hL : gm_up1 L i (.ref x) = L') (kk : gm_A own nm cc nL rt R res μe k n μ (pc + 2) L' st z κ) : gm_A own nm cc nL rt R res μe k n μ pc L (.ref x :: st) z κ := by
  intro b hz hk p l e s m args below meth c H locs ls E o X C hl hf
  obtain ⟨hx, hb, hml, hr, hown, hts, hlk, hK, hnm⟩ := id X
  exact gm_xastore hx hb hd hl hn (gm_up1_map hL) (fun ls hl => kk b hz hk p l e s m args below meth c H locs ls E o X C hl hf)
theorem gm_iinc {i : Nat} {a : Int} {x v : Int32} {L' : List (Nat × Value)} (hd : decode cc pc = .ok (.iinc i a, 3)) (q : Nat) (hq : L[q]? = some (i, .int x)) (hv : x + Int32.ofInt a = v) (hn : i < nL) (hL : gm_up1 L i (.int v) = L') (kk : gm_A own nm cc nL rt R res μe k n μ (pc + 3) L' st z κ) : gm_A own nm cc nL rt R res μe k n μ pc L st z κ := by
  intro b hz hk p l e s m args below meth c H locs ls E o X C hl hf
  obtain ⟨hx, hb, hml, hr, hown, hts, hlk, hK, hnm⟩ := id X
  exact lv_iinc (k := q) hx hb hd hl (gm_map hq) hv hn (gm_up1_map hL) (fun ls hl => kk b hz hk p l e s m args below meth c H locs ls E o X C hl hf)
theorem gm_iadd {x y : Int32} (hd : decode cc pc = .ok (.iadd, 1)) (kk : gm_A own nm cc nL rt R res μe k n μ (pc + 1) L (.int (x + y) :: st) z κ) : gm_A own nm cc nL rt R res μe k n μ pc L (.int y :: .int x :: st) z κ := by
  intro b hz hk p l e s m args below meth c H locs ls E o X C hl hf
  have kk := kk b hz hk p l e s m args below meth c H locs ls E o X C hl hf
  obtain ⟨hx, hb, hml, hr, hown, hts, hlk, hK, hnm⟩ := X
  exact lv_iadd hx hb hd kk
theorem gm_isub {x y : Int32} (hd : decode cc pc = .ok (.isub, 1)) (kk : gm_A own nm cc nL rt R res μe k n μ (pc + 1) L (.int (x - y) :: st) z κ) : gm_A own nm cc nL rt R res μe k n μ pc L (.int y :: .int x :: st) z κ := by
  intro b hz hk p l e s m args below meth c H locs ls E o X C hl hf
  have kk := kk b hz hk p l e s m args below meth c H locs ls E o X C hl hf
  obtain ⟨hx, hb, hml, hr, hown, hts, hlk, hK, hnm⟩ := X
  exact lv_isub hx hb hd kk
theorem gm_imul {x y : Int32} (hd : decode cc pc = .ok (.imul, 1)) (kk : gm_A own nm cc nL rt R res μe k n μ (pc + 1) L (.int (x * y) :: st) z κ) : gm_A own nm cc nL rt R res μe k n μ pc L (.int y :: .int x :: st) z κ := by
  intro b hz hk p l e s m args below meth c H locs ls E o X C hl hf
  have kk := kk b hz hk p l e s m args below meth c H locs ls E o X C hl hf
  obtain ⟨hx, hb, hml, hr, hown, hts, hlk, hK, hnm⟩ := X
  exact lv_imul hx hb hd kk
theorem gm_iand {x y : Int32} (hd : decode cc pc = .ok (.iand, 1)) (kk : gm_A own nm cc nL rt R res μe k n μ (pc + 1) L (.int (x &&& y) :: st) z κ) : gm_A own nm cc nL rt R res μe k n μ pc L (.int y :: .int x :: st) z κ := by
  intro b hz hk p l e s m args below meth c H locs ls E o X C hl hf
  have kk := kk b hz hk p l e s m args below meth c H locs ls E o X C hl hf
  obtain ⟨hx, hb, hml, hr, hown, hts, hlk, hK, hnm⟩ := X
  exact lv_iand hx hb hd kk
theorem gm_ior {x y : Int32} (hd : decode cc pc = .ok (.ior, 1)) (kk : gm_A own nm cc nL rt R res μe k n μ (pc + 1) L (.int (x ||| y) :: st) z κ) : gm_A own nm cc nL rt R res μe k n μ pc L (.int y :: .int x :: st) z κ := by
  intro b hz hk p l e s m args below meth c H locs ls E o X C hl hf
  have kk := kk b hz hk p l e s m args below meth c H locs ls E o X C hl hf
  obtain ⟨hx, hb, hml, hr, hown, hts, hlk, hK, hnm⟩ := X
  exact lv_ior hx hb hd kk
theorem gm_ixor {x y : Int32} (hd : decode cc pc = .ok (.ixor, 1)) (kk : gm_A own nm cc nL rt R res μe k n μ (pc + 1) L (.int (x ^^^ y) :: st) z κ) : gm_A own nm cc nL rt R res μe k n μ pc L (.int y :: .int x :: st) z κ := by
  intro b hz hk p l e s m args below meth c H locs ls E o X C hl hf
  have kk := kk b hz hk p l e s m args below meth c H locs ls E o X C hl hf
  obtain ⟨hx, hb, hml, hr, hown, hts, hlk, hK, hnm⟩ := X
  exact lv_ixor hx hb hd kk
theorem gm_ishl {x y : Int32} (hd : decode cc pc = .ok (.ishl, 1)) (kk : gm_A own nm cc nL rt R res μe k n μ (pc + 1) L (.int (x <<< (y &&& 31)) :: st) z κ) : gm_A own nm cc nL rt R res μe k n μ pc L (.int y :: .int x :: st) z κ := by
  intro b hz hk p l e s m args below meth c H locs ls E o X C hl hf
  have kk := kk b hz hk p l e s m args below meth c H locs ls E o X C hl hf
  obtain ⟨hx, hb, hml, hr, hown, hts, hlk, hK, hnm⟩ := X
  exact lv_ishl hx hb hd kk
theorem gm_ishr {x y : Int32} (hd : decode cc pc = .ok (.ishr, 1)) (kk : gm_A own nm cc nL rt R res μe k n μ (pc + 1) L (.int (x >>> (y &&& 31)) :: st) z κ) : gm_A own nm cc nL rt R res μe k n μ pc L (.int y :: .int x :: st) z κ := by
  intro b hz hk p l e s m args below meth c H locs ls E o X C hl hf
  have kk := kk b hz hk p l e s m args below meth c H locs ls E o X C hl hf
  obtain ⟨hx, hb, hml, hr, hown, hts, hlk, hK, hnm⟩ := X
  exact lv_ishr hx hb hd kk
theorem gm_ladd {x y : Int64} (hd : decode cc pc = .ok (.ladd, 1)) (kk : gm_A own nm cc nL rt R res μe k n μ (pc + 1) L (.long (x + y) :: st) z κ) : gm_A own nm cc nL rt R res μe k n μ pc L (.long y :: .long x :: st) z κ := by
  intro b hz hk p l e s m args below meth c H locs ls E o X C hl hf
  have kk := kk b hz hk p l e s m args below meth c H locs ls E o X C hl hf
  obtain ⟨hx, hb, hml, hr, hown, hts, hlk, hK, hnm⟩ := X
  exact lv_ladd hx hb hd kk
theorem gm_ineg {x : Int32} (hd : decode cc pc = .ok (.ineg, 1)) (kk : gm_A own nm cc nL rt R res μe k n μ (pc + 1) L (.int (-x) :: st) z κ) : gm_A own nm cc nL rt R res μe k n μ pc L (.int x :: st) z κ := by
  intro b hz hk p l e s m args below meth c H locs ls E o X C hl hf
  have kk := kk b hz hk p l e s m args below meth c H locs ls E o X C hl hf
  obtain ⟨hx, hb, hml, hr, hown, hts, hlk, hK, hnm⟩ := X
  exact lv_ineg hx hb hd kk
theorem gm_i2l {x : Int32} (hd : decode cc pc = .ok (.i2l, 1)) (kk : gm_A own nm cc nL rt R res μe k n μ (pc + 1) L (.long x.toInt64 :: st) z κ) : gm_A own nm cc nL rt R res μe k n μ pc L (.int x :: st) z κ := by
  intro b hz hk p l e s m args below meth c H locs ls E o X C hl hf
  have kk := kk b hz hk p l e s m args below meth c H locs ls E o X C hl hf
  obtain ⟨hx, hb, hml, hr, hown, hts, hlk, hK, hnm⟩ := X
  exact lv_i2l hx hb hd rfl kk
theorem gm_i2c {x : Int32} (hd : decode cc pc = .ok (.i2c, 1)) (kk : gm_A own nm cc nL rt R res μe k n μ (pc + 1) L (.int (x.toUInt32 % 65536).toInt32 :: st) z κ) : gm_A own nm cc nL rt R res μe k n μ pc L (.int x :: st) z κ := by
  intro b hz hk p l e s m args below meth c H locs ls E o X C hl hf
  have kk := kk b hz hk p l e s m args below meth c H locs ls E o X C hl hf
  obtain ⟨hx, hb, hml, hr, hown, hts, hlk, hK, hnm⟩ := X
  exact lv_i2c hx hb hd rfl kk
theorem gm_lcmp {x y : Int64} (hd : decode cc pc = .ok (.lcmp, 1)) (kk : gm_A own nm cc nL rt R res μe k n μ (pc + 1) L (.int (lg_cmp x y) :: st) z κ) : gm_A own nm cc nL rt R res μe k n μ pc L (.long y :: .long x :: st) z κ := by
  intro b hz hk p l e s m args below meth c H locs ls E o X C hl hf
  have kk := kk b hz hk p l e s m args below meth c H locs ls E o X C hl hf
  obtain ⟨hx, hb, hml, hr, hown, hts, hlk, hK, hnm⟩ := X
  exact W.lcmp hx hb hd kk
theorem gm_pop {v : Value} (hd : decode cc pc = .ok (.pop, 1)) (hc : v.category = 1) (kk : gm_A own nm cc nL rt R res μe k n μ (pc + 1) L st z κ) : gm_A own nm cc nL rt R res μe k n μ pc L (v :: st) z κ := by
  intro b hz hk p l e s m args below meth c H locs ls E o X C hl hf
  have kk := kk b hz hk p l e s m args below meth c H locs ls E o X C hl hf
  obtain ⟨hx, hb, hml, hr, hown, hts, hlk, hK, hnm⟩ := X
  exact lv_pop hx hb hd (by rw [gm_cv_cat]; exact hc) kk
theorem gm_pop2 {v : Value} (hd : decode cc pc = .ok (.pop2, 1)) (hc : v.category = 2) (kk : gm_A own nm cc nL rt R res μe k n μ (pc + 1) L st z κ) : gm_A own nm cc nL rt R res μe k n μ pc L (v :: st) z κ := by
  intro b hz hk p l e s m args below meth c H locs ls E o X C hl hf
  have kk := kk b hz hk p l e s m args below meth c H locs ls E o X C hl hf
  obtain ⟨hx, hb, hml, hr, hown, hts, hlk, hK, hnm⟩ := X
  exact lv_pop2_2 hx hb hd (by rw [gm_cv_cat]; exact hc) kk
theorem gm_dup {v : Value} (hd : decode cc pc = .ok (.dup, 1)) (hc : v.category = 1) (kk : gm_A own nm cc nL rt R res μe k n μ (pc + 1) L (v :: v :: st) z κ) : gm_A own nm cc nL rt R res μe k n μ pc L (v :: st) z κ := by
  intro b hz hk p l e s m args below meth c H locs ls E o X C hl hf
  have kk := kk b hz hk p l e s m args below meth c H locs ls E o X C hl hf
  obtain ⟨hx, hb, hml, hr, hown, hts, hlk, hK, hnm⟩ := X
  exact lv_dup hx hb hd (by rw [gm_cv_cat]; exact hc) kk
theorem gm_dup2 {v w : Value} (hd : decode cc pc = .ok (.dup2, 1)) (hc : v.category = 1) (hw : w.category = 1) (kk : gm_A own nm cc nL rt R res μe k n μ (pc + 1) L (v :: w :: v :: w :: st) z κ) : gm_A own nm cc nL rt R res μe k n μ pc L (v :: w :: st) z κ := by
  intro b hz hk p l e s m args below meth c H locs ls E o X C hl hf
  have kk := kk b hz hk p l e s m args below meth c H locs ls E o X C hl hf
  obtain ⟨hx, hb, hml, hr, hown, hts, hlk, hK, hnm⟩ := X
  exact lv_dup2_11 hx hb hd (by rw [gm_cv_cat]; exact hc) (by rw [gm_cv_cat]; exact hw) kk
theorem gm_goto {off : Int} {tgt : Nat} (hd : decode cc pc = .ok (.goto off, 3)) (ht : (pc : Int) + off = (tgt : Int)) (kk : gm_A own nm cc nL rt R res μe k n μ tgt L st z κ) : gm_A own nm cc nL rt R res μe k n μ pc L st z κ := by
  intro b hz hk p l e s m args below meth c H locs ls E o X C hl hf
  have kk := kk b hz hk p l e s m args below meth c H locs ls E o X C hl hf
  obtain ⟨hx, hb, hml, hr, hown, hts, hlk, hK, hnm⟩ := X
  exact lv_goto hx hb hd ht kk
theorem gm_idiv {x y : Int32} {z : Option β} (hd : decode cc pc = .ok (.idiv, 1)) (kk : gm_A own nm cc nL rt R res μe k n μ (pc + 1) L (.int (x / y) :: st) z κ) : gm_A own nm cc nL rt R res μe k n μ pc L (.int y :: .int x :: st) (if y = 0 then none else z) κ := by
  intro b hz hk p l e s m args below meth c H locs ls E o X C hl hf
  by_cases hy : y = 0
  · rw [if_pos hy] at hz; cases hz
  rw [if_neg hy] at hz
  have kk := kk b hz hk p l e s m args below meth c H locs ls E o X C hl hf
  exact lv_idiv X.1 X.2.1 hd hy kk
theorem gm_irem {x y : Int32} {z : Option β} (hd : decode cc pc = .ok (.irem, 1)) (kk : gm_A own nm cc nL rt R res μe k n μ (pc + 1) L (.int (x - x / y * y) :: st) z κ) : gm_A own nm cc nL rt R res μe k n μ pc L (.int y :: .int x :: st) (if y = 0 then none else z) κ := by
  intro b hz hk p l e s m args below meth c H locs ls E o X C hl hf
  by_cases hy : y = 0
  · rw [if_pos hy] at hz; cases hz
  rw [if_neg hy] at hz
  have kk := kk b hz hk p l e s m args below meth c H locs ls E o X C hl hf
  exact lv_irem X.1 X.2.1 hd hy kk
theorem gm_ldiv {x y : Int64} {z : Option β} (hd : decode cc pc = .ok (.ldiv, 1)) (kk : gm_A own nm cc nL rt R res μe k n μ (pc + 1) L (.long (x / y) :: st) z κ) : gm_A own nm cc nL rt R res μe k n μ pc L (.long y :: .long x :: st) (if y = 0 then none else z) κ := by
  intro b hz hk p l e s m args below meth c H locs ls E o X C hl hf
  by_cases hy : y = 0
  · rw [if_pos hy] at hz; cases hz
  rw [if_neg hy] at hz
  have kk := kk b hz hk p l e s m args below meth c H locs ls E o X C hl hf
  exact lv_ldiv X.1 X.2.1 hd hy kk
theorem gm_lrem {x y : Int64} {z : Option β} (hd : decode cc pc = .ok (.lrem, 1)) (kk : gm_A own nm cc nL rt R res μe k n μ (pc + 1) L (.long (x - x / y * y) :: st) z κ) : gm_A own nm cc nL rt R res μe k n μ pc L (.long y :: .long x :: st) (if y = 0 then none else z) κ := by
  intro b hz hk p l e s m args below meth c H locs ls E o X C hl hf
  by_cases hy : y = 0
  · rw [if_pos hy] at hz; cases hz
  rw [if_neg hy] at hz
  have kk := kk b hz hk p l e s m args below meth c H locs ls E o X C hl hf
  exact lv_lrem X.1 X.2.1 hd hy kk
theorem gm_icmp_eq {x y : Int32} {off : Int} {tgt : Nat} {z1 z2 : Option β} (hd : decode cc pc = .ok (.if_icmp .eq off, 3)) (ht : (pc : Int) + off = (tgt : Int)) (k1 : x = y → gm_A own nm cc nL rt R res μe k n μ tgt L st z1 κ) (k2 : ¬ (x = y) → gm_A own nm cc nL rt R res μe k n μ (pc + 3) L st z2 κ) : gm_A own nm cc nL rt R res μe k n μ pc L (.int y :: .int x :: st) (if x = y then z1 else z2) κ := by
  intro b hz hk p l e s m args below meth c H locs ls E o X C hl hf
  refine lv_icmp_eq X.1 X.2.1 hd ht (fun h => ?_) (fun h => ?_)
  · have h : x = y := h
    rw [if_pos h] at hz
    exact k1 h b hz hk p l e s m args below meth c H locs ls E o X C hl hf
  · have h : ¬ (x = y) := h
    rw [if_neg h] at hz
    exact k2 h b hz hk p l e s m args below meth c H locs ls E o X C hl hf
theorem gm_if_eq {x : Int32} {off : Int} {tgt : Nat} {z1 z2 : Option β} (hd : decode cc pc = .ok (.ifCond .eq off, 3)) (ht : (pc : Int) + off = (tgt : Int)) (k1 : x = 0 → gm_A own nm cc nL rt R res μe k n μ tgt L st z1 κ) (k2 : ¬ (x = 0) → gm_A own nm cc nL rt R res μe k n μ (pc + 3) L st z2 κ) : gm_A own nm cc nL rt R res μe k n μ pc L (.int x :: st) (if x = 0 then z1 else z2) κ := by
  intro b hz hk p l e s m args below meth c H locs ls E o X C hl hf
  refine lv_if_eq X.1 X.2.1 hd ht (fun h => ?_) (fun h => ?_)
  · have h : x = 0 := h
    rw [if_pos h] at hz
    exact k1 h b hz hk p l e s m args below meth c H locs ls E o X C hl hf
  · have h : ¬ (x = 0) := h
    rw [if_neg h] at hz
    exact k2 h b hz hk p l e s m args below meth c H locs ls E o X C hl hf
theorem gm_icmp_ne {x y : Int32} {off : Int} {tgt : Nat} {z1 z2 : Option β} (hd : decode cc pc = .ok (.if_icmp .ne off, 3)) (ht : (pc : Int) + off = (tgt : Int)) (k1 : x ≠ y → gm_A own nm cc nL rt R res μe k n μ tgt L st z1 κ) (k2 : ¬ (x ≠ y) → gm_A own nm cc nL rt R res μe k n μ (pc + 3) L st z2 κ) : gm_A own nm cc nL rt R res μe k n μ pc L (.int y :: .int x :: st) (if x ≠ y then z1 else z2) κ := by
  intro b hz hk p l e s m args below meth c H locs ls E o X C hl hf
  refine lv_icmp_ne X.1 X.2.1 hd ht (fun h => ?_) (fun h => ?_)
  · have h : x ≠ y := h
    rw [if_pos h] at hz
    exact k1 h b hz hk p l e s m args below meth c H locs ls E o X C hl hf
  · have h : ¬ (x ≠ y) := fun q => q h
    rw [if_neg h] at hz
    exact k2 h b hz hk p l e s m args below meth c H locs ls E o X C hl hf
theorem gm_if_ne {x : Int32} {off : Int} {tgt : Nat} {z1 z2 : Option β} (hd : decode cc pc = .ok (.ifCond .ne off, 3)) (ht : (pc : Int) + off = (tgt : Int)) (k1 : x ≠ 0 → gm_A own nm cc nL rt R res μe k n μ tgt L st z1 κ) (k2 : ¬ (x ≠ 0) → gm_A own nm cc nL rt R res μe k n μ (pc + 3) L st z2 κ) : gm_A own nm cc nL rt R res μe k n μ pc L (.int x :: st) (if x ≠ 0 then z1 else z2) κ := by
  intro b hz hk p l e s m args below meth c H locs ls E o X C hl hf
  refine lv_if_ne X.1 X.2.1 hd ht (fun h => ?_) (fun h => ?_)
  · have h : x ≠ 0 := h
    rw [if_pos h] at hz
    exact k1 h b hz hk p l e s m args below meth c H locs ls E o X C hl hf
  · have h : ¬ (x ≠ 0) := fun q => q h
    rw [if_neg h] at hz
    exact k2 h b hz hk p l e s m args below meth c H locs ls E o X C hl hf
theorem gm_icmp_lt {x y : Int32} {off : Int} {tgt : Nat} {z1 z2 : Option β} (hd : decode cc pc = .ok (.if_icmp .lt off, 3)) (ht : (pc : Int) + off = (tgt : Int)) (k1 : x < y → gm_A own nm cc nL rt R res μe k n μ tgt L st z1 κ) (k2 : ¬ (x < y) → gm_A own nm cc nL rt R res μe k n μ (pc + 3) L st z2 κ) : gm_A own nm cc nL rt R res μe k n μ pc L (.int y :: .int x :: st) (if x < y then z1 else z2) κ := by
  intro b hz hk p l e s m args below meth c H locs ls E o X C hl hf
  refine lv_icmp_lt X.1 X.2.1 hd ht (fun h => ?_) (fun h => ?_)
  · have h : x < y := h
    rw [if_pos h] at hz
    exact k1 h b hz hk p l e s m args below meth c H locs ls E o X C hl hf
  · have h : ¬ (x < y) := h
    rw [if_neg h] at hz
    exact k2 h b hz hk p l e s m args below meth c H locs ls E o X C hl hf
theorem gm_if_lt {x : Int32} {off : Int} {tgt : Nat} {z1 z2 : Option β} (hd : decode cc pc = .ok (.ifCond .lt off, 3)) (ht : (pc : Int) + off = (tgt : Int)) (k1 : x < 0 → gm_A own nm cc nL rt R res μe k n μ tgt L st z1 κ) (k2 : ¬ (x < 0) → gm_A own nm cc nL rt R res μe k n μ (pc + 3) L st z2 κ) : gm_A own nm cc nL rt R res μe k n μ pc L (.int x :: st) (if x < 0 then z1 else z2) κ := by
  intro b hz hk p l e s m args below meth c H locs ls E o X C hl hf
  refine lv_if_lt X.1 X.2.1 hd ht (fun h => ?_) (fun h => ?_)
  · have h : x < 0 := h
    rw [if_pos h] at hz
    exact k1 h b hz hk p l e s m args below meth c H locs ls E o X C hl hf
  · have h : ¬ (x < 0) := h
    rw [if_neg h] at hz
    exact k2 h b hz hk p l e s m args below meth c H locs ls E o X C hl hf
theorem gm_icmp_ge {x y : Int32} {off : Int} {tgt : Nat} {z1 z2 : Option β} (hd : decode cc pc = .ok (.if_icmp .ge off, 3)) (ht : (pc : Int) + off = (tgt : Int)) (k1 : y ≤ x → gm_A own nm cc nL rt R res μe k n μ tgt L st z1 κ) (k2 : ¬ (y ≤ x) → gm_A own nm cc nL rt R res μe k n μ (pc + 3) L st z2 κ) : gm_A own nm cc nL rt R res μe k n μ pc L (.int y :: .int x :: st) (if y ≤ x then z1 else z2) κ := by
  intro b hz hk p l e s m args below meth c H locs ls E o X C hl hf
  refine lv_icmp_ge X.1 X.2.1 hd ht (fun h => ?_) (fun h => ?_)
  · have h : y ≤ x := h
    rw [if_pos h] at hz
    exact k1 h b hz hk p l e s m args below meth c H locs ls E o X C hl hf
  · have h : ¬ (y ≤ x) := h
    rw [if_neg h] at hz
    exact k2 h b hz hk p l e s m args below meth c H locs ls E o X C hl hf
theorem gm_if_ge {x : Int32} {off : Int} {tgt : Nat} {z1 z2 : Option β} (hd : decode cc pc = .ok (.ifCond .ge off, 3)) (ht : (pc : Int) + off = (tgt : Int)) (k1 : 0 ≤ x → gm_A own nm cc nL rt R res μe k n μ tgt L st z1 κ) (k2 : ¬ (0 ≤ x) → gm_A own nm cc nL rt R res μe k n μ (pc + 3) L st z2 κ) : gm_A own nm cc nL rt R res μe k n μ pc L (.int x :: st) (if 0 ≤ x then z1 else z2) κ := by
  intro b hz hk p l e s m args below meth c H locs ls E o X C hl hf
  refine lv_if_ge X.1 X.2.1 hd ht (fun h => ?_) (fun h => ?_)
  · have h : 0 ≤ x := h
    rw [if_pos h] at hz
    exact k1 h b hz hk p l e s m args below meth c H locs ls E o X C hl hf
  · have h : ¬ (0 ≤ x) := h
    rw [if_neg h] at hz
    exact k2 h b hz hk p l e s m args below meth c H locs ls E o X C hl hf
theorem gm_icmp_gt {x y : Int32} {off : Int} {tgt : Nat} {z1 z2 : Option β} (hd : decode cc pc = .ok (.if_icmp .gt off, 3)) (ht : (pc : Int) + off = (tgt : Int)) (k1 : y < x → gm_A own nm cc nL rt R res μe k n μ tgt L st z1 κ) (k2 : ¬ (y < x) → gm_A own nm cc nL rt R res μe k n μ (pc + 3) L st z2 κ) : gm_A own nm cc nL rt R res μe k n μ pc L (.int y :: .int x :: st) (if y < x then z1 else z2) κ := by
  intro b hz hk p l e s m args below meth c H locs ls E o X C hl hf
  refine lv_icmp_gt X.1 X.2.1 hd ht (fun h => ?_) (fun h => ?_)
  · have h : y < x := h
    rw [if_pos h] at hz
    exact k1 h b hz hk p l e s m args below meth c H locs ls E o X C hl hf
  · have h : ¬ (y < x) := h
    rw [if_neg h] at hz
    exact k2 h b hz hk p l e s m args below meth c H locs ls E o X C hl hf
theorem gm_if_gt {x : Int32} {off : Int} {tgt : Nat} {z1 z2 : Option β} (hd : decode cc pc = .ok (.ifCond .gt off, 3)) (ht : (pc : Int) + off = (tgt : Int)) (k1 : 0 < x → gm_A own nm cc nL rt R res μe k n μ tgt L st z1 κ) (k2 : ¬ (0 < x) → gm_A own nm cc nL rt R res μe k n μ (pc + 3) L st z2 κ) : gm_A own nm cc nL rt R res μe k n μ pc L (.int x :: st) (if 0 < x then z1 else z2) κ := by
  intro b hz hk p l e s m args below meth c H locs ls E o X C hl hf
  refine lv_if_gt X.1 X.2.1 hd ht (fun h => ?_) (fun h => ?_)
  · have h : 0 < x := h
    rw [if_pos h] at hz
    exact k1 h b hz hk p l e s m args below meth c H locs ls E o X C hl hf
  · have h : ¬ (0 < x) := h
    rw [if_neg h] at hz
    exact k2 h b hz hk p l e s m args below meth c H locs ls E o X C hl hf
theorem gm_icmp_le {x y : Int32} {off : Int} {tgt : Nat} {z1 z2 : Option β} (hd : decode cc pc = .ok (.if_icmp .le off, 3)) (ht : (pc : Int) + off = (tgt : Int)) (k1 : x ≤ y → gm_A own nm cc nL rt R res μe k n μ tgt L st z1 κ) (k2 : ¬ (x ≤ y) → gm_A own nm cc nL rt R res μe k n μ (pc + 3) L st z2 κ) : gm_A own nm cc nL rt R res μe k n μ pc L (.int y :: .int x :: st) (if x ≤ y then z1 else z2) κ := by
  intro b hz hk p l e s m args below meth c H locs ls E o X C hl hf
  refine lv_icmp_le X.1 X.2.1 hd ht (fun h => ?_) (fun h => ?_)
  · have h : x ≤ y := h
    rw [if_pos h] at hz
    exact k1 h b hz hk p l e s m args below meth c H locs ls E o X C hl hf
  · have h : ¬ (x ≤ y) := h
    rw [if_neg h] at hz
    exact k2 h b hz hk p l e s m args below meth c H locs ls E o X C hl hf
theorem gm_if_le {x : Int32} {off : Int} {tgt : Nat} {z1 z2 : Option β} (hd : decode cc pc = .ok (.ifCond .le off, 3)) (ht : (pc : Int) + off = (tgt : Int)) (k1 : x ≤ 0 → gm_A own nm cc nL rt R res μe k n μ tgt L st z1 κ) (k2 : ¬ (x ≤ 0) → gm_A own nm cc nL rt R res μe k n μ (pc + 3) L st z2 κ) : gm_A own nm cc nL rt R res μe k n μ pc L (.int x :: st) (if x ≤ 0 then z1 else z2) κ := by
  intro b hz hk p l e s m args below meth c H locs ls E o X C hl hf
  refine lv_if_le X.1 X.2.1 hd ht (fun h => ?_) (fun h => ?_)
  · have h : x ≤ 0 := h
    rw [if_pos h] at hz
    exact k1 h b hz hk p l e s m args below meth c H locs ls E o X C hl hf
  · have h : ¬ (x ≤ 0) := h
    rw [if_neg h] at hz
    exact k2 h b hz hk p l e s m args below meth c H locs ls E o X C hl hf
/-! what memory is read and written; the guards stand in the answer -/
def gm_u {α : Type} (f : Nat → Nat → α) (r j : Nat) (x : α) : Nat → Nat → α := fun a k => if a = r then (if k = j then x else f a k) else f a k
def gm_z {α : Type} (f : Nat → Nat → α) (r : Nat) (x : α) : Nat → Nat → α := fun a k => if a = r then x else f a k
def gm_tag (μ : gm_M) (r : Nat) : Nat := match μ.1[r]? with
  | some q => q.1
  | none => 0
def gm_len (μ : gm_M) (r : Nat) : Nat := match μ.1[r]? with
  | some q => q.2
  | none => 0
theorem gm_at {μ : gm_M} {r t : Nat} (h : gm_tag μ r = t + 1) : μ.1[r]? = some (t + 1, gm_len μ r) := by
  unfold gm_tag at h
  unfold gm_len
  cases e : μ.1[r]? with
  | none => rw [e] at h; cases h
  | some q =>
    rw [e] at h
    obtain ⟨a, b⟩ := q
    cases h
    rfl
/-- a field: in which classes (by tag), its place, its words -/
def gm_F (ks : List Nat) (j : Nat) (C name desc : String) (fin isr : Bool) : Prop := ∀ t ∈ ks, ∃ (k : Nat) (q : vw_C), t = k + 5 ∧ gm_cls[k]? = some q ∧ j < q.2.2 ∧ q.2.1 j = (C, name, desc, fin) ∧ gm_isr k j = isr
theorem gm_lays : ∀ (k : Nat) (q : vw_C), gm_cls[k]? = some q → ∀ w ∈ u_ws q.1 q.2.1 q.2.2, w ∈ gm_G := by
  intro k q h
  match k, h with
  | 0, h => cases h; exact gm_ly0
  | 1, h => cases h; exact gm_ly1
  | 2, h => cases h; exact gm_ly2
  | 3, h => cases h; exact gm_ly3
  | 4, h => cases h; exact gm_ly4
  | 5, h => cases h; exact gm_ly5
  | 6, h => cases h; exact gm_ly6
  | 7, h => cases h; exact gm_ly7
  | 8, h => cases h; exact gm_ly8
  | 9, h => cases h; exact gm_ly9
  | 10, h => cases h; exact gm_ly10
  | 11, h => cases h; exact gm_ly11
  | 12, h => cases h; exact gm_ly12
  | k + 13, h => simp [gm_cls] at h
theorem gm_names : ∀ (k : Nat) (q : vw_C), gm_cls[k]? = some q → ∀ a, a < q.2.2 → ∀ b, b < q.2.2 → a ≠ b → (q.2.1 a).2.1 ≠ (q.2.1 b).2.1 := by
  intro k q h
  match k, h with
  | 0, h => cases h; exact (by decide +kernel)
  | 1, h => cases h; exact (by decide +kernel)
  | 2, h => cases h; exact (by decide +kernel)
  | 3, h => cases h; exact (by decide +kernel)
  | 4, h => cases h; exact (by decide +kernel)
  | 5, h => cases h; exact (by decide +kernel)
  | 6, h => cases h; exact (by decide +kernel)
  | 7, h => cases h; exact (by decide +kernel)
  | 8, h => cases h; exact (by decide +kernel)
  | 9, h => cases h; exact (by decide +kernel)
  | 10, h => cases h; exact (by decide +kernel)
  | 11, h => cases h; exact (by decide +kernel)
  | 12, h => cases h; exact (by decide +kernel)
  | k + 13, h => simp [gm_cls] at h
def gm_ty (T : u_T) (k : Nat) : FieldType := (parseFieldDescriptor (T k).2.2.1).getD .int
theorem gm_types : ∀ (k : Nat) (q : vw_C), gm_cls[k]? = some q → ∀ a, a < q.2.2 → parseFieldDescriptor (q.2.1 a).2.2.1 = some (gm_ty q.2.1 a) := by
  intro k q h
  match k, h with
  | 0, h => cases h; exact (by decide +kernel)
  | 1, h => cases h; exact (by decide +kernel)
  | 2, h => cases h; exact (by decide +kernel)
  | 3, h => cases h; exact (by decide +kernel)
  | 4, h => cases h; exact (by decide +kernel)
  | 5, h => cases h; exact (by decide +kernel)
  | 6, h => cases h; exact (by decide +kernel)
  | 7, h => cases h; exact (by decide +kernel)
  | 8, h => cases h; exact (by decide +kernel)
  | 9, h => cases h; exact (by decide +kernel)
  | 10, h => cases h; exact (by decide +kernel)
  | 11, h => cases h; exact (by decide +kernel)
  | 12, h => cases h; exact (by decide +kernel)
  | k + 13, h => simp [gm_cls] at h
theorem gm_apart {E : gm_E} {args : Array Value} {s : State} (hts : ∀ w ∈ gm_G, w.before args s = true) (hK : gm_K E s) {k : Nat} {q : vw_C} (hc : gm_cls[k]? = some q) : ∀ x y, x < q.2.2 → y < q.2.2 → x ≠ y → (E.1.2 k) x ≠ (E.1.2 k) y :=
  va_apart (own := "") (D := E.1) (cl := gm_cls) (tys := gm_tys E) (C := q.1) (T := q.2.1) (N := q.2.2) hts (gm_lays k q hc) (gm_ty q.2.1) (gm_types k q hc) (gm_names k q hc) hK.1 hc
/-- a cell stays: what it holds is the same, the heap at its place is the same -/
theorem gm_cell.kept {E : gm_E} {o : Nat} {μ μ' : gm_M} {H H' : Heap} {r t n : Nat} (h : gm_cell E o μ H r t n) (hi : μ'.2.1 r = μ.2.1 r) (hr : μ'.2.2 r = μ.2.2 r) (hH : H'[o + r]? = H[o + r]?) : gm_cell E o μ' H' r t n := by
  unfold gm_cell at h ⊢
  split at h
  · trivial
  · rw [hi, hH]; exact h
  · rw [hi, hH]; exact h
  · rw [hr, hH]; exact h
  · rw [hr, hH]; exact h
  · obtain ⟨q, h1, h2, h3⟩ := h
    refine ⟨q, h1, h2, ?_⟩
    have e : ∀ k', gm_fv o μ' k' r = gm_fv o μ k' r := by
      intro k'
      funext j
      unfold gm_fv
      rw [hi, hr]
    rw [e]
    exact h3.kept hH
/-- one cell written, its shape kept -/
theorem gm_C.put {E : gm_E} {o : Nat} {μ μ' : gm_M} {H H' : Heap} {r t n : Nat} (h : gm_C E o μ H) (hr0 : μ.1[r]? = some (t + 1, n)) (hsh : μ'.1 = μ.1) (hi : ∀ a, a ≠ r → μ'.2.1 a = μ.2.1 a) (hr : ∀ a, a ≠ r → μ'.2.2 a = μ.2.2 a) (hz : H'.size = H.size) (oq : ∀ q, q ≠ o + r → H'[q]? = H[q]?) (hc : gm_cell E o μ' H' r (t + 1) n) : gm_C E o μ' H' := by
  obtain ⟨h1, h2, h3, h4⟩ := h
  have hrne : r ≠ 0 := by
    intro e
    subst e
    rw [h2] at hr0
    cases hr0
  refine ⟨by rw [hz, hsh]; exact h1, by rw [hsh]; exact h2, ⟨h3.1, fun q hq => by rw [oq q (by omega)]; exact h3.2 q hq⟩, fun a t' n' ha => ?_⟩
  rw [hsh] at ha
  by_cases e : a = r
  · subst e
    rw [hr0] at ha
    cases ha
    exact hc
  · exact (h4 a t' n' ha).kept (hi a e) (hr a e) (oq (o + a) (by omega))
theorem gm_fits_ref {t : FieldType} (h : gm_isT (some t) = true) (o r : Nat) : narrow t (gm_rv o r) = gm_rv o r ∧ fits t (gm_rv o r) = true := by
  unfold gm_rv
  cases t <;> first | (simp [gm_isT] at h; done) | (split <;> exact ⟨rfl, rfl⟩)
/-- int fields -/
def gm_gI {β : Type} (μ : gm_M) (ks : List Nat) (r j : Nat) (f : Int32 → Option β) : Option β := if ks.contains (gm_tag μ r) then f (μ.2.1 r j) else none
def gm_gR {β : Type} (μ : gm_M) (ks : List Nat) (r j : Nat) (f : Nat → Option β) : Option β := if ks.contains (gm_tag μ r) then f (μ.2.2 r j) else none
def gm_pI {β : Type} (μ : gm_M) (ks : List Nat) (r j : Nat) (x : Int32) (f : gm_M → Option β) : Option β := if ks.contains (gm_tag μ r) then f (μ.1, gm_u μ.2.1 r j x, μ.2.2) else none
def gm_pZ {β : Type} (μ : gm_M) (ks : List Nat) (r j : Nat) (x : Int32) (f : gm_M → Option β) : Option β := if ks.contains (gm_tag μ r) then (if x = 0 ∨ x = 1 then f (μ.1, gm_u μ.2.1 r j x, μ.2.2) else none) else none
def gm_pR {β : Type} (μ : gm_M) (ks : List Nat) (r j : Nat) (x : Nat) (f : gm_M → Option β) : Option β := if ks.contains (gm_tag μ r) then f (μ.1, μ.2.1, gm_u μ.2.2 r j x) else none
theorem gm_tagF {μ : gm_M} {ks : List Nat} {r j : Nat} {C name desc : String} {fin isr : Bool} (hF : gm_F ks j C name desc fin isr) (h : ks.contains (gm_tag μ r) = true) : ∃ (k : Nat) (q : vw_C), μ.1[r]? = some (k + 5, gm_len μ r) ∧ gm_cls[k]? = some q ∧ j < q.2.2 ∧ q.2.1 j = (C, name, desc, fin) ∧ gm_isr k j = isr := by
  obtain ⟨k, q, h1, h2⟩ := hF _ (List.contains_iff_mem.mp h)
  exact ⟨k, q, gm_at h1, h2⟩
theorem gm_Cobj {E : gm_E} {o : Nat} {μ : gm_M} {H : Heap} {r k n : Nat} {q : vw_C} (h : gm_C E o μ H) (hr : μ.1[r]? = some (k + 5, n)) (hc : gm_cls[k]? = some q) : r ≠ 0 ∧ t_OB (o + r) (E.1.1 k) q.2.2 (E.1.2 k) H (gm_fv o μ k r) := by
  have h1 := h.2.2.2 r _ _ hr
  obtain ⟨q', h2, -, h3⟩ := h1
  cases h2.symm.trans hc
  refine ⟨fun e => ?_, h3⟩
  subst e
  rw [h.2.1] at hr
  cases hr
theorem gm_getW {p : Program} {l : Launch} {e : Env} {R : Room} {s : State} {m : MethodId} {args : Array Value} {below : List Frame} {meth : Method} {c : Code} {H : Heap} {locs : List Loc} {cells slots : Nat} {Q : State → Prop} {cc : ByteArray} {pc : Nat} {ls : Array Slot} {rest : List Value} {own C name desc : String} {index : Nat} {E : gm_E} {o r j k : Nat} {μ : gm_M} {q : vw_C} {fin : Bool} {n : Nat}
    (hx : p.tables.exec = Jvm.exec) (hb : c.code = cc) (hown : s.vm.findClass own = some m.cls) (hts : ∀ w ∈ gm_G, w.before args s = true) (hK : gm_K E s) (hC : gm_C E o μ H) (hr : μ.1[r]? = some (k + 5, n)) (hc : gm_cls[k]? = some q) (hj : j < q.2.2) (hf : q.2.1 j = (C, name, desc, fin)) (hw : Jvm.Cond.fieldLink own index C name desc ∈ gm_G) (hd : decode cc pc = .ok (.getfield index, 3))
    (kk : W p l e R s m args below meth c H locs cells slots Q (F0 m (pc + 3) ls (gm_fv o μ k r j :: rest))) : W p l e R s m args below meth c H locs cells slots Q (F0 m pc ls (gm_rv o r :: rest)) := by
  obtain ⟨hr0, cell, q1, q2, q3, q4⟩ := gm_Cobj hC hr hc
  obtain ⟨C', T, N⟩ := q
  obtain ⟨hS, hfc, kC, hkC, hkind⟩ := hK.1.1 k _ hc
  obtain ⟨cf, kf, fi, f, hi, hsl⟩ := hS j hj
  have hfac := (u_facts hfc hkC (u_lays hts (gm_lays k _ hc) hj) hi).1
  dsimp only at hf hi
  rw [hf] at hi
  have e : gm_rv o r = .ref (o + r) := if_neg hr0
  rw [e]
  refine W.getf hx hb hown (hts _ hw) hi hfac q1 (by rw [q3]; exact fun h => by cases h) (v := gm_fv o μ k r j) ?_ rfl rfl hd kk
  rw [hsl]
  exact q4 j hj
theorem gm_getI {ks : List Nat} {j : Nat} {C name desc : String} {fin : Bool} {index r : Nat} {f : Int32 → Option β} (hF : gm_F ks j C name desc fin false) (hw : Jvm.Cond.fieldLink own index C name desc ∈ gm_G) (hd : decode cc pc = .ok (.getfield index, 3))
    (kk : ∀ v : Int32, v = μ.2.1 r j → gm_A own nm cc nL rt R res μe k n μ (pc + 3) L (.int v :: st) (f v) κ) : gm_A own nm cc nL rt R res μe k n μ pc L (.ref r :: st) (gm_gI μ ks r j f) κ := by
  intro b hz hk p l e s m args below meth c H locs ls E o X C hl hf
  unfold gm_gI at hz
  by_cases hc : ks.contains (gm_tag μ r) = true
  · rw [if_pos hc] at hz
    obtain ⟨k', q, h1, h2, h3, h4, h5⟩ := gm_tagF hF hc
    have kk := kk _ rfl b hz hk p l e s m args below meth c H locs ls E o X C hl hf
    obtain ⟨hx, hb, hml, hr, hown, hts, hlk, hK, hnm⟩ := X
    refine gm_getW hx hb hown hts hK C h1 h2 h3 h4 hw hd ?_
    have e : gm_fv o μ k' r j = .int (μ.2.1 r j) := by unfold gm_fv; rw [h5]; rfl
    rw [e]
    exact kk
  · rw [if_neg hc] at hz
    cases hz
theorem gm_getR {ks : List Nat} {j : Nat} {C name desc : String} {fin : Bool} {index r : Nat} {f : Nat → Option β} (hF : gm_F ks j C name desc fin true) (hw : Jvm.Cond.fieldLink own index C name desc ∈ gm_G) (hd : decode cc pc = .ok (.getfield index, 3))
    (kk : ∀ v : Nat, v = μ.2.2 r j → gm_A own nm cc nL rt R res μe k n μ (pc + 3) L (.ref v :: st) (f v) κ) : gm_A own nm cc nL rt R res μe k n μ pc L (.ref r :: st) (gm_gR μ ks r j f) κ := by
  intro b hz hk p l e s m args below meth c H locs ls E o X C hl hf
  unfold gm_gR at hz
  by_cases hc : ks.contains (gm_tag μ r) = true
  · rw [if_pos hc] at hz
    obtain ⟨k', q, h1, h2, h3, h4, h5⟩ := gm_tagF hF hc
    have kk := kk _ rfl b hz hk p l e s m args below meth c H locs ls E o X C hl hf
    obtain ⟨hx, hb, hml, hr, hown, hts, hlk, hK, hnm⟩ := X
    refine gm_getW hx hb hown hts hK C h1 h2 h3 h4 hw hd ?_
    have e : gm_fv o μ k' r j = gm_rv o (μ.2.2 r j) := by unfold gm_fv; rw [h5]; rfl
    rw [e]
    exact kk
  · rw [if_neg hc] at hz
    cases hz
theorem gm_putW {p : Program} {l : Launch} {e : Env} {R : Room} {s : State} {m : MethodId} {args : Array Value} {below : List Frame} {meth : Method} {c : Code} {H : Heap} {locs : List Loc} {cells slots : Nat} {Q : State → Prop} {cc : ByteArray} {pc : Nat} {ls : Array Slot} {rest : List Value} {own C name desc nm : String} {index : Nat} {E : gm_E} {o r j k : Nat} {μ μ' : gm_M} {q : vw_C} {fin : Bool} {n : Nat} {v : Value}
    (hx : p.tables.exec = Jvm.exec) (hb : c.code = cc) (hown : s.vm.findClass own = some m.cls) (hts : ∀ w ∈ gm_G, w.before args s = true) (hK : gm_K E s) (hC : gm_C E o μ H) (hr : μ.1[r]? = some (k + 5, n)) (hc : gm_cls[k]? = some q) (hj : j < q.2.2) (hf : q.2.1 j = (C, name, desc, fin)) (hw : Jvm.Cond.fieldLink own index C name desc ∈ gm_G) (hd : decode cc pc = .ok (.putfield index, 3))
    (hnm : meth.name = nm) (hfin : fin = false ∨ (nm = "<init>" ∧ C = own)) (hsh : μ'.1 = μ.1) (hi : ∀ a, a ≠ r → μ'.2.1 a = μ.2.1 a) (hr' : ∀ a, a ≠ r → μ'.2.2 a = μ.2.2 a) (hv : ∀ x, x < q.2.2 → gm_fv o μ' k r x = updV (gm_fv o μ k r) j v x) (hn : narrow (gm_ty q.2.1 j) v = v) (hfit : fits (gm_ty q.2.1 j) v = true) (hlo : ∀ q ∈ locs, o < q.base)
    (kk : ∀ (H1 : Heap) (locs1 : List Loc), gm_C E o μ' H1 → (∀ q ∈ locs1, o < q.base) → W p l e R s m args below meth c H1 locs1 cells slots Q (F0 m (pc + 3) ls rest)) : W p l e R s m args below meth c H locs cells slots Q (F0 m pc ls (v :: gm_rv o r :: rest)) := by
  obtain ⟨hr0, cell, q1, q2, q3, q4⟩ := gm_Cobj hC hr hc
  have hap := gm_apart hts hK hc
  have hns := hC.2.2.2 r _ _ hr
  obtain ⟨q', g1, g2, -⟩ := hns
  cases g1.symm.trans hc
  have hty := gm_types k _ hc
  obtain ⟨C', T, N⟩ := q
  obtain ⟨hS, hfc, kC, hkC, hkind⟩ := hK.1.1 k _ hc
  obtain ⟨cf, kf, fi, f, hi0, hsl⟩ := hS j hj
  have hlay := hts _ (gm_lays k _ hc _ (u_in_lay hj))
  have hd1 : parseFieldDescriptor (T j).2.2.1 = some (gm_ty T j) := hty j hj
  dsimp only at hf hi0
  simp only [u_lay, hf] at hlay
  rw [hf] at hi0 hd1
  dsimp only at hi0 hd1
  have hlay2 : (Cond.lays C' C name desc).before args s = true ∨ (Cond.laysFinal C' C name desc).before args s = true := by
    split at hlay
    · exact Or.inr hlay
    · exact Or.inl hlay
  have hst := (u_facts hfc hkC hlay2 hi0).1
  have h6 := u_fits hfc hkC hkind hlay2 hi0 hd1 hn hfit
  have er : gm_rv o r = .ref (o + r) := if_neg hr0
  rw [er]
  have fin2 : ∀ (H' : Heap), H'[o + r]? = some (cell.setSlot f.slot v) → H'.size = H.size → (∀ q, q ≠ o + r → H'[q]? = H[q]?) → gm_C E o μ' H' := by
    intro H' e1 e2 e3
    refine hC.put hr hsh hi hr' e2 e3 ⟨(C', T, N), hc, g2, ?_⟩
    rw [hsl] at e1
    exact t_OB.to (V := updV (gm_fv o μ k r) j v) ⟨_, e1, q2, q3, t_set q4 hap hj v⟩ (fun x hx => (hv x hx).symm)
  have lo2 : ∀ q ∈ locs ++ [(⟨o + r, f.slot⟩ : Loc)], o < q.base := by
    intro q hq
    rcases List.mem_append.mp hq with h | h
    · exact hlo q h
    · rw [List.mem_singleton.mp h]
      show o < o + r
      omega
  have hlink := hts _ hw
  have nofin : fin = false → W p l e R s m args below meth c H locs cells slots Q (F0 m pc ls (v :: .ref (o + r) :: rest)) := by
    intro h0
    rw [if_neg (by rw [h0]; exact Bool.false_ne_true)] at hlay
    have h7 := u_store hfc hkC hkind hlay hi0 hd1 hn hfit
    exact W.putK hx hb (f := f) ⟨hown, hlink, ⟨_, _, _, hi0⟩, hst⟩ (by rw [q2]; exact h7) q1 q3 (by rw [hsl]; exact k2_hasslot (q4 j hj)) rfl rfl hd fun H' e1 e2 e3 => kk H' _ (fin2 H' e1 e2 e3) lo2
  cases hfin with
  | inl h0 => exact nofin h0
  | inr h0 =>
    cases fin with
    | false => exact nofin rfl
    | true =>
      rw [if_pos rfl] at hlay
      have hcf : m.cls = cf := by
        obtain ⟨_, _, c', _, _, _, -, -, hf', -, -, -, hown2, -⟩ := Cond.laysFinal_spec hlay
        have e1 : c' = cf := by have := hi0.symm.trans hf'; simp at this; exact this.1.symm
        rw [h0.2] at hown2
        rw [← e1]; exact Option.some.inj (hown.symm.trans hown2)
      exact W.putFinK hx hb hown hlink hi0 hst hcf (hnm.trans h0.1) (by rw [q2]; exact h6) q1 q3 (by rw [hsl]; exact k2_hasslot (q4 j hj)) rfl rfl hd fun H' e1 e2 e3 => kk H' _ (fin2 H' e1 e2 e3) lo2
theorem gm_tyd {k j : Nat} {q : vw_C} {C name desc : String} {fin : Bool} (hc : gm_cls[k]? = some q) (hf : q.2.1 j = (C, name, desc, fin)) {t : FieldType} (hd : parseFieldDescriptor desc = some t) : gm_ty q.2.1 j = t := by
  unfold gm_ty
  rw [hf]
  dsimp only
  rw [hd]
  rfl
theorem gm_updI {o : Nat} {μ : gm_M} {k r j : Nat} {x : Int32} (h : gm_isr k j = false) : ∀ y, gm_fv o (μ.1, gm_u μ.2.1 r j x, μ.2.2) k r y = updV (gm_fv o μ k r) j (.int x) y := by
  intro y
  unfold gm_fv updV gm_u
  dsimp only
  by_cases hy : y = j
  · subst hy
    simp [h]
  · simp [hy]
theorem gm_updR {E : gm_E} {o : Nat} {μ : gm_M} {k r j : Nat} {x : Nat} (h : gm_isr k j = true) : ∀ y, gm_fv o (μ.1, μ.2.1, gm_u μ.2.2 r j x) k r y = updV (gm_fv o μ k r) j (gm_rv o x) y := by
  intro y
  unfold gm_fv updV gm_u
  dsimp only
  by_cases hy : y = j
  · subst hy
    simp [h]
  · simp [hy]
theorem gm_u_ne {α : Type} (f : Nat → Nat → α) (r j : Nat) (x : α) (a : Nat) (h : a ≠ r) : gm_u f r j x a = f a := by
  funext k
  exact if_neg h
theorem gm_putI {ks : List Nat} {j : Nat} {C name : String} {fin : Bool} {index r : Nat} {x : Int32} {f : gm_M → Option β} (hF : gm_F ks j C name "I" fin false) (hfin : fin = false ∨ (nm.1 = "<init>" ∧ C = own)) (hw : Jvm.Cond.fieldLink own index C name "I" ∈ gm_G) (hd : decode cc pc = .ok (.putfield index, 3))
    (kk : ∀ μ' : gm_M, μ' = (μ.1, gm_u μ.2.1 r j x, μ.2.2) → gm_A own nm cc nL rt R res μe k n μ' (pc + 3) L st (f μ') κ) : gm_A own nm cc nL rt R res μe k n μ pc L (.int x :: .ref r :: st) (gm_pI μ ks r j x f) κ := by
  intro b hz hk p l e s m args below meth c H locs ls E o X C hl hf
  unfold gm_pI at hz
  by_cases hc : ks.contains (gm_tag μ r) = true
  · rw [if_pos hc] at hz
    obtain ⟨k', q, h1, h2, h3, h4, h5⟩ := gm_tagF hF hc
    obtain ⟨hx, hb, hml, hr, hown, hts, hlk, hK, hnm⟩ := id X
    have ht := gm_tyd h2 h4 (t := .int) (by decide +kernel)
    exact gm_putW (μ' := (μ.1, gm_u μ.2.1 r j x, μ.2.2)) hx hb hown hts hK C h1 h2 h3 h4 hw hd hnm.1 hfin rfl (fun a ha => gm_u_ne _ _ _ _ _ ha) (fun _ _ => rfl) (fun y _ => gm_updI h5 y) (by rw [ht]; rfl) (by rw [ht]; rfl) hf
      (fun H1 locs1 C1 hf1 => kk _ rfl b hz hk p l e s m args below meth c H1 locs1 ls E o X C1 hl hf1)
  · rw [if_neg hc] at hz
    cases hz
theorem gm_putZ {ks : List Nat} {j : Nat} {C name : String} {fin : Bool} {index r : Nat} {x : Int32} {f : gm_M → Option β} (hF : gm_F ks j C name "Z" fin false) (hfin : fin = false ∨ (nm.1 = "<init>" ∧ C = own)) (hw : Jvm.Cond.fieldLink own index C name "Z" ∈ gm_G) (hd : decode cc pc = .ok (.putfield index, 3))
    (kk : ∀ μ' : gm_M, μ' = (μ.1, gm_u μ.2.1 r j x, μ.2.2) → gm_A own nm cc nL rt R res μe k n μ' (pc + 3) L st (f μ') κ) : gm_A own nm cc nL rt R res μe k n μ pc L (.int x :: .ref r :: st) (gm_pZ μ ks r j x f) κ := by
  intro b hz hk p l e s m args below meth c H locs ls E o X C hl hf
  unfold gm_pZ at hz
  by_cases hc : ks.contains (gm_tag μ r) = true
  · rw [if_pos hc] at hz
    by_cases hx01 : x = 0 ∨ x = 1
    · rw [if_pos hx01] at hz
      obtain ⟨k', q, h1, h2, h3, h4, h5⟩ := gm_tagF hF hc
      obtain ⟨hx, hb, hml, hr, hown, hts, hlk, hK, hnm⟩ := id X
      have ht := gm_tyd h2 h4 (t := .boolean) (by decide +kernel)
      exact gm_putW (μ' := (μ.1, gm_u μ.2.1 r j x, μ.2.2)) hx hb hown hts hK C h1 h2 h3 h4 hw hd hnm.1 hfin rfl (fun a ha => gm_u_ne _ _ _ _ _ ha) (fun _ _ => rfl) (fun y _ => gm_updI h5 y) (by rw [ht]; rcases hx01 with e | e <;> subst e <;> rfl) (by rw [ht]; rcases hx01 with e | e <;> subst e <;> rfl) hf
        (fun H1 locs1 C1 hf1 => kk _ rfl b hz hk p l e s m args below meth c H1 locs1 ls E o X C1 hl hf1)
    · rw [if_neg hx01] at hz
      cases hz
  · rw [if_neg hc] at hz
    cases hz
theorem gm_putR {ks : List Nat} {j : Nat} {C name desc : String} {fin : Bool} {index r x : Nat} {f : gm_M → Option β} (hF : gm_F ks j C name desc fin true) (hfin : fin = false ∨ (nm.1 = "<init>" ∧ C = own)) (hw : Jvm.Cond.fieldLink own index C name desc ∈ gm_G) (hd : decode cc pc = .ok (.putfield index, 3))
    (kk : ∀ μ' : gm_M, μ' = (μ.1, μ.2.1, gm_u μ.2.2 r j x) → gm_A own nm cc nL rt R res μe k n μ' (pc + 3) L st (f μ') κ) : gm_A own nm cc nL rt R res μe k n μ pc L (.ref x :: .ref r :: st) (gm_pR μ ks r j x f) κ := by
  intro b hz hk p l e s m args below meth c H locs ls E o X C hl hf
  unfold gm_pR at hz
  by_cases hc : ks.contains (gm_tag μ r) = true
  · rw [if_pos hc] at hz
    obtain ⟨k', q, h1, h2, h3, h4, h5⟩ := gm_tagF hF hc
    obtain ⟨hx, hb, hml, hr, hown, hts, hlk, hK, hnm⟩ := id X
    have ht : gm_isT (some (gm_ty q.2.1 j)) = true := by
      have h6 := h5
      unfold gm_isr at h6
      rw [h2] at h6
      dsimp only at h6
      rw [gm_types k' q h2 j h3] at h6
      exact h6
    exact gm_putW (μ' := (μ.1, μ.2.1, gm_u μ.2.2 r j x)) hx hb hown hts hK C h1 h2 h3 h4 hw hd hnm.1 hfin rfl (fun _ _ => rfl) (fun a ha => gm_u_ne _ _ _ _ _ ha) (fun y _ => gm_updR (E := E) h5 y) (gm_fits_ref ht o x).1 (gm_fits_ref ht o x).2 hf
      (fun H1 locs1 C1 hf1 => kk _ rfl b hz hk p l e s m args below meth c H1 locs1 ls E o X C1 hl hf1)
  · rw [if_neg hc] at hz
    cases hz

/-! arrays -/
def gm_aI {β : Type} (μ : gm_M) (r : Nat) (i : Int32) (f : Int32 → Option β) : Option β := if gm_tag μ r = 1 ∧ ¬ i < 0 ∧ i.toNatClampNeg < gm_len μ r then f (μ.2.1 r i.toNatClampNeg) else none
def gm_aZ {β : Type} (μ : gm_M) (r : Nat) (i : Int32) (f : Int32 → Option β) : Option β := if gm_tag μ r = 2 ∧ ¬ i < 0 ∧ i.toNatClampNeg < gm_len μ r then f (μ.2.1 r i.toNatClampNeg) else none
def gm_aR {β : Type} (μ : gm_M) (t r : Nat) (i : Int32) (f : Nat → Option β) : Option β := if gm_tag μ r = t ∧ ¬ i < 0 ∧ i.toNatClampNeg < gm_len μ r then f (μ.2.2 r i.toNatClampNeg) else none
def gm_sI {β : Type} (μ : gm_M) (r : Nat) (i x : Int32) (f : gm_M → Option β) : Option β := if gm_tag μ r = 1 ∧ ¬ i < 0 ∧ i.toNatClampNeg < gm_len μ r then f (μ.1, gm_u μ.2.1 r i.toNatClampNeg x, μ.2.2) else none
def gm_sZ {β : Type} (μ : gm_M) (r : Nat) (i x : Int32) (f : gm_M → Option β) : Option β := if gm_tag μ r = 2 ∧ ¬ i < 0 ∧ i.toNatClampNeg < gm_len μ r then f (μ.1, gm_u μ.2.1 r i.toNatClampNeg (x &&& 1), μ.2.2) else none
def gm_sR {β : Type} (μ : gm_M) (t : Nat) (ks : List Nat) (r : Nat) (i : Int32) (v : Nat) (f : gm_M → Option β) : Option β := if gm_tag μ r = t ∧ ks.contains (gm_tag μ v) = true ∧ ¬ i < 0 ∧ i.toNatClampNeg < gm_len μ r then f (μ.1, μ.2.1, gm_u μ.2.2 r i.toNatClampNeg v) else none
def gm_al {β : Type} (μ : gm_M) (t r : Nat) (f : Int32 → Option β) : Option β := if gm_tag μ r = t then f (Int32.ofNat (gm_len μ r)) else none
theorem gm_ne0 {E : gm_E} {o : Nat} {μ : gm_M} {H : Heap} {r t n : Nat} (h : gm_C E o μ H) (hr : μ.1[r]? = some (t + 1, n)) : r ≠ 0 := by
  intro e
  subst e
  rw [h.2.1] at hr
  cases hr
theorem gm_ne0' {E : gm_E} {o : Nat} {μ : gm_M} {H : Heap} {r : Nat} (h : gm_C E o μ H) (hr : gm_tag μ r ≠ 0) : r ≠ 0 := by
  intro e
  subst e
  unfold gm_tag at hr
  rw [h.2.1] at hr
  exact hr rfl
theorem gm_arrI {E : gm_E} {s : State} (hK : gm_K E s) : ArrOfT s (E.2.1 1) .int := (hK.1.2 0 (E.2.1 1, .int) rfl).1
theorem gm_arrZ {E : gm_E} {s : State} (hK : gm_K E s) : ArrOfT s (E.2.1 2) .boolean := (hK.1.2 1 (E.2.1 2, .boolean) rfl).1
theorem gm_arrP {E : gm_E} {s : State} (hK : gm_K E s) : ArrOfT s (E.2.1 3) (.object "GumBubble$Plain") := (hK.1.2 2 (E.2.1 3, .object "GumBubble$Plain") rfl).1
theorem gm_arrC {E : gm_E} {s : State} (hK : gm_K E s) : ArrOfT s (E.2.1 4) (.object "GumBubble$Child") := (hK.1.2 3 (E.2.1 4, .object "GumBubble$Child") rfl).1
theorem gm_iald {r : Nat} {i : Int32} {f : Int32 → Option β} (hd : decode cc pc = .ok (.iaload, 1)) (kk : ∀ v : Int32, v = μ.2.1 r i.toNatClampNeg → gm_A own nm cc nL rt R res μe k n μ (pc + 1) L (.int v :: st) (f v) κ) : gm_A own nm cc nL rt R res μe k n μ pc L (.int i :: .ref r :: st) (gm_aI μ r i f) κ := by
  intro b hz hk p l e s m args below meth c H locs ls E o X C hl hf
  unfold gm_aI at hz
  by_cases hc : gm_tag μ r = 1 ∧ ¬ i < 0 ∧ i.toNatClampNeg < gm_len μ r
  · rw [if_pos hc] at hz
    have hr := gm_at (t := 0) hc.1
    have h1 := C.2.2.2 r _ _ hr
    have e0 : gm_rv o r = .ref (o + r) := if_neg (gm_ne0 C hr)
    have kk := kk _ rfl b hz hk p l e s m args below meth c H locs ls E o X C hl hf
    obtain ⟨hx, hb, hml, hr, hown, hts, hlk, hK, hnm⟩ := X
    show W p l e R s m args below meth c H locs k n _ (F0 m pc ls (.int i :: gm_rv o r :: st.map (gm_cv E o)))
    rw [e0]
    exact W.iald (v := .int (μ.2.1 r i.toNatClampNeg)) hx hb h1 (gm_arrI hK _ _) (fun q => by cases q) (by rw [arrV_size]; rintro (q | q); exact hc.2.1 q; exact absurd q (Nat.not_le.mpr hc.2.2)) (by rw [arrV_read _ _ hc.2.2]) rfl rfl hd kk
  · rw [if_neg hc] at hz
    cases hz
theorem gm_zald {r : Nat} {i : Int32} {f : Int32 → Option β} (hd : decode cc pc = .ok (.baload, 1)) (kk : ∀ v : Int32, v = μ.2.1 r i.toNatClampNeg → gm_A own nm cc nL rt R res μe k n μ (pc + 1) L (.int v :: st) (f v) κ) : gm_A own nm cc nL rt R res μe k n μ pc L (.int i :: .ref r :: st) (gm_aZ μ r i f) κ := by
  intro b hz hk p l e s m args below meth c H locs ls E o X C hl hf
  unfold gm_aZ at hz
  by_cases hc : gm_tag μ r = 2 ∧ ¬ i < 0 ∧ i.toNatClampNeg < gm_len μ r
  · rw [if_pos hc] at hz
    have hr := gm_at (t := 1) hc.1
    have h1 := C.2.2.2 r _ _ hr
    have e0 : gm_rv o r = .ref (o + r) := if_neg (gm_ne0 C hr)
    have kk := kk _ rfl b hz hk p l e s m args below meth c H locs ls E o X C hl hf
    obtain ⟨hx, hb, hml, hr, hown, hts, hlk, hK, hnm⟩ := X
    show W p l e R s m args below meth c H locs k n _ (F0 m pc ls (.int i :: gm_rv o r :: st.map (gm_cv E o)))
    rw [e0]
    exact W.zald (v := .int (μ.2.1 r i.toNatClampNeg)) hx hb h1 (gm_arrZ hK _ _) (fun q => by cases q) (by rw [arrV_size]; rintro (q | q); exact hc.2.1 q; exact absurd q (Nat.not_le.mpr hc.2.2)) (by rw [arrV_read _ _ hc.2.2]) rfl rfl hd kk
  · rw [if_neg hc] at hz
    cases hz
theorem gm_aald {t r : Nat} {i : Int32} {f : Nat → Option β} (ht : t = 3 ∨ t = 4) (hd : decode cc pc = .ok (.aaload, 1)) (kk : ∀ v : Nat, v = μ.2.2 r i.toNatClampNeg → gm_A own nm cc nL rt R res μe k n μ (pc + 1) L (.ref v :: st) (f v) κ) : gm_A own nm cc nL rt R res μe k n μ pc L (.int i :: .ref r :: st) (gm_aR μ t r i f) κ := by
  intro b hz hk p l e s m args below meth c H locs ls E o X C hl hf
  unfold gm_aR at hz
  by_cases hc : gm_tag μ r = t ∧ ¬ i < 0 ∧ i.toNatClampNeg < gm_len μ r
  · rw [if_pos hc] at hz
    have kk := kk _ rfl b hz hk p l e s m args below meth c H locs ls E o X C hl hf
    obtain ⟨hx, hb, hml, hr, hown, hts, hlk, hK, hnm⟩ := X
    show W p l e R s m args below meth c H locs k n _ (F0 m pc ls (.int i :: gm_rv o r :: st.map (gm_cv E o)))
    have hin : ¬ (i < 0 ∨ gm_len μ r ≤ i.toNatClampNeg) := by
      rintro (q | q)
      · exact hc.2.1 q
      · exact absurd q (Nat.not_le.mpr hc.2.2)
    rcases ht with e | e
    · subst e
      have hr := gm_at (t := 2) hc.1
      have h1 := C.2.2.2 r _ _ hr
      have e0 : gm_rv o r = .ref (o + r) := if_neg (gm_ne0 C hr)
      rw [e0]
      exact W.aald (v := gm_rv o (μ.2.2 r i.toNatClampNeg)) (ty := .object "GumBubble$Plain") hx hb h1 (gm_arrP hK _ _) rfl (fun q => by cases q) (by rw [arrV_size]; exact hin) (by rw [arrV_read _ _ hc.2.2]) rfl rfl hd kk
    · subst e
      have hr := gm_at (t := 3) hc.1
      have h1 := C.2.2.2 r _ _ hr
      have e0 : gm_rv o r = .ref (o + r) := if_neg (gm_ne0 C hr)
      rw [e0]
      exact W.aald (v := gm_rv o (μ.2.2 r i.toNatClampNeg)) (ty := .object "GumBubble$Child") hx hb h1 (gm_arrC hK _ _) rfl (fun q => by cases q) (by rw [arrV_size]; exact hin) (by rw [arrV_read _ _ hc.2.2]) rfl rfl hd kk
  · rw [if_neg hc] at hz
    cases hz
theorem gm_alen {t r : Nat} {f : Int32 → Option β} (ht : t = 1 ∨ t = 2) (hd : decode cc pc = .ok (.arraylength, 1)) (kk : ∀ v : Int32, v = Int32.ofNat (gm_len μ r) → gm_A own nm cc nL rt R res μe k n μ (pc + 1) L (.int v :: st) (f v) κ) : gm_A own nm cc nL rt R res μe k n μ pc L (.ref r :: st) (gm_al μ t r f) κ := by
  intro b hz hk p l e s m args below meth c H locs ls E o X C hl hf
  unfold gm_al at hz
  by_cases hc : gm_tag μ r = t
  · rw [if_pos hc] at hz
    have kk := kk _ rfl b hz hk p l e s m args below meth c H locs ls E o X C hl hf
    obtain ⟨hx, hb, hml, hr, hown, hts, hlk, hK, hnm⟩ := X
    show W p l e R s m args below meth c H locs k n _ (F0 m pc ls (gm_rv o r :: st.map (gm_cv E o)))
    rcases ht with e | e
    · subst e
      have hr := gm_at (t := 0) hc
      have h1 := C.2.2.2 r _ _ hr
      have e0 : gm_rv o r = .ref (o + r) := if_neg (gm_ne0 C hr)
      rw [e0]
      exact W.alen (n := Int32.ofNat (gm_len μ r)) hx hb h1 (gm_arrI hK _ _) (by rw [arrV_size] <;> rfl) rfl rfl hd kk
    · subst e
      have hr := gm_at (t := 1) hc
      have h1 := C.2.2.2 r _ _ hr
      have e0 : gm_rv o r = .ref (o + r) := if_neg (gm_ne0 C hr)
      rw [e0]
      exact W.alen (n := Int32.ofNat (gm_len μ r)) hx hb h1 (gm_arrZ hK _ _) (by rw [arrV_size] <;> rfl) rfl rfl hd kk
  · rw [if_neg hc] at hz
    cases hz
theorem gm_lo2 {o a j : Nat} {locs : List Loc} (h : ∀ q ∈ locs, o < q.base) (ha : o < a) : ∀ q ∈ locs ++ [(⟨a, j⟩ : Loc)], o < q.base := by
  intro q hq
  rcases List.mem_append.mp hq with h1 | h1
  · exact h q h1
  · rw [List.mem_singleton.mp h1]
    exact ha
theorem gm_updA (f : Nat → Nat → Int32) (r i : Nat) (x : Int32) : updV (fun j => Value.int (f r j)) i (.int x) = fun j => Value.int (gm_u f r i x r j) := by
  funext j
  unfold updV gm_u
  rw [if_pos rfl]
  by_cases h : j = i
  · rw [if_pos h, if_pos h]
  · rw [if_neg h, if_neg h]
theorem gm_updB (o : Nat) (f : Nat → Nat → Nat) (r i x : Nat) : updV (fun j => gm_rv o (f r j)) i (gm_rv o x) = fun j => gm_rv o (gm_u f r i x r j) := by
  funext j
  unfold updV gm_u
  rw [if_pos rfl]
  by_cases h : j = i
  · rw [if_pos h, if_pos h]
  · rw [if_neg h, if_neg h]
theorem gm_iast {r : Nat} {i x : Int32} {f : gm_M → Option β} (hd : decode cc pc = .ok (.iastore, 1)) (kk : ∀ μ' : gm_M, μ' = (μ.1, gm_u μ.2.1 r i.toNatClampNeg x, μ.2.2) → gm_A own nm cc nL rt R res μe k n μ' (pc + 1) L st (f μ') κ) : gm_A own nm cc nL rt R res μe k n μ pc L (.int x :: .int i :: .ref r :: st) (gm_sI μ r i x f) κ := by
  intro b hz hk p l e s m args below meth c H locs ls E o X C hl hf
  unfold gm_sI at hz
  by_cases hc : gm_tag μ r = 1 ∧ ¬ i < 0 ∧ i.toNatClampNeg < gm_len μ r
  · rw [if_pos hc] at hz
    have hr := gm_at (t := 0) hc.1
    have h1 := C.2.2.2 r _ _ hr
    have hr0 := gm_ne0 C hr
    have e0 : gm_rv o r = .ref (o + r) := if_neg hr0
    have kk := fun H1 locs1 C1 hf1 => kk _ rfl b hz hk p l e s m args below meth c H1 locs1 ls E o X C1 hl hf1
    obtain ⟨hx, hb, hml, -, hown, hts, hlk, hK, hnm⟩ := X
    show W p l e R s m args below meth c H locs k n _ (F0 m pc ls (.int x :: .int i :: gm_rv o r :: st.map (gm_cv E o)))
    rw [e0]
    refine W.iast hx hb h1 (gm_arrI hK _ _) (fun q => by cases q) (by rw [arrV_size]; rintro (q | q); exact hc.2.1 q; exact absurd q (Nat.not_le.mpr hc.2.2)) rfl rfl hd fun H1 e1 z1 oq => ?_
    refine kk H1 _ (C.put hr rfl (fun a ha => gm_u_ne _ _ _ _ _ ha) (fun _ _ => rfl) z1 oq ?_) (gm_lo2 hf (by omega))
    show H1[o + r]? = some (arrV _ _ _)
    rw [e1, arrV_store, gm_updA]
  · rw [if_neg hc] at hz
    cases hz
theorem gm_zast {r : Nat} {i x : Int32} {f : gm_M → Option β} (hd : decode cc pc = .ok (.bastore, 1)) (kk : ∀ μ' : gm_M, μ' = (μ.1, gm_u μ.2.1 r i.toNatClampNeg (x &&& 1), μ.2.2) → gm_A own nm cc nL rt R res μe k n μ' (pc + 1) L st (f μ') κ) : gm_A own nm cc nL rt R res μe k n μ pc L (.int x :: .int i :: .ref r :: st) (gm_sZ μ r i x f) κ := by
  intro b hz hk p l e s m args below meth c H locs ls E o X C hl hf
  unfold gm_sZ at hz
  by_cases hc : gm_tag μ r = 2 ∧ ¬ i < 0 ∧ i.toNatClampNeg < gm_len μ r
  · rw [if_pos hc] at hz
    have hr := gm_at (t := 1) hc.1
    have h1 := C.2.2.2 r _ _ hr
    have hr0 := gm_ne0 C hr
    have e0 : gm_rv o r = .ref (o + r) := if_neg hr0
    have kk := fun H1 locs1 C1 hf1 => kk _ rfl b hz hk p l e s m args below meth c H1 locs1 ls E o X C1 hl hf1
    obtain ⟨hx, hb, hml, -, hown, hts, hlk, hK, hnm⟩ := X
    show W p l e R s m args below meth c H locs k n _ (F0 m pc ls (.int x :: .int i :: gm_rv o r :: st.map (gm_cv E o)))
    rw [e0]
    refine W.zast hx hb h1 (gm_arrZ hK _ _) (fun q => by cases q) (by rw [arrV_size]; rintro (q | q); exact hc.2.1 q; exact absurd q (Nat.not_le.mpr hc.2.2)) rfl rfl hd fun H1 e1 z1 oq => ?_
    refine kk H1 _ (C.put hr rfl (fun a ha => gm_u_ne _ _ _ _ _ ha) (fun _ _ => rfl) z1 oq ?_) (gm_lo2 hf (by omega))
    show H1[o + r]? = some (arrV _ _ _)
    rw [e1, arrV_store]
    show some (arrV _ _ (updV _ _ (.int (x &&& 1)))) = _
    rw [gm_updA]
  · rw [if_neg hc] at hz
    cases hz
/-- an element's class may stand in the row of references -/
def gm_Sub (ks : List Nat) (C : String) : Prop := ∀ t ∈ ks, ∃ (k : Nat) (q : vw_C), t = k + 5 ∧ gm_cls[k]? = some q ∧ (q.1, C) ∈ gm_yes
theorem gm_astW {p : Program} {l : Launch} {e : Env} {R : Room} {s : State} {m : MethodId} {args : Array Value} {below : List Frame} {meth : Method} {c : Code} {H : Heap} {locs : List Loc} {cells slots : Nat} {Q : State → Prop} {cc : ByteArray} {pc : Nat} {ls : Array Slot} {rest : List Value} {E : gm_E} {o r v nn : Nat} {C : String} {ks : List Nat} {i : Int32} {μ : gm_M} {cA : ClassId} {ff : Nat → Value}
    (hx : p.tables.exec = Jvm.exec) (hb : c.code = cc) (hK : gm_K E s) (hC : gm_C E o μ H) (hS : gm_Sub ks C) (hks : ks.contains (gm_tag μ v) = true) (h1 : H[o + r]? = some (arrV cA nn ff)) (hRA : va_RA s cA (.object C)) (h0 : ¬ i < 0) (hlt : i.toNatClampNeg < nn) (hd : decode cc pc = .ok (.aastore, 1))
    (kk : ∀ H1 : Heap, H1[o + r]? = some ((arrV cA nn ff).setSlot i.toNatClampNeg (gm_rv o v)) → H1.size = H.size → (∀ q, q ≠ o + r → H1[q]? = H[q]?) → W p l e R s m args below meth c H1 (locs ++ [⟨o + r, i.toNatClampNeg⟩]) cells slots Q (F0 m (pc + 1) ls rest)) : W p l e R s m args below meth c H locs cells slots Q (F0 m pc ls (gm_rv o v :: .int i :: .ref (o + r) :: rest)) := by
  obtain ⟨k', q, e1, e2, e3⟩ := hS _ (List.contains_iff_mem.mp hks)
  have hv := gm_at (t := k' + 4) e1
  obtain ⟨hv0, cell, q1, q2, q3, q4⟩ := gm_Cobj hC hv e2
  have ev : gm_rv o v = .ref (o + v) := if_neg hv0
  rw [ev] at kk ⊢
  obtain ⟨kA, comp, k1, k2, k3, -⟩ := hRA
  obtain ⟨ca, ct, a1, a2, a3⟩ := hK.2.2.2.1 _ e3
  obtain ⟨hfc, kC, hkC, hkind⟩ := (hK.1.1 k' _ e2).2
  dsimp only at a1 a2 a3
  cases a1.symm.trans hfc
  cases a2.symm.trans k3
  obtain ⟨kP, hkP, -⟩ := Vm.findClass_spec k3
  exact W.aast hx hb h1 (fun q h => by cases h) (fun h => by cases h) k1 k2 rfl hkP ⟨h0, by rw [arrV_size]; exact hlt⟩ q1 (fun q h => by rw [q3] at h; cases h) (by rw [q2]; exact hkC) (by rw [q2]; exact a3) rfl rfl hd kk
theorem gm_aast {t : Nat} {ks : List Nat} {C : String} {r v : Nat} {i : Int32} {f : gm_M → Option β} (ht : (t = 3 ∧ C = "GumBubble$Plain") ∨ (t = 4 ∧ C = "GumBubble$Child")) (hS : gm_Sub ks C) (hd : decode cc pc = .ok (.aastore, 1)) (kk : ∀ μ' : gm_M, μ' = (μ.1, μ.2.1, gm_u μ.2.2 r i.toNatClampNeg v) → gm_A own nm cc nL rt R res μe k n μ' (pc + 1) L st (f μ') κ) : gm_A own nm cc nL rt R res μe k n μ pc L (.ref v :: .int i :: .ref r :: st) (gm_sR μ t ks r i v f) κ := by
  intro b hz hk p l e s m args below meth c H locs ls E o X C0 hl hf
  unfold gm_sR at hz
  by_cases hc : gm_tag μ r = t ∧ ks.contains (gm_tag μ v) = true ∧ ¬ i < 0 ∧ i.toNatClampNeg < gm_len μ r
  · rw [if_pos hc] at hz
    have kk := fun H1 locs1 C1 hf1 => kk _ rfl b hz hk p l e s m args below meth c H1 locs1 ls E o X C1 hl hf1
    obtain ⟨hx, hb, hml, -, hown, hts, hlk, hK, hnm⟩ := X
    show W p l e R s m args below meth c H locs k n _ (F0 m pc ls (gm_rv o v :: .int i :: gm_rv o r :: st.map (gm_cv E o)))
    rcases ht with ⟨e1, e2⟩ | ⟨e1, e2⟩
    · subst e1
      subst e2
      have hr := gm_at (t := 2) hc.1
      have h1 := C0.2.2.2 r _ _ hr
      have hr0 := gm_ne0 C0 hr
      have e0 : gm_rv o r = .ref (o + r) := if_neg hr0
      rw [e0]
      refine gm_astW hx hb hK C0 hS hc.2.1 h1 (hK.1.2 2 (E.2.1 3, .object "GumBubble$Plain") rfl).2 hc.2.2.1 hc.2.2.2 hd fun H1 e1 z1 oq => ?_
      refine kk H1 _ (C0.put hr rfl (fun _ _ => rfl) (fun a ha => gm_u_ne _ _ _ _ _ ha) z1 oq ?_) (gm_lo2 hf (by omega))
      show H1[o + r]? = some (arrV _ _ _)
      rw [e1, arrV_store, gm_updB]
    · subst e1
      subst e2
      have hr := gm_at (t := 3) hc.1
      have h1 := C0.2.2.2 r _ _ hr
      have hr0 := gm_ne0 C0 hr
      have e0 : gm_rv o r = .ref (o + r) := if_neg hr0
      rw [e0]
      refine gm_astW hx hb hK C0 hS hc.2.1 h1 (hK.1.2 3 (E.2.1 4, .object "GumBubble$Child") rfl).2 hc.2.2.1 hc.2.2.2 hd fun H1 e1 z1 oq => ?_
      refine kk H1 _ (C0.put hr rfl (fun _ _ => rfl) (fun a ha => gm_u_ne _ _ _ _ _ ha) z1 oq ?_) (gm_lo2 hf (by omega))
      show H1[o + r]? = some (arrV _ _ _)
      rw [e1, arrV_store, gm_updB]
  · rw [if_neg hc] at hz
    cases hz

/-! what is made -/
def gm_nw (μ : gm_M) (t n : Nat) : gm_M := (μ.1 ++ [(t, n)], gm_z μ.2.1 μ.1.length 0, gm_z μ.2.2 μ.1.length 0)
theorem gm_z_ne {α : Type} (f : Nat → Nat → α) (r : Nat) (x : α) (a : Nat) (h : a ≠ r) : gm_z f r x a = f a := by
  funext k
  exact if_neg h
theorem gm_z_eq {α : Type} (f : Nat → Nat → α) (r : Nat) (x : α) : gm_z f r x r = fun _ => x := by
  funext k
  exact if_pos rfl
theorem gm_C.push {E : gm_E} {o : Nat} {μ : gm_M} {H H' : Heap} {t n : Nat} (h : gm_C E o μ H) (hz : H'.size = H.size + 1) (oq : ∀ q, q < H.size → H'[q]? = H[q]?) (hc : gm_cell E o (gm_nw μ t n) H' μ.1.length t n) : gm_C E o (gm_nw μ t n) H' := by
  obtain ⟨h1, h2, h3, h4⟩ := h
  have hl : 0 < μ.1.length := by
    rcases Nat.eq_zero_or_pos μ.1.length with e | e
    · rw [List.length_eq_zero_iff.mp e] at h2
      cases h2
    · exact e
  refine ⟨?_, ?_, ⟨h3.1, fun q hq => ?_⟩, fun r t' n' hr => ?_⟩
  · show H'.size = o + (μ.1 ++ [(t, n)]).length
    rw [hz, h1, List.length_append]
    rfl
  · show (μ.1 ++ [(t, n)])[0]? = _
    rw [List.getElem?_append_left hl]
    exact h2
  · rw [oq q (by omega)]
    exact h3.2 q hq
  · have hr : (μ.1 ++ [(t, n)])[r]? = some (t', n') := hr
    by_cases hlt : r < μ.1.length
    · rw [List.getElem?_append_left hlt] at hr
      exact (h4 r t' n' hr).kept (gm_z_ne _ _ _ _ (Nat.ne_of_lt hlt)) (gm_z_ne _ _ _ _ (Nat.ne_of_lt hlt)) (oq (o + r) (by omega))
    · rw [List.getElem?_append_right (by omega)] at hr
      have hz : r - μ.1.length < 1 := (List.getElem?_eq_some_iff.mp hr).1
      have e : r = μ.1.length := by omega
      subst e
      rw [Nat.sub_self] at hr
      cases hr
      exact hc
theorem gm_Cpos {E : gm_E} {o : Nat} {μ : gm_M} {H : Heap} (h : gm_C E o μ H) : gm_rv o μ.1.length = .ref H.size := by
  have h2 := h.2.1
  unfold gm_rv
  rw [if_neg]
  · rw [h.1]
  · intro e
    rw [List.length_eq_zero_iff.mp e] at h2
    cases h2
theorem gm_dflt {k0 : Nat} {q : vw_C} (hc : gm_cls[k0]? = some q) {j : Nat} (hj : j < q.2.2) (o : Nat) : defaultValue (gm_ty q.2.1 j) = if gm_isr k0 j = true then gm_rv o 0 else .int 0 := by
  have h : ∀ (k : Nat) (q : vw_C), gm_cls[k]? = some q → ∀ j, j < q.2.2 → defaultValue (gm_ty q.2.1 j) = if gm_isr k j = true then .null else .int 0 := by
    intro k q h
    match k, h with
    | 0, h => cases h; exact (by decide +kernel)
    | 1, h => cases h; exact (by decide +kernel)
    | 2, h => cases h; exact (by decide +kernel)
    | 3, h => cases h; exact (by decide +kernel)
    | 4, h => cases h; exact (by decide +kernel)
    | 5, h => cases h; exact (by decide +kernel)
    | 6, h => cases h; exact (by decide +kernel)
    | 7, h => cases h; exact (by decide +kernel)
    | 8, h => cases h; exact (by decide +kernel)
    | 9, h => cases h; exact (by decide +kernel)
    | 10, h => cases h; exact (by decide +kernel)
    | 11, h => cases h; exact (by decide +kernel)
    | 12, h => cases h; exact (by decide +kernel)
    | k + 13, h => simp [gm_cls] at h
  exact h k0 q hc j hj
def gm_mk {β : Type} (μ : gm_M) (t n : Nat) (f : Nat → gm_M → Option β) : Option β := f μ.1.length (gm_nw μ t n)
theorem gm_new {k0 N index : Nat} {C : String} {T : u_T} (hc : gm_cls[k0]? = some (C, T, N)) (hw1 : Jvm.Cond.classLink own index C ∈ gm_G) (hw2 : Jvm.Cond.instantiable C N ∈ gm_G) (hw3 : Jvm.Cond.initialized C ∈ gm_G) (hk1 : k + 1 ≤ R.cells) (hn1 : n + N ≤ R.slots) (hd : decode cc pc = .ok (.new index, 3))
    {f : Nat → gm_M → Option β} (kk : ∀ (q : Nat) (μ' : gm_M), q = μ.1.length → μ' = gm_nw μ (k0 + 5) N → gm_A own nm cc nL rt R res μe (k + 1) (n + N) μ' (pc + 3) L (.ref q :: st) (f q μ') κ) : gm_A own nm cc nL rt R res μe k n μ pc L st (gm_mk μ (k0 + 5) N f) κ := by
  intro b hz hk p l e s m args below meth c H locs ls E o X Cc hl hf
  unfold gm_mk at hz
  have kk := fun H1 C1 => kk _ _ rfl rfl b hz hk p l e s m args below meth c H1 locs ls E o X C1 hl hf
  obtain ⟨hx, hb, hml, hr, hown, hts, hlk, hK, hnm⟩ := X
  have hKn := hK.1.1 k0 _ hc
  have hty := gm_types k0 _ hc
  refine W.newcK hx hb hown (hts _ hw1) (hts _ hw2) (hts _ hw3) rfl hd hk1 hn1 hKn.2.1 rfl fun H1 kC hkC e1 z1 o1 => ?_
  have e0 := gm_Cpos Cc
  have C1 : gm_C E o (gm_nw μ (k0 + 5) N) H1 := by
    refine Cc.push z1 o1 ⟨(C, T, N), hc, rfl, ?_⟩
    have e2 := u_born (gm_ty T) hts (gm_lays k0 _ hc) hKn hkC e1 hty
    rw [Cc.1] at e2
    refine e2.to fun j hj => ?_
    unfold gm_fv
    show defaultValue (gm_ty T j) = if gm_isr k0 j = true then gm_rv o (gm_z μ.2.2 μ.1.length 0 μ.1.length j) else .int (gm_z μ.2.1 μ.1.length 0 μ.1.length j)
    rw [gm_z_eq, gm_z_eq]
    exact gm_dflt hc hj o
  have kk := kk H1 C1
  rw [List.map_cons] at kk
  have e3 : gm_cv E o (.ref μ.1.length) = .ref H.size := e0
  rw [e3] at kk
  exact kk
def gm_nA {β : Type} (μ : gm_M) (t : Nat) (i : Int32) (B : Nat) (f : Nat → gm_M → Option β) : Option β := if ¬ i < 0 ∧ i.toNatClampNeg ≤ B then f μ.1.length (gm_nw μ t i.toNatClampNeg) else none
theorem gm_newaI {i : Int32} {B : Nat} {f : Nat → gm_M → Option β} (hB : B * 4 ≤ 536870912) (hw : Jvm.Cond.arrayClass .int ∈ gm_G) (hk1 : k + 1 ≤ R.cells) (hn1 : n + B ≤ R.slots) (hd : decode cc pc = .ok (.newarray .int, 2))
    (kk : ∀ (q : Nat) (μ' : gm_M), q = μ.1.length → μ' = gm_nw μ 1 i.toNatClampNeg → gm_A own nm cc nL rt R res μe (k + 1) (n + B) μ' (pc + 2) L (.ref q :: st) (f q μ') κ) : gm_A own nm cc nL rt R res μe k n μ pc L (.int i :: st) (gm_nA μ 1 i B f) κ := by
  intro b hz hk p l e s m args below meth c H locs ls E o X Cc hl hf
  unfold gm_nA at hz
  by_cases hc : ¬ i < 0 ∧ i.toNatClampNeg ≤ B
  · rw [if_pos hc] at hz
    have kk := fun H1 C1 => kk _ _ rfl rfl b hz hk p l e s m args below meth c H1 locs ls E o X C1 hl hf
    obtain ⟨hx, hb, hml, hr, hown, hts, hlk, hK, hnm⟩ := X
    refine va_newaK (atype := .int) hx hb (hts _ hw) rfl hd rfl hc.1 rfl (Nat.le_trans (Nat.mul_le_mul_right 4 hc.2) hB) hk1 (Nat.le_trans (Nat.add_le_add_left hc.2 n) hn1) rfl fun H1 cA e1 z1 o1 hAr hNm => ?_
    have e4 : cA = E.2.1 1 := Option.some.inj (hNm.symm.trans (hK.1.2 0 (E.2.1 1, .int) rfl).2)
    subst e4
    have C1 : gm_C E o (gm_nw μ 1 i.toNatClampNeg) H1 := by
      refine Cc.push z1 o1 ?_
      show H1[o + μ.1.length]? = some (arrV _ _ (fun j => .int (gm_z μ.2.1 μ.1.length 0 μ.1.length j)))
      rw [gm_z_eq, ← Cc.1]
      exact e1
    have kk := kk H1 C1
    rw [List.map_cons] at kk
    have e3 : gm_cv E o (.ref μ.1.length) = .ref H.size := gm_Cpos Cc
    rw [e3] at kk
    exact W.widen (k := k + 1) (n := n + B) (Nat.le_refl _) (Nat.add_le_add_left hc.2 n) kk
  · rw [if_neg hc] at hz
    cases hz
theorem gm_newaZ {i : Int32} {B : Nat} {f : Nat → gm_M → Option β} (hB : B * 4 ≤ 536870912) (hw : Jvm.Cond.arrayClass .boolean ∈ gm_G) (hk1 : k + 1 ≤ R.cells) (hn1 : n + B ≤ R.slots) (hd : decode cc pc = .ok (.newarray .boolean, 2))
    (kk : ∀ (q : Nat) (μ' : gm_M), q = μ.1.length → μ' = gm_nw μ 2 i.toNatClampNeg → gm_A own nm cc nL rt R res μe (k + 1) (n + B) μ' (pc + 2) L (.ref q :: st) (f q μ') κ) : gm_A own nm cc nL rt R res μe k n μ pc L (.int i :: st) (gm_nA μ 2 i B f) κ := by
  intro b hz hk p l e s m args below meth c H locs ls E o X Cc hl hf
  unfold gm_nA at hz
  by_cases hc : ¬ i < 0 ∧ i.toNatClampNeg ≤ B
  · rw [if_pos hc] at hz
    have kk := fun H1 C1 => kk _ _ rfl rfl b hz hk p l e s m args below meth c H1 locs ls E o X C1 hl hf
    obtain ⟨hx, hb, hml, hr, hown, hts, hlk, hK, hnm⟩ := X
    have h5 : componentBytes (newarray.typeOf .boolean) ≤ 4 := by decide
    have h6 : i.toNatClampNeg * componentBytes (newarray.typeOf .boolean) ≤ 536870912 := Nat.le_trans (Nat.mul_le_mul hc.2 h5) hB
    refine va_newaK (atype := .boolean) hx hb (hts _ hw) rfl hd rfl hc.1 rfl h6 hk1 (Nat.le_trans (Nat.add_le_add_left hc.2 n) hn1) rfl fun H1 cA e1 z1 o1 hAr hNm => ?_
    have e4 : cA = E.2.1 2 := Option.some.inj (hNm.symm.trans (hK.1.2 1 (E.2.1 2, .boolean) rfl).2)
    subst e4
    have C1 : gm_C E o (gm_nw μ 2 i.toNatClampNeg) H1 := by
      refine Cc.push z1 o1 ?_
      show H1[o + μ.1.length]? = some (arrV _ _ (fun j => .int (gm_z μ.2.1 μ.1.length 0 μ.1.length j)))
      rw [gm_z_eq, ← Cc.1]
      exact e1
    have kk := kk H1 C1
    rw [List.map_cons] at kk
    have e3 : gm_cv E o (.ref μ.1.length) = .ref H.size := gm_Cpos Cc
    rw [e3] at kk
    exact W.widen (k := k + 1) (n := n + B) (Nat.le_refl _) (Nat.add_le_add_left hc.2 n) kk
  · rw [if_neg hc] at hz
    cases hz
theorem gm_anewA {t index : Nat} {C : String} {i : Int32} {B : Nat} {f : Nat → gm_M → Option β} (ht : (t = 3 ∧ C = "GumBubble$Plain") ∨ (t = 4 ∧ C = "GumBubble$Child")) (hB : B * 4 ≤ 536870912) (hw : Jvm.Cond.classLink own index C ∈ gm_G) (hk1 : k + 1 ≤ R.cells) (hn1 : n + B ≤ R.slots) (hd : decode cc pc = .ok (.anewarray index, 3))
    (kk : ∀ (q : Nat) (μ' : gm_M), q = μ.1.length → μ' = gm_nw μ t i.toNatClampNeg → gm_A own nm cc nL rt R res μe (k + 1) (n + B) μ' (pc + 3) L (.ref q :: st) (f q μ') κ) : gm_A own nm cc nL rt R res μe k n μ pc L (.int i :: st) (gm_nA μ t i B f) κ := by
  intro b hz hk p l e s m args below meth c H locs ls E o X Cc hl hf
  unfold gm_nA at hz
  by_cases hc : ¬ i < 0 ∧ i.toNatClampNeg ≤ B
  · rw [if_pos hc] at hz
    have kk := fun H1 C1 => kk _ _ rfl rfl b hz hk p l e s m args below meth c H1 locs ls E o X C1 hl hf
    obtain ⟨hx, hb, hml, hr, hown, hts, hlk, hK, hnm⟩ := X
    have hover : va_AO C s := by
      rcases ht with ⟨-, e⟩ | ⟨-, e⟩ <;> subst e
      · exact hK.2.1
      · exact hK.2.2.1
    refine W.anew hx hb hown (hts _ hw) (va_AO.use hover) rfl hd rfl hc.1 (Nat.le_trans (Nat.mul_le_mul_right 4 hc.2) hB) hk1 (Nat.le_trans (Nat.add_le_add_left hc.2 n) hn1) fun cA kA comp f1 f2 f3 f4 => ?_
    have fin : ∀ H1 : Heap, H1 = H.push ({ cls := cA, slots := Array.replicate i.toNatClampNeg .null, vm := .none } : Cell) → gm_C E o (gm_nw μ t i.toNatClampNeg) H1 := by
      intro H1 hH1
      have z1 : H1.size = H.size + 1 := by rw [hH1, Array.size_push]
      have e1 : H1[H.size]? = some (arrV cA i.toNatClampNeg (fun _ => .null)) := by rw [hH1, Array.getElem?_push_size, ← arrV_new]
      have o1 : ∀ q : Nat, q < H.size → H1[q]? = H[q]? := fun q hq => by rw [hH1, Array.getElem?_push, if_neg (Nat.ne_of_lt hq)]
      refine Cc.push z1 o1 ?_
      rw [Cc.1] at e1
      rcases ht with ⟨g1, g2⟩ | ⟨g1, g2⟩ <;> subst g1 <;> subst g2
      · show H1[o + μ.1.length]? = some (arrV _ _ (fun j => gm_rv o (gm_z μ.2.2 μ.1.length 0 μ.1.length j)))
        rw [gm_z_eq]
        obtain ⟨_, _, -, -, -, g4⟩ := (hK.1.2 2 (E.2.1 3, .object "GumBubble$Plain") rfl).2
        cases f1.symm.trans g4
        exact e1
      · show H1[o + μ.1.length]? = some (arrV _ _ (fun j => gm_rv o (gm_z μ.2.2 μ.1.length 0 μ.1.length j)))
        rw [gm_z_eq]
        obtain ⟨_, _, -, -, -, g4⟩ := (hK.1.2 3 (E.2.1 4, .object "GumBubble$Child") rfl).2
        cases f1.symm.trans g4
        exact e1
    have kk := kk _ (fin _ rfl)
    rw [List.map_cons] at kk
    have e3 : gm_cv E o (.ref μ.1.length) = .ref H.size := gm_Cpos Cc
    rw [e3] at kk
    exact W.widen (k := k + 1) (n := n + B) (Nat.le_refl _) (Nat.add_le_add_left hc.2 n) kk
  · rw [if_neg hc] at hz
    cases hz
/-! the ends -/
theorem gm_iret {x : Int32} {zz : β} (hrt : rt = some .int) (hd : decode cc pc = .ok (.ireturn, 1)) (hk1 : k ≤ R.cells) (hn1 : n ≤ R.slots) (hκ : κ zz → (some (.int x), μ) = (res, μe)) : gm_A own nm cc nL rt R res μe k n μ pc L [.int x] (some zz) κ := by
  intro b hz hk p l e s m args below meth c H locs ls E o X C hl hf
  cases hz
  cases hκ hk
  obtain ⟨hx, hb, hml, hr, hown, hts, hlk, hK, hnm⟩ := X
  refine W.widen hk1 hn1 ?_
  exact W.iret hx hb (hr.trans hrt) (fun t ht hW => ⟨rfl, by rw [ht]; exact C⟩) hf hd hlk
theorem gm_zret {x : Int32} {zz : β} (hrt : rt = some .boolean) (hd : decode cc pc = .ok (.ireturn, 1)) (hk1 : k ≤ R.cells) (hn1 : n ≤ R.slots) (hκ : κ zz → (some (.int x), μ) = (res, μe)) : gm_A own nm cc nL rt R res μe k n μ pc L [.int x] (if x = 0 ∨ x = 1 then some zz else none) κ := by
  intro b hz hk p l e s m args below meth c H locs ls E o X C hl hf
  by_cases h01 : x = 0 ∨ x = 1
  · rw [if_pos h01] at hz
    cases hz
    cases hκ hk
    obtain ⟨hx, hb, hml, hr, hown, hts, hlk, hK, hnm⟩ := X
    refine W.widen hk1 hn1 ?_
    exact W.zret hx hb (hr.trans hrt) (by rcases h01 with e | e <;> subst e <;> rfl) (fun t ht hW => ⟨rfl, by rw [ht]; exact C⟩) hf hd hlk
  · rw [if_neg h01] at hz
    cases hz
theorem gm_lret {x : Int64} {zz : β} (hrt : rt = some .long) (hd : decode cc pc = .ok (.lreturn, 1)) (hk1 : k ≤ R.cells) (hn1 : n ≤ R.slots) (hκ : κ zz → (some (.long x), μ) = (res, μe)) : gm_A own nm cc nL rt R res μe k n μ pc L [.long x] (some zz) κ := by
  intro b hz hk p l e s m args below meth c H locs ls E o X C hl hf
  cases hz
  cases hκ hk
  obtain ⟨hx, hb, hml, hr, hown, hts, hlk, hK, hnm⟩ := X
  refine W.widen hk1 hn1 ?_
  exact W.lret hx hb (hr.trans hrt) (fun t ht hW => ⟨rfl, by rw [ht]; exact C⟩) hf hd hlk
theorem gm_vret {zz : β} (hrt : rt = none) (hd : decode cc pc = .ok (.return_, 1)) (hk1 : k ≤ R.cells) (hn1 : n ≤ R.slots) (hκ : κ zz → (none, μ) = (res, μe)) : gm_A own nm cc nL rt R res μe k n μ pc L [] (some zz) κ := by
  intro b hz hk p l e s m args below meth c H locs ls E o X C hl hf
  cases hz
  cases hκ hk
  obtain ⟨hx, hb, hml, hr, hown, hts, hlk, hK, hnm⟩ := X
  refine W.widen hk1 hn1 ?_
  exact W.vret hx hb (hr.trans hrt) (fun t ht hW => ⟨rfl, by rw [ht]; exact C⟩) hf hd hlk
theorem gm_no : gm_A own nm cc nL rt R res μe k n μ pc L st (none : Option β) κ := by
  intro b hz
  cases hz
/-- a jump back to a loop's head: the state there is the new one -/
theorem gm_back {zz : β} (h : κ zz → gm_Goal own nm cc nL rt R res μe k n μ pc L st) : gm_A own nm cc nL rt R res μe k n μ pc L st (some zz) κ := by
  intro b hz hk
  cases hz
  exact h hk
def gm_loop {S β : Type} (step : S → Option (S ⊕ β)) : Nat → S → Option β
  | 0, _ => none
  | i + 1, s => match step s with
    | none => none
    | some (.inl s') => gm_loop step i s'
    | some (.inr b) => some b
def gm_kl {S β : Type} (G : S → Prop) (κ : β → Prop) : S ⊕ β → Prop
  | .inl s => G s
  | .inr b => κ b
theorem gm_lp {S : Type} {step : S → Option (S ⊕ β)} (fk fn : S → Nat) (fμ : S → gm_M) (fL : S → List (Nat × Value)) (fs : S → List Value) (h : ∀ s : S, gm_A own nm cc nL rt R res μe (fk s) (fn s) (fμ s) pc (fL s) (fs s) (step s) (gm_kl (fun s' => gm_Goal own nm cc nL rt R res μe (fk s') (fn s') (fμ s') pc (fL s') (fs s')) κ)) : ∀ (i : Nat) (s : S), gm_A own nm cc nL rt R res μe (fk s) (fn s) (fμ s) pc (fL s) (fs s) (gm_loop step i s) κ := by
  intro i
  induction i with
  | zero => intro s b hz; cases hz
  | succ i ih =>
    intro s b hz hk
    have hs := h s
    unfold gm_loop at hz
    cases e : step s with
    | none => rw [e] at hz; cases hz
    | some v =>
      rw [e] at hz
      cases v with
      | inl s' => exact hs _ e (ih s' b hz hk)
      | inr b' => cases hz; exact hs _ e hk
/-- other locals listed -/
theorem gm_sub {L' : List (Nat × Value)} (ks : List Nat) (h : lv_pick L ks = L') (kk : gm_A own nm cc nL rt R res μe k n μ pc L' st z κ) : gm_A own nm cc nL rt R res μe k n μ pc L st z κ := by
  intro b hz hk p l e s m args below meth c H locs ls E o X C hl hf
  refine kk b hz hk p l e s m args below meth c H locs ls E o X C (lv_sub hl ks ?_) hf
  rw [← h]
  unfold lv_pick
  rw [List.map_filterMap]
  congr 1
  funext j
  rw [List.getElem?_map]

/-! calls -/
def gm_rm (d mc ms : Nat) : Room := { frames := d, cells := mc, slots := ms, locals := 64 * d }
def gm_Pc (E : gm_E) (o : Nat) (As : List Value) (μ : gm_M) : Array Value → State → Prop := va_Pc (As.map (gm_cv E o)) (fun U => gm_C E o μ U.heap ∧ gm_K E U)
/-- a method's contract: what z answers is what it answers, at most d frames deep -/
def gm_Call (y : MethodName) (cc : ByteArray) (nL : Nat) (rt : Option FieldType) (d mc ms : Nat) (As : List Value) (μ : gm_M) (z : Option (Option Value × gm_M)) : Prop :=
  ∀ (res : Option Value) (μe : gm_M), z = some (res, μe) → ∀ (l : Launch) (E : gm_E) (o : Nat), Met l y (.code y cc nL rt :: gm_G) (gm_rm d mc ms) (gm_Pc E o As μ) (gm_Qc E o res μe) mc ms (fun q => o < q)
theorem gm_args (E : gm_E) (o : Nat) : ∀ (As : List Value) (i : Nat), lv_args i (As.map (gm_cv E o)) = (lv_args i As).map fun q => (q.1, gm_cv E o q.2)
  | [], i => rfl
  | a :: As, i => by
    simp only [List.map_cons, lv_args, gm_cv_cat]
    rw [gm_args E o As]
theorem gm_sl (E : gm_E) (o : Nat) (As : List Value) : (lg_sl (As.map (gm_cv E o))).length = (lg_sl As).length := by
  induction As with
  | nil => rfl
  | cons a As ih =>
    have e : ∀ (b : Value) (l : List Value), lg_sl (b :: l) = (if b.category = 2 then [.val b, .second] else [.val b]) ++ lg_sl l := fun _ _ => rfl
    rw [List.map_cons, e, e, List.length_append, List.length_append, ih, gm_cv_cat]
    split <;> rfl
theorem gm_start {y : MethodName} {d mc ms : Nat} {As : List Value} {z : Option (Option Value × gm_M)} (hy : plainName y.cls = true) (hlen : (lg_sl As).length ≤ nL)
    (h : ∀ (res : Option Value) (μe : gm_M), gm_A y.cls (gm_nm y.name) cc nL rt (gm_rm d mc ms) res μe 0 0 μ 0 (lv_args 0 As) [] z (fun b => b = (res, μe))) : gm_Call y cc nL rt d mc ms As μ z := by
  intro res μe hz l E o
  refine Met.ofW (cc := cc) (maxL := nL) (ret := rt) hy rfl ?_
  intro p e s m args below meth c s₁ B hml hv
  obtain ⟨rfl, hC, hK⟩ := hv
  have hts : ∀ w ∈ gm_G, w.before (As.map (gm_cv E o)).toArray s = true := fun w hw => atoms_spec (ws := .code y cc nL rt :: gm_G) B.pre w (List.mem_cons_of_mem _ hw)
  have hl := lv_entry (As.map (gm_cv E o)) (n := nL) (by rw [gm_sl]; exact hlen)
  rw [gm_args] at hl
  rw [lg_entry_eq]
  exact h res μe _ hz rfl p l e s m _ below meth c s.heap [] _ E o ⟨B.exec, B.bytes, hml, B.returns, findClass_of_methodNamed B.named, hts, B.notSynchronized, hK, (name_of_methodNamed B.named B.method).1, trivial⟩ hC hl (fun q hq => by cases hq)
theorem gm_GG : ∀ w ∈ gm_G, (w.onTables && w.keeps) = true ∨ ∃ ty, w = .arrayClass ty := fun w h => good_of_word (List.mem_filter.mp h).2
theorem gm_pay {y : MethodName} {cc' : ByteArray} {nL' : Nat} {rt' : Option FieldType} {args : Array Value} {s : State} (hts : ∀ w ∈ gm_G, w.before args s = true) (hc : Jvm.Cond.code y cc' nL' rt' ∈ gm_G) : ∀ w ∈ (.code y cc' nL' rt' :: gm_G : List Cond), ∀ (a' : Array Value) (U : State), s.WarmedH U.vm → w.before a' U = true := by
  intro w hw a' U hW
  have h : w ∈ gm_G := by
    rcases List.mem_cons.mp hw with e | e
    · rw [e]; exact hc
    · exact e
  exact word_at hW (gm_GG w h) (hts w h)
theorem gm_blind (E : gm_E) (o : Nat) (As : List Value) (μ : gm_M) : FrameBlind (gm_Pc E o As μ) := by
  intro a U g mk q
  obtain ⟨q0, q1, q2⟩ := q
  exact ⟨q0, q1, q2.same rfl⟩
/-- behind a call -/
theorem gm_after {p : Program} {l : Launch} {e : Env} {R : Room} {s : State} {m : MethodId} {args : Array Value} {below : List Frame} {meth : Method} {c : Code} {H : Heap} {locs : List Loc} {cells slots mc ms : Nat} {Q : State → Prop} {pc : Nat} {ls : Array Slot} {rest st0 : List Value} {E : gm_E} {o : Nat} {v : Option Value} {μ1 : gm_M} {a : Array Value}
    (hr : va_Run p l e R s m args below meth c H locs cells slots mc ms (F0 m pc ls st0) rest (gm_Qc E o v μ1 a) (fun q => o < q)) (hf : ∀ q ∈ locs, o < q.base)
    (kk : ∀ (H1 : Heap) (locs1 : List Loc), gm_C E o μ1 H1 → (∀ q ∈ locs1, o < q.base) → W p l e R s m args below meth c H1 locs1 (cells + mc) (slots + ms) Q (F0 m (pc + 3) ls ((v.map (gm_cv E o)).toList ++ rest))) : W p l e R s m args below meth c H locs cells slots Q (F0 m pc ls st0) := by
  intro T hT X
  obtain ⟨v', st₀, t, T', L, h0, X', hL, e1, e2, ⟨hv, hC⟩, st⟩ := hr T hT X
  cases hv
  obtain ⟨t2, a1, b1⟩ := kk T'.heap (locs ++ L) (by rw [e1]; exact hC) (fun q hq => by
    rcases List.mem_append.mp hq with h | h
    · exact hf q h
    · exact hL q h) T' rfl X'
  exact ⟨t2, st t2 a1, b1⟩
def gm_bI {β : Type} (z : Option (Option Value × gm_M)) (f : Int32 → gm_M → Option β) : Option β := match z with
  | some (some (.int x), μ) => f x μ
  | _ => none
def gm_bL {β : Type} (z : Option (Option Value × gm_M)) (f : Int64 → gm_M → Option β) : Option β := match z with
  | some (some (.long x), μ) => f x μ
  | _ => none
def gm_bV {β : Type} (z : Option (Option Value × gm_M)) (f : gm_M → Option β) : Option β := match z with
  | some (none, μ) => f μ
  | _ => none
/-- what comes behind a call: z from the callee's zc -/
def gm_K2 (own : String) (nm : gm_Nm) (cc : ByteArray) (nL : Nat) (rt : Option FieldType) (R : Room) (res : Option Value) (μe : gm_M) {β : Type} (k n : Nat) (pc : Nat) (L : List (Nat × Value)) (st : List Value) (zc : Option (Option Value × gm_M)) (z : Option β) (κ : β → Prop) : Prop :=
  (zc = none → z = none) ∧ ∀ v μ1, zc = some (v, μ1) → gm_A own nm cc nL rt R res μe k n μ1 pc L (v.toList ++ st) z κ
theorem gm_kI {zc : Option (Option Value × gm_M)} {f : Int32 → gm_M → Option β} (h : ∀ (x : Int32) (μ1 : gm_M), gm_A own nm cc nL rt R res μe k n μ1 pc L (.int x :: st) (f x μ1) κ) : gm_K2 own nm cc nL rt R res μe k n pc L st zc (gm_bI zc f) κ := by
  refine ⟨fun e => by rw [e]; rfl, fun v μ1 e => ?_⟩
  subst e
  cases v with
  | none => exact gm_no
  | some v => cases v <;> first | exact gm_no | exact h _ _
theorem gm_kL {zc : Option (Option Value × gm_M)} {f : Int64 → gm_M → Option β} (h : ∀ (x : Int64) (μ1 : gm_M), gm_A own nm cc nL rt R res μe k n μ1 pc L (.long x :: st) (f x μ1) κ) : gm_K2 own nm cc nL rt R res μe k n pc L st zc (gm_bL zc f) κ := by
  refine ⟨fun e => by rw [e]; rfl, fun v μ1 e => ?_⟩
  subst e
  cases v with
  | none => exact gm_no
  | some v => cases v <;> first | exact gm_no | exact h _ _
theorem gm_kV {zc : Option (Option Value × gm_M)} {f : gm_M → Option β} (h : ∀ (μ1 : gm_M), gm_A own nm cc nL rt R res μe k n μ1 pc L st (f μ1) κ) : gm_K2 own nm cc nL rt R res μe k n pc L st zc (gm_bV zc f) κ := by
  refine ⟨fun e => by rw [e]; rfl, fun v μ1 e => ?_⟩
  subst e
  cases v with
  | none => exact h _
  | some v => exact gm_no
theorem gm_ores (E : gm_E) (o : Nat) (v : Option Value) (st : List Value) : (v.map (gm_cv E o)).toList ++ st.map (gm_cv E o) = (v.toList ++ st).map (gm_cv E o) := by
  cases v <;> rfl
abbrev gm_nP (y : MethodName) (i : Nat) : Prop := (parseMethodDescriptor y.desc).map (fun d => d.parameters.length) = some i
theorem gm_len' {y : MethodName} {i : Nat} (h : gm_nP y i) : ∀ sig, parseMethodDescriptor y.desc = some sig → i = sig.parameters.length := by
  intro sig e
  unfold gm_nP at h
  rw [e] at h
  exact (Option.some.inj h).symm
theorem gm_st {E : gm_E} {o : Nat} (As st : List Value) : (As.reverse ++ st).map (gm_cv E o) = (As.map (gm_cv E o)).reverse ++ st.map (gm_cv E o) := by
  rw [List.map_append, List.map_reverse]
theorem gm_roomst {m : MethodId} {pc : Nat} {ls : Array Slot} {a st : List Value} {E : gm_E} {o : Nat} (h : (st.map fun v => v.category).sum ≤ 8) : 2 * (F0 m pc ls a).monitorRoom + ((st.map (gm_cv E o)).map fun v => v.category).sum ≤ 8 := by
  refine lv_room ?_
  rw [List.map_map]
  have e : ((fun v : Value => v.category) ∘ gm_cv E o) = fun v => v.category := by
    funext v
    exact gm_cv_cat E o v
  rw [e]
  exact h
theorem gm_cal {y : MethodName} {cc' : ByteArray} {nL' : Nat} {rt' : Option FieldType} {d' mc' ms' : Nat} {As' st : List Value} {zc : Option (Option Value × gm_M)} {index : Nat} {st0 : List Value} (hc : gm_Call y cc' nL' rt' d' mc' ms' As' μ zc)
    (hrun : ∀ (v : Option Value) (μ1 : gm_M) (p : Program) (l : Launch) (e : Env) (s : State) (m : MethodId) (args : Array Value) (below : List Frame) (meth : Method) (c : Code) (H : Heap) (locs : List Loc) (ls : Array Slot) (E : gm_E) (o : Nat), Met l y (.code y cc' nL' rt' :: gm_G) (gm_rm d' mc' ms') (gm_Pc E o As' μ) (gm_Qc E o v μ1) mc' ms' (fun q => o < q) → gm_X own nm cc nL rt E p s m args meth c → gm_C E o μ H → ls.size = nL → ∃ a : Array Value, va_Run p l e R s m args below meth c H locs k n mc' ms' (F0 m pc ls (st0.map (gm_cv E o))) (st.map (gm_cv E o)) (gm_Qc E o v μ1 a) (fun q => o < q))
    (kk : gm_K2 own nm cc nL rt R res μe (k + mc') (n + ms') (pc + 3) L st zc z κ) : gm_A own nm cc nL rt R res μe k n μ pc L st0 z κ := by
  intro b hz hk p l e s m args below meth c H locs ls E o X C hl hf
  obtain ⟨k0, k1⟩ := kk
  cases hzc : zc with
  | none => rw [k0 hzc] at hz; cases hz
  | some q =>
    obtain ⟨v, μ1⟩ := q
    have M := hc v μ1 hzc l E o
    obtain ⟨a, hr⟩ := hrun v μ1 p l e s m args below meth c H locs ls E o M X C hl.1
    refine gm_after hr hf fun H1 locs1 C1 hf1 => ?_
    rw [gm_ores]
    exact k1 v μ1 hzc b hz hk p l e s m args below meth c H1 locs1 ls E o X C1 hl hf1
/-- what the tables say of a method -/
def gm_BS (y : MethodName) (cc' : ByteArray) (nL' : Nat) (rt' : Option FieldType) (i : Nat) : Prop := (y.cls ≠ "java/lang/invoke/MethodHandle" ∧ y.cls ≠ "java/lang/invoke/VarHandle") ∧ gm_nP y i ∧ Jvm.Cond.static y ∈ gm_G ∧ Jvm.Cond.initialized y.cls ∈ gm_G ∧ Jvm.Cond.code y cc' nL' rt' ∈ gm_G
def gm_BI (y : MethodName) (cc' : ByteArray) (nL' : Nat) (rt' : Option FieldType) (i : Nat) : Prop := (y.cls ≠ "java/lang/invoke/MethodHandle" ∧ y.cls ≠ "java/lang/invoke/VarHandle") ∧ gm_nP y i ∧ Jvm.Cond.instanceMethod y ∈ gm_G ∧ Jvm.Cond.initialized y.cls ∈ gm_G ∧ Jvm.Cond.code y cc' nL' rt' ∈ gm_G
def gm_fit (R : Room) (k n mc' ms' d' nL' : Nat) : Bool := Nat.ble (d' + 1) R.frames && Nat.ble (8 + (nL' + 11) + 64 * d') R.locals && Nat.ble (k + mc') R.cells && Nat.ble (n + ms') R.slots
theorem gm_fits {R : Room} {k n mc' ms' d' nL' : Nat} (h : gm_fit R k n mc' ms' d' nL' = true) : d' + 1 ≤ R.frames ∧ 8 + (nL' + 11) + 64 * d' ≤ R.locals ∧ k + mc' ≤ R.cells ∧ n + ms' ≤ R.slots := by
  simp only [gm_fit, Bool.and_eq_true, Nat.ble_eq] at h
  exact ⟨h.1.1.1, h.1.1.2, h.1.2, h.2⟩
def gm_sum (st : List Value) : Bool := Nat.ble (st.map fun v => v.category).sum 8
theorem gm_sum8 {st : List Value} (h : gm_sum st = true) : (st.map fun v => v.category).sum ≤ 8 := Nat.ble_eq ▸ h
/-- a static method -/
theorem gm_callS {y : MethodName} {cc' : ByteArray} {nL' : Nat} {rt' : Option FieldType} {d' mc' ms' index : Nat} (As : List Value) {st st0 : List Value} {zc : Option (Option Value × gm_M)} (hc : gm_Call y cc' nL' rt' d' mc' ms' As μ zc) (hB : gm_BS y cc' nL' rt' As.length)
    (hw1 : Jvm.Cond.methodLink own index y ∈ gm_G) (hfit : gm_fit R k n mc' ms' d' nL' = true) (hst : st0 = As.reverse ++ st) (hsm : gm_sum st = true) (hd : decode cc pc = .ok (.invokestatic index, 3))
    (kk : gm_K2 own nm cc nL rt R res μe (k + mc') (n + ms') (pc + 3) L st zc z κ) : gm_A own nm cc nL rt R res μe k n μ pc L st0 z κ := by
  obtain ⟨hmh, hnp, hw2, hw3, hw4⟩ := hB
  obtain ⟨hR1, hR2, hk1, hn1⟩ := gm_fits hfit
  have hsum := gm_sum8 hsm
  refine gm_cal (index := index) hc (fun v μ1 p l e s m args below meth c H locs ls E o M X C hls => ?_) kk
  obtain ⟨hx, hb, hml, hr, hown, hts, hlk, hK, hnm⟩ := X
  subst hst
  rw [gm_st]
  have cb : CallB R s args own index y cc' nL' rt' (.code y cc' nL' rt' :: gm_G) (gm_rm d' mc' ms') mc' ms' As.length := ⟨rfl, rfl, hR1, hR2, gm_pay hts hw4, List.mem_cons_self, hts _ hw4, hts _ hw3, hmh, gm_len' hnp, hts _ hw1⟩
  exact ⟨_, va_runS ⟨hx, hb, hml, hown, hts⟩ M ⟨cb, hts _ hw2⟩ ⟨gm_blind E o As μ, fun U hU hW => ⟨rfl, by rw [hU]; exact C, hK.warm hW⟩⟩ rfl (by rw [List.length_map]) hls rfl (gm_roomst hsum) hd ⟨hk1, hn1⟩⟩
theorem gm_recv {E : gm_E} {s : State} {o r k0 : Nat} {μ : gm_M} {H : Heap} {q : vw_C} (hK : gm_K E s) (C : gm_C E o μ H) (ht : gm_tag μ r = k0 + 5) (hc : gm_cls[k0]? = some q) : gm_rv o r = .ref (o + r) ∧ ∃ cell : Cell, H[o + r]? = some cell ∧ cell.vm.isStatics = false ∧ s.vm.findClass q.1 = some cell.cls := by
  obtain ⟨h0, cell, g1, g2, g3, -⟩ := gm_Cobj C (gm_at (t := k0 + 4) ht) hc
  exact ⟨if_neg h0, cell, g1, by rw [g3]; rfl, by rw [g2]; exact (hK.1.1 k0 q hc).2.1⟩
/-- a method of the receiver's own class -/
theorem gm_callV {y : MethodName} {cc' : ByteArray} {nL' : Nat} {rt' : Option FieldType} {d' mc' ms' index k0 r : Nat} {q : vw_C} (As : List Value) {st st0 : List Value} {zc : Option (Option Value × gm_M)} (hc : gm_Call y cc' nL' rt' d' mc' ms' (.ref r :: As) μ zc) (ht : gm_tag μ r = k0 + 5) (hcl : gm_cls[k0]? = some q) (hB : gm_BI y cc' nL' rt' As.length)
    (hw1 : Jvm.Cond.methodLink own index y ∈ gm_G) (hw5 : Jvm.Cond.selects q.1 y y ∈ gm_G) (hfit : gm_fit R k n mc' ms' d' nL' = true) (hst : st0 = As.reverse ++ .ref r :: st) (hsm : gm_sum st = true) (hd : decode cc pc = .ok (.invokevirtual index, 3))
    (kk : gm_K2 own nm cc nL rt R res μe (k + mc') (n + ms') (pc + 3) L st zc z κ) : gm_A own nm cc nL rt R res μe k n μ pc L st0 z κ := by
  obtain ⟨hmh, hnp, hw2, hw3, hw4⟩ := hB
  obtain ⟨hR1, hR2, hk1, hn1⟩ := gm_fits hfit
  have hsum := gm_sum8 hsm
  refine gm_cal (index := index) hc (fun v μ1 p l e s m args below meth c H locs ls E o M X C hls => ?_) kk
  obtain ⟨hx, hb, hml, hr, hown, hts, hlk, hK, hnm⟩ := X
  subst hst
  obtain ⟨er, hrc⟩ := gm_recv hK C ht hcl
  rw [gm_st]
  have cb : CallB R s args own index y cc' nL' rt' (.code y cc' nL' rt' :: gm_G) (gm_rm d' mc' ms') mc' ms' As.length := ⟨rfl, rfl, hR1, hR2, gm_pay hts hw4, List.mem_cons_self, hts _ hw4, hts _ hw3, hmh, gm_len' hnp, hts _ hw1⟩
  refine ⟨_, va_runV (b := o + r) (As := As.map (gm_cv E o)) ⟨hx, hb, hml, hown, hts⟩ M ⟨cb, hts _ hw2, hts _ hw5⟩ ⟨gm_blind E o _ μ, hrc, fun U hU hW => ⟨?_, by rw [hU]; exact C, hK.warm hW⟩⟩ rfl (by rw [List.length_map]) hls ?_ (gm_roomst hsum) hd ⟨hk1, hn1⟩⟩
  · show (Value.ref (o + r) :: As.map (gm_cv E o)).toArray = (gm_rv o r :: As.map (gm_cv E o)).toArray
    rw [er]
  · show (As.map (gm_cv E o)).reverse ++ (gm_rv o r :: st.map (gm_cv E o)) = _
    rw [er]
/-- an inherited or overriding method -/
theorem gm_callU {x y : MethodName} {owner : String} {cc' b0 : ByteArray} {nL' m0 : Nat} {rt' r0 : Option FieldType} {d' mc' ms' index k0 r : Nat} {q : vw_C} (As : List Value) {st st0 : List Value} {zc : Option (Option Value × gm_M)} (hc : gm_Call y cc' nL' rt' d' mc' ms' (.ref r :: As) μ zc) (ht : gm_tag μ r = k0 + 5) (hcl : gm_cls[k0]? = some q) (hmh : owner ≠ "java/lang/invoke/MethodHandle" ∧ owner ≠ "java/lang/invoke/VarHandle") (hnx : gm_nP x As.length) (hB : gm_BI y cc' nL' rt' As.length)
    (hw1 : Jvm.Cond.methodLink own index x ∈ gm_G) (hw6 : Jvm.Cond.sameMethod x.cls owner x.name x.desc ∈ gm_G) (hw7 : Jvm.Cond.instanceMethod ⟨owner, x.name, x.desc⟩ ∈ gm_G) (hw8 : Jvm.Cond.code ⟨owner, x.name, x.desc⟩ b0 m0 r0 ∈ gm_G) (hw5 : Jvm.Cond.selects q.1 x y ∈ gm_G) (hfit : gm_fit R k n mc' ms' d' nL' = true) (hst : st0 = As.reverse ++ .ref r :: st) (hsm : gm_sum st = true) (hd : decode cc pc = .ok (.invokevirtual index, 3))
    (kk : gm_K2 own nm cc nL rt R res μe (k + mc') (n + ms') (pc + 3) L st zc z κ) : gm_A own nm cc nL rt R res μe k n μ pc L st0 z κ := by
  obtain ⟨-, hnp, hw2, hw3, hw4⟩ := hB
  obtain ⟨hR1, hR2, hk1, hn1⟩ := gm_fits hfit
  have hsum := gm_sum8 hsm
  refine gm_cal (index := index) hc (fun v μ1 p l e s m args below meth c H locs ls E o M X C hls => ?_) kk
  obtain ⟨hx, hb, hml, hr, hown, hts, hlk, hK, hnm⟩ := X
  subst hst
  obtain ⟨er, hrc⟩ := gm_recv hK C ht hcl
  rw [gm_st]
  have cu : va_CU R s args own q.1 owner index x y cc' nL' rt' (.code y cc' nL' rt' :: gm_G) (gm_rm d' mc' ms') mc' ms' As.length := ⟨⟨rfl, rfl, hR1, hR2, gm_pay hts hw4, List.mem_cons_self⟩, hts _ hw4, hts _ hw3, hmh, gm_len' hnx, hts _ hw1, hts _ hw6, va_Decl.of (hts _ hw7) (hts _ hw8), hts _ hw5, hts _ hw2⟩
  refine ⟨_, va_runU (b := o + r) (As := As.map (gm_cv E o)) ⟨hx, hb, hml, hown, hts⟩ M cu ⟨gm_blind E o _ μ, hrc, fun U hU hW => ⟨?_, by rw [hU]; exact C, hK.warm hW⟩⟩ rfl (by rw [List.length_map]) hls ?_ (gm_roomst hsum) hd ⟨hk1, hn1⟩⟩
  · show (Value.ref (o + r) :: As.map (gm_cv E o)).toArray = (gm_rv o r :: As.map (gm_cv E o)).toArray
    rw [er]
  · show (As.map (gm_cv E o)).reverse ++ (gm_rv o r :: st.map (gm_cv E o)) = _
    rw [er]
def gm_Any (ks : List Nat) : Prop := ∀ t ∈ ks, ∃ (k : Nat) (q : vw_C), t = k + 5 ∧ gm_cls[k]? = some q
/-- super's method -/
theorem gm_callSU {y : MethodName} {cc' : ByteArray} {nL' : Nat} {rt' : Option FieldType} {d' mc' ms' index r : Nat} {ks : List Nat} (As : List Value) {st st0 : List Value} {zc : Option (Option Value × gm_M)} (hc : gm_Call y cc' nL' rt' d' mc' ms' (.ref r :: As) μ zc) (hks : ks.contains (gm_tag μ r) = true) (hall : gm_Any ks) (hni : y.name ≠ "<init>") (hB : gm_BI y cc' nL' rt' As.length)
    (hw1 : Jvm.Cond.methodLink own index y ∈ gm_G) (hw6 : Jvm.Cond.sameMethod y.cls y.cls y.name y.desc ∈ gm_G) (hw7 : Jvm.Cond.superclass own y.cls ∈ gm_G) (hfit : gm_fit R k n mc' ms' d' nL' = true) (hst : st0 = As.reverse ++ .ref r :: st) (hsm : gm_sum st = true) (hd : decode cc pc = .ok (.invokespecial index, 3))
    (kk : gm_K2 own nm cc nL rt R res μe (k + mc') (n + ms') (pc + 3) L st zc z κ) : gm_A own nm cc nL rt R res μe k n μ pc L st0 z κ := by
  obtain ⟨hmh, hnp, hw2, hw3, hw4⟩ := hB
  obtain ⟨hR1, hR2, hk1, hn1⟩ := gm_fits hfit
  have hsum := gm_sum8 hsm
  obtain ⟨k0, q, ht, hcl⟩ := hall _ (List.contains_iff_mem.mp hks)
  refine gm_cal (index := index) hc (fun v μ1 p l e s m args below meth c H locs ls E o M X C hls => ?_) kk
  obtain ⟨hx, hb, hml, hr, hown, hts, hlk, hK, hnm⟩ := X
  subst hst
  obtain ⟨er, hrc⟩ := gm_recv hK C ht hcl
  rw [gm_st]
  have cs : va_CS R s args own index y cc' nL' rt' (.code y cc' nL' rt' :: gm_G) (gm_rm d' mc' ms') mc' ms' As.length := ⟨⟨rfl, rfl, hR1, hR2, gm_pay hts hw4, List.mem_cons_self⟩, hts _ hw1, hts _ hw6, hts _ hw7, hts _ hw2, hts _ hw3, hts _ hw4, hni, gm_len' hnp⟩
  refine ⟨_, va_runSU (b := o + r) (As := As.map (gm_cv E o)) (hK.1.1 k0 q hcl).2 ⟨hx, hb, hml, hown, hts⟩ M cs ⟨gm_blind E o _ μ, hrc, fun U hU hW => ⟨?_, by rw [hU]; exact C, hK.warm hW⟩⟩ rfl (by rw [List.length_map]) hls ?_ (gm_roomst hsum) hd ⟨hk1, hn1⟩⟩
  · show (Value.ref (o + r) :: As.map (gm_cv E o)).toArray = (gm_rv o r :: As.map (gm_cv E o)).toArray
    rw [er]
  · show (As.map (gm_cv E o)).reverse ++ (gm_rv o r :: st.map (gm_cv E o)) = _
    rw [er]
/-- super's inherited method -/
theorem gm_callSU2 {y : MethodName} {C1 : String} {cc' : ByteArray} {nL' : Nat} {rt' : Option FieldType} {d' mc' ms' index r : Nat} {ks : List Nat} (As : List Value) {st st0 : List Value} {zc : Option (Option Value × gm_M)} (hc : gm_Call y cc' nL' rt' d' mc' ms' (.ref r :: As) μ zc) (hks : ks.contains (gm_tag μ r) = true) (hall : gm_Any ks) (hni : y.name ≠ "<init>") (hB : gm_BI y cc' nL' rt' As.length)
    (hw1 : Jvm.Cond.methodLink own index ⟨C1, y.name, y.desc⟩ ∈ gm_G) (hw6 : Jvm.Cond.sameMethod C1 y.cls y.name y.desc ∈ gm_G) (hw7 : Jvm.Cond.superclass own C1 ∈ gm_G) (hw8 : Jvm.Cond.superclass C1 y.cls ∈ gm_G) (hfit : gm_fit R k n mc' ms' d' nL' = true) (hst : st0 = As.reverse ++ .ref r :: st) (hsm : gm_sum st = true) (hd : decode cc pc = .ok (.invokespecial index, 3))
    (kk : gm_K2 own nm cc nL rt R res μe (k + mc') (n + ms') (pc + 3) L st zc z κ) : gm_A own nm cc nL rt R res μe k n μ pc L st0 z κ := by
  obtain ⟨hmh, hnp, hw2, hw3, hw4⟩ := hB
  obtain ⟨hR1, hR2, hk1, hn1⟩ := gm_fits hfit
  have hsum := gm_sum8 hsm
  obtain ⟨k0, q, ht, hcl⟩ := hall _ (List.contains_iff_mem.mp hks)
  refine gm_cal (index := index) hc (fun v μ1 p l e s m args below meth c H locs ls E o M X C hls => ?_) kk
  obtain ⟨hx, hb, hml, hr, hown, hts, hlk, hK, hnm⟩ := X
  subst hst
  obtain ⟨er, hrc⟩ := gm_recv hK C ht hcl
  rw [gm_st]
  refine ⟨_, gm_runSU2 (b := o + r) (As := As.map (gm_cv E o)) (ws := .code y cc' nL' rt' :: gm_G) (rm := gm_rm d' mc' ms') (n := As.length) (hK.1.1 k0 q hcl).2 ⟨hx, hb, hml, hown, hts⟩ M rfl rfl hR1 hR2 (gm_pay hts hw4) List.mem_cons_self (hts _ hw1) (hts _ hw6) (hts _ hw7) (hts _ hw8) (hts _ hw2) (hts _ hw3) (hts _ hw4) hni (gm_len' hnp) ⟨gm_blind E o _ μ, hrc, fun U hU hW => ⟨?_, by rw [hU]; exact C, hK.warm hW⟩⟩ rfl (by rw [List.length_map]) hls ?_ (gm_roomst hsum) hd ⟨hk1, hn1⟩⟩
  · show (Value.ref (o + r) :: As.map (gm_cv E o)).toArray = (gm_rv o r :: As.map (gm_cv E o)).toArray
    rw [er]
  · show (As.map (gm_cv E o)).reverse ++ (gm_rv o r :: st.map (gm_cv E o)) = _
    rw [er]
/-- a constructor -/
theorem gm_callI {y : MethodName} {cc' : ByteArray} {nL' d' mc' ms' index r : Nat} (As : List Value) {st st0 : List Value} {zc : Option (Option Value × gm_M)} (hc : gm_Call y cc' nL' none d' mc' ms' (.ref r :: As) μ zc) (ht0 : gm_tag μ r ≠ 0) (hni : y.name = "<init>") (hB : gm_BI y cc' nL' none As.length)
    (hw1 : Jvm.Cond.methodLink own index y ∈ gm_G) (hfit : gm_fit R k n mc' ms' d' nL' = true) (hst : st0 = As.reverse ++ .ref r :: st) (hsm : gm_sum st = true) (hd : decode cc pc = .ok (.invokespecial index, 3))
    (kk : gm_K2 own nm cc nL rt R res μe (k + mc') (n + ms') (pc + 3) L st zc z κ) : gm_A own nm cc nL rt R res μe k n μ pc L st0 z κ := by
  obtain ⟨hmh, hnp, hw2, hw3, hw4⟩ := hB
  obtain ⟨hR1, hR2, hk1, hn1⟩ := gm_fits hfit
  have hsum := gm_sum8 hsm
  refine gm_cal (index := index) hc (fun v μ1 p l e s m args below meth c H locs ls E o M X C hls => ?_) kk
  obtain ⟨hx, hb, hml, hr, hown, hts, hlk, hK, hnm⟩ := X
  subst hst
  have hr0 := gm_ne0' C ht0
  have er : gm_rv o r = .ref (o + r) := if_neg hr0
  rw [gm_st]
  have cb : CallB R s args own index y cc' nL' none (.code y cc' nL' none :: gm_G) (gm_rm d' mc' ms') mc' ms' As.length := ⟨rfl, rfl, hR1, hR2, gm_pay hts hw4, List.mem_cons_self, hts _ hw4, hts _ hw3, hmh, gm_len' hnp, hts _ hw1⟩
  refine ⟨_, va_runI (b := o + r) (As := As.map (gm_cv E o)) ⟨hx, hb, hml, hown, hts⟩ M ⟨cb, hni, hts _ hw2⟩ ⟨gm_blind E o _ μ, fun U hU hW => ⟨?_, by rw [hU]; exact C, hK.warm hW⟩⟩ rfl (by rw [List.length_map]) hls ?_ (gm_roomst hsum) hd ⟨hk1, hn1⟩⟩
  · show (Value.ref (o + r) :: As.map (gm_cv E o)).toArray = (gm_rv o r :: As.map (gm_cv E o)).toArray
    rw [er]
  · show (As.map (gm_cv E o)).reverse ++ (gm_rv o r :: st.map (gm_cv E o)) = _
    rw [er]
/-- a nest mate's private constructor -/
theorem gm_callIN {y : MethodName} {host : String} {cc' : ByteArray} {nL' d' mc' ms' index r : Nat} (As : List Value) {st st0 : List Value} {zc : Option (Option Value × gm_M)} (hc : gm_Call y cc' nL' none d' mc' ms' (.ref r :: As) μ zc) (ht0 : gm_tag μ r ≠ 0) (hni : y.name = "<init>") (hB : gm_BI y cc' nL' none As.length)
    (hw1 : Jvm.Cond.methodLinkNest own index y host = gm_N1 ∨ Jvm.Cond.methodLinkNest own index y host = gm_N2) (hfit : gm_fit R k n mc' ms' d' nL' = true) (hst : st0 = As.reverse ++ .ref r :: st) (hsm : gm_sum st = true) (hd : decode cc pc = .ok (.invokespecial index, 3))
    (kk : gm_K2 own nm cc nL rt R res μe (k + mc') (n + ms') (pc + 3) L st zc z κ) : gm_A own nm cc nL rt R res μe k n μ pc L st0 z κ := by
  obtain ⟨hmh, hnp, hw2, hw3, hw4⟩ := hB
  obtain ⟨hR1, hR2, hk1, hn1⟩ := gm_fits hfit
  have hsum := gm_sum8 hsm
  refine gm_cal (index := index) hc (fun v μ1 p l e s m args below meth c H locs ls E o M X C hls => ?_) kk
  obtain ⟨hx, hb, hml, hr, hown, hts, hlk, hK, hnm⟩ := X
  subst hst
  have hr0 := gm_ne0' C ht0
  have er : gm_rv o r = .ref (o + r) := if_neg hr0
  have hlink : va_Nw (.methodLinkNest own index y host) s := by
    rcases hw1 with e | e <;> rw [e]
    · exact hK.2.2.2.2.1
    · exact hK.2.2.2.2.2.1
  rw [gm_st]
  have cn : va_CN R s args own index y host cc' nL' none (.code y cc' nL' none :: gm_G) (gm_rm d' mc' ms') mc' ms' As.length := ⟨⟨rfl, rfl, hR1, hR2, gm_pay hts hw4, List.mem_cons_self⟩, hts _ hw4, hts _ hw3, hmh, gm_len' hnp, va_Nw.use rfl hlink⟩
  refine ⟨_, va_runIN (b := o + r) (As := As.map (gm_cv E o)) ⟨hx, hb, hml, hown, hts⟩ M ⟨cn, hni, hts _ hw2⟩ ⟨gm_blind E o _ μ, fun U hU hW => ⟨?_, by rw [hU]; exact C, hK.warm hW⟩⟩ rfl (by rw [List.length_map]) hls ?_ (gm_roomst hsum) hd ⟨hk1, hn1⟩⟩
  · show (Value.ref (o + r) :: As.map (gm_cv E o)).toArray = (gm_rv o r :: As.map (gm_cv E o)).toArray
    rw [er]
  · show (As.map (gm_cv E o)).reverse ++ (gm_rv o r :: st.map (gm_cv E o)) = _
    rw [er]
/-- Object's constructor -/
theorem gm_obj {idx r : Nat} (ht0 : gm_tag μ r ≠ 0) (hw1 : Jvm.Cond.methodLink own idx Lib.objectInit ∈ gm_G) (hw2 : Jvm.Cond.instanceMethod Lib.objectInit ∈ gm_G) (hw3 : Jvm.Cond.code Lib.objectInit ⟨#[0xb1]⟩ 1 none ∈ gm_G) (hR1 : 1 ≤ R.frames) (hR2 : 64 ≤ R.locals) (hsm : gm_sum st = true) (hd : decode cc pc = .ok (.invokespecial idx, 3))
    (kk : gm_A own nm cc nL rt R res μe k n μ (pc + 3) L st z κ) : gm_A own nm cc nL rt R res μe k n μ pc L (.ref r :: st) z κ := by
  have hsum := gm_sum8 hsm
  intro b hz hk p l e s m args below meth c H locs ls E o X C hl hf
  have kk := kk b hz hk p l e s m args below meth c H locs ls E o X C hl hf
  obtain ⟨hx, hb, hml, hr, hown, hts, hlk, hK, hnm⟩ := X
  have hr0 := gm_ne0' C ht0
  have er : gm_rv o r = .ref (o + r) := if_neg hr0
  show W p l e R s m args below meth c H locs k n _ (F0 m pc ls (gm_rv o r :: st.map (gm_cv E o)))
  rw [er]
  refine W.objInit hx hb hown (hts _ hw1) (hts _ hw2) (hts _ hw3) rfl (by rw [hml]; exact hl.1) rfl hd hR1 ?_ ?_
  · have h := gm_roomst (m := m) (pc := pc) (ls := ls) (a := []) (E := E) (o := o) hsum
    have h2 : 2 * (F0 m pc ls []).monitorRoom = 0 := rfl
    show 2 * 0 + _ + 12 ≤ _
    omega
  · exact kk
/-- Math.max, Math.min -/
theorem gm_max {idx : Nat} {x y : Int32} (hw1 : Jvm.Cond.methodLink own idx Lib.Math.max.name ∈ gm_G) (hw2 : Jvm.Cond.static Lib.Math.max.name ∈ gm_G) (hw3 : Jvm.Cond.initialized "java/lang/Math" ∈ gm_G) (hw4 : Jvm.Cond.code Lib.Math.max.name Lib.Math.max.code 2 (some .int) ∈ gm_G) (hR1 : 1 ≤ R.frames) (hR2 : 64 ≤ R.locals) (hk1 : k ≤ R.cells) (hn1 : n ≤ R.slots) (hsm : gm_sum st = true) (hd : decode cc pc = .ok (.invokestatic idx, 3))
    (kk : gm_A own nm cc nL rt R res μe k n μ (pc + 3) L (.int (if x < y then y else x) :: st) z κ) : gm_A own nm cc nL rt R res μe k n μ pc L (.int y :: .int x :: st) z κ := by
  have hsum := gm_sum8 hsm
  intro b hz hk p l e s m args below meth c H locs ls E o X C hl hf
  have kk := kk b hz hk p l e s m args below meth c H locs ls E o X C hl hf
  obtain ⟨hx, hb, hml, hr, hown, hts, hlk, hK, hnm⟩ := X
  have h := gm_roomst (m := m) (pc := pc) (ls := ls) (a := []) (E := E) (o := o) hsum
  have h2 : 2 * (F0 m pc ls []).monitorRoom = 0 := rfl
  exact va_mmax hx hb (hml.trans hl.1.symm) hown (hts _ hw1) (hts _ hw2) (hts _ hw3) (hts _ hw4) hR1 (by omega) hk1 hn1 hd kk
theorem gm_min {idx : Nat} {x y : Int32} (hw1 : Jvm.Cond.methodLink own idx Lib.Math.min.name ∈ gm_G) (hw2 : Jvm.Cond.static Lib.Math.min.name ∈ gm_G) (hw3 : Jvm.Cond.initialized "java/lang/Math" ∈ gm_G) (hw4 : Jvm.Cond.code Lib.Math.min.name Lib.Math.min.code 2 (some .int) ∈ gm_G) (hR1 : 1 ≤ R.frames) (hR2 : 64 ≤ R.locals) (hk1 : k ≤ R.cells) (hn1 : n ≤ R.slots) (hsm : gm_sum st = true) (hd : decode cc pc = .ok (.invokestatic idx, 3))
    (kk : gm_A own nm cc nL rt R res μe k n μ (pc + 3) L (.int (if y < x then y else x) :: st) z κ) : gm_A own nm cc nL rt R res μe k n μ pc L (.int y :: .int x :: st) z κ := by
  have hsum := gm_sum8 hsm
  intro b hz hk p l e s m args below meth c H locs ls E o X C hl hf
  have kk := kk b hz hk p l e s m args below meth c H locs ls E o X C hl hf
  obtain ⟨hx, hb, hml, hr, hown, hts, hlk, hK, hnm⟩ := X
  have h := gm_roomst (m := m) (pc := pc) (ls := ls) (a := []) (E := E) (o := o) hsum
  have h2 : 2 * (F0 m pc ls []).monitorRoom = 0 := rfl
  exact va_mmin hx hb (hml.trans hl.1.symm) hown (hts _ hw1) (hts _ hw2) (hts _ hw3) (hts _ hw4) hR1 (by omega) hk1 hn1 hd kk

/-- System.arraycopy over rows of ints -/
def gm_cp {β : Type} (μ : gm_M) (src : Nat) (sp : Int32) (dst : Nat) (dp i : Int32) (f : gm_M → Option β) : Option β :=
  if src ≠ dst ∧ gm_tag μ src = 1 ∧ gm_tag μ dst = 1 ∧ ¬ sp < 0 ∧ ¬ dp < 0 ∧ ¬ i < 0 ∧ sp.toNatClampNeg + i.toNatClampNeg ≤ gm_len μ src ∧ dp.toNatClampNeg + i.toNatClampNeg ≤ gm_len μ dst
  then f (μ.1, (fun a k => if a = dst then va_cpy (μ.2.1 src) (μ.2.1 dst) sp.toNatClampNeg dp.toNatClampNeg i.toNatClampNeg k else μ.2.1 a k), μ.2.2) else none
theorem gm_copy {idx src dst : Nat} {sp dp i : Int32} {f : gm_M → Option β} (hw1 : Jvm.Cond.methodLink own idx arraycopyName ∈ gm_G) (hw2 : Jvm.Cond.native arraycopyName ∈ gm_G) (hw3 : Jvm.Cond.static arraycopyName ∈ gm_G) (hw4 : Jvm.Cond.initialized "java/lang/System" ∈ gm_G) (hR1 : 1 ≤ R.frames) (hR2 : 64 ≤ R.locals) (hsm : gm_sum st = true) (hd : decode cc pc = .ok (.invokestatic idx, 3))
    (kk : ∀ μ' : gm_M, μ' = (μ.1, (fun a k => if a = dst then va_cpy (μ.2.1 src) (μ.2.1 dst) sp.toNatClampNeg dp.toNatClampNeg i.toNatClampNeg k else μ.2.1 a k), μ.2.2) → gm_A own nm cc nL rt R res μe k n μ' (pc + 3) L st (f μ') κ) : gm_A own nm cc nL rt R res μe k n μ pc L (.int i :: .int dp :: .ref dst :: .int sp :: .ref src :: st) (gm_cp μ src sp dst dp i f) κ := by
  have hsum := gm_sum8 hsm
  intro b hz hk p l e s m args below meth c H locs ls E o X C hl hf
  unfold gm_cp at hz
  by_cases hc : src ≠ dst ∧ gm_tag μ src = 1 ∧ gm_tag μ dst = 1 ∧ ¬ sp < 0 ∧ ¬ dp < 0 ∧ ¬ i < 0 ∧ sp.toNatClampNeg + i.toNatClampNeg ≤ gm_len μ src ∧ dp.toNatClampNeg + i.toNatClampNeg ≤ gm_len μ dst
  · rw [if_pos hc] at hz
    obtain ⟨hne, ht0, ht1, h1, h2, h3, h4, h5⟩ := hc
    have kk := fun H1 locs1 C1 hf1 => kk _ rfl b hz hk p l e s m args below meth c H1 locs1 ls E o X C1 hl hf1
    obtain ⟨hx, hb, hml, -, hown, hts, hlk, hK, hnm⟩ := X
    have hr0 := gm_at (t := 0) ht0
    have hr1 := gm_at (t := 0) ht1
    have c0 : H[o + src]? = some (vp_cell (E.2.1 1) (gm_len μ src, .inl (μ.2.1 src))) := C.2.2.2 src _ _ hr0
    have c1 : H[o + dst]? = some (vp_cell (E.2.1 1) (gm_len μ dst, .inl (μ.2.1 dst))) := C.2.2.2 dst _ _ hr1
    have z1 := gm_ne0 C hr1
    have e0 : gm_rv o src = .ref (o + src) := if_neg (gm_ne0 C hr0)
    have e1 : gm_rv o dst = .ref (o + dst) := if_neg z1
    show W p l e R s m args below meth c H locs k n _ (F0 m pc ls (.int i :: .int dp :: gm_rv o dst :: .int sp :: gm_rv o src :: st.map (gm_cv E o)))
    rw [e0, e1]
    have nn : ∀ z : Int32, ¬ z < 0 → z.toInt = (z.toNatClampNeg : Int) := by
      intro z hz
      have hz0 : (0 : Int) ≤ z.toInt := by
        have := Int32.not_lt.mp hz
        simpa using Int32.le_iff_toInt_le.mp this
      show z.toInt = ((z.toInt.toNat : Nat) : Int)
      omega
    have hst := gm_roomst (m := m) (pc := pc) (ls := ls) (a := []) (E := E) (o := o) hsum
    have hst2 : 2 * (F0 m pc ls []).monitorRoom = 0 := rfl
    have hnw : nativeFrameWords "java/lang/System" "arraycopy" 5 + 11 ≤ 40 := by decide +kernel
    intro T hT X
    obtain ⟨-, k0, hk0, cm0, hkk0⟩ := gm_arrI hK (gm_len μ src) (fun j => .int (μ.2.1 src j))
    obtain ⟨-, k1, hk1, cm1, hkk1⟩ := gm_arrI hK (gm_len μ dst) (fun j => .int (μ.2.1 dst j))
    obtain ⟨vm', X', step⟩ := X.arraycopy hx hown (hts _ hw1) (hts _ hw2) (hts _ hw3) (hts _ hw4) (src := o + src) (dst := o + dst) (cs := vp_cell (E.2.1 1) (gm_len μ src, .inl (μ.2.1 src))) (cd := vp_cell (E.2.1 1) (gm_len μ dst, .inl (μ.2.1 dst))) (srcPos := sp) (destPos := dp) (n := i) (by rw [hT]; exact c0) (by rw [hT]; exact c1)
      (fun _ h => by cases h) (fun _ h => by cases h) (fun h => by cases h) (fun h => by cases h) hk0 hk1 hkk0 hkk1 (by simp [refKind]) h1 h2 h3
      (by rw [nn sp h1, nn i h3]; show ¬ _ > ((arrV (E.2.1 1) (gm_len μ src) (fun j => .int (μ.2.1 src j))).slots.size : Int); rw [arrV_size]; omega)
      (by rw [nn dp h2, nn i h3]; show ¬ _ > ((arrV (E.2.1 1) (gm_len μ dst) (fun j => .int (μ.2.1 dst j))).slots.size : Int); rw [arrV_size]; omega)
      (fun vm₁ _ j hj => by
        have ee : (vp_cell (E.2.1 1) (gm_len μ src, .inl (μ.2.1 src))).slots.getD (sp.toNatClampNeg + j) .null = .int (μ.2.1 src (sp.toNatClampNeg + j)) := by
          show (arrV (E.2.1 1) (gm_len μ src) (fun j => .int (μ.2.1 src j))).slots.getD _ _ = _
          rw [Array.getD_eq_getD_getElem?, arrV_read _ _ (by omega)]
          rfl
        refine ⟨?_, ?_⟩
        · rw [ee]
          rfl
        · rw [ee]
          exact trivial)
      (g := F0 m pc ls (.int i :: .int dp :: .ref (o + dst) :: .int sp :: .ref (o + src) :: st.map (gm_cv E o))) rfl (by rw [hml]; exact hl.1) (rest := st.map (gm_cv E o)) rfl (by rw [hb]; exact hd) hR1 (by show 2 * 0 + _ + _ ≤ _; omega)
    have ec : copied (vp_cell (E.2.1 1) (gm_len μ src, .inl (μ.2.1 src))) (vp_cell (E.2.1 1) (gm_len μ dst, .inl (μ.2.1 dst))) sp dp i = vp_cell (E.2.1 1) (gm_len μ dst, .inl (va_cpy (μ.2.1 src) (μ.2.1 dst) sp.toNatClampNeg dp.toNatClampNeg i.toNatClampNeg)) := va_copied (fun z => .int z) _ _ (μ.2.1 src) (μ.2.1 dst) h4
    rw [ec] at X' step
    have hlt : o + dst < H.size := (Array.getElem?_eq_some_iff.mp c1).1
    generalize hN : vp_cell (E.2.1 1) (gm_len μ dst, .inl (va_cpy (μ.2.1 src) (μ.2.1 dst) sp.toNatClampNeg dp.toNatClampNeg i.toNatClampNeg)) = newc at X' step
    have hheap : ((T.setVm vm').setCell (o + dst) newc).heap = H.setIfInBounds (o + dst) newc := by rw [← hT]; rfl
    have C1 : gm_C E o (μ.1, (fun a k => if a = dst then va_cpy (μ.2.1 src) (μ.2.1 dst) sp.toNatClampNeg dp.toNatClampNeg i.toNatClampNeg k else μ.2.1 a k), μ.2.2) (H.setIfInBounds (o + dst) newc) := by
      refine C.put hr1 rfl (fun a ha => ?_) (fun _ _ => rfl) (by simp) (fun q hq => by simp [Array.getElem?_setIfInBounds, Ne.symm hq]) ?_
      · funext x
        exact if_neg ha
      · show (H.setIfInBounds (o + dst) newc)[o + dst]? = some (arrV (E.2.1 1) (gm_len μ dst) (fun j => .int (if dst = dst then va_cpy (μ.2.1 src) (μ.2.1 dst) sp.toNatClampNeg dp.toNatClampNeg i.toNatClampNeg j else μ.2.1 dst j)))
        simp only [if_true]
        rw [← hN]
        simp [Array.getElem?_setIfInBounds, hlt, vp_cell]
    obtain ⟨t, a1, b1⟩ := kk (H.setIfInBounds (o + dst) newc) _ C1 (fun q hq => by
      rcases List.mem_append.mp hq with h | h
      · exact hf q h
      · obtain ⟨z, -, hz⟩ := List.mem_map.mp h
        rw [← hz]
        show o < o + dst
        omega) _ hheap X'
    exact ⟨t, step t a1, b1⟩
  · rw [if_neg hc] at hz
    cases hz

/-- instanceof -/
def gm_io {β : Type} (μ : gm_M) (ys ns : List Nat) (r : Nat) (f : Int32 → Option β) : Option β := if ys.contains (gm_tag μ r) then f 1 else if ns.contains (gm_tag μ r) then f 0 else none
def gm_Yes (ks : List Nat) (C : String) : Prop := ∀ t ∈ ks, ∃ (k : Nat) (q : vw_C), t = k + 5 ∧ gm_cls[k]? = some q ∧ (q.1, C) ∈ gm_yes
def gm_No (ks : List Nat) (C : String) : Prop := ∀ t ∈ ks, ∃ (k : Nat) (q : vw_C), t = k + 5 ∧ gm_cls[k]? = some q ∧ (q.1, C) ∈ gm_no0
theorem gm_inst {index r : Nat} {C : String} {ys ns : List Nat} {f : Int32 → Option β} (hY : gm_Yes ys C) (hN : gm_No ns C) (hw : Jvm.Cond.classLink own index C ∈ gm_G) (hd : decode cc pc = .ok (.instanceof index, 3)) (kk : ∀ x : Int32, gm_A own nm cc nL rt R res μe k n μ (pc + 3) L (.int x :: st) (f x) κ) : gm_A own nm cc nL rt R res μe k n μ pc L (.ref r :: st) (gm_io μ ys ns r f) κ := by
  intro b hz hk p l e s m args below meth c H locs ls E o X Cc hl hf
  unfold gm_io at hz
  have kk := fun x hz => kk x b hz hk p l e s m args below meth c H locs ls E o X Cc hl hf
  obtain ⟨hx, hb, hml, hr, hown, hts, hlk, hK, hnm⟩ := X
  show W p l e R s m args below meth c H locs k n _ (F0 m pc ls (gm_rv o r :: st.map (gm_cv E o)))
  by_cases hy : ys.contains (gm_tag μ r) = true
  · rw [if_pos hy] at hz
    obtain ⟨k0, q, h1, h2, h3⟩ := hY _ (List.contains_iff_mem.mp hy)
    obtain ⟨er, cell, g1, g2, g3⟩ := gm_recv hK Cc h1 h2
    obtain ⟨c0, t0, f1, f2, f3⟩ := hK.2.2.2.1 _ h3
    dsimp only at f1 f2 f3
    rw [er]
    have kk := kk 1 hz
    intro T hT X
    cases g3.symm.trans f1
    obtain ⟨vm', X', st'⟩ := X.instanceofYes hx hown (hts _ hw) (by rw [hT]; exact g1) g2 f2 f3 (g := F0 m pc ls (.ref (o + r) :: st.map (gm_cv E o))) rfl rfl (by rw [hb]; exact hd)
    obtain ⟨t, a1, b1⟩ := kk (T.setVm vm') hT X'
    exact ⟨t, st' t a1, b1⟩
  · rw [if_neg hy] at hz
    by_cases hn : ns.contains (gm_tag μ r) = true
    · rw [if_pos hn] at hz
      obtain ⟨k0, q, h1, h2, h3⟩ := hN _ (List.contains_iff_mem.mp hn)
      obtain ⟨er, hrc⟩ := gm_recv hK Cc h1 h2
      rw [er]
      exact va_instNo hx hb hown (hts _ hw) (hK.2.2.2.2.2.2.1 _ h3) hrc hd (kk 0 hz)
    · rw [if_neg hn] at hz
      cases hz
/-! branches of the answer alone, joins, switches -/
theorem gm_ite {P : Prop} {dc : Decidable P} {z1 z2 : Option β} (k1 : P → gm_A own nm cc nL rt R res μe k n μ pc L st z1 κ) (k2 : ¬ P → gm_A own nm cc nL rt R res μe k n μ pc L st z2 κ) : gm_A own nm cc nL rt R res μe k n μ pc L st (@ite _ P dc z1 z2) κ := by
  by_cases h : P
  · rw [if_pos h]
    exact k1 h
  · rw [if_neg h]
    exact k2 h
theorem gm_grd {P : Prop} {dc : Decidable P} {z1 : Option β} (k1 : P → gm_A own nm cc nL rt R res μe k n μ pc L st z1 κ) : gm_A own nm cc nL rt R res μe k n μ pc L st (@ite _ P dc z1 none) κ := gm_ite k1 (fun _ => gm_no)
def gm_j {S β : Type} (rest : S → Option β) (body : (S → Option β) → Option β) : Option β := body rest
theorem gm_join {S : Type} {rest : S → Option β} {body : (S → Option β) → Option β} {pj kj nj : Nat} (fμ : S → gm_M) (fL : S → List (Nat × Value)) (fs : S → List Value) (h1 : ∀ s : S, gm_A own nm cc nL rt R res μe kj nj (fμ s) pj (fL s) (fs s) (rest s) κ) (h2 : ∀ j : S → Option β, (∀ s : S, gm_A own nm cc nL rt R res μe kj nj (fμ s) pj (fL s) (fs s) (j s) κ) → gm_A own nm cc nL rt R res μe k n μ pc L st (body j) κ) : gm_A own nm cc nL rt R res μe k n μ pc L st (gm_j rest body) κ := h2 rest h1
theorem gm_swOut {x : Int32} {dflt lo hi : Int} {offs : Array Int} {len tgt : Nat} (hd : decode cc pc = .ok (.tableswitch dflt lo hi offs, len)) (h : x.toInt < lo ∨ hi < x.toInt) (ht : (pc : Int) + dflt = (tgt : Int)) (kk : gm_A own nm cc nL rt R res μe k n μ tgt L st z κ) : gm_A own nm cc nL rt R res μe k n μ pc L (.int x :: st) z κ := by
  intro b hz hk p l e s m args below meth c H locs ls E o X C hl hf
  exact lv_tableOut X.1 X.2.1 hd h ht (kk b hz hk p l e s m args below meth c H locs ls E o X C hl hf)
theorem gm_swIn {x : Int32} {dflt lo hi v off : Int} {offs : Array Int} {len tgt : Nat} (hd : decode cc pc = .ok (.tableswitch dflt lo hi offs, len)) (h : x.toInt = v) (h1 : lo ≤ v) (h2 : v ≤ hi) (ho : offs[(v - lo).toNat]? = some off) (ht : (pc : Int) + off = (tgt : Int)) (kk : gm_A own nm cc nL rt R res μe k n μ tgt L st z κ) : gm_A own nm cc nL rt R res μe k n μ pc L (.int x :: st) z κ := by
  intro b hz hk p l e s m args below meth c H locs ls E o X C hl hf
  exact lv_tableIn X.1 X.2.1 hd (by omega) (by omega) (by rw [h]; exact ho) ht (kk b hz hk p l e s m args below meth c H locs ls E o X C hl hf)
theorem gm_lkp {x : Int32} {dflt off : Int} {ps : Array (Int × Int)} {len tgt : Nat} (hd : decode cc pc = .ok (.lookupswitch dflt ps, len)) (hp : (ps.toList.zip (ps.toList.drop 1)).all (fun (a, next) => a.1 < next.1) = true) (ho : Op.lookupswitch.offset ps.toList dflt x.toInt = off) (ht : (pc : Int) + off = (tgt : Int)) (kk : gm_A own nm cc nL rt R res μe k n μ tgt L st z κ) : gm_A own nm cc nL rt R res μe k n μ pc L (.int x :: st) z κ := by
  intro b hz hk p l e s m args below meth c H locs ls E o X C hl hf
  exact lv_lookup X.1 X.2.1 hd hp ho ht (kk b hz hk p l e s m args below meth c H locs ls E o X C hl hf)

theorem gm_widen {k' n' : Nat} (h1 : k ≤ k') (h2 : n ≤ n') (kk : gm_A own nm cc nL rt R res μe k' n' μ pc L st z κ) : gm_A own nm cc nL rt R res μe k n μ pc L st z κ := by
  intro b hz hk p l e s m args below meth c H locs ls E o X C hl hf
  exact W.widen h1 h2 (kk b hz hk p l e s m args below meth c H locs ls E o X C hl hf)
/-! the script -/
def gm_sx (a : Nat) (N : Nat) (xs : Nat → Int32) : gm_E → State → Prop := fun E s => E.2.2.1 0 = a ∧ a < E.2.2.2.size ∧ va_X a N xs s E.2.2.2
theorem gm_aloadS {f : Fin 4} {i : Nat} (hd : decode cc pc = .ok (.aload_n f, 1)) (hi : (f : Nat) = i) (q : Nat) (hq : L[q]? = some (i, .float 0)) (kk : gm_A own nm cc nL rt R res μe k n μ (pc + 1) L (.float 0 :: st) z κ) : gm_A own nm cc nL rt R res μe k n μ pc L st z κ := by
  intro b hz hk p l e s m args below meth c H locs ls E o X C hl hf
  exact lv_aload_n X.1 X.2.1 hd hi (lv_at hl q (gm_map hq)) (kk b hz hk p l e s m args below meth c H locs ls E o X C hl hf)
theorem gm_slen {a N : Nat} {xs : Nat → Int32} (hd : decode cc pc = .ok (.arraylength, 1)) (hnm0 : nm.2 = gm_sx a N xs) (kk : gm_A own nm cc nL rt R res μe k n μ (pc + 1) L (.int (Int32.ofNat N) :: st) z κ) : gm_A own nm cc nL rt R res μe k n μ pc L (.float 0 :: st) z κ := by
  intro b hz hk p l e s m args below meth c H locs ls E o X C hl hf
  have kk := kk b hz hk p l e s m args below meth c H locs ls E o X C hl hf
  obtain ⟨hx, hb, hml, hr, hown, hts, hlk, hK, hnm⟩ := X
  have hs := hnm.2
  rw [hnm0] at hs
  obtain ⟨e1, e2, scr, g1, g2, g3, g4, g5⟩ := hs
  rw [gm_mf (u := 0) (by decide)]
  show W p l e R s m args below meth c H locs k n _ (F0 m pc ls (.ref (E.2.2.1 0) :: st.map (gm_cv E o)))
  rw [e1]
  exact W.alen (n := Int32.ofNat N) hx hb (by rw [C.2.2.1.2 a (by have := C.2.2.1.1; omega)]; exact g1) g2 (by rw [g4] <;> rfl) rfl rfl hd kk
theorem gm_sld {a N : Nat} {xs : Nat → Int32} {i : Int32} {f : Int32 → Option β} (hd : decode cc pc = .ok (.iaload, 1)) (hnm0 : nm.2 = gm_sx a N xs) (kk : gm_A own nm cc nL rt R res μe k n μ (pc + 1) L (.int (xs i.toNatClampNeg) :: st) (f (xs i.toNatClampNeg)) κ) : gm_A own nm cc nL rt R res μe k n μ pc L (.int i :: .float 0 :: st) (if ¬ i < 0 ∧ i.toNatClampNeg < N then f (xs i.toNatClampNeg) else none) κ := by
  intro b hz hk p l e s m args below meth c H locs ls E o X C hl hf
  by_cases hc : ¬ i < 0 ∧ i.toNatClampNeg < N
  · rw [if_pos hc] at hz
    have kk := kk b hz hk p l e s m args below meth c H locs ls E o X C hl hf
    obtain ⟨hx, hb, hml, hr, hown, hts, hlk, hK, hnm⟩ := X
    have hs := hnm.2
    rw [hnm0] at hs
    obtain ⟨e1, e2, scr, g1, g2, g3, g4, g5⟩ := hs
    rw [List.map_cons, gm_mf (u := 0) (by decide)]
    show W p l e R s m args below meth c H locs k n _ (F0 m pc ls (.int i :: .ref (E.2.2.1 0) :: st.map (gm_cv E o)))
    rw [e1]
    exact W.iald (v := .int (xs i.toNatClampNeg)) hx hb (by rw [C.2.2.1.2 a (by have := C.2.2.1.1; omega)]; exact g1) g2 g3 (by rw [g4]; rintro (q | q); exact hc.1 q; exact absurd q (Nat.not_le.mpr hc.2)) (g5 _ hc.2) rfl rfl hd kk
  · rw [if_neg hc] at hz
    cases hz
def gm_xl {β : Type} (xs : Nat → Int32) (N : Nat) (i : Int32) (f : Int32 → Option β) : Option β := if ¬ i < 0 ∧ i.toNatClampNeg < N then f (xs i.toNatClampNeg) else none
theorem gm_sldN {a N : Nat} {xs : Nat → Int32} {i : Int32} {f : Int32 → Option β} (hd : decode cc pc = .ok (.iaload, 1)) (hnm0 : nm.2 = gm_sx a N xs) (kk : ∀ v : Int32, v = xs i.toNatClampNeg → gm_A own nm cc nL rt R res μe k n μ (pc + 1) L (.int v :: st) (f v) κ) : gm_A own nm cc nL rt R res μe k n μ pc L (.int i :: .float 0 :: st) (gm_xl xs N i f) κ := gm_sld hd hnm0 (kk _ rfl)
/-! texts -/
abbrev gm_isS (u : UInt32) : Prop := 1 ≤ u.toNat ∧ u.toNat ≤ 6
abbrev gm_isB (u : UInt32) : Prop := 7 ≤ u.toNat ∧ u.toNat ≤ 12
def gm_bn (u : UInt32) : Nat := gm_tls.getD (u.toNat - 7) 0
def gm_bb (u : UInt32) (j : Nat) : Int32 := (gm_txt.getD (u.toNat - 7) []).getD j 0
def gm_bl {β : Type} (u : UInt32) (i : Int32) (f : Int32 → Option β) : Option β := if gm_isB u ∧ ¬ i < 0 ∧ i.toNatClampNeg < gm_bn u then f (gm_bb u i.toNatClampNeg) else none
theorem gm_txH {E : gm_E} {s : State} {o : Nat} {H : Heap} (hK : gm_K E s) (C : gm_C E o μ H) : gm_TS E s H := hK.2.2.2.2.2.2.2.1.kept (fun a ha _ => C.2.2.1.2 a (by have := C.2.2.1.1; omega))
theorem gm_tS {E : gm_E} {s : State} {o : Nat} {H : Heap} (hK : gm_K E s) (C : gm_C E o μ H) {u : UInt32} (hu : gm_isS u) : va_O "java/lang/String" (E.2.2.1 u.toNat) gm_never s H ∧ va_OF "java/lang/String" "coder" "B" (.int 0) (E.2.2.1 u.toNat) gm_never s H ∧ va_OF "java/lang/String" "value" "[B" (.ref (E.2.2.1 (u + 6).toNat)) (E.2.2.1 u.toNat) gm_never s H := by
  obtain ⟨a1, a2⟩ := hu
  have h := (gm_txH hK C).1.1 (u.toNat - 1) (by omega)
  have e1 : u.toNat - 1 + 1 = u.toNat := by omega
  have e2 : u.toNat - 1 + 7 = (u + 6).toNat := by
    rw [UInt32.toNat_add, show (6 : UInt32).toNat = 6 from rfl]
    omega
  dsimp only at h
  rw [e1, e2] at h
  exact ⟨h.1, h.2.1, h.2.2.1⟩
theorem gm_tB {E : gm_E} {s : State} {o : Nat} {H : Heap} (hK : gm_K E s) (C : gm_C E o μ H) {u : UInt32} (hu : gm_isB u) : va_T .byte (E.2.2.1 u.toNat) (gm_bn u) (fun j => .int (gm_bb u j)) gm_never s H := by
  obtain ⟨a1, a2⟩ := hu
  have h := ((gm_txH hK C).1.1 (u.toNat - 7) (by omega)).2.2.2
  have e1 : u.toNat - 7 + 7 = u.toNat := by omega
  dsimp only at h
  rw [e1] at h
  exact h
theorem gm_ldcS {i t : Nat} {u : UInt32} {tx : String} (hq : (own, i, tx, t) ∈ gm_sr) (hu : u.toNat = t + 1) (hd : decode cc pc = .ok (.ldc i, 2)) (kk : gm_A own nm cc nL rt R res μe k n μ (pc + 2) L (.float u :: st) z κ) : gm_A own nm cc nL rt R res μe k n μ pc L st z κ := by
  intro b hz hk p l e s m args below meth c H locs ls E o X C hl hf
  have kk := kk b hz hk p l e s m args below meth c H locs ls E o X C hl hf
  obtain ⟨hx, hb, hml, hr, hown, hts, hlk, hK, hnm⟩ := X
  have h := hK.2.2.2.2.2.2.2.2 _ hq
  dsimp only at h
  rw [← hu] at h
  have ht : t ≤ 5 := (show ∀ q ∈ gm_sr, q.2.2.2 ≤ 5 by decide) _ hq
  rw [gm_mf (by omega)] at kk
  exact va_ldcS hx hb hown h hd kk
theorem gm_aloadF {f : Fin 4} {i : Nat} {u : UInt32} (hd : decode cc pc = .ok (.aload_n f, 1)) (hi : (f : Nat) = i) (q : Nat) (hq : L[q]? = some (i, .float u)) (kk : gm_A own nm cc nL rt R res μe k n μ (pc + 1) L (.float u :: st) z κ) : gm_A own nm cc nL rt R res μe k n μ pc L st z κ := by
  intro b hz hk p l e s m args below meth c H locs ls E o X C hl hf
  have kk := kk b hz hk p l e s m args below meth c H locs ls E o X C hl hf
  have hv := lv_at hl q (gm_map hq)
  rw [List.map_cons] at kk
  rcases gm_tv_cases (E := E) (u := u) with h | ⟨a, h⟩
  · rw [show gm_cv E o (.float u) = .null from h] at kk hv
    exact lv_aload_nN X.1 X.2.1 hd hi hv kk
  · rw [show gm_cv E o (.float u) = .ref a from h] at kk hv
    exact lv_aload_n X.1 X.2.1 hd hi hv kk
theorem gm_i2b {x : Int32} (hd : decode cc pc = .ok (.i2b, 1)) (kk : gm_A own nm cc nL rt R res μe k n μ (pc + 1) L (.int x.toInt8.toInt32 :: st) z κ) : gm_A own nm cc nL rt R res μe k n μ pc L (.int x :: st) z κ := by
  intro b hz hk p l e s m args below meth c H locs ls E o X C hl hf
  exact lv_i2b X.1 X.2.1 hd rfl (kk b hz hk p l e s m args below meth c H locs ls E o X C hl hf)
theorem gm_callT {y : MethodName} {cc' : ByteArray} {nL' : Nat} {rt' : Option FieldType} {d' mc' ms' index : Nat} {u : UInt32} (As : List Value) {st st0 : List Value} {zc : Option (Option Value × gm_M)} (hc : gm_Call y cc' nL' rt' d' mc' ms' (.float u :: As) μ zc) (hu : gm_isS u) (hB : gm_BI y cc' nL' rt' As.length)
    (hw1 : Jvm.Cond.methodLink own index y ∈ gm_G) (hw5 : Jvm.Cond.selects "java/lang/String" y y ∈ gm_G) (hfit : gm_fit R k n mc' ms' d' nL' = true) (hst : st0 = As.reverse ++ .float u :: st) (hsm : gm_sum st = true) (hd : decode cc pc = .ok (.invokevirtual index, 3))
    (kk : gm_K2 own nm cc nL rt R res μe (k + mc') (n + ms') (pc + 3) L st zc z κ) : gm_A own nm cc nL rt R res μe k n μ pc L st0 z κ := by
  obtain ⟨hmh, hnp, hw2, hw3, hw4⟩ := hB
  obtain ⟨hR1, hR2, hk1, hn1⟩ := gm_fits hfit
  have hsum := gm_sum8 hsm
  refine gm_cal (index := index) hc (fun v μ1 p l e s m args below meth c H locs ls E o M X C hls => ?_) kk
  obtain ⟨hx, hb, hml, hr, hown, hts, hlk, hK, hnm⟩ := X
  subst hst
  obtain ⟨⟨cell, q1, q2, q3, -⟩, -, -⟩ := gm_tS hK C hu
  rw [gm_st, gm_mf (by omega)]
  have cb : CallB R s args own index y cc' nL' rt' (.code y cc' nL' rt' :: gm_G) (gm_rm d' mc' ms') mc' ms' As.length := ⟨rfl, rfl, hR1, hR2, gm_pay hts hw4, List.mem_cons_self, hts _ hw4, hts _ hw3, hmh, gm_len' hnp, hts _ hw1⟩
  exact ⟨_, va_runV (b := E.2.2.1 u.toNat) (As := As.map (gm_cv E o)) ⟨hx, hb, hml, hown, hts⟩ M ⟨cb, hts _ hw2, hts _ hw5⟩ ⟨gm_blind E o _ μ, ⟨cell, q1, q2, q3⟩, fun U hU hW => ⟨by rw [gm_mf (by omega)], by rw [hU]; exact C, hK.warm hW⟩⟩ rfl (by rw [List.length_map]) hls rfl (gm_roomst hsum) hd ⟨hk1, hn1⟩⟩
theorem gm_getC {u : UInt32} {i : Nat} (hw : Jvm.Cond.fieldLink own i "java/lang/String" "coder" "B" ∈ gm_G) (hd : decode cc pc = .ok (.getfield i, 3)) (kk : gm_A own nm cc nL rt R res μe k n μ (pc + 3) L (.int 0 :: st) z κ) : gm_A own nm cc nL rt R res μe k n μ pc L (.float u :: st) (if gm_isS u then z else none) κ := by
  intro b hz hk p l e s m args below meth c H locs ls E o X C hl hf
  by_cases h : gm_isS u
  · rw [if_pos h] at hz
    have kk := kk b hz hk p l e s m args below meth c H locs ls E o X C hl hf
    obtain ⟨hx, hb, hml, hr, hown, hts, hlk, hK, hnm⟩ := X
    obtain ⟨-, ⟨cf, k', i', f, cell, h1, h2, h3, h4, h5, h6⟩, -⟩ := gm_tS hK C h
    rw [gm_mf (by have := h.2; omega)]
    exact W.getf hx hb hown (hts _ hw) h1 h2 h3 h4 (v := .int 0) h5 rfl rfl hd kk
  · rw [if_neg h] at hz; cases hz
theorem gm_getV {u : UInt32} {i : Nat} (hw : Jvm.Cond.fieldLink own i "java/lang/String" "value" "[B" ∈ gm_G) (hd : decode cc pc = .ok (.getfield i, 3)) (kk : gm_A own nm cc nL rt R res μe k n μ (pc + 3) L (.float (u + 6) :: st) z κ) : gm_A own nm cc nL rt R res μe k n μ pc L (.float u :: st) (if gm_isS u then z else none) κ := by
  intro b hz hk p l e s m args below meth c H locs ls E o X C hl hf
  by_cases h : gm_isS u
  · rw [if_pos h] at hz
    have kk := kk b hz hk p l e s m args below meth c H locs ls E o X C hl hf
    obtain ⟨hx, hb, hml, hr, hown, hts, hlk, hK, hnm⟩ := X
    obtain ⟨-, -, ⟨cf, k', i', f, cell, h1, h2, h3, h4, h5, h6⟩⟩ := gm_tS hK C h
    have e6 : (u + 6).toNat ≤ 12 := by
      have := h.2
      rw [UInt32.toNat_add, show (6 : UInt32).toNat = 6 from rfl]
      omega
    rw [gm_mf e6] at kk
    rw [gm_mf (by have := h.2; omega)]
    exact W.getf hx hb hown (hts _ hw) h1 h2 h3 h4 (v := .ref (E.2.2.1 (u + 6).toNat)) h5 rfl rfl hd kk
  · rw [if_neg h] at hz; cases hz
theorem gm_alenB {u : UInt32} (hd : decode cc pc = .ok (.arraylength, 1)) (kk : gm_A own nm cc nL rt R res μe k n μ (pc + 1) L (.int (Int32.ofNat (gm_bn u)) :: st) z κ) : gm_A own nm cc nL rt R res μe k n μ pc L (.float u :: st) (if gm_isB u then z else none) κ := by
  intro b hz hk p l e s m args below meth c H locs ls E o X C hl hf
  by_cases h : gm_isB u
  · rw [if_pos h] at hz
    have kk := kk b hz hk p l e s m args below meth c H locs ls E o X C hl hf
    obtain ⟨hx, hb, hml, hr, hown, hts, hlk, hK, hnm⟩ := X
    obtain ⟨cell, h1, h2, h3, h4, h5, h6, h7⟩ := gm_tB hK C h
    rw [gm_mf h.2]
    exact W.alen (n := Int32.ofNat (gm_bn u)) hx hb h1 h2 h5 rfl rfl hd kk
  · rw [if_neg h] at hz; cases hz
theorem gm_baldB {u : UInt32} {i : Int32} {f : Int32 → Option β} (hd : decode cc pc = .ok (.baload, 1)) (kk : ∀ v : Int32, v = gm_bb u i.toNatClampNeg → gm_A own nm cc nL rt R res μe k n μ (pc + 1) L (.int v :: st) (f v) κ) : gm_A own nm cc nL rt R res μe k n μ pc L (.int i :: .float u :: st) (gm_bl u i f) κ := by
  intro b hz hk p l e s m args below meth c H locs ls E o X C hl hf
  unfold gm_bl at hz
  by_cases h : gm_isB u ∧ ¬ i < 0 ∧ i.toNatClampNeg < gm_bn u
  · rw [if_pos h] at hz
    have kk := kk _ rfl b hz hk p l e s m args below meth c H locs ls E o X C hl hf
    obtain ⟨hx, hb, hml, hr, hown, hts, hlk, hK, hnm⟩ := X
    obtain ⟨cell, h1, h2, h3, h4, h5, h6, h7⟩ := gm_tB hK C h.1
    rw [List.map_cons, gm_mf h.1.2]
    exact W.bald (v := .int (gm_bb u i.toNatClampNeg)) hx hb h1 h2 h3 (by rintro (q | q); exact h.2.1 q; have := h.2.2; omega) (h6 _ h.2.2) rfl rfl hd kk
  · rw [if_neg h] at hz; cases hz
theorem gm_gsC {i : Nat} (hw : Jvm.Cond.fieldLink own i "java/lang/String" "COMPACT_STRINGS" "Z" ∈ gm_G) (hd : decode cc pc = .ok (.getstatic i, 3)) (kk : gm_A own nm cc nL rt R res μe k n μ (pc + 3) L (.int 1 :: st) z κ) : gm_A own nm cc nL rt R res μe k n μ pc L st z κ := by
  intro b hz hk p l e s m args below meth c H locs ls E o X C hl hf
  have kk := kk b hz hk p l e s m args below meth c H locs ls E o X C hl hf
  obtain ⟨hx, hb, hml, hr, hown, hts, hlk, hK, hnm⟩ := X
  obtain ⟨cf, kf, fi, f, a, cell, h1, h2, h3, h4, h5, h6, h7, h8⟩ := (gm_txH hK C).2.1
  exact W.gets hx hb hown (hts _ hw) h1 h2 h3 h4 h5 (fun e => by rw [e] at h6; cases h6) h7 rfl hd kk
theorem gm_gsF {i : Nat} (hw : Jvm.Cond.fieldLink own i "jdk/internal/util/Preconditions" "SIOOBE_FORMATTER" "Ljava/util/function/BiFunction;" ∈ gm_G) (hd : decode cc pc = .ok (.getstatic i, 3)) (kk : gm_A own nm cc nL rt R res μe k n μ (pc + 3) L (.float 13 :: st) z κ) : gm_A own nm cc nL rt R res μe k n μ pc L st z κ := by
  intro b hz hk p l e s m args below meth c H locs ls E o X C hl hf
  have kk := kk b hz hk p l e s m args below meth c H locs ls E o X C hl hf
  obtain ⟨hx, hb, hml, hr, hown, hts, hlk, hK, hnm⟩ := X
  obtain ⟨cf, kf, fi, f, a, cell, h1, h2, h3, h4, h5, h6, h7, h8⟩ := (gm_txH hK C).2.2
  rw [gm_mf13] at kk
  exact W.gets hx hb hown (hts _ hw) h1 h2 h3 h4 h5 (fun e => by rw [e] at h6; cases h6) h7 rfl hd kk
theorem gm_cret {x : Int32} {zz : β} (hrt : rt = some .char) (hd : decode cc pc = .ok (.ireturn, 1)) (hk1 : k ≤ R.cells) (hn1 : n ≤ R.slots) (hκ : κ zz → (some (.int x), μ) = (res, μe)) : gm_A own nm cc nL rt R res μe k n μ pc L [.int x] (if (x.toUInt32 % 65536).toInt32 = x then some zz else none) κ := by
  intro b hz hk p l e s m args below meth c H locs ls E o X C hl hf
  by_cases h01 : (x.toUInt32 % 65536).toInt32 = x
  · rw [if_pos h01] at hz
    cases hz
    cases hκ hk
    obtain ⟨hx, hb, hml, hr, hown, hts, hlk, hK, hnm⟩ := X
    refine W.widen hk1 hn1 ?_
    exact W.zret hx hb (hr.trans hrt) (by show Value.int (x.toUInt32 % 65536).toInt32 = _; rw [h01]) (fun t ht hW => ⟨rfl, by rw [ht]; exact C⟩) hf hd hlk
  · rw [if_neg h01] at hz
    cases hz
theorem gm_bret {x : Int32} {zz : β} (hrt : rt = some .byte) (hd : decode cc pc = .ok (.ireturn, 1)) (hk1 : k ≤ R.cells) (hn1 : n ≤ R.slots) (hκ : κ zz → (some (.int x), μ) = (res, μe)) : gm_A own nm cc nL rt R res μe k n μ pc L [.int x] (if x.toInt8.toInt32 = x then some zz else none) κ := by
  intro b hz hk p l e s m args below meth c H locs ls E o X C hl hf
  by_cases h01 : x.toInt8.toInt32 = x
  · rw [if_pos h01] at hz
    cases hz
    cases hκ hk
    obtain ⟨hx, hb, hml, hr, hown, hts, hlk, hK, hnm⟩ := X
    refine W.widen hk1 hn1 ?_
    exact W.zret hx hb (hr.trans hrt) (by show Value.int x.toInt8.toInt32 = _; rw [h01]) (fun t ht hW => ⟨rfl, by rw [ht]; exact C⟩) hf hd hlk
  · rw [if_neg h01] at hz
    cases hz
end GA
