theorem gm_inst0 : ∀ (k : Nat) (q : vw_C), gm_cls[k]? = some q → Jvm.Cond.instantiable q.1 q.2.2 ∈ gm_G := by
  intro k q h
  match k, h with
  | 0, h => cases h; exact gw_120
  | 1, h => cases h; exact gw_96
  | 2, h => cases h; exact gw_161
  | 3, h => cases h; exact gw_80
  | 4, h => cases h; exact gw_88
  | 5, h => cases h; exact gw_52
  | 6, h => cases h; exact gw_64
  | 7, h => cases h; exact gw_32
  | 8, h => cases h; exact gw_112
  | 9, h => cases h; exact gw_72
  | 10, h => cases h; exact gw_104
  | 11, h => cases h; exact gw_22
  | 12, h => cases h; exact gw_885
  | k + 13, h => simp [gm_cls] at h
theorem gm_drop {s s' : State} {L : List Loc} {k n : Nat} (h : s.sameButNew s' L k n) (hL : ∀ q ∈ L, s.heap.size ≤ q.base) : s.sameButNew s' [] k n := by
  obtain ⟨h1, h2, h3, h4, h5, h6⟩ := h
  refine ⟨h1, h2, h3, h4, h5, fun a c hc => ?_⟩
  obtain ⟨c', g1, g2, g3, g4⟩ := h6 a c hc
  refine ⟨c', g1, g2, g3, fun i _ => g4 i (fun hi => ?_)⟩
  have := hL _ hi
  have h7 : a < s.heap.size := (Array.getElem?_eq_some_iff.mp hc).1
  have h8 : s.heap.size ≤ a := this
  exact absurd h7 (Nat.not_lt.mpr h8)
theorem gm_arrP0 {args : Array Value} {s : State} {ty : FieldType} (h : (Jvm.Cond.arrayClass ty).before args s = true) : ∃ cA : ClassId, ArrOfT s cA ty ∧ s.vm.findClass ("[" ++ ty.toString) = some cA := by
  obtain ⟨cA, kA, comp, h1, h2, h3⟩ := Cond.arrayClass_spec h
  exact ⟨cA, fun n z => ⟨fun k h => (by cases h), kA, h2, comp, h3⟩, h1⟩
theorem gm_arrO0 {args : Array Value} {s : State} {C : String} (h : (Jvm.Cond.arrayOver (.object C)).before args s = true) : ∃ cA : ClassId, ArrOfT s cA (.object C) ∧ va_RA s cA (.object C) := by
  obtain ⟨comp, cA, kA, h1, -, h3, h4, h5⟩ := Cond.arrayOver_spec h
  exact ⟨cA, fun n z => ⟨fun k h => (by cases h), kA, h3, comp, h4⟩, kA, comp, h3, h4, h1, h5⟩

set_option maxRecDepth 20000 in
def gm_fl : List Jvm.Cond := [(Jvm.Cond.count (1 : Nat)), (Jvm.Cond.isRef (Jvm.Term.arg (0 : Nat))), (Jvm.Cond.arrayOf (Jvm.Term.arg (0 : Nat)) Jvm.ClassFile.FieldType.int), (Jvm.Cond.le (Jvm.Term.length (Jvm.Term.arg (0 : Nat))) (Jvm.Term.int (2048 : Int32))), (Jvm.Cond.eq (Jvm.Term.static "java/lang/String" "COMPACT_STRINGS" "Z") (Jvm.Term.int (1 : Int32))), (Jvm.Cond.isRef (Jvm.Term.static "jdk/internal/util/Preconditions" "SIOOBE_FORMATTER" "Ljava/util/function/BiFunction;")), (Jvm.Cond.eq (Jvm.Term.static "java/lang/StringUTF16" "$assertionsDisabled" "Z") (Jvm.Term.int (1 : Int32))), (Jvm.Cond.eq (Jvm.Term.static "java/lang/StringUTF16" "HI_BYTE_SHIFT" "I") (Jvm.Term.int (0 : Int32))), (Jvm.Cond.eq (Jvm.Term.static "java/lang/StringUTF16" "LO_BYTE_SHIFT" "I") (Jvm.Term.int (8 : Int32))), (Jvm.Cond.not (Jvm.Cond.castable "GumBubble" "GumBubble$Told")), (Jvm.Cond.not (Jvm.Cond.castable "GumBubble$Rows" "GumBubble$Told")), (Jvm.Cond.not (Jvm.Cond.castable "GumBubble$Plain" "GumBubble$Told")), (Jvm.Cond.not (Jvm.Cond.castable "GumBubble$Quick" "GumBubble$Told")), (Jvm.Cond.not (Jvm.Cond.castable "GumBubble$Slow" "GumBubble$Told")), (Jvm.Cond.not (Jvm.Cond.castable "GumBubble$Cold" "GumBubble$Told")), (Jvm.Cond.not (Jvm.Cond.castable "GumBubble$Greedy" "GumBubble$Told")), (Jvm.Cond.not (Jvm.Cond.castable "GumBubble$Careful" "GumBubble$Told")), (Jvm.Cond.not (Jvm.Cond.castable "GumBubble$Scene" "GumBubble$Told")), (Jvm.Cond.not (Jvm.Cond.castable "GumBubble$Afternoon" "GumBubble$Told")), (Jvm.Cond.not (Jvm.Cond.castable "GumBubble$Child" "GumBubble$Told")), (Jvm.Cond.not (Jvm.Cond.castable "GumBubbleModel" "GumBubble$Told")), (Jvm.Cond.not (Jvm.Cond.castable "GumBubble" "GumBubble$Quick")), (Jvm.Cond.not (Jvm.Cond.castable "GumBubble$Rows" "GumBubble$Quick")), (Jvm.Cond.not (Jvm.Cond.castable "GumBubble$Plain" "GumBubble$Quick")), (Jvm.Cond.not (Jvm.Cond.castable "GumBubble$Slow" "GumBubble$Quick")), (Jvm.Cond.not (Jvm.Cond.castable "GumBubble$Cold" "GumBubble$Quick")), (Jvm.Cond.not (Jvm.Cond.castable "GumBubble$Careful" "GumBubble$Quick")), (Jvm.Cond.not (Jvm.Cond.castable "GumBubble$Told" "GumBubble$Quick")), (Jvm.Cond.not (Jvm.Cond.castable "GumBubble$Scene" "GumBubble$Quick")), (Jvm.Cond.not (Jvm.Cond.castable "GumBubble$Afternoon" "GumBubble$Quick")), (Jvm.Cond.not (Jvm.Cond.castable "GumBubble$Child" "GumBubble$Quick")), (Jvm.Cond.not (Jvm.Cond.castable "GumBubbleModel" "GumBubble$Quick")), (Jvm.Cond.not (Jvm.Cond.castable "GumBubble" "GumBubble$Slow")), (Jvm.Cond.not (Jvm.Cond.castable "GumBubble$Rows" "GumBubble$Slow")), (Jvm.Cond.not (Jvm.Cond.castable "GumBubble$Plain" "GumBubble$Slow")), (Jvm.Cond.not (Jvm.Cond.castable "GumBubble$Quick" "GumBubble$Slow")), (Jvm.Cond.not (Jvm.Cond.castable "GumBubble$Cold" "GumBubble$Slow")), (Jvm.Cond.not (Jvm.Cond.castable "GumBubble$Greedy" "GumBubble$Slow")), (Jvm.Cond.not (Jvm.Cond.castable "GumBubble$Told" "GumBubble$Slow")), (Jvm.Cond.not (Jvm.Cond.castable "GumBubble$Scene" "GumBubble$Slow")), (Jvm.Cond.not (Jvm.Cond.castable "GumBubble$Afternoon" "GumBubble$Slow")), (Jvm.Cond.not (Jvm.Cond.castable "GumBubble$Child" "GumBubble$Slow")), (Jvm.Cond.not (Jvm.Cond.castable "GumBubbleModel" "GumBubble$Slow")), (Jvm.Cond.not (Jvm.Cond.castable "GumBubble" "GumBubble$Cold")), (Jvm.Cond.not (Jvm.Cond.castable "GumBubble$Rows" "GumBubble$Cold")), (Jvm.Cond.not (Jvm.Cond.castable "GumBubble$Plain" "GumBubble$Cold")), (Jvm.Cond.not (Jvm.Cond.castable "GumBubble$Quick" "GumBubble$Cold")), (Jvm.Cond.not (Jvm.Cond.castable "GumBubble$Slow" "GumBubble$Cold")), (Jvm.Cond.not (Jvm.Cond.castable "GumBubble$Greedy" "GumBubble$Cold")), (Jvm.Cond.not (Jvm.Cond.castable "GumBubble$Careful" "GumBubble$Cold")), (Jvm.Cond.not (Jvm.Cond.castable "GumBubble$Scene" "GumBubble$Cold")), (Jvm.Cond.not (Jvm.Cond.castable "GumBubble$Afternoon" "GumBubble$Cold")), (Jvm.Cond.not (Jvm.Cond.castable "GumBubble$Child" "GumBubble$Cold")), (Jvm.Cond.not (Jvm.Cond.castable "GumBubbleModel" "GumBubble$Cold")), (Jvm.Cond.not (Jvm.Cond.castable "GumBubble" "GumBubble$Greedy")), (Jvm.Cond.not (Jvm.Cond.castable "GumBubble$Rows" "GumBubble$Greedy")), (Jvm.Cond.not (Jvm.Cond.castable "GumBubble$Plain" "GumBubble$Greedy")), (Jvm.Cond.not (Jvm.Cond.castable "GumBubble$Quick" "GumBubble$Greedy")), (Jvm.Cond.not (Jvm.Cond.castable "GumBubble$Slow" "GumBubble$Greedy")), (Jvm.Cond.not (Jvm.Cond.castable "GumBubble$Cold" "GumBubble$Greedy")), (Jvm.Cond.not (Jvm.Cond.castable "GumBubble$Careful" "GumBubble$Greedy")), (Jvm.Cond.not (Jvm.Cond.castable "GumBubble$Told" "GumBubble$Greedy")), (Jvm.Cond.not (Jvm.Cond.castable "GumBubble$Scene" "GumBubble$Greedy")), (Jvm.Cond.not (Jvm.Cond.castable "GumBubble$Afternoon" "GumBubble$Greedy")), (Jvm.Cond.not (Jvm.Cond.castable "GumBubble$Child" "GumBubble$Greedy")), (Jvm.Cond.not (Jvm.Cond.castable "GumBubbleModel" "GumBubble$Greedy")), (Jvm.Cond.not (Jvm.Cond.castable "GumBubble" "GumBubble$Careful")), (Jvm.Cond.not (Jvm.Cond.castable "GumBubble$Rows" "GumBubble$Careful")), (Jvm.Cond.not (Jvm.Cond.castable "GumBubble$Plain" "GumBubble$Careful")), (Jvm.Cond.not (Jvm.Cond.castable "GumBubble$Quick" "GumBubble$Careful")), (Jvm.Cond.not (Jvm.Cond.castable "GumBubble$Slow" "GumBubble$Careful")), (Jvm.Cond.not (Jvm.Cond.castable "GumBubble$Cold" "GumBubble$Careful")), (Jvm.Cond.not (Jvm.Cond.castable "GumBubble$Greedy" "GumBubble$Careful")), (Jvm.Cond.not (Jvm.Cond.castable "GumBubble$Told" "GumBubble$Careful")), (Jvm.Cond.not (Jvm.Cond.castable "GumBubble$Scene" "GumBubble$Careful")), (Jvm.Cond.not (Jvm.Cond.castable "GumBubble$Afternoon" "GumBubble$Careful")), (Jvm.Cond.not (Jvm.Cond.castable "GumBubble$Child" "GumBubble$Careful")), (Jvm.Cond.not (Jvm.Cond.castable "GumBubbleModel" "GumBubble$Careful")), (Jvm.Cond.not (Jvm.Cond.castable "java/lang/String" "GumBubble$Told")), (Jvm.Cond.not (Jvm.Cond.castable "[LGumBubble$Plain;" "GumBubble$Told")), (Jvm.Cond.not (Jvm.Cond.castable "[I" "GumBubble$Told")), (Jvm.Cond.not (Jvm.Cond.castable "[LGumBubble$Child;" "GumBubble$Told")), (Jvm.Cond.not (Jvm.Cond.castable "[B" "GumBubble$Told")), (Jvm.Cond.not (Jvm.Cond.castable "[Z" "GumBubble$Told")), (Jvm.Cond.not (Jvm.Cond.castable "java/lang/String" "GumBubble$Quick")), (Jvm.Cond.not (Jvm.Cond.castable "[LGumBubble$Plain;" "GumBubble$Quick")), (Jvm.Cond.not (Jvm.Cond.castable "[I" "GumBubble$Quick")), (Jvm.Cond.not (Jvm.Cond.castable "[LGumBubble$Child;" "GumBubble$Quick")), (Jvm.Cond.not (Jvm.Cond.castable "[B" "GumBubble$Quick")), (Jvm.Cond.not (Jvm.Cond.castable "[Z" "GumBubble$Quick")), (Jvm.Cond.not (Jvm.Cond.castable "java/lang/String" "GumBubble$Slow")), (Jvm.Cond.not (Jvm.Cond.castable "[LGumBubble$Plain;" "GumBubble$Slow")), (Jvm.Cond.not (Jvm.Cond.castable "[I" "GumBubble$Slow")), (Jvm.Cond.not (Jvm.Cond.castable "[LGumBubble$Child;" "GumBubble$Slow")), (Jvm.Cond.not (Jvm.Cond.castable "[B" "GumBubble$Slow")), (Jvm.Cond.not (Jvm.Cond.castable "[Z" "GumBubble$Slow")), (Jvm.Cond.not (Jvm.Cond.castable "java/lang/String" "GumBubble$Cold")), (Jvm.Cond.not (Jvm.Cond.castable "[LGumBubble$Plain;" "GumBubble$Cold")), (Jvm.Cond.not (Jvm.Cond.castable "[I" "GumBubble$Cold")), (Jvm.Cond.not (Jvm.Cond.castable "[LGumBubble$Child;" "GumBubble$Cold")), (Jvm.Cond.not (Jvm.Cond.castable "[B" "GumBubble$Cold")), (Jvm.Cond.not (Jvm.Cond.castable "[Z" "GumBubble$Cold")), (Jvm.Cond.not (Jvm.Cond.castable "java/lang/String" "GumBubble$Greedy")), (Jvm.Cond.not (Jvm.Cond.castable "[LGumBubble$Plain;" "GumBubble$Greedy")), (Jvm.Cond.not (Jvm.Cond.castable "[I" "GumBubble$Greedy")), (Jvm.Cond.not (Jvm.Cond.castable "[LGumBubble$Child;" "GumBubble$Greedy")), (Jvm.Cond.not (Jvm.Cond.castable "[B" "GumBubble$Greedy")), (Jvm.Cond.not (Jvm.Cond.castable "[Z" "GumBubble$Greedy")), (Jvm.Cond.not (Jvm.Cond.castable "java/lang/String" "GumBubble$Careful")), (Jvm.Cond.not (Jvm.Cond.castable "[LGumBubble$Plain;" "GumBubble$Careful")), (Jvm.Cond.not (Jvm.Cond.castable "[I" "GumBubble$Careful")), (Jvm.Cond.not (Jvm.Cond.castable "[LGumBubble$Child;" "GumBubble$Careful")), (Jvm.Cond.not (Jvm.Cond.castable "[B" "GumBubble$Careful")), (Jvm.Cond.not (Jvm.Cond.castable "[Z" "GumBubble$Careful")), (Jvm.Cond.not (Jvm.Cond.castable "GumBubble" "GumBubble$Plain")), (Jvm.Cond.not (Jvm.Cond.castable "GumBubble$Rows" "GumBubble$Plain")), (Jvm.Cond.not (Jvm.Cond.castable "GumBubble$Scene" "GumBubble$Plain")), (Jvm.Cond.not (Jvm.Cond.castable "GumBubble$Afternoon" "GumBubble$Plain")), (Jvm.Cond.not (Jvm.Cond.castable "GumBubble$Child" "GumBubble$Plain")), (Jvm.Cond.not (Jvm.Cond.castable "GumBubbleModel" "GumBubble$Plain")), (Jvm.Cond.not (Jvm.Cond.castable "java/lang/String" "GumBubble$Plain")), (Jvm.Cond.not (Jvm.Cond.castable "GumBubble" "GumBubble$Child")), (Jvm.Cond.not (Jvm.Cond.castable "GumBubble$Rows" "GumBubble$Child")), (Jvm.Cond.not (Jvm.Cond.castable "GumBubble$Plain" "GumBubble$Child")), (Jvm.Cond.not (Jvm.Cond.castable "GumBubble$Quick" "GumBubble$Child")), (Jvm.Cond.not (Jvm.Cond.castable "GumBubble$Slow" "GumBubble$Child")), (Jvm.Cond.not (Jvm.Cond.castable "GumBubble$Cold" "GumBubble$Child")), (Jvm.Cond.not (Jvm.Cond.castable "GumBubble$Greedy" "GumBubble$Child")), (Jvm.Cond.not (Jvm.Cond.castable "GumBubble$Careful" "GumBubble$Child")), (Jvm.Cond.not (Jvm.Cond.castable "GumBubble$Told" "GumBubble$Child")), (Jvm.Cond.not (Jvm.Cond.castable "GumBubble$Scene" "GumBubble$Child")), (Jvm.Cond.not (Jvm.Cond.castable "GumBubble$Afternoon" "GumBubble$Child")), (Jvm.Cond.not (Jvm.Cond.castable "GumBubbleModel" "GumBubble$Child")), (Jvm.Cond.not (Jvm.Cond.castable "java/lang/String" "GumBubble$Child")), (Jvm.Cond.exactly (Jvm.Term.string "GumBubble$Afternoon" (63 : Nat)) "java/lang/String"), (Jvm.Cond.eq (Jvm.Term.field (Jvm.Term.string "GumBubble$Afternoon" (63 : Nat)) "java/lang/String" "coder" "B") (Jvm.Term.int (0 : Int32))), (Jvm.Cond.arrayOf (Jvm.Term.field (Jvm.Term.string "GumBubble$Afternoon" (63 : Nat)) "java/lang/String" "value" "[B") Jvm.ClassFile.FieldType.byte), (Jvm.Cond.eq (Jvm.Term.length (Jvm.Term.field (Jvm.Term.string "GumBubble$Afternoon" (63 : Nat)) "java/lang/String" "value" "[B")) (Jvm.Term.int (5 : Int32))), (Jvm.Cond.eq (Jvm.Term.elem (Jvm.Term.field (Jvm.Term.string "GumBubble$Afternoon" (63 : Nat)) "java/lang/String" "value" "[B") (Jvm.Term.int (0 : Int32))) (Jvm.Term.int (119 : Int32))), (Jvm.Cond.eq (Jvm.Term.elem (Jvm.Term.field (Jvm.Term.string "GumBubble$Afternoon" (63 : Nat)) "java/lang/String" "value" "[B") (Jvm.Term.int (1 : Int32))) (Jvm.Term.int (105 : Int32))), (Jvm.Cond.eq (Jvm.Term.elem (Jvm.Term.field (Jvm.Term.string "GumBubble$Afternoon" (63 : Nat)) "java/lang/String" "value" "[B") (Jvm.Term.int (2 : Int32))) (Jvm.Term.int (110 : Int32))), (Jvm.Cond.eq (Jvm.Term.elem (Jvm.Term.field (Jvm.Term.string "GumBubble$Afternoon" (63 : Nat)) "java/lang/String" "value" "[B") (Jvm.Term.int (3 : Int32))) (Jvm.Term.int (100 : Int32))), (Jvm.Cond.eq (Jvm.Term.elem (Jvm.Term.field (Jvm.Term.string "GumBubble$Afternoon" (63 : Nat)) "java/lang/String" "value" "[B") (Jvm.Term.int (4 : Int32))) (Jvm.Term.int (32 : Int32))), (Jvm.Cond.exactly (Jvm.Term.string "GumBubble$Afternoon" (69 : Nat)) "java/lang/String"), (Jvm.Cond.eq (Jvm.Term.field (Jvm.Term.string "GumBubble$Afternoon" (69 : Nat)) "java/lang/String" "coder" "B") (Jvm.Term.int (0 : Int32))), (Jvm.Cond.arrayOf (Jvm.Term.field (Jvm.Term.string "GumBubble$Afternoon" (69 : Nat)) "java/lang/String" "value" "[B") Jvm.ClassFile.FieldType.byte), (Jvm.Cond.eq (Jvm.Term.length (Jvm.Term.field (Jvm.Term.string "GumBubble$Afternoon" (69 : Nat)) "java/lang/String" "value" "[B")) (Jvm.Term.int (5 : Int32))), (Jvm.Cond.eq (Jvm.Term.elem (Jvm.Term.field (Jvm.Term.string "GumBubble$Afternoon" (69 : Nat)) "java/lang/String" "value" "[B") (Jvm.Term.int (0 : Int32))) (Jvm.Term.int (119 : Int32))), (Jvm.Cond.eq (Jvm.Term.elem (Jvm.Term.field (Jvm.Term.string "GumBubble$Afternoon" (69 : Nat)) "java/lang/String" "value" "[B") (Jvm.Term.int (1 : Int32))) (Jvm.Term.int (101 : Int32))), (Jvm.Cond.eq (Jvm.Term.elem (Jvm.Term.field (Jvm.Term.string "GumBubble$Afternoon" (69 : Nat)) "java/lang/String" "value" "[B") (Jvm.Term.int (2 : Int32))) (Jvm.Term.int (101 : Int32))), (Jvm.Cond.eq (Jvm.Term.elem (Jvm.Term.field (Jvm.Term.string "GumBubble$Afternoon" (69 : Nat)) "java/lang/String" "value" "[B") (Jvm.Term.int (3 : Int32))) (Jvm.Term.int (116 : Int32))), (Jvm.Cond.eq (Jvm.Term.elem (Jvm.Term.field (Jvm.Term.string "GumBubble$Afternoon" (69 : Nat)) "java/lang/String" "value" "[B") (Jvm.Term.int (4 : Int32))) (Jvm.Term.int (32 : Int32))), (Jvm.Cond.not (Jvm.Cond.eq (Jvm.Term.string "GumBubble$Afternoon" (63 : Nat)) (Jvm.Term.string "GumBubble$Afternoon" (69 : Nat)))), (Jvm.Cond.exactly (Jvm.Term.string "GumBubble$Afternoon" (71 : Nat)) "java/lang/String"), (Jvm.Cond.eq (Jvm.Term.field (Jvm.Term.string "GumBubble$Afternoon" (71 : Nat)) "java/lang/String" "coder" "B") (Jvm.Term.int (0 : Int32))), (Jvm.Cond.arrayOf (Jvm.Term.field (Jvm.Term.string "GumBubble$Afternoon" (71 : Nat)) "java/lang/String" "value" "[B") Jvm.ClassFile.FieldType.byte), (Jvm.Cond.eq (Jvm.Term.length (Jvm.Term.field (Jvm.Term.string "GumBubble$Afternoon" (71 : Nat)) "java/lang/String" "value" "[B")) (Jvm.Term.int (6 : Int32))), (Jvm.Cond.eq (Jvm.Term.elem (Jvm.Term.field (Jvm.Term.string "GumBubble$Afternoon" (71 : Nat)) "java/lang/String" "value" "[B") (Jvm.Term.int (0 : Int32))) (Jvm.Term.int (114 : Int32))), (Jvm.Cond.eq (Jvm.Term.elem (Jvm.Term.field (Jvm.Term.string "GumBubble$Afternoon" (71 : Nat)) "java/lang/String" "value" "[B") (Jvm.Term.int (1 : Int32))) (Jvm.Term.int (101 : Int32))), (Jvm.Cond.eq (Jvm.Term.elem (Jvm.Term.field (Jvm.Term.string "GumBubble$Afternoon" (71 : Nat)) "java/lang/String" "value" "[B") (Jvm.Term.int (2 : Int32))) (Jvm.Term.int (116 : Int32))), (Jvm.Cond.eq (Jvm.Term.elem (Jvm.Term.field (Jvm.Term.string "GumBubble$Afternoon" (71 : Nat)) "java/lang/String" "value" "[B") (Jvm.Term.int (3 : Int32))) (Jvm.Term.int (99 : Int32))), (Jvm.Cond.eq (Jvm.Term.elem (Jvm.Term.field (Jvm.Term.string "GumBubble$Afternoon" (71 : Nat)) "java/lang/String" "value" "[B") (Jvm.Term.int (4 : Int32))) (Jvm.Term.int (104 : Int32))), (Jvm.Cond.eq (Jvm.Term.elem (Jvm.Term.field (Jvm.Term.string "GumBubble$Afternoon" (71 : Nat)) "java/lang/String" "value" "[B") (Jvm.Term.int (5 : Int32))) (Jvm.Term.int (32 : Int32))), (Jvm.Cond.not (Jvm.Cond.eq (Jvm.Term.string "GumBubble$Afternoon" (63 : Nat)) (Jvm.Term.string "GumBubble$Afternoon" (71 : Nat)))), (Jvm.Cond.not (Jvm.Cond.eq (Jvm.Term.string "GumBubble$Afternoon" (69 : Nat)) (Jvm.Term.string "GumBubble$Afternoon" (71 : Nat)))), (Jvm.Cond.exactly (Jvm.Term.string "GumBubble$Afternoon" (73 : Nat)) "java/lang/String"), (Jvm.Cond.eq (Jvm.Term.field (Jvm.Term.string "GumBubble$Afternoon" (73 : Nat)) "java/lang/String" "coder" "B") (Jvm.Term.int (0 : Int32))), (Jvm.Cond.arrayOf (Jvm.Term.field (Jvm.Term.string "GumBubble$Afternoon" (73 : Nat)) "java/lang/String" "value" "[B") Jvm.ClassFile.FieldType.byte), (Jvm.Cond.eq (Jvm.Term.length (Jvm.Term.field (Jvm.Term.string "GumBubble$Afternoon" (73 : Nat)) "java/lang/String" "value" "[B")) (Jvm.Term.int (4 : Int32))), (Jvm.Cond.eq (Jvm.Term.elem (Jvm.Term.field (Jvm.Term.string "GumBubble$Afternoon" (73 : Nat)) "java/lang/String" "value" "[B") (Jvm.Term.int (0 : Int32))) (Jvm.Term.int (105 : Int32))), (Jvm.Cond.eq (Jvm.Term.elem (Jvm.Term.field (Jvm.Term.string "GumBubble$Afternoon" (73 : Nat)) "java/lang/String" "value" "[B") (Jvm.Term.int (1 : Int32))) (Jvm.Term.int (102 : Int32))), (Jvm.Cond.eq (Jvm.Term.elem (Jvm.Term.field (Jvm.Term.string "GumBubble$Afternoon" (73 : Nat)) "java/lang/String" "value" "[B") (Jvm.Term.int (2 : Int32))) (Jvm.Term.int (102 : Int32))), (Jvm.Cond.eq (Jvm.Term.elem (Jvm.Term.field (Jvm.Term.string "GumBubble$Afternoon" (73 : Nat)) "java/lang/String" "value" "[B") (Jvm.Term.int (3 : Int32))) (Jvm.Term.int (32 : Int32))), (Jvm.Cond.not (Jvm.Cond.eq (Jvm.Term.string "GumBubble$Afternoon" (63 : Nat)) (Jvm.Term.string "GumBubble$Afternoon" (73 : Nat)))), (Jvm.Cond.not (Jvm.Cond.eq (Jvm.Term.string "GumBubble$Afternoon" (69 : Nat)) (Jvm.Term.string "GumBubble$Afternoon" (73 : Nat)))), (Jvm.Cond.not (Jvm.Cond.eq (Jvm.Term.string "GumBubble$Afternoon" (71 : Nat)) (Jvm.Term.string "GumBubble$Afternoon" (73 : Nat)))), (Jvm.Cond.exactly (Jvm.Term.string "GumBubble$Afternoon" (104 : Nat)) "java/lang/String"), (Jvm.Cond.eq (Jvm.Term.field (Jvm.Term.string "GumBubble$Afternoon" (104 : Nat)) "java/lang/String" "coder" "B") (Jvm.Term.int (0 : Int32))), (Jvm.Cond.arrayOf (Jvm.Term.field (Jvm.Term.string "GumBubble$Afternoon" (104 : Nat)) "java/lang/String" "value" "[B") Jvm.ClassFile.FieldType.byte), (Jvm.Cond.eq (Jvm.Term.length (Jvm.Term.field (Jvm.Term.string "GumBubble$Afternoon" (104 : Nat)) "java/lang/String" "value" "[B")) (Jvm.Term.int (6 : Int32))), (Jvm.Cond.eq (Jvm.Term.elem (Jvm.Term.field (Jvm.Term.string "GumBubble$Afternoon" (104 : Nat)) "java/lang/String" "value" "[B") (Jvm.Term.int (0 : Int32))) (Jvm.Term.int (99 : Int32))), (Jvm.Cond.eq (Jvm.Term.elem (Jvm.Term.field (Jvm.Term.string "GumBubble$Afternoon" (104 : Nat)) "java/lang/String" "value" "[B") (Jvm.Term.int (1 : Int32))) (Jvm.Term.int (107 : Int32))), (Jvm.Cond.eq (Jvm.Term.elem (Jvm.Term.field (Jvm.Term.string "GumBubble$Afternoon" (104 : Nat)) "java/lang/String" "value" "[B") (Jvm.Term.int (2 : Int32))) (Jvm.Term.int (118 : Int32))), (Jvm.Cond.eq (Jvm.Term.elem (Jvm.Term.field (Jvm.Term.string "GumBubble$Afternoon" (104 : Nat)) "java/lang/String" "value" "[B") (Jvm.Term.int (3 : Int32))) (Jvm.Term.int (112 : Int32))), (Jvm.Cond.eq (Jvm.Term.elem (Jvm.Term.field (Jvm.Term.string "GumBubble$Afternoon" (104 : Nat)) "java/lang/String" "value" "[B") (Jvm.Term.int (4 : Int32))) (Jvm.Term.int (115 : Int32))), (Jvm.Cond.eq (Jvm.Term.elem (Jvm.Term.field (Jvm.Term.string "GumBubble$Afternoon" (104 : Nat)) "java/lang/String" "value" "[B") (Jvm.Term.int (5 : Int32))) (Jvm.Term.int (109 : Int32))), (Jvm.Cond.not (Jvm.Cond.eq (Jvm.Term.string "GumBubble$Afternoon" (63 : Nat)) (Jvm.Term.string "GumBubble$Afternoon" (104 : Nat)))), (Jvm.Cond.not (Jvm.Cond.eq (Jvm.Term.string "GumBubble$Afternoon" (69 : Nat)) (Jvm.Term.string "GumBubble$Afternoon" (104 : Nat)))), (Jvm.Cond.not (Jvm.Cond.eq (Jvm.Term.string "GumBubble$Afternoon" (71 : Nat)) (Jvm.Term.string "GumBubble$Afternoon" (104 : Nat)))), (Jvm.Cond.not (Jvm.Cond.eq (Jvm.Term.string "GumBubble$Afternoon" (73 : Nat)) (Jvm.Term.string "GumBubble$Afternoon" (104 : Nat)))), (Jvm.Cond.exactly (Jvm.Term.string "GumBubble$Afternoon" (109 : Nat)) "java/lang/String"), (Jvm.Cond.eq (Jvm.Term.field (Jvm.Term.string "GumBubble$Afternoon" (109 : Nat)) "java/lang/String" "coder" "B") (Jvm.Term.int (0 : Int32))), (Jvm.Cond.arrayOf (Jvm.Term.field (Jvm.Term.string "GumBubble$Afternoon" (109 : Nat)) "java/lang/String" "value" "[B") Jvm.ClassFile.FieldType.byte), (Jvm.Cond.eq (Jvm.Term.length (Jvm.Term.field (Jvm.Term.string "GumBubble$Afternoon" (109 : Nat)) "java/lang/String" "value" "[B")) (Jvm.Term.int (3 : Int32))), (Jvm.Cond.eq (Jvm.Term.elem (Jvm.Term.field (Jvm.Term.string "GumBubble$Afternoon" (109 : Nat)) "java/lang/String" "value" "[B") (Jvm.Term.int (0 : Int32))) (Jvm.Term.int (60 : Int32))), (Jvm.Cond.eq (Jvm.Term.elem (Jvm.Term.field (Jvm.Term.string "GumBubble$Afternoon" (109 : Nat)) "java/lang/String" "value" "[B") (Jvm.Term.int (1 : Int32))) (Jvm.Term.int (61 : Int32))), (Jvm.Cond.eq (Jvm.Term.elem (Jvm.Term.field (Jvm.Term.string "GumBubble$Afternoon" (109 : Nat)) "java/lang/String" "value" "[B") (Jvm.Term.int (2 : Int32))) (Jvm.Term.int (62 : Int32))), (Jvm.Cond.not (Jvm.Cond.eq (Jvm.Term.string "GumBubble$Afternoon" (63 : Nat)) (Jvm.Term.string "GumBubble$Afternoon" (109 : Nat)))), (Jvm.Cond.not (Jvm.Cond.eq (Jvm.Term.string "GumBubble$Afternoon" (69 : Nat)) (Jvm.Term.string "GumBubble$Afternoon" (109 : Nat)))), (Jvm.Cond.not (Jvm.Cond.eq (Jvm.Term.string "GumBubble$Afternoon" (71 : Nat)) (Jvm.Term.string "GumBubble$Afternoon" (109 : Nat)))), (Jvm.Cond.not (Jvm.Cond.eq (Jvm.Term.string "GumBubble$Afternoon" (73 : Nat)) (Jvm.Term.string "GumBubble$Afternoon" (109 : Nat)))), (Jvm.Cond.not (Jvm.Cond.eq (Jvm.Term.string "GumBubble$Afternoon" (104 : Nat)) (Jvm.Term.string "GumBubble$Afternoon" (109 : Nat)))), (Jvm.Cond.exactly (Jvm.Term.string "GumBubbleModel" (121 : Nat)) "java/lang/String"), (Jvm.Cond.eq (Jvm.Term.field (Jvm.Term.string "GumBubbleModel" (121 : Nat)) "java/lang/String" "coder" "B") (Jvm.Term.int (0 : Int32))), (Jvm.Cond.arrayOf (Jvm.Term.field (Jvm.Term.string "GumBubbleModel" (121 : Nat)) "java/lang/String" "value" "[B") Jvm.ClassFile.FieldType.byte), (Jvm.Cond.eq (Jvm.Term.length (Jvm.Term.field (Jvm.Term.string "GumBubbleModel" (121 : Nat)) "java/lang/String" "value" "[B")) (Jvm.Term.int (5 : Int32))), (Jvm.Cond.eq (Jvm.Term.elem (Jvm.Term.field (Jvm.Term.string "GumBubbleModel" (121 : Nat)) "java/lang/String" "value" "[B") (Jvm.Term.int (0 : Int32))) (Jvm.Term.int (119 : Int32))), (Jvm.Cond.eq (Jvm.Term.elem (Jvm.Term.field (Jvm.Term.string "GumBubbleModel" (121 : Nat)) "java/lang/String" "value" "[B") (Jvm.Term.int (1 : Int32))) (Jvm.Term.int (105 : Int32))), (Jvm.Cond.eq (Jvm.Term.elem (Jvm.Term.field (Jvm.Term.string "GumBubbleModel" (121 : Nat)) "java/lang/String" "value" "[B") (Jvm.Term.int (2 : Int32))) (Jvm.Term.int (110 : Int32))), (Jvm.Cond.eq (Jvm.Term.elem (Jvm.Term.field (Jvm.Term.string "GumBubbleModel" (121 : Nat)) "java/lang/String" "value" "[B") (Jvm.Term.int (3 : Int32))) (Jvm.Term.int (100 : Int32))), (Jvm.Cond.eq (Jvm.Term.elem (Jvm.Term.field (Jvm.Term.string "GumBubbleModel" (121 : Nat)) "java/lang/String" "value" "[B") (Jvm.Term.int (4 : Int32))) (Jvm.Term.int (32 : Int32))), (Jvm.Cond.eq (Jvm.Term.string "GumBubble$Afternoon" (63 : Nat)) (Jvm.Term.string "GumBubbleModel" (121 : Nat))), (Jvm.Cond.not (Jvm.Cond.eq (Jvm.Term.string "GumBubble$Afternoon" (69 : Nat)) (Jvm.Term.string "GumBubbleModel" (121 : Nat)))), (Jvm.Cond.not (Jvm.Cond.eq (Jvm.Term.string "GumBubble$Afternoon" (71 : Nat)) (Jvm.Term.string "GumBubbleModel" (121 : Nat)))), (Jvm.Cond.not (Jvm.Cond.eq (Jvm.Term.string "GumBubble$Afternoon" (73 : Nat)) (Jvm.Term.string "GumBubbleModel" (121 : Nat)))), (Jvm.Cond.not (Jvm.Cond.eq (Jvm.Term.string "GumBubble$Afternoon" (104 : Nat)) (Jvm.Term.string "GumBubbleModel" (121 : Nat)))), (Jvm.Cond.not (Jvm.Cond.eq (Jvm.Term.string "GumBubble$Afternoon" (109 : Nat)) (Jvm.Term.string "GumBubbleModel" (121 : Nat)))), (Jvm.Cond.exactly (Jvm.Term.string "GumBubbleModel" (108 : Nat)) "java/lang/String"), (Jvm.Cond.eq (Jvm.Term.field (Jvm.Term.string "GumBubbleModel" (108 : Nat)) "java/lang/String" "coder" "B") (Jvm.Term.int (0 : Int32))), (Jvm.Cond.arrayOf (Jvm.Term.field (Jvm.Term.string "GumBubbleModel" (108 : Nat)) "java/lang/String" "value" "[B") Jvm.ClassFile.FieldType.byte), (Jvm.Cond.eq (Jvm.Term.length (Jvm.Term.field (Jvm.Term.string "GumBubbleModel" (108 : Nat)) "java/lang/String" "value" "[B")) (Jvm.Term.int (5 : Int32))), (Jvm.Cond.eq (Jvm.Term.elem (Jvm.Term.field (Jvm.Term.string "GumBubbleModel" (108 : Nat)) "java/lang/String" "value" "[B") (Jvm.Term.int (0 : Int32))) (Jvm.Term.int (119 : Int32))), (Jvm.Cond.eq (Jvm.Term.elem (Jvm.Term.field (Jvm.Term.string "GumBubbleModel" (108 : Nat)) "java/lang/String" "value" "[B") (Jvm.Term.int (1 : Int32))) (Jvm.Term.int (101 : Int32))), (Jvm.Cond.eq (Jvm.Term.elem (Jvm.Term.field (Jvm.Term.string "GumBubbleModel" (108 : Nat)) "java/lang/String" "value" "[B") (Jvm.Term.int (2 : Int32))) (Jvm.Term.int (101 : Int32))), (Jvm.Cond.eq (Jvm.Term.elem (Jvm.Term.field (Jvm.Term.string "GumBubbleModel" (108 : Nat)) "java/lang/String" "value" "[B") (Jvm.Term.int (3 : Int32))) (Jvm.Term.int (116 : Int32))), (Jvm.Cond.eq (Jvm.Term.elem (Jvm.Term.field (Jvm.Term.string "GumBubbleModel" (108 : Nat)) "java/lang/String" "value" "[B") (Jvm.Term.int (4 : Int32))) (Jvm.Term.int (32 : Int32))), (Jvm.Cond.not (Jvm.Cond.eq (Jvm.Term.string "GumBubble$Afternoon" (63 : Nat)) (Jvm.Term.string "GumBubbleModel" (108 : Nat)))), (Jvm.Cond.eq (Jvm.Term.string "GumBubble$Afternoon" (69 : Nat)) (Jvm.Term.string "GumBubbleModel" (108 : Nat))), (Jvm.Cond.not (Jvm.Cond.eq (Jvm.Term.string "GumBubble$Afternoon" (71 : Nat)) (Jvm.Term.string "GumBubbleModel" (108 : Nat)))), (Jvm.Cond.not (Jvm.Cond.eq (Jvm.Term.string "GumBubble$Afternoon" (73 : Nat)) (Jvm.Term.string "GumBubbleModel" (108 : Nat)))), (Jvm.Cond.not (Jvm.Cond.eq (Jvm.Term.string "GumBubble$Afternoon" (104 : Nat)) (Jvm.Term.string "GumBubbleModel" (108 : Nat)))), (Jvm.Cond.not (Jvm.Cond.eq (Jvm.Term.string "GumBubble$Afternoon" (109 : Nat)) (Jvm.Term.string "GumBubbleModel" (108 : Nat)))), (Jvm.Cond.not (Jvm.Cond.eq (Jvm.Term.string "GumBubbleModel" (121 : Nat)) (Jvm.Term.string "GumBubbleModel" (108 : Nat)))), (Jvm.Cond.exactly (Jvm.Term.string "GumBubbleModel" (114 : Nat)) "java/lang/String"), (Jvm.Cond.eq (Jvm.Term.field (Jvm.Term.string "GumBubbleModel" (114 : Nat)) "java/lang/String" "coder" "B") (Jvm.Term.int (0 : Int32))), (Jvm.Cond.arrayOf (Jvm.Term.field (Jvm.Term.string "GumBubbleModel" (114 : Nat)) "java/lang/String" "value" "[B") Jvm.ClassFile.FieldType.byte), (Jvm.Cond.eq (Jvm.Term.length (Jvm.Term.field (Jvm.Term.string "GumBubbleModel" (114 : Nat)) "java/lang/String" "value" "[B")) (Jvm.Term.int (6 : Int32))), (Jvm.Cond.eq (Jvm.Term.elem (Jvm.Term.field (Jvm.Term.string "GumBubbleModel" (114 : Nat)) "java/lang/String" "value" "[B") (Jvm.Term.int (0 : Int32))) (Jvm.Term.int (114 : Int32))), (Jvm.Cond.eq (Jvm.Term.elem (Jvm.Term.field (Jvm.Term.string "GumBubbleModel" (114 : Nat)) "java/lang/String" "value" "[B") (Jvm.Term.int (1 : Int32))) (Jvm.Term.int (101 : Int32))), (Jvm.Cond.eq (Jvm.Term.elem (Jvm.Term.field (Jvm.Term.string "GumBubbleModel" (114 : Nat)) "java/lang/String" "value" "[B") (Jvm.Term.int (2 : Int32))) (Jvm.Term.int (116 : Int32))), (Jvm.Cond.eq (Jvm.Term.elem (Jvm.Term.field (Jvm.Term.string "GumBubbleModel" (114 : Nat)) "java/lang/String" "value" "[B") (Jvm.Term.int (3 : Int32))) (Jvm.Term.int (99 : Int32))), (Jvm.Cond.eq (Jvm.Term.elem (Jvm.Term.field (Jvm.Term.string "GumBubbleModel" (114 : Nat)) "java/lang/String" "value" "[B") (Jvm.Term.int (4 : Int32))) (Jvm.Term.int (104 : Int32))), (Jvm.Cond.eq (Jvm.Term.elem (Jvm.Term.field (Jvm.Term.string "GumBubbleModel" (114 : Nat)) "java/lang/String" "value" "[B") (Jvm.Term.int (5 : Int32))) (Jvm.Term.int (32 : Int32))), (Jvm.Cond.not (Jvm.Cond.eq (Jvm.Term.string "GumBubble$Afternoon" (63 : Nat)) (Jvm.Term.string "GumBubbleModel" (114 : Nat)))), (Jvm.Cond.not (Jvm.Cond.eq (Jvm.Term.string "GumBubble$Afternoon" (69 : Nat)) (Jvm.Term.string "GumBubbleModel" (114 : Nat)))), (Jvm.Cond.eq (Jvm.Term.string "GumBubble$Afternoon" (71 : Nat)) (Jvm.Term.string "GumBubbleModel" (114 : Nat))), (Jvm.Cond.not (Jvm.Cond.eq (Jvm.Term.string "GumBubble$Afternoon" (73 : Nat)) (Jvm.Term.string "GumBubbleModel" (114 : Nat)))), (Jvm.Cond.not (Jvm.Cond.eq (Jvm.Term.string "GumBubble$Afternoon" (104 : Nat)) (Jvm.Term.string "GumBubbleModel" (114 : Nat)))), (Jvm.Cond.not (Jvm.Cond.eq (Jvm.Term.string "GumBubble$Afternoon" (109 : Nat)) (Jvm.Term.string "GumBubbleModel" (114 : Nat)))), (Jvm.Cond.not (Jvm.Cond.eq (Jvm.Term.string "GumBubbleModel" (121 : Nat)) (Jvm.Term.string "GumBubbleModel" (114 : Nat)))), (Jvm.Cond.not (Jvm.Cond.eq (Jvm.Term.string "GumBubbleModel" (108 : Nat)) (Jvm.Term.string "GumBubbleModel" (114 : Nat)))), (Jvm.Cond.exactly (Jvm.Term.string "GumBubbleModel" (90 : Nat)) "java/lang/String"), (Jvm.Cond.eq (Jvm.Term.field (Jvm.Term.string "GumBubbleModel" (90 : Nat)) "java/lang/String" "coder" "B") (Jvm.Term.int (0 : Int32))), (Jvm.Cond.arrayOf (Jvm.Term.field (Jvm.Term.string "GumBubbleModel" (90 : Nat)) "java/lang/String" "value" "[B") Jvm.ClassFile.FieldType.byte), (Jvm.Cond.eq (Jvm.Term.length (Jvm.Term.field (Jvm.Term.string "GumBubbleModel" (90 : Nat)) "java/lang/String" "value" "[B")) (Jvm.Term.int (6 : Int32))), (Jvm.Cond.eq (Jvm.Term.elem (Jvm.Term.field (Jvm.Term.string "GumBubbleModel" (90 : Nat)) "java/lang/String" "value" "[B") (Jvm.Term.int (0 : Int32))) (Jvm.Term.int (99 : Int32))), (Jvm.Cond.eq (Jvm.Term.elem (Jvm.Term.field (Jvm.Term.string "GumBubbleModel" (90 : Nat)) "java/lang/String" "value" "[B") (Jvm.Term.int (1 : Int32))) (Jvm.Term.int (107 : Int32))), (Jvm.Cond.eq (Jvm.Term.elem (Jvm.Term.field (Jvm.Term.string "GumBubbleModel" (90 : Nat)) "java/lang/String" "value" "[B") (Jvm.Term.int (2 : Int32))) (Jvm.Term.int (118 : Int32))), (Jvm.Cond.eq (Jvm.Term.elem (Jvm.Term.field (Jvm.Term.string "GumBubbleModel" (90 : Nat)) "java/lang/String" "value" "[B") (Jvm.Term.int (3 : Int32))) (Jvm.Term.int (112 : Int32))), (Jvm.Cond.eq (Jvm.Term.elem (Jvm.Term.field (Jvm.Term.string "GumBubbleModel" (90 : Nat)) "java/lang/String" "value" "[B") (Jvm.Term.int (4 : Int32))) (Jvm.Term.int (115 : Int32))), (Jvm.Cond.eq (Jvm.Term.elem (Jvm.Term.field (Jvm.Term.string "GumBubbleModel" (90 : Nat)) "java/lang/String" "value" "[B") (Jvm.Term.int (5 : Int32))) (Jvm.Term.int (109 : Int32))), (Jvm.Cond.not (Jvm.Cond.eq (Jvm.Term.string "GumBubble$Afternoon" (63 : Nat)) (Jvm.Term.string "GumBubbleModel" (90 : Nat)))), (Jvm.Cond.not (Jvm.Cond.eq (Jvm.Term.string "GumBubble$Afternoon" (69 : Nat)) (Jvm.Term.string "GumBubbleModel" (90 : Nat)))), (Jvm.Cond.not (Jvm.Cond.eq (Jvm.Term.string "GumBubble$Afternoon" (71 : Nat)) (Jvm.Term.string "GumBubbleModel" (90 : Nat)))), (Jvm.Cond.not (Jvm.Cond.eq (Jvm.Term.string "GumBubble$Afternoon" (73 : Nat)) (Jvm.Term.string "GumBubbleModel" (90 : Nat)))), (Jvm.Cond.eq (Jvm.Term.string "GumBubble$Afternoon" (104 : Nat)) (Jvm.Term.string "GumBubbleModel" (90 : Nat))), (Jvm.Cond.not (Jvm.Cond.eq (Jvm.Term.string "GumBubble$Afternoon" (109 : Nat)) (Jvm.Term.string "GumBubbleModel" (90 : Nat)))), (Jvm.Cond.not (Jvm.Cond.eq (Jvm.Term.string "GumBubbleModel" (121 : Nat)) (Jvm.Term.string "GumBubbleModel" (90 : Nat)))), (Jvm.Cond.not (Jvm.Cond.eq (Jvm.Term.string "GumBubbleModel" (108 : Nat)) (Jvm.Term.string "GumBubbleModel" (90 : Nat)))), (Jvm.Cond.not (Jvm.Cond.eq (Jvm.Term.string "GumBubbleModel" (114 : Nat)) (Jvm.Term.string "GumBubbleModel" (90 : Nat)))), (Jvm.Cond.exactly (Jvm.Term.string "GumBubbleModel" (96 : Nat)) "java/lang/String"), (Jvm.Cond.eq (Jvm.Term.field (Jvm.Term.string "GumBubbleModel" (96 : Nat)) "java/lang/String" "coder" "B") (Jvm.Term.int (0 : Int32))), (Jvm.Cond.arrayOf (Jvm.Term.field (Jvm.Term.string "GumBubbleModel" (96 : Nat)) "java/lang/String" "value" "[B") Jvm.ClassFile.FieldType.byte), (Jvm.Cond.eq (Jvm.Term.length (Jvm.Term.field (Jvm.Term.string "GumBubbleModel" (96 : Nat)) "java/lang/String" "value" "[B")) (Jvm.Term.int (3 : Int32))), (Jvm.Cond.eq (Jvm.Term.elem (Jvm.Term.field (Jvm.Term.string "GumBubbleModel" (96 : Nat)) "java/lang/String" "value" "[B") (Jvm.Term.int (0 : Int32))) (Jvm.Term.int (60 : Int32))), (Jvm.Cond.eq (Jvm.Term.elem (Jvm.Term.field (Jvm.Term.string "GumBubbleModel" (96 : Nat)) "java/lang/String" "value" "[B") (Jvm.Term.int (1 : Int32))) (Jvm.Term.int (61 : Int32))), (Jvm.Cond.eq (Jvm.Term.elem (Jvm.Term.field (Jvm.Term.string "GumBubbleModel" (96 : Nat)) "java/lang/String" "value" "[B") (Jvm.Term.int (2 : Int32))) (Jvm.Term.int (62 : Int32))), (Jvm.Cond.not (Jvm.Cond.eq (Jvm.Term.string "GumBubble$Afternoon" (63 : Nat)) (Jvm.Term.string "GumBubbleModel" (96 : Nat)))), (Jvm.Cond.not (Jvm.Cond.eq (Jvm.Term.string "GumBubble$Afternoon" (69 : Nat)) (Jvm.Term.string "GumBubbleModel" (96 : Nat)))), (Jvm.Cond.not (Jvm.Cond.eq (Jvm.Term.string "GumBubble$Afternoon" (71 : Nat)) (Jvm.Term.string "GumBubbleModel" (96 : Nat)))), (Jvm.Cond.not (Jvm.Cond.eq (Jvm.Term.string "GumBubble$Afternoon" (73 : Nat)) (Jvm.Term.string "GumBubbleModel" (96 : Nat)))), (Jvm.Cond.not (Jvm.Cond.eq (Jvm.Term.string "GumBubble$Afternoon" (104 : Nat)) (Jvm.Term.string "GumBubbleModel" (96 : Nat)))), (Jvm.Cond.eq (Jvm.Term.string "GumBubble$Afternoon" (109 : Nat)) (Jvm.Term.string "GumBubbleModel" (96 : Nat))), (Jvm.Cond.not (Jvm.Cond.eq (Jvm.Term.string "GumBubbleModel" (121 : Nat)) (Jvm.Term.string "GumBubbleModel" (96 : Nat)))), (Jvm.Cond.not (Jvm.Cond.eq (Jvm.Term.string "GumBubbleModel" (108 : Nat)) (Jvm.Term.string "GumBubbleModel" (96 : Nat)))), (Jvm.Cond.not (Jvm.Cond.eq (Jvm.Term.string "GumBubbleModel" (114 : Nat)) (Jvm.Term.string "GumBubbleModel" (96 : Nat)))), (Jvm.Cond.not (Jvm.Cond.eq (Jvm.Term.string "GumBubbleModel" (90 : Nat)) (Jvm.Term.string "GumBubbleModel" (96 : Nat)))), (Jvm.Cond.exactly (Jvm.Term.string "GumBubbleModel" (119 : Nat)) "java/lang/String"), (Jvm.Cond.eq (Jvm.Term.field (Jvm.Term.string "GumBubbleModel" (119 : Nat)) "java/lang/String" "coder" "B") (Jvm.Term.int (0 : Int32))), (Jvm.Cond.arrayOf (Jvm.Term.field (Jvm.Term.string "GumBubbleModel" (119 : Nat)) "java/lang/String" "value" "[B") Jvm.ClassFile.FieldType.byte), (Jvm.Cond.eq (Jvm.Term.length (Jvm.Term.field (Jvm.Term.string "GumBubbleModel" (119 : Nat)) "java/lang/String" "value" "[B")) (Jvm.Term.int (4 : Int32))), (Jvm.Cond.eq (Jvm.Term.elem (Jvm.Term.field (Jvm.Term.string "GumBubbleModel" (119 : Nat)) "java/lang/String" "value" "[B") (Jvm.Term.int (0 : Int32))) (Jvm.Term.int (105 : Int32))), (Jvm.Cond.eq (Jvm.Term.elem (Jvm.Term.field (Jvm.Term.string "GumBubbleModel" (119 : Nat)) "java/lang/String" "value" "[B") (Jvm.Term.int (1 : Int32))) (Jvm.Term.int (102 : Int32))), (Jvm.Cond.eq (Jvm.Term.elem (Jvm.Term.field (Jvm.Term.string "GumBubbleModel" (119 : Nat)) "java/lang/String" "value" "[B") (Jvm.Term.int (2 : Int32))) (Jvm.Term.int (102 : Int32))), (Jvm.Cond.eq (Jvm.Term.elem (Jvm.Term.field (Jvm.Term.string "GumBubbleModel" (119 : Nat)) "java/lang/String" "value" "[B") (Jvm.Term.int (3 : Int32))) (Jvm.Term.int (32 : Int32))), (Jvm.Cond.not (Jvm.Cond.eq (Jvm.Term.string "GumBubble$Afternoon" (63 : Nat)) (Jvm.Term.string "GumBubbleModel" (119 : Nat)))), (Jvm.Cond.not (Jvm.Cond.eq (Jvm.Term.string "GumBubble$Afternoon" (69 : Nat)) (Jvm.Term.string "GumBubbleModel" (119 : Nat)))), (Jvm.Cond.not (Jvm.Cond.eq (Jvm.Term.string "GumBubble$Afternoon" (71 : Nat)) (Jvm.Term.string "GumBubbleModel" (119 : Nat)))), (Jvm.Cond.eq (Jvm.Term.string "GumBubble$Afternoon" (73 : Nat)) (Jvm.Term.string "GumBubbleModel" (119 : Nat))), (Jvm.Cond.not (Jvm.Cond.eq (Jvm.Term.string "GumBubble$Afternoon" (104 : Nat)) (Jvm.Term.string "GumBubbleModel" (119 : Nat)))), (Jvm.Cond.not (Jvm.Cond.eq (Jvm.Term.string "GumBubble$Afternoon" (109 : Nat)) (Jvm.Term.string "GumBubbleModel" (119 : Nat)))), (Jvm.Cond.not (Jvm.Cond.eq (Jvm.Term.string "GumBubbleModel" (121 : Nat)) (Jvm.Term.string "GumBubbleModel" (119 : Nat)))), (Jvm.Cond.not (Jvm.Cond.eq (Jvm.Term.string "GumBubbleModel" (108 : Nat)) (Jvm.Term.string "GumBubbleModel" (119 : Nat)))), (Jvm.Cond.not (Jvm.Cond.eq (Jvm.Term.string "GumBubbleModel" (114 : Nat)) (Jvm.Term.string "GumBubbleModel" (119 : Nat)))), (Jvm.Cond.not (Jvm.Cond.eq (Jvm.Term.string "GumBubbleModel" (90 : Nat)) (Jvm.Term.string "GumBubbleModel" (119 : Nat)))), (Jvm.Cond.not (Jvm.Cond.eq (Jvm.Term.string "GumBubbleModel" (96 : Nat)) (Jvm.Term.string "GumBubbleModel" (119 : Nat))))]
set_option maxRecDepth 20000 in
theorem gm_fl_eq : flatC (Jvm.Cond.and given_1 narrow_1) = gm_fl := by decide +kernel
set_option maxHeartbeats 4000000 in
set_option maxRecDepth 20000 in
/-- the words at the start are the machine's -/
theorem gm_K0 {s : State} {b : Nat} (sa : Nat → Nat) (H0 : Heap) (htx : ∀ (D : va_G) (ca : Nat → ClassId), gm_TX (D, ca, sa, H0) s) (hts : ∀ w ∈ lw_tbl, w.before #[Value.ref b] s = true) (hgv : (Jvm.Cond.and given_1 narrow_1).before #[Value.ref b] s = true) : ∃ (D : va_G) (ca : Nat → ClassId), gm_K (D, ca, sa, H0) s := by
  have hG : ∀ w ∈ gm_G, w.before #[Value.ref b] s = true := fun w h => hts w (List.mem_filter.mp h).1
  have hk : ∀ k : Nat, ∃ (cC : ClassId) (iS : Nat → Nat), ∀ q : vw_C, gm_cls[k]? = some q → u_Kn s q.1 q.2.1 q.2.2 cC iS := by
    intro k
    cases e : gm_cls[k]? with
    | none => exact ⟨0, fun _ => 0, fun q h => by cases h⟩
    | some q0 =>
      obtain ⟨cC, iS, h⟩ := u_known (C := q0.1) (T := q0.2.1) (N := q0.2.2) (n := q0.2.2) hG (gm_lays k q0 e) (hG _ (gm_inst0 k q0 e))
      exact ⟨cC, iS, fun q hq => by cases hq; exact h⟩
  obtain ⟨cI, aI, fI⟩ := gm_arrP0 (ty := .int) (hts _ (List.mem_append_right _ (List.mem_of_getElem? (i := 51) (by decide +kernel))))
  obtain ⟨cZ, aZ, fZ⟩ := gm_arrP0 (ty := .boolean) (hts _ (List.mem_append_right _ (List.mem_of_getElem? (i := 959) (by decide +kernel))))
  obtain ⟨cP, aP, rP⟩ := gm_arrO0 (C := "GumBubble$Plain") (hts _ (List.mem_append_right _ (List.mem_of_getElem? (i := 30) (by decide +kernel))))
  obtain ⟨cC, aC, rC⟩ := gm_arrO0 (C := "GumBubble$Child") (hts _ (List.mem_append_right _ (List.mem_of_getElem? (i := 118) (by decide +kernel))))
  have hcls : ∀ (k : Nat) (q : vw_C), gm_cls[k]? = some q → u_Kn s q.1 q.2.1 q.2.2 (Classical.choose (hk k)) (Classical.choose (Classical.choose_spec (hk k))) := fun k q hq => Classical.choose_spec (Classical.choose_spec (hk k)) q hq
  have hself : ∀ (k : Nat) (q : vw_C), gm_cls[k]? = some q → gm_As q.1 q.1 s := fun k q hq => by
    have h := (hcls k q hq).2
    exact ⟨_, _, h.1, h.1, va_assign h⟩
  have hcast : ∀ {a z : String}, (Jvm.Cond.castable a z).before #[Value.ref b] s = true → gm_As a z s := fun h => Cond.castable_spec h
  have hs : ∀ w ∈ gm_fl, w.before #[Value.ref b] s = true := by rw [← gm_fl_eq]; exact flat_of_before _ hgv
  have hno : ∀ {a z : String}, Jvm.Cond.not (.castable a z) ∈ gm_fl → va_Nc a z s := fun h => va_Nc.of (hs _ h)
  refine ⟨(fun k => Classical.choose (hk k), fun k => Classical.choose (Classical.choose_spec (hk k))), (fun t => if t = 1 then cI else if t = 2 then cZ else if t = 3 then cP else cC), ⟨hcls, ?_⟩, va_AO.of (hts _ (List.mem_append_right _ (List.mem_of_getElem? (i := 30) (by decide +kernel)))), va_AO.of (hts _ (List.mem_append_right _ (List.mem_of_getElem? (i := 118) (by decide +kernel)))), ?_, va_any rfl (hts _ (List.mem_append_right _ (List.mem_of_getElem? (i := 121) (by decide +kernel)))), va_any rfl (hts _ (List.mem_append_right _ (List.mem_of_getElem? (i := 304) (by decide +kernel)))), ?_, htx _ _⟩
  · intro k q hq
    match k, hq with
    | 0, hq => cases hq; exact ⟨aI, fI⟩
    | 1, hq => cases hq; exact ⟨aZ, fZ⟩
    | 2, hq => cases hq; exact ⟨aP, rP⟩
    | 3, hq => cases hq; exact ⟨aC, rC⟩
    | k + 4, hq => simp [gm_tys] at hq
  · intro q hq
    simp only [gm_yes, List.mem_cons, List.not_mem_nil, or_false] at hq
    rcases hq with rfl | rfl | rfl | rfl | rfl | rfl | rfl | rfl | rfl | rfl | rfl | rfl | rfl | rfl | rfl | rfl | rfl
    · exact hself 5 _ rfl
    · exact hself 2 _ rfl
    · exact hself 6 _ rfl
    · exact hself 9 _ rfl
    · exact hself 3 _ rfl
    · exact hself 4 _ rfl
    · exact hself 1 _ rfl
    · exact hself 10 _ rfl
    · exact hcast (hts _ (List.mem_append_right _ (List.mem_of_getElem? (i := 1331) (by decide +kernel))))
    · exact hcast (hts _ (List.mem_append_right _ (List.mem_of_getElem? (i := 1332) (by decide +kernel))))
    · exact hcast (hts _ (List.mem_append_right _ (List.mem_of_getElem? (i := 1333) (by decide +kernel))))
    · exact hcast (hts _ (List.mem_append_right _ (List.mem_of_getElem? (i := 1334) (by decide +kernel))))
    · exact hcast (hts _ (List.mem_append_right _ (List.mem_of_getElem? (i := 1335) (by decide +kernel))))
    · exact hcast (hts _ (List.mem_append_right _ (List.mem_of_getElem? (i := 1336) (by decide +kernel))))
    · exact hcast (hts _ (List.mem_append_right _ (List.mem_of_getElem? (i := 1328) (by decide +kernel))))
    · exact hcast (hts _ (List.mem_append_right _ (List.mem_of_getElem? (i := 1329) (by decide +kernel))))
    · exact hcast (hts _ (List.mem_append_right _ (List.mem_of_getElem? (i := 1330) (by decide +kernel))))
  · intro q hq
    simp only [gm_no0, List.mem_cons, List.not_mem_nil, or_false] at hq
    rcases hq with rfl | rfl | rfl | rfl | rfl | rfl | rfl | rfl | rfl | rfl | rfl | rfl | rfl | rfl | rfl | rfl | rfl | rfl | rfl | rfl | rfl | rfl | rfl | rfl | rfl | rfl | rfl | rfl | rfl | rfl | rfl | rfl | rfl
    · exact hno (by decide +kernel)
    · exact hno (by decide +kernel)
    · exact hno (by decide +kernel)
    · exact hno (by decide +kernel)
    · exact hno (by decide +kernel)
    · exact hno (by decide +kernel)
    · exact hno (by decide +kernel)
    · exact hno (by decide +kernel)
    · exact hno (by decide +kernel)
    · exact hno (by decide +kernel)
    · exact hno (by decide +kernel)
    · exact hno (by decide +kernel)
    · exact hno (by decide +kernel)
    · exact hno (by decide +kernel)
    · exact hno (by decide +kernel)
    · exact hno (by decide +kernel)
    · exact hno (by decide +kernel)
    · exact hno (by decide +kernel)
    · exact hno (by decide +kernel)
    · exact hno (by decide +kernel)
    · exact hno (by decide +kernel)
    · exact hno (by decide +kernel)
    · exact hno (by decide +kernel)
    · exact hno (by decide +kernel)
    · exact hno (by decide +kernel)
    · exact hno (by decide +kernel)
    · exact hno (by decide +kernel)
    · exact hno (by decide +kernel)
    · exact hno (by decide +kernel)
    · exact hno (by decide +kernel)
    · exact hno (by decide +kernel)
    · exact hno (by decide +kernel)
    · exact hno (by decide +kernel)
def gm_tm (i : Nat) : Term := match i with
  | 0 => .string "GumBubble$Afternoon" 63
  | 1 => .string "GumBubble$Afternoon" 69
  | 2 => .string "GumBubble$Afternoon" 71
  | 3 => .string "GumBubble$Afternoon" 73
  | 4 => .string "GumBubble$Afternoon" 104
  | _ => .string "GumBubble$Afternoon" 109
set_option maxHeartbeats 8000000 in
set_option maxRecDepth 20000 in
theorem gm_TX0 {s : State} {b : Nat} (hts : ∀ w ∈ lw_tbl, w.before #[Value.ref b] s = true) (hgv : (Jvm.Cond.and given_1 narrow_1).before #[Value.ref b] s = true) : ∃ sa : Nat → Nat, sa 0 = b ∧ ∀ (D : va_G) (ca : Nat → ClassId), gm_TX (D, ca, sa, s.heap) s := by
  have hs : ∀ w ∈ gm_fl, w.before #[Value.ref b] s = true := by rw [← gm_fl_eq]; exact flat_of_before _ hgv
  have hA : ∀ a : Nat, a < s.heap.size → ¬ gm_never a := fun _ _ h => h
  have hne : ∀ i j : Nat, i < 6 → j < 6 → i ≠ j → (Cond.not (Cond.eq (gm_tm i) (gm_tm j))).before #[Value.ref b] s = true ∨ (Cond.not (Cond.eq (gm_tm j) (gm_tm i))).before #[Value.ref b] s = true := by
    intro i j hi hj
    match i, j, hi, hj with
    | 0, 0, _, _ => exact fun h => absurd rfl h
    | 0, 1, _, _ => exact fun _ => Or.inl (hs _ (by decide +kernel))
    | 0, 2, _, _ => exact fun _ => Or.inl (hs _ (by decide +kernel))
    | 0, 3, _, _ => exact fun _ => Or.inl (hs _ (by decide +kernel))
    | 0, 4, _, _ => exact fun _ => Or.inl (hs _ (by decide +kernel))
    | 0, 5, _, _ => exact fun _ => Or.inl (hs _ (by decide +kernel))
    | 1, 0, _, _ => exact fun _ => Or.inr (hs _ (by decide +kernel))
    | 1, 1, _, _ => exact fun h => absurd rfl h
    | 1, 2, _, _ => exact fun _ => Or.inl (hs _ (by decide +kernel))
    | 1, 3, _, _ => exact fun _ => Or.inl (hs _ (by decide +kernel))
    | 1, 4, _, _ => exact fun _ => Or.inl (hs _ (by decide +kernel))
    | 1, 5, _, _ => exact fun _ => Or.inl (hs _ (by decide +kernel))
    | 2, 0, _, _ => exact fun _ => Or.inr (hs _ (by decide +kernel))
    | 2, 1, _, _ => exact fun _ => Or.inr (hs _ (by decide +kernel))
    | 2, 2, _, _ => exact fun h => absurd rfl h
    | 2, 3, _, _ => exact fun _ => Or.inl (hs _ (by decide +kernel))
    | 2, 4, _, _ => exact fun _ => Or.inl (hs _ (by decide +kernel))
    | 2, 5, _, _ => exact fun _ => Or.inl (hs _ (by decide +kernel))
    | 3, 0, _, _ => exact fun _ => Or.inr (hs _ (by decide +kernel))
    | 3, 1, _, _ => exact fun _ => Or.inr (hs _ (by decide +kernel))
    | 3, 2, _, _ => exact fun _ => Or.inr (hs _ (by decide +kernel))
    | 3, 3, _, _ => exact fun h => absurd rfl h
    | 3, 4, _, _ => exact fun _ => Or.inl (hs _ (by decide +kernel))
    | 3, 5, _, _ => exact fun _ => Or.inl (hs _ (by decide +kernel))
    | 4, 0, _, _ => exact fun _ => Or.inr (hs _ (by decide +kernel))
    | 4, 1, _, _ => exact fun _ => Or.inr (hs _ (by decide +kernel))
    | 4, 2, _, _ => exact fun _ => Or.inr (hs _ (by decide +kernel))
    | 4, 3, _, _ => exact fun _ => Or.inr (hs _ (by decide +kernel))
    | 4, 4, _, _ => exact fun h => absurd rfl h
    | 4, 5, _, _ => exact fun _ => Or.inl (hs _ (by decide +kernel))
    | 5, 0, _, _ => exact fun _ => Or.inr (hs _ (by decide +kernel))
    | 5, 1, _, _ => exact fun _ => Or.inr (hs _ (by decide +kernel))
    | 5, 2, _, _ => exact fun _ => Or.inr (hs _ (by decide +kernel))
    | 5, 3, _, _ => exact fun _ => Or.inr (hs _ (by decide +kernel))
    | 5, 4, _, _ => exact fun _ => Or.inr (hs _ (by decide +kernel))
    | 5, 5, _, _ => exact fun h => absurd rfl h
    | i + 6, j, hi, _ => exact absurd hi (by omega)
    | 0, j + 6, _, hj => exact absurd hj (by omega)
    | 1, j + 6, _, hj => exact absurd hj (by omega)
    | 2, j + 6, _, hj => exact absurd hj (by omega)
    | 3, j + 6, _, hj => exact absurd hj (by omega)
    | 4, j + 6, _, hj => exact absurd hj (by omega)
    | 5, j + 6, _, hj => exact absurd hj (by omega)
  obtain ⟨adK, adV, hS, hev⟩ := vk_Sof (args := #[Value.ref b]) (s := s) (N := 6) (tm := gm_tm) (len := gm_tls) (byt := gm_txt) (A := gm_never) (fun i hi => by revert i hi; decide)
    (fun i hi => match i, hi with | 0, _ => hs _ (by decide +kernel) | 1, _ => hs _ (by decide +kernel) | 2, _ => hs _ (by decide +kernel) | 3, _ => hs _ (by decide +kernel) | 4, _ => hs _ (by decide +kernel) | 5, _ => hs _ (by decide +kernel) | k + 6, h => absurd h (by omega))
    (fun i hi => match i, hi with | 0, _ => hs _ (by decide +kernel) | 1, _ => hs _ (by decide +kernel) | 2, _ => hs _ (by decide +kernel) | 3, _ => hs _ (by decide +kernel) | 4, _ => hs _ (by decide +kernel) | 5, _ => hs _ (by decide +kernel) | k + 6, h => absurd h (by omega))
    (fun i hi => match i, hi with | 0, _ => hs _ (by decide +kernel) | 1, _ => hs _ (by decide +kernel) | 2, _ => hs _ (by decide +kernel) | 3, _ => hs _ (by decide +kernel) | 4, _ => hs _ (by decide +kernel) | 5, _ => hs _ (by decide +kernel) | k + 6, h => absurd h (by omega))
    (fun i hi => match i, hi with | 0, _ => hs _ (by decide +kernel) | 1, _ => hs _ (by decide +kernel) | 2, _ => hs _ (by decide +kernel) | 3, _ => hs _ (by decide +kernel) | 4, _ => hs _ (by decide +kernel) | 5, _ => hs _ (by decide +kernel) | k + 6, h => absurd h (by omega))
    (fun i hi => match i, hi with | 0, _ => (fun j hj => match j, hj with | 0, _ => hs _ (by decide +kernel) | 1, _ => hs _ (by decide +kernel) | 2, _ => hs _ (by decide +kernel) | 3, _ => hs _ (by decide +kernel) | 4, _ => hs _ (by decide +kernel) | j + 5, h => absurd h (by show ¬ (j + 5 < 5); omega)) | 1, _ => (fun j hj => match j, hj with | 0, _ => hs _ (by decide +kernel) | 1, _ => hs _ (by decide +kernel) | 2, _ => hs _ (by decide +kernel) | 3, _ => hs _ (by decide +kernel) | 4, _ => hs _ (by decide +kernel) | j + 5, h => absurd h (by show ¬ (j + 5 < 5); omega)) | 2, _ => (fun j hj => match j, hj with | 0, _ => hs _ (by decide +kernel) | 1, _ => hs _ (by decide +kernel) | 2, _ => hs _ (by decide +kernel) | 3, _ => hs _ (by decide +kernel) | 4, _ => hs _ (by decide +kernel) | 5, _ => hs _ (by decide +kernel) | j + 6, h => absurd h (by show ¬ (j + 6 < 6); omega)) | 3, _ => (fun j hj => match j, hj with | 0, _ => hs _ (by decide +kernel) | 1, _ => hs _ (by decide +kernel) | 2, _ => hs _ (by decide +kernel) | 3, _ => hs _ (by decide +kernel) | j + 4, h => absurd h (by show ¬ (j + 4 < 4); omega)) | 4, _ => (fun j hj => match j, hj with | 0, _ => hs _ (by decide +kernel) | 1, _ => hs _ (by decide +kernel) | 2, _ => hs _ (by decide +kernel) | 3, _ => hs _ (by decide +kernel) | 4, _ => hs _ (by decide +kernel) | 5, _ => hs _ (by decide +kernel) | j + 6, h => absurd h (by show ¬ (j + 6 < 6); omega)) | 5, _ => (fun j hj => match j, hj with | 0, _ => hs _ (by decide +kernel) | 1, _ => hs _ (by decide +kernel) | 2, _ => hs _ (by decide +kernel) | j + 3, h => absurd h (by show ¬ (j + 3 < 3); omega)) | k + 6, h => absurd h (by omega))
    hne hA
  have hC : va_Z "java/lang/String" "COMPACT_STRINGS" "Z" (.int 1) gm_never s s.heap := va_Zof (args := #[Value.ref b]) (hts _ (List.mem_append_right _ (List.mem_of_getElem? (i := 338) (by decide +kernel)))) (hts _ (List.mem_append_right _ (List.mem_of_getElem? (i := 15) (by decide +kernel)))) (va_eqt (hs _ (by decide +kernel))) hA
  have hF : va_Zq "jdk/internal/util/Preconditions" "SIOOBE_FORMATTER" "Ljava/util/function/BiFunction;" gm_never s s.heap := va_Zqof (args := #[Value.ref b]) (hts _ (List.mem_append_right _ (List.mem_of_getElem? (i := 354) (by decide +kernel)))) (hts _ (List.mem_append_right _ (List.mem_of_getElem? (i := 17) (by decide +kernel)))) (hs _ (by decide +kernel)) hA
  obtain ⟨fm, hfm⟩ : ∃ fm : Nat, va_Z "jdk/internal/util/Preconditions" "SIOOBE_FORMATTER" "Ljava/util/function/BiFunction;" (gm_fm fm) gm_never s s.heap := by
    rcases hF with h | ⟨t, h⟩
    · exact ⟨0, h⟩
    · exact ⟨t + 1, h⟩
  have hr : ∀ q ∈ gm_sr, vk_R q.1 q.2.1 q.2.2.1 (adK q.2.2.2) s := by
    intro q hq
    simp only [gm_sr, List.mem_cons, List.not_mem_nil, or_false] at hq
    rcases hq with rfl | rfl | rfl | rfl | rfl | rfl | rfl | rfl | rfl | rfl | rfl | rfl
    · exact vk_R.of (hts _ (List.mem_append_right _ (List.mem_of_getElem? (i := 324) (by decide +kernel)))) (hev 0 (by decide))
    · exact vk_R.of (hts _ (List.mem_append_right _ (List.mem_of_getElem? (i := 381) (by decide +kernel)))) (hev 1 (by decide))
    · exact vk_R.of (hts _ (List.mem_append_right _ (List.mem_of_getElem? (i := 382) (by decide +kernel)))) (hev 2 (by decide))
    · exact vk_R.of (hts _ (List.mem_append_right _ (List.mem_of_getElem? (i := 383) (by decide +kernel)))) (hev 3 (by decide))
    · exact vk_R.of (hts _ (List.mem_append_right _ (List.mem_of_getElem? (i := 396) (by decide +kernel)))) (hev 4 (by decide))
    · exact vk_R.of (hts _ (List.mem_append_right _ (List.mem_of_getElem? (i := 456) (by decide +kernel)))) (hev 5 (by decide))
    · exact vk_R.of (hts _ (List.mem_append_right _ (List.mem_of_getElem? (i := 979) (by decide +kernel)))) (va_eqR (t := .string "GumBubble$Afternoon" 63) (u := .string "GumBubbleModel" 121) (hs _ (by decide +kernel)) (hev 0 (by decide)))
    · exact vk_R.of (hts _ (List.mem_append_right _ (List.mem_of_getElem? (i := 1002) (by decide +kernel)))) (va_eqR (t := .string "GumBubble$Afternoon" 69) (u := .string "GumBubbleModel" 108) (hs _ (by decide +kernel)) (hev 1 (by decide)))
    · exact vk_R.of (hts _ (List.mem_append_right _ (List.mem_of_getElem? (i := 1003) (by decide +kernel)))) (va_eqR (t := .string "GumBubble$Afternoon" 71) (u := .string "GumBubbleModel" 114) (hs _ (by decide +kernel)) (hev 2 (by decide)))
    · exact vk_R.of (hts _ (List.mem_append_right _ (List.mem_of_getElem? (i := 1030) (by decide +kernel)))) (va_eqR (t := .string "GumBubble$Afternoon" 73) (u := .string "GumBubbleModel" 119) (hs _ (by decide +kernel)) (hev 3 (by decide)))
    · exact vk_R.of (hts _ (List.mem_append_right _ (List.mem_of_getElem? (i := 1024) (by decide +kernel)))) (va_eqR (t := .string "GumBubble$Afternoon" 104) (u := .string "GumBubbleModel" 90) (hs _ (by decide +kernel)) (hev 4 (by decide)))
    · exact vk_R.of (hts _ (List.mem_append_right _ (List.mem_of_getElem? (i := 1029) (by decide +kernel)))) (va_eqR (t := .string "GumBubble$Afternoon" 109) (u := .string "GumBubbleModel" 96) (hs _ (by decide +kernel)) (hev 5 (by decide)))
  obtain ⟨sa, h0, h1, h2, h3⟩ : ∃ sa : Nat → Nat, sa 0 = b ∧ (∀ i : Nat, i < 6 → sa (i + 1) = adK i) ∧ (∀ i : Nat, i < 6 → sa (i + 7) = adV i) ∧ sa 13 = fm := by
    refine ⟨fun n => if n = 0 then b else if n ≤ 6 then adK (n - 1) else if n ≤ 12 then adV (n - 7) else fm, rfl, fun i hi => ?_, fun i hi => ?_, rfl⟩
    · rcases (show i = 0 ∨ i = 1 ∨ i = 2 ∨ i = 3 ∨ i = 4 ∨ i = 5 by omega) with e | e | e | e | e | e <;> subst e <;> rfl
    · rcases (show i = 0 ∨ i = 1 ∨ i = 2 ∨ i = 3 ∨ i = 4 ∨ i = 5 by omega) with e | e | e | e | e | e <;> subst e <;> rfl
  refine ⟨sa, h0, fun D ca => ⟨⟨⟨fun i hi => ?_, fun i j hi hj e => ?_⟩, hC, ?_⟩, fun q hq => ?_⟩⟩
  · have h := hS.1 i hi
    rw [← h1 i hi, ← h2 i hi] at h
    exact h
  · have e2 : sa (i + 1) = sa (j + 1) := e
    rw [h1 i hi, h1 j hj] at e2
    exact hS.2 i j hi hj e2
  · rw [← h3] at hfm
    exact hfm
  · have h := hr q hq
    have hq5 : q.2.2.2 ≤ 5 := (show ∀ q ∈ gm_sr, q.2.2.2 ≤ 5 by decide) _ hq
    rw [← h1 _ (by omega)] at h
    exact h
/-! THE CLAIM OUT OF ONE WALK OF THE LAW'S BODY. Your part is whole_start (and what it stands on); all else here is the same for every law, but numbers. -/
def R_law : String := "GumBubbleLaw"
def lw_P (b : Addr) (xs : List Int32) (args : Array Value) (s : State) : Prop := args = #[.ref b] ∧ s.IntsAt b xs ∧ xs.length ≤ 2048 ∧ (Jvm.Cond.and given_1 narrow_1).before args s = true
def lw_Q (_ : Array Value) (s : State) (o : Outcome) (t : State) : Prop := o = .returned (some (.int 1)) ∧ Framed s o t [] 600000 7302250
def lw_Z (below : List Frame) (a : Array Value) (s : State) : State → Prop := fun t => ∃ o, t.status = .running ∧ Ended t below o ∧ lw_Q a s o t
/-- the law's own end, with 1 on the stack, nothing written that was there before, its room as the claim has it -/
theorem lw_ret {p : Program} {l : Launch} {e : Env} {s : State} {m : MethodId} {below : List Frame} {meth : Method} {c : Code} {b : Nat} (hx : p.tables.exec = Jvm.exec) (hb : c.code = code) (hr : meth.sig.returnType = ret) (hlocks : meth.locks = false) {pc : Nat} {H : Heap} {ls : Array Slot} (hdg : decode code pc = .ok (.ireturn, 1)) : W p l e room_1 s m #[Value.ref b] below meth c H [] 600000 7302250 (lw_Z below #[Value.ref b] s) (F0 m pc ls [.int 1]) := by
  intro T hT X
  obtain ⟨fs, hret, hrun, hended, hW, hframe⟩ := X.leave (v := some (.int 1)) (hlocks := hlocks) (fun h => by rw [hr] at h; cases h)
  have hmeth' : T.vm.method? m = some meth := X.method'
  refine ⟨T.setFrames fs, ?_, .returned (some (.int 1)), hrun, hended, rfl, ⟨_, rfl⟩, hW, hframe⟩
  jvm_step X.here [X.here.top, hx, hb, hdg, hmeth', hr, ret, narrow_b1]
  (try refine ⟨rfl, ?_⟩); (try refine ⟨rfl, ?_⟩)
  first | (intro acts; rw [hret _ acts rfl rfl rfl]) | rw [hret _ _ rfl rfl rfl]
  exact Steps.refl _
/-- what holds at the law's entry: the machine, the code, the tables' words (any of lw_tbl by 'hts w (by decide +kernel)'), the script of L ints xs at the cell b, what the Statement gives of the start (any of its parts by flat_of_before) -/
def lw_At (p : Program) (s : State) (m : MethodId) (meth : Method) (c : Code) (b L : Nat) (xs : Nat → Int32) : Prop :=
  p.tables.exec = Jvm.exec ∧ c.code = code ∧ meth.sig.returnType = ret ∧ c.maxLocals = 4 ∧ s.vm.findClass R_law = some m.cls ∧ (∀ w ∈ lw_tbl, w.before #[Value.ref b] s = true) ∧ va_X b L xs s s.heap ∧ b < s.heap.size ∧ meth.locks = false ∧ (Jvm.Cond.and given_1 narrow_1).before #[Value.ref b] s = true
theorem whole_start {p : Program} {e : Env} {s : State} {m : MethodId} {below : List Frame} {meth : Method} {c : Code} (l : Launch) (hflags : l.flags = flags0) {b L : Nat} {xs : Nat → Int32} (hL : L ≤ 2048) (C0 : lw_At p s m meth c b L xs) : W p l e room_1 s m #[Value.ref b] below meth c s.heap [] 0 0 (lw_Z below #[Value.ref b] s) (entryFrame m ([Value.ref b] : List Value).toArray 4) := by
  obtain ⟨hx, hb, hr, hml, hown, hts, hX, hbl, hlocks, hgv⟩ := C0
  obtain ⟨sa, hsa, htx⟩ := gm_TX0 hts hgv
  obtain ⟨D, ca, hK⟩ := gm_K0 sa s.heap htx hts hgv
  obtain ⟨o, ho⟩ : ∃ o, s.heap.size = o + 1 := ⟨s.heap.size - 1, by omega⟩
  have hG : ∀ w ∈ gm_G, w.before #[Value.ref b] s = true := fun w h => hts w (List.mem_filter.mp h).1
  obtain ⟨me, hme⟩ := gp_all xs hL
  have hl := lv_entry ([.ref b]) (n := 4) (Nat.le_of_ble_eq_true rfl)
  rw [lg_entry_eq]
  generalize (lg_sl ([.ref b]) ++ List.replicate (4 - (lg_sl ([.ref b])).length) Slot.unset).toArray = ls at hl ⊢
  have C1 : gm_C (D, ca, sa, s.heap) o gi0 s.heap := by
    refine ⟨ho, rfl, ⟨ho, fun _ _ => rfl⟩, fun r t n hr => ?_⟩
    match r, hr with
    | 0, hr => cases hr; trivial
    | r + 1, hr => simp [gi0] at hr
  have X1 : gm_X R_law (meth.name, gm_sx b L xs) code 4 (some .boolean) (D, ca, sa, s.heap) p s m #[Value.ref b] meth c := ⟨hx, hb, hml, hr, hown, hG, hlocks, hK, rfl, hsa, hbl, hX⟩
  have e0 : gm_cv (D, ca, sa, s.heap) o (.float 0) = .ref b := by
    show gm_tv (D, ca, sa, s.heap) 0 = _
    rw [gm_tv_of (by decide)]
    show Value.ref (sa 0) = _
    rw [hsa]
  have hl2 : lv_has ls 4 ([((0 : Nat), Value.float 0)].map fun q => (q.1, gm_cv (D, ca, sa, s.heap) o q.2)) := by
    show lv_has ls 4 [((0 : Nat), gm_cv (D, ca, sa, s.heap) o (.float 0))]
    rw [e0]
    exact hl
  have w := c_law meth.name b L xs (some (.int 1)) me gi0 _ hme rfl p l e s m #[Value.ref b] below meth c s.heap [] ls (D, ca, sa, s.heap) o X1 C1 hl2 (fun q hq => by cases hq)
  intro T hT X
  obtain ⟨t, st, o', h1, h2, h3, L', hF, hL'⟩ := w T hT X
  obtain ⟨hv, hW, hsame⟩ := hF
  refine ⟨t, st, o', h1, h2, h3.1, hv, hW, gm_drop hsame (fun q hq => ?_)⟩
  have := hL' q hq
  omega
-- ===== YOUR PART ENDS =====
set_option maxHeartbeats 4000000 in
theorem lw_walk (l : Launch) (hflags : l.flags = flags0) (b : Addr) (xs : List Int32) : MetFree l x (headSpec (Jvm.Cond.code x code maxLocals ret :: tables_1) room_1) (lw_P b xs) (fun _ _ _ _ _ => True) lw_Q := by
  refine MetFree.of_bodyS (code := code) (maxLocals := maxLocals) (ret := ret) (by decide) ?_ ?_
  · intro args s m h hn
    obtain ⟨meth, c, h1, h2, h3, h4, h5, h6, -, -⟩ := Cond.code_spec hn (atoms_spec (ws := Jvm.Cond.code x code maxLocals ret :: tables_1) h _ List.mem_cons_self)
    exact ⟨meth, c, h1, h2, h3, h4, h5, h6⟩
  · intro p e s m args below meth c s₁ B hml0 hP _
    obtain ⟨rfl, hx, hbd, hgv⟩ := hP
    obtain ⟨scr, harrAt, hlist, hof, hsmall⟩ := hx
    obtain ⟨hcb, hkn, -, -⟩ := State.arrayAt?_spec harrAt
    have hown : s.vm.findClass R_law = some m.cls := findClass_of_methodNamed B.named
    have hts0 : ∀ c ∈ (Jvm.Cond.code x code maxLocals ret :: tables_1), c.before #[Value.ref b] s = true := atoms_spec (ws := Jvm.Cond.code x code maxLocals ret :: tables_1) B.pre
    have hts : ∀ w ∈ lw_tbl, w.before #[Value.ref b] s = true := k2_hts_sels lw_privs (fun w hw => hts0 w (List.mem_cons_of_mem _ hw)) lw_privs_ok
    have hml : c.maxLocals = 4 := B.maxLocals_eq (hts0 _ List.mem_cons_self)
    have X₀ : Stand p l e room_1 s m #[Value.ref b] below meth c s₁ [] 0 0 := Stand.of_body B
    have hh0 : s₁.heap = s.heap := by rw [B.state]; rfl
    have hsz : scr.slots.size = xs.length := by rw [← Array.length_toList, hlist, List.length_map]
    have hval : ∀ j : Nat, j < xs.length → scr.slots[j]? = some (.int (xs.getD j 0)) := fun j hj => by
      rw [← Array.getElem?_toList, hlist]
      simp [hj]
    have hbl : b < s.heap.size := (Array.getElem?_eq_some_iff.mp hcb).1
    have hX : va_X b xs.length (fun j => xs.getD j 0) s s.heap := ⟨scr, hcb, hof, hkn, hsz, hval⟩
    have K : W p l e room_1 s m #[Value.ref b] below meth c s₁.heap [] 0 0 (lw_Z below #[Value.ref b] s) (entryFrame m ([Value.ref b] : List Value).toArray 4) := by
      rw [hh0]
      exact whole_start l hflags hbd ⟨B.exec, B.bytes, B.returns, hml, hown, hts, hX, hbl, B.notSynchronized, hgv⟩
    obtain ⟨t, a1, o, b1, b2, b3⟩ := K s₁ rfl X₀
    exact ⟨t, o, a1, b1, b2, b3⟩
theorem lw_pre_spec {args : Array Value} {s : State} (h : (Jvm.Cond.and given_1 narrow_1).before args s = true) (hr : rest_1_c.before args s = true) : ∃ (b : Addr) (xs : List Int32), lw_P b xs args s := by
  have hs := flat_of_before _ h
  have hq := flat_of_before _ hr
  have hc : (Cond.count 1).before args s = true := hs _ (by decide +kernel)
  have harr : (Cond.arrayOf (.arg 0) .int).before args s = true := hs _ (by decide +kernel)
  have hle : (Cond.le (.length (.arg 0)) (.int 2048)).before args s = true := hs _ (by decide +kernel)
  have hlen : (Cond.isInt (.length (.arg 0))).before args s = true := hq _ (by decide +kernel)
  have hall : (Cond.all (.arg 0) (.isInt (.elem (.arg 0) (.index 0)))).before args s = true := hq _ (by decide +kernel)
  obtain ⟨b, xs, hb, hx⟩ := State.ints_of_pre rfl harr hlen hall
  have hsm : xs.length < 2 ^ 31 := hx.choose_spec.2.2.2
  have hev : (Term.length (.arg 0)).eval args s none [] s = some (.int xs.length.toInt32) := hx.length_eval hb
  have hv := Cond.le_ints hev (show (Term.int 2048).eval args s none [] s = some (.int 2048) from rfl)
  have hd : xs.length.toInt32 ≤ 2048 := by
    simpa [Cond.before, Cond.holds, hv] using hle
  have hN : xs.length ≤ 2048 := (Int32.ofNat_le_ofNat hsm (by decide)).mp (show Int32.ofNat xs.length ≤ Int32.ofNat 2048 from hd)
  exact ⟨b, xs, Cond.one_arg hc (show args[0]? = some (.ref b) from hb), hx, hN, h⟩
theorem lw_comes (l : Launch) (hflags : l.flags = flags0) : Comes l x (Jvm.Cond.code x code maxLocals ret :: tables_1) room_1 (fun tb e args s => Calls_1 tb e args s ∧ rest_1 tb e args s ∧ Pre_1 tb e args s)
    (fun _ _ args s o t => lw_Q args s o t) := by
  intro p e ha hc hk s m args below hf hfit hheap happ hpre
  obtain ⟨b, xs, hP⟩ := lw_pre_spec hpre.2.2 hpre.2.1
  obtain ⟨k, o, h1, h2, h3, hQ⟩ := lw_walk l hflags b xs p e ha hc hk s m args below hf ((Spec.applies_iff_loose hf).mp happ).1 hP trivial
  exact ⟨k, o, h1, h2, h3, hQ⟩
theorem lw_frame {s t : State} {o : Outcome} {args : Array Value} (h : Framed s o t [] 600000 7302250) :
    Framed s o t (fieldLocs frame_1_writes args s ++ arrayLocs frame_1_arrays args s ++ staticLocs frame_1_statics s) 600000 7302250 := h
theorem lw_limb (L : Cond) (hL : ∀ (args : Array Value) (s t : State), L.after args s (.returned (some (.int 1))) t = true) :
    ArmFor flags0 classFile x code maxLocals ret World_1 tables_1 room_1 Calls_1 rest_1 Pre_1
      (fun tb e a s o t => postC L tb e a s o t ∧ Framed s o t (fieldLocs frame_1_writes a s ++ arrayLocs frame_1_arrays a s ++ staticLocs frame_1_statics s) 600000 7302250) := by
  intro l hflags _ _ p e ha hc hk s m args below hf hfit hheap happ hpre
  obtain ⟨k, o, h1, h2, h3, rfl, hF⟩ := lw_comes l hflags p e ha hc hk s m args below hf hfit hheap happ hpre
  exact ⟨k, _, h1, h2, h3, hL args s _, lw_frame hF⟩
