section
-- ===== PART A: goes FIRST, ahead of the names: the tables' words, and 'selects' of the private methods out of them =====
/-- a private method of a class that the tables say can be made, by its rows of tables_1 -/
def lw_okq (q : MethodName × Nat) : Prop := (q.1.cls ≠ "java/lang/invoke/MethodHandle" ∧ q.1.cls ≠ "java/lang/invoke/VarHandle") ∧ Cond.instantiable q.1.cls q.2 ∈ tables_1 ∧ Cond.privateMethod q.1 ∈ tables_1 ∧ Cond.instanceMethod q.1 ∈ tables_1
theorem lw_p0 : lw_okq (⟨"GumBubble$Afternoon", "take", "(C)Z"⟩, 10) := ⟨⟨by decide +kernel, by decide +kernel⟩, List.mem_of_getElem? (i := 120) (by decide +kernel), List.mem_of_getElem? (i := 313) (by decide +kernel), List.mem_of_getElem? (i := 314) (by decide +kernel)⟩
theorem lw_p1 : lw_okq (⟨"GumBubble$Afternoon", "next", "()I"⟩, 10) := ⟨⟨by decide +kernel, by decide +kernel⟩, List.mem_of_getElem? (i := 120) (by decide +kernel), List.mem_of_getElem? (i := 317) (by decide +kernel), List.mem_of_getElem? (i := 318) (by decide +kernel)⟩
theorem lw_p2 : lw_okq (⟨"GumBubble$Afternoon", "readClause", "()Z"⟩, 10) := ⟨⟨by decide +kernel, by decide +kernel⟩, List.mem_of_getElem? (i := 120) (by decide +kernel), List.mem_of_getElem? (i := 321) (by decide +kernel), List.mem_of_getElem? (i := 322) (by decide +kernel)⟩
theorem lw_p3 : lw_okq (⟨"GumBubble$Afternoon", "readWordAndNumber", "(Ljava/lang/String;)I"⟩, 10) := ⟨⟨by decide +kernel, by decide +kernel⟩, List.mem_of_getElem? (i := 120) (by decide +kernel), List.mem_of_getElem? (i := 326) (by decide +kernel), List.mem_of_getElem? (i := 327) (by decide +kernel)⟩
theorem lw_p4 : lw_okq (⟨"GumBubble$Afternoon", "readNumber", "()I"⟩, 10) := ⟨⟨by decide +kernel, by decide +kernel⟩, List.mem_of_getElem? (i := 120) (by decide +kernel), List.mem_of_getElem? (i := 378) (by decide +kernel), List.mem_of_getElem? (i := 379) (by decide +kernel)⟩
theorem lw_p5 : lw_okq (⟨"GumBubble$Afternoon", "readEither", "(I)Z"⟩, 10) := ⟨⟨by decide +kernel, by decide +kernel⟩, List.mem_of_getElem? (i := 120) (by decide +kernel), List.mem_of_getElem? (i := 385) (by decide +kernel), List.mem_of_getElem? (i := 386) (by decide +kernel)⟩
theorem lw_p6 : lw_okq (⟨"GumBubble$Afternoon", "readFactor", "(I)Z"⟩, 10) := ⟨⟨by decide +kernel, by decide +kernel⟩, List.mem_of_getElem? (i := 120) (by decide +kernel), List.mem_of_getElem? (i := 389) (by decide +kernel), List.mem_of_getElem? (i := 390) (by decide +kernel)⟩
theorem lw_p7 : lw_okq (⟨"GumBubble$Afternoon", "readTest", "()Z"⟩, 10) := ⟨⟨by decide +kernel, by decide +kernel⟩, List.mem_of_getElem? (i := 120) (by decide +kernel), List.mem_of_getElem? (i := 393) (by decide +kernel), List.mem_of_getElem? (i := 394) (by decide +kernel)⟩
theorem lw_p8 : lw_okq (⟨"GumBubble$Afternoon", "readOneOf", "(Ljava/lang/String;)I"⟩, 10) := ⟨⟨by decide +kernel, by decide +kernel⟩, List.mem_of_getElem? (i := 120) (by decide +kernel), List.mem_of_getElem? (i := 398) (by decide +kernel), List.mem_of_getElem? (i := 399) (by decide +kernel)⟩
theorem lw_p9 : lw_okq (⟨"GumBubble$Afternoon", "put", "(I)V"⟩, 10) := ⟨⟨by decide +kernel, by decide +kernel⟩, List.mem_of_getElem? (i := 120) (by decide +kernel), List.mem_of_getElem? (i := 458) (by decide +kernel), List.mem_of_getElem? (i := 459) (by decide +kernel)⟩
theorem lw_p10 : lw_okq (⟨"GumBubble$Afternoon", "addChange", "(I)V"⟩, 10) := ⟨⟨by decide +kernel, by decide +kernel⟩, List.mem_of_getElem? (i := 120) (by decide +kernel), List.mem_of_getElem? (i := 462) (by decide +kernel), List.mem_of_getElem? (i := 463) (by decide +kernel)⟩
theorem lw_p11 : lw_okq (⟨"GumBubble", "isNobody", "(I)Z"⟩, 10) := ⟨⟨by decide +kernel, by decide +kernel⟩, List.mem_of_getElem? (i := 22) (by decide +kernel), List.mem_of_getElem? (i := 479) (by decide +kernel), List.mem_of_getElem? (i := 480) (by decide +kernel)⟩
theorem lw_p12 : lw_okq (⟨"GumBubble$Afternoon", "isSo", "(IILGumBubble$Child;I)Z"⟩, 10) := ⟨⟨by decide +kernel, by decide +kernel⟩, List.mem_of_getElem? (i := 120) (by decide +kernel), List.mem_of_getElem? (i := 487) (by decide +kernel), List.mem_of_getElem? (i := 488) (by decide +kernel)⟩
theorem lw_p13 : lw_okq (⟨"GumBubble", "holdsNow", "(I)I"⟩, 10) := ⟨⟨by decide +kernel, by decide +kernel⟩, List.mem_of_getElem? (i := 22) (by decide +kernel), List.mem_of_getElem? (i := 542) (by decide +kernel), List.mem_of_getElem? (i := 543) (by decide +kernel)⟩
theorem lw_p14 : lw_okq (⟨"GumBubble", "sumBehind", "(I)I"⟩, 10) := ⟨⟨by decide +kernel, by decide +kernel⟩, List.mem_of_getElem? (i := 22) (by decide +kernel), List.mem_of_getElem? (i := 578) (by decide +kernel), List.mem_of_getElem? (i := 579) (by decide +kernel)⟩
theorem lw_p15 : lw_okq (⟨"GumBubble", "holdsBehind", "(II)I"⟩, 10) := ⟨⟨by decide +kernel, by decide +kernel⟩, List.mem_of_getElem? (i := 22) (by decide +kernel), List.mem_of_getElem? (i := 582) (by decide +kernel), List.mem_of_getElem? (i := 583) (by decide +kernel)⟩
def lw_privs_1 : List (MethodName × Nat) := [(⟨"GumBubble$Afternoon", "take", "(C)Z"⟩, 10), (⟨"GumBubble$Afternoon", "next", "()I"⟩, 10), (⟨"GumBubble$Afternoon", "readClause", "()Z"⟩, 10), (⟨"GumBubble$Afternoon", "readWordAndNumber", "(Ljava/lang/String;)I"⟩, 10), (⟨"GumBubble$Afternoon", "readNumber", "()I"⟩, 10), (⟨"GumBubble$Afternoon", "readEither", "(I)Z"⟩, 10), (⟨"GumBubble$Afternoon", "readFactor", "(I)Z"⟩, 10), (⟨"GumBubble$Afternoon", "readTest", "()Z"⟩, 10), (⟨"GumBubble$Afternoon", "readOneOf", "(Ljava/lang/String;)I"⟩, 10), (⟨"GumBubble$Afternoon", "put", "(I)V"⟩, 10), (⟨"GumBubble$Afternoon", "addChange", "(I)V"⟩, 10), (⟨"GumBubble", "isNobody", "(I)Z"⟩, 10), (⟨"GumBubble$Afternoon", "isSo", "(IILGumBubble$Child;I)Z"⟩, 10), (⟨"GumBubble", "holdsNow", "(I)I"⟩, 10), (⟨"GumBubble", "sumBehind", "(I)I"⟩, 10), (⟨"GumBubble", "holdsBehind", "(II)I"⟩, 10)]
theorem lw_r1 : ∀ q ∈ lw_privs_1, lw_okq q := List.forall_mem_cons.mpr ⟨lw_p0, List.forall_mem_cons.mpr ⟨lw_p1, List.forall_mem_cons.mpr ⟨lw_p2, List.forall_mem_cons.mpr ⟨lw_p3, List.forall_mem_cons.mpr ⟨lw_p4, List.forall_mem_cons.mpr ⟨lw_p5, List.forall_mem_cons.mpr ⟨lw_p6, List.forall_mem_cons.mpr ⟨lw_p7, List.forall_mem_cons.mpr ⟨lw_p8, List.forall_mem_cons.mpr ⟨lw_p9, List.forall_mem_cons.mpr ⟨lw_p10, List.forall_mem_cons.mpr ⟨lw_p11, List.forall_mem_cons.mpr ⟨lw_p12, List.forall_mem_cons.mpr ⟨lw_p13, List.forall_mem_cons.mpr ⟨lw_p14, List.forall_mem_cons.mpr ⟨lw_p15, fun _ h => absurd h List.not_mem_nil⟩⟩⟩⟩⟩⟩⟩⟩⟩⟩⟩⟩⟩⟩⟩⟩
theorem lw_p16 : lw_okq (⟨"GumBubble", "trialBehind", "(I)I"⟩, 10) := ⟨⟨by decide +kernel, by decide +kernel⟩, List.mem_of_getElem? (i := 22) (by decide +kernel), List.mem_of_getElem? (i := 593) (by decide +kernel), List.mem_of_getElem? (i := 594) (by decide +kernel)⟩
theorem lw_p17 : lw_okq (⟨"GumBubble", "bubbleBits", "()I"⟩, 10) := ⟨⟨by decide +kernel, by decide +kernel⟩, List.mem_of_getElem? (i := 22) (by decide +kernel), List.mem_of_getElem? (i := 604) (by decide +kernel), List.mem_of_getElem? (i := 605) (by decide +kernel)⟩
theorem lw_p18 : lw_okq (⟨"GumBubble", "trialWhen", "(I)I"⟩, 10) := ⟨⟨by decide +kernel, by decide +kernel⟩, List.mem_of_getElem? (i := 22) (by decide +kernel), List.mem_of_getElem? (i := 628) (by decide +kernel), List.mem_of_getElem? (i := 629) (by decide +kernel)⟩
theorem lw_p19 : lw_okq (⟨"GumBubble", "holdsWithGumOf", "(II)I"⟩, 10) := ⟨⟨by decide +kernel, by decide +kernel⟩, List.mem_of_getElem? (i := 22) (by decide +kernel), List.mem_of_getElem? (i := 686) (by decide +kernel), List.mem_of_getElem? (i := 687) (by decide +kernel)⟩
theorem lw_p20 : lw_okq (⟨"GumBubble", "fillBehind", "(I)V"⟩, 10) := ⟨⟨by decide +kernel, by decide +kernel⟩, List.mem_of_getElem? (i := 22) (by decide +kernel), List.mem_of_getElem? (i := 694) (by decide +kernel), List.mem_of_getElem? (i := 695) (by decide +kernel)⟩
theorem lw_p21 : lw_okq (⟨"GumBubble", "arrange", "(III)V"⟩, 10) := ⟨⟨by decide +kernel, by decide +kernel⟩, List.mem_of_getElem? (i := 22) (by decide +kernel), List.mem_of_getElem? (i := 698) (by decide +kernel), List.mem_of_getElem? (i := 699) (by decide +kernel)⟩
theorem lw_p22 : lw_okq (⟨"GumBubble", "isAllSeen", "(III)Z"⟩, 10) := ⟨⟨by decide +kernel, by decide +kernel⟩, List.mem_of_getElem? (i := 22) (by decide +kernel), List.mem_of_getElem? (i := 731) (by decide +kernel), List.mem_of_getElem? (i := 732) (by decide +kernel)⟩
theorem lw_p23 : lw_okq (⟨"GumBubble", "tryPlan", "()V"⟩, 10) := ⟨⟨by decide +kernel, by decide +kernel⟩, List.mem_of_getElem? (i := 22) (by decide +kernel), List.mem_of_getElem? (i := 759) (by decide +kernel), List.mem_of_getElem? (i := 760) (by decide +kernel)⟩
theorem lw_p24 : lw_okq (⟨"GumBubble", "tryPlanRow", "(II)V"⟩, 10) := ⟨⟨by decide +kernel, by decide +kernel⟩, List.mem_of_getElem? (i := 22) (by decide +kernel), List.mem_of_getElem? (i := 763) (by decide +kernel), List.mem_of_getElem? (i := 764) (by decide +kernel)⟩
theorem lw_p25 : lw_okq (⟨"GumBubbleModel", "clauseHere", "()V"⟩, 23) := ⟨⟨by decide +kernel, by decide +kernel⟩, List.mem_of_getElem? (i := 885) (by decide +kernel), List.mem_of_getElem? (i := 972) (by decide +kernel), List.mem_of_getElem? (i := 973) (by decide +kernel)⟩
theorem lw_p26 : lw_okq (⟨"GumBubbleModel", "here", "()I"⟩, 23) := ⟨⟨by decide +kernel, by decide +kernel⟩, List.mem_of_getElem? (i := 885) (by decide +kernel), List.mem_of_getElem? (i := 976) (by decide +kernel), List.mem_of_getElem? (i := 977) (by decide +kernel)⟩
theorem lw_p27 : lw_okq (⟨"GumBubbleModel", "tellsHere", "(ILjava/lang/String;)V"⟩, 23) := ⟨⟨by decide +kernel, by decide +kernel⟩, List.mem_of_getElem? (i := 885) (by decide +kernel), List.mem_of_getElem? (i := 981) (by decide +kernel), List.mem_of_getElem? (i := 982) (by decide +kernel)⟩
theorem lw_p28 : lw_okq (⟨"GumBubbleModel", "spells", "(Ljava/lang/String;)V"⟩, 23) := ⟨⟨by decide +kernel, by decide +kernel⟩, List.mem_of_getElem? (i := 885) (by decide +kernel), List.mem_of_getElem? (i := 985) (by decide +kernel), List.mem_of_getElem? (i := 986) (by decide +kernel)⟩
theorem lw_p29 : lw_okq (⟨"GumBubbleModel", "must", "(I)V"⟩, 23) := ⟨⟨by decide +kernel, by decide +kernel⟩, List.mem_of_getElem? (i := 885) (by decide +kernel), List.mem_of_getElem? (i := 991) (by decide +kernel), List.mem_of_getElem? (i := 992) (by decide +kernel)⟩
theorem lw_p30 : lw_okq (⟨"GumBubbleModel", "figures", "()I"⟩, 23) := ⟨⟨by decide +kernel, by decide +kernel⟩, List.mem_of_getElem? (i := 885) (by decide +kernel), List.mem_of_getElem? (i := 995) (by decide +kernel), List.mem_of_getElem? (i := 996) (by decide +kernel)⟩
theorem lw_p31 : lw_okq (⟨"GumBubbleModel", "wordOfS", "()V"⟩, 23) := ⟨⟨by decide +kernel, by decide +kernel⟩, List.mem_of_getElem? (i := 885) (by decide +kernel), List.mem_of_getElem? (i := 999) (by decide +kernel), List.mem_of_getElem? (i := 1000) (by decide +kernel)⟩
def lw_privs_2 : List (MethodName × Nat) := [(⟨"GumBubble", "trialBehind", "(I)I"⟩, 10), (⟨"GumBubble", "bubbleBits", "()I"⟩, 10), (⟨"GumBubble", "trialWhen", "(I)I"⟩, 10), (⟨"GumBubble", "holdsWithGumOf", "(II)I"⟩, 10), (⟨"GumBubble", "fillBehind", "(I)V"⟩, 10), (⟨"GumBubble", "arrange", "(III)V"⟩, 10), (⟨"GumBubble", "isAllSeen", "(III)Z"⟩, 10), (⟨"GumBubble", "tryPlan", "()V"⟩, 10), (⟨"GumBubble", "tryPlanRow", "(II)V"⟩, 10), (⟨"GumBubbleModel", "clauseHere", "()V"⟩, 23), (⟨"GumBubbleModel", "here", "()I"⟩, 23), (⟨"GumBubbleModel", "tellsHere", "(ILjava/lang/String;)V"⟩, 23), (⟨"GumBubbleModel", "spells", "(Ljava/lang/String;)V"⟩, 23), (⟨"GumBubbleModel", "must", "(I)V"⟩, 23), (⟨"GumBubbleModel", "figures", "()I"⟩, 23), (⟨"GumBubbleModel", "wordOfS", "()V"⟩, 23)]
theorem lw_r2 : ∀ q ∈ lw_privs_2, lw_okq q := List.forall_mem_cons.mpr ⟨lw_p16, List.forall_mem_cons.mpr ⟨lw_p17, List.forall_mem_cons.mpr ⟨lw_p18, List.forall_mem_cons.mpr ⟨lw_p19, List.forall_mem_cons.mpr ⟨lw_p20, List.forall_mem_cons.mpr ⟨lw_p21, List.forall_mem_cons.mpr ⟨lw_p22, List.forall_mem_cons.mpr ⟨lw_p23, List.forall_mem_cons.mpr ⟨lw_p24, List.forall_mem_cons.mpr ⟨lw_p25, List.forall_mem_cons.mpr ⟨lw_p26, List.forall_mem_cons.mpr ⟨lw_p27, List.forall_mem_cons.mpr ⟨lw_p28, List.forall_mem_cons.mpr ⟨lw_p29, List.forall_mem_cons.mpr ⟨lw_p30, List.forall_mem_cons.mpr ⟨lw_p31, fun _ h => absurd h List.not_mem_nil⟩⟩⟩⟩⟩⟩⟩⟩⟩⟩⟩⟩⟩⟩⟩⟩
theorem lw_p32 : lw_okq (⟨"GumBubbleModel", "much", "(ILjava/lang/String;)V"⟩, 23) := ⟨⟨by decide +kernel, by decide +kernel⟩, List.mem_of_getElem? (i := 885) (by decide +kernel), List.mem_of_getElem? (i := 1005) (by decide +kernel), List.mem_of_getElem? (i := 1006) (by decide +kernel)⟩
theorem lw_p33 : lw_okq (⟨"GumBubbleModel", "some", "()V"⟩, 23) := ⟨⟨by decide +kernel, by decide +kernel⟩, List.mem_of_getElem? (i := 885) (by decide +kernel), List.mem_of_getElem? (i := 1009) (by decide +kernel), List.mem_of_getElem? (i := 1010) (by decide +kernel)⟩
theorem lw_p34 : lw_okq (⟨"GumBubbleModel", "every", "()V"⟩, 23) := ⟨⟨by decide +kernel, by decide +kernel⟩, List.mem_of_getElem? (i := 885) (by decide +kernel), List.mem_of_getElem? (i := 1013) (by decide +kernel), List.mem_of_getElem? (i := 1014) (by decide +kernel)⟩
theorem lw_p35 : lw_okq (⟨"GumBubbleModel", "factor", "()V"⟩, 23) := ⟨⟨by decide +kernel, by decide +kernel⟩, List.mem_of_getElem? (i := 885) (by decide +kernel), List.mem_of_getElem? (i := 1017) (by decide +kernel), List.mem_of_getElem? (i := 1018) (by decide +kernel)⟩
theorem lw_p36 : lw_okq (⟨"GumBubbleModel", "emits", "(I)V"⟩, 23) := ⟨⟨by decide +kernel, by decide +kernel⟩, List.mem_of_getElem? (i := 885) (by decide +kernel), List.mem_of_getElem? (i := 1021) (by decide +kernel), List.mem_of_getElem? (i := 1022) (by decide +kernel)⟩
theorem lw_p37 : lw_okq (⟨"GumBubbleModel", "among", "(Ljava/lang/String;)I"⟩, 23) := ⟨⟨by decide +kernel, by decide +kernel⟩, List.mem_of_getElem? (i := 885) (by decide +kernel), List.mem_of_getElem? (i := 1026) (by decide +kernel), List.mem_of_getElem? (i := 1027) (by decide +kernel)⟩
theorem lw_p38 : lw_okq (⟨"GumBubbleModel", "sweetNow", "()I"⟩, 23) := ⟨⟨by decide +kernel, by decide +kernel⟩, List.mem_of_getElem? (i := 885) (by decide +kernel), List.mem_of_getElem? (i := 1036) (by decide +kernel), List.mem_of_getElem? (i := 1037) (by decide +kernel)⟩
theorem lw_p39 : lw_okq (⟨"GumBubbleModel", "tellsOf", "(II)I"⟩, 23) := ⟨⟨by decide +kernel, by decide +kernel⟩, List.mem_of_getElem? (i := 885) (by decide +kernel), List.mem_of_getElem? (i := 1040) (by decide +kernel), List.mem_of_getElem? (i := 1041) (by decide +kernel)⟩
theorem lw_p40 : lw_okq (⟨"GumBubbleModel", "isChild", "(I)Z"⟩, 23) := ⟨⟨by decide +kernel, by decide +kernel⟩, List.mem_of_getElem? (i := 885) (by decide +kernel), List.mem_of_getElem? (i := 1048) (by decide +kernel), List.mem_of_getElem? (i := 1049) (by decide +kernel)⟩
theorem lw_p41 : lw_okq (⟨"GumBubbleModel", "stretchOf", "(I)I"⟩, 23) := ⟨⟨by decide +kernel, by decide +kernel⟩, List.mem_of_getElem? (i := 885) (by decide +kernel), List.mem_of_getElem? (i := 1052) (by decide +kernel), List.mem_of_getElem? (i := 1053) (by decide +kernel)⟩
theorem lw_p42 : lw_okq (⟨"GumBubbleModel", "looks", "(I)I"⟩, 23) := ⟨⟨by decide +kernel, by decide +kernel⟩, List.mem_of_getElem? (i := 885) (by decide +kernel), List.mem_of_getElem? (i := 1056) (by decide +kernel), List.mem_of_getElem? (i := 1057) (by decide +kernel)⟩
theorem lw_p43 : lw_okq (⟨"GumBubbleModel", "chewsOf", "(I)I"⟩, 23) := ⟨⟨by decide +kernel, by decide +kernel⟩, List.mem_of_getElem? (i := 885) (by decide +kernel), List.mem_of_getElem? (i := 1064) (by decide +kernel), List.mem_of_getElem? (i := 1065) (by decide +kernel)⟩
theorem lw_p44 : lw_okq (⟨"GumBubbleModel", "tiresOf", "(I)I"⟩, 23) := ⟨⟨by decide +kernel, by decide +kernel⟩, List.mem_of_getElem? (i := 885) (by decide +kernel), List.mem_of_getElem? (i := 1071) (by decide +kernel), List.mem_of_getElem? (i := 1072) (by decide +kernel)⟩
theorem lw_p45 : lw_okq (⟨"GumBubbleModel", "holdsOf", "(I)I"⟩, 23) := ⟨⟨by decide +kernel, by decide +kernel⟩, List.mem_of_getElem? (i := 885) (by decide +kernel), List.mem_of_getElem? (i := 1075) (by decide +kernel), List.mem_of_getElem? (i := 1076) (by decide +kernel)⟩
theorem lw_p46 : lw_okq (⟨"GumBubbleModel", "allHold", "()I"⟩, 23) := ⟨⟨by decide +kernel, by decide +kernel⟩, List.mem_of_getElem? (i := 885) (by decide +kernel), List.mem_of_getElem? (i := 1091) (by decide +kernel), List.mem_of_getElem? (i := 1092) (by decide +kernel)⟩
theorem lw_p47 : lw_okq (⟨"GumBubbleModel", "bubbles", "()I"⟩, 23) := ⟨⟨by decide +kernel, by decide +kernel⟩, List.mem_of_getElem? (i := 885) (by decide +kernel), List.mem_of_getElem? (i := 1095) (by decide +kernel), List.mem_of_getElem? (i := 1096) (by decide +kernel)⟩
def lw_privs_3 : List (MethodName × Nat) := [(⟨"GumBubbleModel", "much", "(ILjava/lang/String;)V"⟩, 23), (⟨"GumBubbleModel", "some", "()V"⟩, 23), (⟨"GumBubbleModel", "every", "()V"⟩, 23), (⟨"GumBubbleModel", "factor", "()V"⟩, 23), (⟨"GumBubbleModel", "emits", "(I)V"⟩, 23), (⟨"GumBubbleModel", "among", "(Ljava/lang/String;)I"⟩, 23), (⟨"GumBubbleModel", "sweetNow", "()I"⟩, 23), (⟨"GumBubbleModel", "tellsOf", "(II)I"⟩, 23), (⟨"GumBubbleModel", "isChild", "(I)Z"⟩, 23), (⟨"GumBubbleModel", "stretchOf", "(I)I"⟩, 23), (⟨"GumBubbleModel", "looks", "(I)I"⟩, 23), (⟨"GumBubbleModel", "chewsOf", "(I)I"⟩, 23), (⟨"GumBubbleModel", "tiresOf", "(I)I"⟩, 23), (⟨"GumBubbleModel", "holdsOf", "(I)I"⟩, 23), (⟨"GumBubbleModel", "allHold", "()I"⟩, 23), (⟨"GumBubbleModel", "bubbles", "()I"⟩, 23)]
theorem lw_r3 : ∀ q ∈ lw_privs_3, lw_okq q := List.forall_mem_cons.mpr ⟨lw_p32, List.forall_mem_cons.mpr ⟨lw_p33, List.forall_mem_cons.mpr ⟨lw_p34, List.forall_mem_cons.mpr ⟨lw_p35, List.forall_mem_cons.mpr ⟨lw_p36, List.forall_mem_cons.mpr ⟨lw_p37, List.forall_mem_cons.mpr ⟨lw_p38, List.forall_mem_cons.mpr ⟨lw_p39, List.forall_mem_cons.mpr ⟨lw_p40, List.forall_mem_cons.mpr ⟨lw_p41, List.forall_mem_cons.mpr ⟨lw_p42, List.forall_mem_cons.mpr ⟨lw_p43, List.forall_mem_cons.mpr ⟨lw_p44, List.forall_mem_cons.mpr ⟨lw_p45, List.forall_mem_cons.mpr ⟨lw_p46, List.forall_mem_cons.mpr ⟨lw_p47, fun _ h => absurd h List.not_mem_nil⟩⟩⟩⟩⟩⟩⟩⟩⟩⟩⟩⟩⟩⟩⟩⟩
theorem lw_p48 : lw_okq (⟨"GumBubbleModel", "blows", "(II)Z"⟩, 23) := ⟨⟨by decide +kernel, by decide +kernel⟩, List.mem_of_getElem? (i := 885) (by decide +kernel), List.mem_of_getElem? (i := 1103) (by decide +kernel), List.mem_of_getElem? (i := 1104) (by decide +kernel)⟩
theorem lw_p49 : lw_okq (⟨"GumBubbleModel", "goesOn", "(I)V"⟩, 23) := ⟨⟨by decide +kernel, by decide +kernel⟩, List.mem_of_getElem? (i := 885) (by decide +kernel), List.mem_of_getElem? (i := 1111) (by decide +kernel), List.mem_of_getElem? (i := 1112) (by decide +kernel)⟩
theorem lw_p50 : lw_okq (⟨"GumBubbleModel", "goes", "()V"⟩, 23) := ⟨⟨by decide +kernel, by decide +kernel⟩, List.mem_of_getElem? (i := 885) (by decide +kernel), List.mem_of_getElem? (i := 1115) (by decide +kernel), List.mem_of_getElem? (i := 1116) (by decide +kernel)⟩
theorem lw_p51 : lw_okq (⟨"GumBubbleModel", "goesFor", "(I)V"⟩, 23) := ⟨⟨by decide +kernel, by decide +kernel⟩, List.mem_of_getElem? (i := 885) (by decide +kernel), List.mem_of_getElem? (i := 1119) (by decide +kernel), List.mem_of_getElem? (i := 1120) (by decide +kernel)⟩
theorem lw_p52 : lw_okq (⟨"GumBubbleModel", "keeps", "()V"⟩, 23) := ⟨⟨by decide +kernel, by decide +kernel⟩, List.mem_of_getElem? (i := 885) (by decide +kernel), List.mem_of_getElem? (i := 1127) (by decide +kernel), List.mem_of_getElem? (i := 1128) (by decide +kernel)⟩
theorem lw_p53 : lw_okq (⟨"GumBubbleModel", "goesBack", "()V"⟩, 23) := ⟨⟨by decide +kernel, by decide +kernel⟩, List.mem_of_getElem? (i := 885) (by decide +kernel), List.mem_of_getElem? (i := 1131) (by decide +kernel), List.mem_of_getElem? (i := 1132) (by decide +kernel)⟩
theorem lw_p54 : lw_okq (⟨"GumBubbleModel", "looksForWhen", "(I)V"⟩, 23) := ⟨⟨by decide +kernel, by decide +kernel⟩, List.mem_of_getElem? (i := 885) (by decide +kernel), List.mem_of_getElem? (i := 1139) (by decide +kernel), List.mem_of_getElem? (i := 1140) (by decide +kernel)⟩
theorem lw_p55 : lw_okq (⟨"GumBubbleModel", "goesAlone", "(I)V"⟩, 23) := ⟨⟨by decide +kernel, by decide +kernel⟩, List.mem_of_getElem? (i := 885) (by decide +kernel), List.mem_of_getElem? (i := 1143) (by decide +kernel), List.mem_of_getElem? (i := 1144) (by decide +kernel)⟩
theorem lw_p56 : lw_okq (⟨"GumBubbleModel", "slackOf", "(I)I"⟩, 23) := ⟨⟨by decide +kernel, by decide +kernel⟩, List.mem_of_getElem? (i := 885) (by decide +kernel), List.mem_of_getElem? (i := 1159) (by decide +kernel), List.mem_of_getElem? (i := 1160) (by decide +kernel)⟩
theorem lw_p57 : lw_okq (⟨"GumBubbleModel", "swaps", "(II)V"⟩, 23) := ⟨⟨by decide +kernel, by decide +kernel⟩, List.mem_of_getElem? (i := 885) (by decide +kernel), List.mem_of_getElem? (i := 1199) (by decide +kernel), List.mem_of_getElem? (i := 1200) (by decide +kernel)⟩
theorem lw_p58 : lw_okq (⟨"GumBubbleModel", "swapsAt", "(III)V"⟩, 23) := ⟨⟨by decide +kernel, by decide +kernel⟩, List.mem_of_getElem? (i := 885) (by decide +kernel), List.mem_of_getElem? (i := 1203) (by decide +kernel), List.mem_of_getElem? (i := 1204) (by decide +kernel)⟩
theorem lw_p59 : lw_okq (⟨"GumBubbleModel", "ordersFrom", "(III)V"⟩, 23) := ⟨⟨by decide +kernel, by decide +kernel⟩, List.mem_of_getElem? (i := 885) (by decide +kernel), List.mem_of_getElem? (i := 1211) (by decide +kernel), List.mem_of_getElem? (i := 1212) (by decide +kernel)⟩
theorem lw_p60 : lw_okq (⟨"GumBubbleModel", "areAsSeen", "()Z"⟩, 23) := ⟨⟨by decide +kernel, by decide +kernel⟩, List.mem_of_getElem? (i := 885) (by decide +kernel), List.mem_of_getElem? (i := 1231) (by decide +kernel), List.mem_of_getElem? (i := 1232) (by decide +kernel)⟩
theorem lw_p61 : lw_okq (⟨"GumBubbleModel", "isAsSeen", "(I)Z"⟩, 23) := ⟨⟨by decide +kernel, by decide +kernel⟩, List.mem_of_getElem? (i := 885) (by decide +kernel), List.mem_of_getElem? (i := 1235) (by decide +kernel), List.mem_of_getElem? (i := 1236) (by decide +kernel)⟩
theorem lw_p62 : lw_okq (⟨"GumBubbleModel", "allOf", "(I)I"⟩, 23) := ⟨⟨by decide +kernel, by decide +kernel⟩, List.mem_of_getElem? (i := 885) (by decide +kernel), List.mem_of_getElem? (i := 1255) (by decide +kernel), List.mem_of_getElem? (i := 1256) (by decide +kernel)⟩
theorem lw_p63 : lw_okq (⟨"GumBubbleModel", "does", "(II)V"⟩, 23) := ⟨⟨by decide +kernel, by decide +kernel⟩, List.mem_of_getElem? (i := 885) (by decide +kernel), List.mem_of_getElem? (i := 1259) (by decide +kernel), List.mem_of_getElem? (i := 1260) (by decide +kernel)⟩
def lw_privs_4 : List (MethodName × Nat) := [(⟨"GumBubbleModel", "blows", "(II)Z"⟩, 23), (⟨"GumBubbleModel", "goesOn", "(I)V"⟩, 23), (⟨"GumBubbleModel", "goes", "()V"⟩, 23), (⟨"GumBubbleModel", "goesFor", "(I)V"⟩, 23), (⟨"GumBubbleModel", "keeps", "()V"⟩, 23), (⟨"GumBubbleModel", "goesBack", "()V"⟩, 23), (⟨"GumBubbleModel", "looksForWhen", "(I)V"⟩, 23), (⟨"GumBubbleModel", "goesAlone", "(I)V"⟩, 23), (⟨"GumBubbleModel", "slackOf", "(I)I"⟩, 23), (⟨"GumBubbleModel", "swaps", "(II)V"⟩, 23), (⟨"GumBubbleModel", "swapsAt", "(III)V"⟩, 23), (⟨"GumBubbleModel", "ordersFrom", "(III)V"⟩, 23), (⟨"GumBubbleModel", "areAsSeen", "()Z"⟩, 23), (⟨"GumBubbleModel", "isAsSeen", "(I)Z"⟩, 23), (⟨"GumBubbleModel", "allOf", "(I)I"⟩, 23), (⟨"GumBubbleModel", "does", "(II)V"⟩, 23)]
theorem lw_r4 : ∀ q ∈ lw_privs_4, lw_okq q := List.forall_mem_cons.mpr ⟨lw_p48, List.forall_mem_cons.mpr ⟨lw_p49, List.forall_mem_cons.mpr ⟨lw_p50, List.forall_mem_cons.mpr ⟨lw_p51, List.forall_mem_cons.mpr ⟨lw_p52, List.forall_mem_cons.mpr ⟨lw_p53, List.forall_mem_cons.mpr ⟨lw_p54, List.forall_mem_cons.mpr ⟨lw_p55, List.forall_mem_cons.mpr ⟨lw_p56, List.forall_mem_cons.mpr ⟨lw_p57, List.forall_mem_cons.mpr ⟨lw_p58, List.forall_mem_cons.mpr ⟨lw_p59, List.forall_mem_cons.mpr ⟨lw_p60, List.forall_mem_cons.mpr ⟨lw_p61, List.forall_mem_cons.mpr ⟨lw_p62, List.forall_mem_cons.mpr ⟨lw_p63, fun _ h => absurd h List.not_mem_nil⟩⟩⟩⟩⟩⟩⟩⟩⟩⟩⟩⟩⟩⟩⟩⟩
theorem lw_p64 : lw_okq (⟨"GumBubbleModel", "chewsActs", "(I)I"⟩, 23) := ⟨⟨by decide +kernel, by decide +kernel⟩, List.mem_of_getElem? (i := 885) (by decide +kernel), List.mem_of_getElem? (i := 1275) (by decide +kernel), List.mem_of_getElem? (i := 1276) (by decide +kernel)⟩
theorem lw_p65 : lw_okq (⟨"GumBubbleModel", "ranBody", "(I)V"⟩, 23) := ⟨⟨by decide +kernel, by decide +kernel⟩, List.mem_of_getElem? (i := 885) (by decide +kernel), List.mem_of_getElem? (i := 1282) (by decide +kernel), List.mem_of_getElem? (i := 1283) (by decide +kernel)⟩
theorem lw_p66 : lw_okq (⟨"GumBubbleModel", "plainChews", "(I)I"⟩, 23) := ⟨⟨by decide +kernel, by decide +kernel⟩, List.mem_of_getElem? (i := 885) (by decide +kernel), List.mem_of_getElem? (i := 1286) (by decide +kernel), List.mem_of_getElem? (i := 1287) (by decide +kernel)⟩
theorem lw_p67 : lw_okq (⟨"GumBubbleModel", "blowsActs", "(I)I"⟩, 23) := ⟨⟨by decide +kernel, by decide +kernel⟩, List.mem_of_getElem? (i := 885) (by decide +kernel), List.mem_of_getElem? (i := 1290) (by decide +kernel), List.mem_of_getElem? (i := 1291) (by decide +kernel)⟩
theorem lw_p68 : lw_okq (⟨"GumBubbleModel", "plainBlows", "(I)I"⟩, 23) := ⟨⟨by decide +kernel, by decide +kernel⟩, List.mem_of_getElem? (i := 885) (by decide +kernel), List.mem_of_getElem? (i := 1294) (by decide +kernel), List.mem_of_getElem? (i := 1295) (by decide +kernel)⟩
theorem lw_p69 : lw_okq (⟨"GumBubbleModel", "tellsActs", "(I)I"⟩, 23) := ⟨⟨by decide +kernel, by decide +kernel⟩, List.mem_of_getElem? (i := 885) (by decide +kernel), List.mem_of_getElem? (i := 1298) (by decide +kernel), List.mem_of_getElem? (i := 1299) (by decide +kernel)⟩
theorem lw_p70 : lw_okq (⟨"GumBubbleModel", "plainTelling", "(I)I"⟩, 23) := ⟨⟨by decide +kernel, by decide +kernel⟩, List.mem_of_getElem? (i := 885) (by decide +kernel), List.mem_of_getElem? (i := 1302) (by decide +kernel), List.mem_of_getElem? (i := 1303) (by decide +kernel)⟩
def lw_privs_5 : List (MethodName × Nat) := [(⟨"GumBubbleModel", "chewsActs", "(I)I"⟩, 23), (⟨"GumBubbleModel", "ranBody", "(I)V"⟩, 23), (⟨"GumBubbleModel", "plainChews", "(I)I"⟩, 23), (⟨"GumBubbleModel", "blowsActs", "(I)I"⟩, 23), (⟨"GumBubbleModel", "plainBlows", "(I)I"⟩, 23), (⟨"GumBubbleModel", "tellsActs", "(I)I"⟩, 23), (⟨"GumBubbleModel", "plainTelling", "(I)I"⟩, 23)]
theorem lw_r5 : ∀ q ∈ lw_privs_5, lw_okq q := List.forall_mem_cons.mpr ⟨lw_p64, List.forall_mem_cons.mpr ⟨lw_p65, List.forall_mem_cons.mpr ⟨lw_p66, List.forall_mem_cons.mpr ⟨lw_p67, List.forall_mem_cons.mpr ⟨lw_p68, List.forall_mem_cons.mpr ⟨lw_p69, List.forall_mem_cons.mpr ⟨lw_p70, fun _ h => absurd h List.not_mem_nil⟩⟩⟩⟩⟩⟩⟩
def lw_privs : List (MethodName × Nat) := lw_privs_1 ++ (lw_privs_2 ++ (lw_privs_3 ++ (lw_privs_4 ++ (lw_privs_5))))
def lw_tbl : List Cond := k2_sels lw_privs ++ tables_1
theorem lw_privs_ok : ∀ q ∈ lw_privs, lw_okq q := by
  show ∀ q ∈ lw_privs_1 ++ (lw_privs_2 ++ (lw_privs_3 ++ (lw_privs_4 ++ (lw_privs_5)))), lw_okq q
  exact List.forall_mem_append.mpr ⟨lw_r1, List.forall_mem_append.mpr ⟨lw_r2, List.forall_mem_append.mpr ⟨lw_r3, List.forall_mem_append.mpr ⟨lw_r4, lw_r5⟩⟩⟩⟩

def gm_T0 : u_T := fun k => match k with
  | 0 => ("GumBubble$Afternoon", "wind", "I", false)
  | 1 => ("GumBubble$Afternoon", "sweet", "I", false)
  | 2 => ("GumBubble$Afternoon", "changes", "I", false)
  | 3 => ("GumBubble$Afternoon", "amounts", "[I", true)
  | 4 => ("GumBubble$Afternoon", "ends", "[I", true)
  | 5 => ("GumBubble$Afternoon", "code", "[I", true)
  | 6 => ("GumBubble$Afternoon", "codeSize", "I", false)
  | 7 => ("GumBubble$Afternoon", "tape", "[I", false)
  | 8 => ("GumBubble$Afternoon", "size", "I", false)
  | _ => ("GumBubble$Afternoon", "at", "I", false)
def gm_T1 : u_T := fun k => match k with
  | _ => ("GumBubble$Plain", "number", "I", true)
def gm_T2 : u_T := fun k => match k with
  | 0 => ("GumBubble$Child", "number", "I", false)
  | 1 => ("GumBubble$Child", "kind", "LGumBubble$Plain;", false)
  | 2 => ("GumBubble$Child", "v", "I", false)
  | 3 => ("GumBubble$Child", "pieces", "I", false)
  | 4 => ("GumBubble$Child", "sugar", "I", false)
  | 5 => ("GumBubble$Child", "jaw", "I", false)
  | 6 => ("GumBubble$Child", "bubble", "I", false)
  | 7 => ("GumBubble$Child", "hair", "I", false)
  | _ => ("GumBubble$Child", "row", "[I", true)
def gm_T3 : u_T := fun k => match k with
  | _ => ("GumBubble$Plain", "number", "I", true)
def gm_T4 : u_T := fun k => match k with
  | _ => ("GumBubble$Plain", "number", "I", true)
def gm_T5 : u_T := fun k => match k with
  | _ => ("GumBubble$Plain", "number", "I", true)
def gm_T6 : u_T := fun k => match k with
  | _ => ("GumBubble$Plain", "number", "I", true)
def gm_T7 : u_T := fun k => match k with
  | 0 => ("GumBubble$Rows", "limit", "I", true)
  | 1 => ("GumBubble$Rows", "cells", "[I", true)
  | _ => ("GumBubble$Rows", "count", "I", false)
def gm_T8 : u_T := fun k => match k with
  | 0 => ("GumBubble$Scene", "minute", "I", false)
  | 1 => ("GumBubble$Scene", "size", "I", false)
  | 2 => ("GumBubble$Scene", "children", "[LGumBubble$Child;", true)
  | 3 => ("GumBubble$Scene", "tape", "[I", true)
  | 4 => ("GumBubble$Scene", "tapeSize", "I", false)
  | 5 => ("GumBubble$Scene", "afternoons", "I", false)
  | 6 => ("GumBubble$Scene", "afternoon", "LGumBubble$Afternoon;", false)
  | 7 => ("GumBubble$Scene", "seen", "LGumBubble$Rows;", true)
  | 8 => ("GumBubble$Scene", "plan", "LGumBubble$Rows;", true)
  | _ => ("GumBubble$Scene", "book", "LGumBubble$Rows;", true)
def gm_T9 : u_T := fun k => match k with
  | _ => ("GumBubble$Plain", "number", "I", true)
def gm_T10 : u_T := fun k => match k with
  | _ => ("GumBubble$Plain", "number", "I", true)
def gm_T11 : u_T := fun k => match k with
  | 0 => ("GumBubble", "kinds", "[LGumBubble$Plain;", true)
  | 1 => ("GumBubble", "now", "LGumBubble$Scene;", true)
  | 2 => ("GumBubble", "kept", "LGumBubble$Scene;", true)
  | 3 => ("GumBubble", "hasImage", "Z", false)
  | 4 => ("GumBubble", "trace", "LGumBubble$Rows;", true)
  | 5 => ("GumBubble", "trial", "LGumBubble$Child;", true)
  | 6 => ("GumBubble", "behind", "[I", true)
  | 7 => ("GumBubble", "tried", "[I", true)
  | 8 => ("GumBubble", "best", "[I", true)
  | _ => ("GumBubble", "bestSum", "I", false)
def gm_T12 : u_T := fun k => match k with
  | 0 => ("GumBubbleModel", "thrown", "I", false)
  | 1 => ("GumBubbleModel", "s", "[I", true)
  | 2 => ("GumBubbleModel", "image", "[I", true)
  | 3 => ("GumBubbleModel", "frame", "[I", true)
  | 4 => ("GumBubbleModel", "hasImage", "Z", false)
  | 5 => ("GumBubbleModel", "act", "I", false)
  | 6 => ("GumBubbleModel", "spot", "I", false)
  | 7 => ("GumBubbleModel", "end", "I", false)
  | 8 => ("GumBubbleModel", "isWrong", "Z", false)
  | 9 => ("GumBubbleModel", "open", "I", false)
  | 10 => ("GumBubbleModel", "by", "[I", true)
  | 11 => ("GumBubbleModel", "truths", "[Z", true)
  | 12 => ("GumBubbleModel", "bestWhen", "I", false)
  | 13 => ("GumBubbleModel", "mostHeld", "I", false)
  | 14 => ("GumBubbleModel", "held", "[I", true)
  | 15 => ("GumBubbleModel", "line", "[I", true)
  | 16 => ("GumBubbleModel", "bestLine", "[I", true)
  | 17 => ("GumBubbleModel", "mostInAll", "I", false)
  | 18 => ("GumBubbleModel", "bodies", "[I", true)
  | 19 => ("GumBubbleModel", "ran", "I", false)
  | 20 => ("GumBubbleModel", "kind", "I", false)
  | 21 => ("GumBubbleModel", "number", "I", false)
  | _ => ("GumBubbleModel", "tellsV", "I", false)
abbrev gm_cls : List vw_C := [("GumBubble$Afternoon", gm_T0, 10), ("GumBubble$Careful", gm_T1, 1), ("GumBubble$Child", gm_T2, 9), ("GumBubble$Cold", gm_T3, 1), ("GumBubble$Greedy", gm_T4, 1), ("GumBubble$Plain", gm_T5, 1), ("GumBubble$Quick", gm_T6, 1), ("GumBubble$Rows", gm_T7, 3), ("GumBubble$Scene", gm_T8, 10), ("GumBubble$Slow", gm_T9, 1), ("GumBubble$Told", gm_T10, 1), ("GumBubble", gm_T11, 10), ("GumBubbleModel", gm_T12, 23)]
def gm_G : List Cond := lw_tbl.filter goodWord
theorem gm_inG {w : Cond} (h : w ∈ tables_1) (hg : goodWord w = true) : w ∈ gm_G := List.mem_filter.mpr ⟨List.mem_append_right _ h, hg⟩
theorem gm_inS {w : Cond} (h : w ∈ k2_sels lw_privs) (hg : goodWord w = true) : w ∈ gm_G := List.mem_filter.mpr ⟨List.mem_append_left _ h, hg⟩
theorem gm_ly0 : ∀ w ∈ u_ws "GumBubble$Afternoon" gm_T0 10, w ∈ gm_G := by
  intro w h
  have e : u_ws "GumBubble$Afternoon" gm_T0 10 = [138, 140, 142, 144, 146, 148, 150, 152, 154, 156].filterMap (fun i => tables_1[i]?) := by decide +kernel
  have g : (u_ws "GumBubble$Afternoon" gm_T0 10).all goodWord = true := by decide +kernel
  have hg := List.all_eq_true.mp g w h
  rw [e] at h
  obtain ⟨i, -, hi⟩ := List.mem_filterMap.mp h
  exact gm_inG (List.mem_of_getElem? hi) hg
theorem gm_ly1 : ∀ w ∈ u_ws "GumBubble$Careful" gm_T1 1, w ∈ gm_G := by
  intro w h
  have e : u_ws "GumBubble$Careful" gm_T1 1 = [101].filterMap (fun i => tables_1[i]?) := by decide +kernel
  have g : (u_ws "GumBubble$Careful" gm_T1 1).all goodWord = true := by decide +kernel
  have hg := List.all_eq_true.mp g w h
  rw [e] at h
  obtain ⟨i, -, hi⟩ := List.mem_filterMap.mp h
  exact gm_inG (List.mem_of_getElem? hi) hg
theorem gm_ly2 : ∀ w ∈ u_ws "GumBubble$Child" gm_T2 9, w ∈ gm_G := by
  intro w h
  have e : u_ws "GumBubble$Child" gm_T2 9 = [199, 201, 203, 205, 207, 209, 211, 213, 215].filterMap (fun i => tables_1[i]?) := by decide +kernel
  have g : (u_ws "GumBubble$Child" gm_T2 9).all goodWord = true := by decide +kernel
  have hg := List.all_eq_true.mp g w h
  rw [e] at h
  obtain ⟨i, -, hi⟩ := List.mem_filterMap.mp h
  exact gm_inG (List.mem_of_getElem? hi) hg
theorem gm_ly3 : ∀ w ∈ u_ws "GumBubble$Cold" gm_T3 1, w ∈ gm_G := by
  intro w h
  have e : u_ws "GumBubble$Cold" gm_T3 1 = [85].filterMap (fun i => tables_1[i]?) := by decide +kernel
  have g : (u_ws "GumBubble$Cold" gm_T3 1).all goodWord = true := by decide +kernel
  have hg := List.all_eq_true.mp g w h
  rw [e] at h
  obtain ⟨i, -, hi⟩ := List.mem_filterMap.mp h
  exact gm_inG (List.mem_of_getElem? hi) hg
theorem gm_ly4 : ∀ w ∈ u_ws "GumBubble$Greedy" gm_T4 1, w ∈ gm_G := by
  intro w h
  have e : u_ws "GumBubble$Greedy" gm_T4 1 = [93].filterMap (fun i => tables_1[i]?) := by decide +kernel
  have g : (u_ws "GumBubble$Greedy" gm_T4 1).all goodWord = true := by decide +kernel
  have hg := List.all_eq_true.mp g w h
  rw [e] at h
  obtain ⟨i, -, hi⟩ := List.mem_filterMap.mp h
  exact gm_inG (List.mem_of_getElem? hi) hg
theorem gm_ly5 : ∀ w ∈ u_ws "GumBubble$Plain" gm_T5 1, w ∈ gm_G := by
  intro w h
  have e : u_ws "GumBubble$Plain" gm_T5 1 = [60].filterMap (fun i => tables_1[i]?) := by decide +kernel
  have g : (u_ws "GumBubble$Plain" gm_T5 1).all goodWord = true := by decide +kernel
  have hg := List.all_eq_true.mp g w h
  rw [e] at h
  obtain ⟨i, -, hi⟩ := List.mem_filterMap.mp h
  exact gm_inG (List.mem_of_getElem? hi) hg
theorem gm_ly6 : ∀ w ∈ u_ws "GumBubble$Quick" gm_T6 1, w ∈ gm_G := by
  intro w h
  have e : u_ws "GumBubble$Quick" gm_T6 1 = [69].filterMap (fun i => tables_1[i]?) := by decide +kernel
  have g : (u_ws "GumBubble$Quick" gm_T6 1).all goodWord = true := by decide +kernel
  have hg := List.all_eq_true.mp g w h
  rw [e] at h
  obtain ⟨i, -, hi⟩ := List.mem_filterMap.mp h
  exact gm_inG (List.mem_of_getElem? hi) hg
theorem gm_ly7 : ∀ w ∈ u_ws "GumBubble$Rows" gm_T7 3, w ∈ gm_G := by
  intro w h
  have e : u_ws "GumBubble$Rows" gm_T7 3 = [44, 46, 48].filterMap (fun i => tables_1[i]?) := by decide +kernel
  have g : (u_ws "GumBubble$Rows" gm_T7 3).all goodWord = true := by decide +kernel
  have hg := List.all_eq_true.mp g w h
  rw [e] at h
  obtain ⟨i, -, hi⟩ := List.mem_filterMap.mp h
  exact gm_inG (List.mem_of_getElem? hi) hg
theorem gm_ly8 : ∀ w ∈ u_ws "GumBubble$Scene" gm_T8 10, w ∈ gm_G := by
  intro w h
  have e : u_ws "GumBubble$Scene" gm_T8 10 = [238, 240, 242, 244, 246, 248, 250, 252, 254, 256].filterMap (fun i => tables_1[i]?) := by decide +kernel
  have g : (u_ws "GumBubble$Scene" gm_T8 10).all goodWord = true := by decide +kernel
  have hg := List.all_eq_true.mp g w h
  rw [e] at h
  obtain ⟨i, -, hi⟩ := List.mem_filterMap.mp h
  exact gm_inG (List.mem_of_getElem? hi) hg
theorem gm_ly9 : ∀ w ∈ u_ws "GumBubble$Slow" gm_T9 1, w ∈ gm_G := by
  intro w h
  have e : u_ws "GumBubble$Slow" gm_T9 1 = [77].filterMap (fun i => tables_1[i]?) := by decide +kernel
  have g : (u_ws "GumBubble$Slow" gm_T9 1).all goodWord = true := by decide +kernel
  have hg := List.all_eq_true.mp g w h
  rw [e] at h
  obtain ⟨i, -, hi⟩ := List.mem_filterMap.mp h
  exact gm_inG (List.mem_of_getElem? hi) hg
theorem gm_ly10 : ∀ w ∈ u_ws "GumBubble$Told" gm_T10 1, w ∈ gm_G := by
  intro w h
  have e : u_ws "GumBubble$Told" gm_T10 1 = [109].filterMap (fun i => tables_1[i]?) := by decide +kernel
  have g : (u_ws "GumBubble$Told" gm_T10 1).all goodWord = true := by decide +kernel
  have hg := List.all_eq_true.mp g w h
  rw [e] at h
  obtain ⟨i, -, hi⟩ := List.mem_filterMap.mp h
  exact gm_inG (List.mem_of_getElem? hi) hg
theorem gm_ly11 : ∀ w ∈ u_ws "GumBubble" gm_T11 10, w ∈ gm_G := by
  intro w h
  have e : u_ws "GumBubble" gm_T11 10 = [271, 273, 275, 277, 279, 281, 283, 285, 287, 289].filterMap (fun i => tables_1[i]?) := by decide +kernel
  have g : (u_ws "GumBubble" gm_T11 10).all goodWord = true := by decide +kernel
  have hg := List.all_eq_true.mp g w h
  rw [e] at h
  obtain ⟨i, -, hi⟩ := List.mem_filterMap.mp h
  exact gm_inG (List.mem_of_getElem? hi) hg
theorem gm_ly12 : ∀ w ∈ u_ws "GumBubbleModel" gm_T12 23, w ∈ gm_G := by
  intro w h
  have e : u_ws "GumBubbleModel" gm_T12 23 = [912, 914, 916, 918, 920, 922, 924, 926, 928, 930, 932, 934, 936, 938, 940, 942, 944, 946, 948, 950, 952, 954, 956].filterMap (fun i => tables_1[i]?) := by decide +kernel
  have g : (u_ws "GumBubbleModel" gm_T12 23).all goodWord = true := by decide +kernel
  have hg := List.all_eq_true.mp g w h
  rw [e] at h
  obtain ⟨i, -, hi⟩ := List.mem_filterMap.mp h
  exact gm_inG (List.mem_of_getElem? hi) hg
theorem gw_0 : (Jvm.Cond.initialized "GumBubbleLaw") ∈ gm_G := gm_inG (List.mem_of_getElem? (i := 0) (by decide +kernel)) (by decide +kernel)
theorem gw_1 : (Jvm.Cond.initialized "GumBubble") ∈ gm_G := gm_inG (List.mem_of_getElem? (i := 1) (by decide +kernel)) (by decide +kernel)
theorem gw_2 : (Jvm.Cond.initialized "GumBubble$Rows") ∈ gm_G := gm_inG (List.mem_of_getElem? (i := 2) (by decide +kernel)) (by decide +kernel)
theorem gw_3 : (Jvm.Cond.initialized "java/lang/Math") ∈ gm_G := gm_inG (List.mem_of_getElem? (i := 3) (by decide +kernel)) (by decide +kernel)
theorem gw_4 : (Jvm.Cond.initialized "GumBubble$Plain") ∈ gm_G := gm_inG (List.mem_of_getElem? (i := 4) (by decide +kernel)) (by decide +kernel)
theorem gw_5 : (Jvm.Cond.initialized "GumBubble$Quick") ∈ gm_G := gm_inG (List.mem_of_getElem? (i := 5) (by decide +kernel)) (by decide +kernel)
theorem gw_6 : (Jvm.Cond.initialized "GumBubble$Slow") ∈ gm_G := gm_inG (List.mem_of_getElem? (i := 6) (by decide +kernel)) (by decide +kernel)
theorem gw_7 : (Jvm.Cond.initialized "GumBubble$Cold") ∈ gm_G := gm_inG (List.mem_of_getElem? (i := 7) (by decide +kernel)) (by decide +kernel)
theorem gw_8 : (Jvm.Cond.initialized "GumBubble$Greedy") ∈ gm_G := gm_inG (List.mem_of_getElem? (i := 8) (by decide +kernel)) (by decide +kernel)
theorem gw_9 : (Jvm.Cond.initialized "GumBubble$Careful") ∈ gm_G := gm_inG (List.mem_of_getElem? (i := 9) (by decide +kernel)) (by decide +kernel)
theorem gw_10 : (Jvm.Cond.initialized "GumBubble$Told") ∈ gm_G := gm_inG (List.mem_of_getElem? (i := 10) (by decide +kernel)) (by decide +kernel)
theorem gw_11 : (Jvm.Cond.initialized "GumBubble$Scene") ∈ gm_G := gm_inG (List.mem_of_getElem? (i := 11) (by decide +kernel)) (by decide +kernel)
theorem gw_12 : (Jvm.Cond.initialized "GumBubble$Afternoon") ∈ gm_G := gm_inG (List.mem_of_getElem? (i := 12) (by decide +kernel)) (by decide +kernel)
theorem gw_13 : (Jvm.Cond.initialized "GumBubble$Child") ∈ gm_G := gm_inG (List.mem_of_getElem? (i := 13) (by decide +kernel)) (by decide +kernel)
theorem gw_14 : (Jvm.Cond.initialized "GumBubbleModel") ∈ gm_G := gm_inG (List.mem_of_getElem? (i := 14) (by decide +kernel)) (by decide +kernel)
theorem gw_15 : (Jvm.Cond.initialized "java/lang/String") ∈ gm_G := gm_inG (List.mem_of_getElem? (i := 15) (by decide +kernel)) (by decide +kernel)
theorem gw_16 : (Jvm.Cond.initialized "java/lang/StringLatin1") ∈ gm_G := gm_inG (List.mem_of_getElem? (i := 16) (by decide +kernel)) (by decide +kernel)
theorem gw_17 : (Jvm.Cond.initialized "jdk/internal/util/Preconditions") ∈ gm_G := gm_inG (List.mem_of_getElem? (i := 17) (by decide +kernel)) (by decide +kernel)
theorem gw_18 : (Jvm.Cond.initialized "java/lang/StringUTF16") ∈ gm_G := gm_inG (List.mem_of_getElem? (i := 18) (by decide +kernel)) (by decide +kernel)
theorem gw_19 : (Jvm.Cond.initialized "java/lang/Character") ∈ gm_G := gm_inG (List.mem_of_getElem? (i := 19) (by decide +kernel)) (by decide +kernel)
theorem gw_20 : (Jvm.Cond.initialized "java/lang/System") ∈ gm_G := gm_inG (List.mem_of_getElem? (i := 20) (by decide +kernel)) (by decide +kernel)
theorem gw_21 : (Jvm.Cond.classLink "GumBubbleLaw" (7 : Nat) "GumBubble") ∈ gm_G := gm_inG (List.mem_of_getElem? (i := 21) (by decide +kernel)) (by decide +kernel)
theorem gw_22 : (Jvm.Cond.instantiable "GumBubble" (10 : Nat)) ∈ gm_G := gm_inG (List.mem_of_getElem? (i := 22) (by decide +kernel)) (by decide +kernel)
theorem gw_23 : (Jvm.Cond.methodLink "GumBubbleLaw" (9 : Nat) ({ cls := "GumBubble", name := "<init>", desc := "()V" } : Jvm.MethodName)) ∈ gm_G := gm_inG (List.mem_of_getElem? (i := 23) (by decide +kernel)) (by decide +kernel)
theorem gw_24 : (Jvm.Cond.instanceMethod ({ cls := "GumBubble", name := "<init>", desc := "()V" } : Jvm.MethodName)) ∈ gm_G := gm_inG (List.mem_of_getElem? (i := 24) (by decide +kernel)) (by decide +kernel)
theorem gw_25 : (Jvm.Cond.code ({ cls := "GumBubble", name := "<init>", desc := "()V" } : Jvm.MethodName) prog_1_method_1_code (2 : Nat) (Option.none : Option Jvm.ClassFile.FieldType)) ∈ gm_G := gm_inG (List.mem_of_getElem? (i := 25) (by decide +kernel)) (by decide +kernel)
theorem gw_26 : (Jvm.Cond.methodLink "GumBubble" (3 : Nat) ({ cls := "java/lang/Object", name := "<init>", desc := "()V" } : Jvm.MethodName)) ∈ gm_G := gm_inG (List.mem_of_getElem? (i := 26) (by decide +kernel)) (by decide +kernel)
theorem gw_27 : (Jvm.Cond.instanceMethod ({ cls := "java/lang/Object", name := "<init>", desc := "()V" } : Jvm.MethodName)) ∈ gm_G := gm_inG (List.mem_of_getElem? (i := 27) (by decide +kernel)) (by decide +kernel)
theorem gw_28 : (Jvm.Cond.code ({ cls := "java/lang/Object", name := "<init>", desc := "()V" } : Jvm.MethodName) object_method_1_code (1 : Nat) (Option.none : Option Jvm.ClassFile.FieldType)) ∈ gm_G := gm_inG (List.mem_of_getElem? (i := 28) (by decide +kernel)) (by decide +kernel)
theorem gw_29 : (Jvm.Cond.classLink "GumBubble" (11 : Nat) "GumBubble$Plain") ∈ gm_G := gm_inG (List.mem_of_getElem? (i := 29) (by decide +kernel)) (by decide +kernel)
theorem gw_31 : (Jvm.Cond.classLink "GumBubble" (17 : Nat) "GumBubble$Rows") ∈ gm_G := gm_inG (List.mem_of_getElem? (i := 31) (by decide +kernel)) (by decide +kernel)
theorem gw_32 : (Jvm.Cond.instantiable "GumBubble$Rows" (3 : Nat)) ∈ gm_G := gm_inG (List.mem_of_getElem? (i := 32) (by decide +kernel)) (by decide +kernel)
theorem gw_33 : (Jvm.Cond.methodLink "GumBubble" (19 : Nat) ({ cls := "GumBubble$Rows", name := "<init>", desc := "(I)V" } : Jvm.MethodName)) ∈ gm_G := gm_inG (List.mem_of_getElem? (i := 33) (by decide +kernel)) (by decide +kernel)
theorem gw_34 : (Jvm.Cond.instanceMethod ({ cls := "GumBubble$Rows", name := "<init>", desc := "(I)V" } : Jvm.MethodName)) ∈ gm_G := gm_inG (List.mem_of_getElem? (i := 34) (by decide +kernel)) (by decide +kernel)
theorem gw_35 : (Jvm.Cond.code ({ cls := "GumBubble$Rows", name := "<init>", desc := "(I)V" } : Jvm.MethodName) prog_9_method_1_code (2 : Nat) (Option.none : Option Jvm.ClassFile.FieldType)) ∈ gm_G := gm_inG (List.mem_of_getElem? (i := 35) (by decide +kernel)) (by decide +kernel)
theorem gw_36 : (Jvm.Cond.methodLink "GumBubble$Rows" (1 : Nat) ({ cls := "java/lang/Object", name := "<init>", desc := "()V" } : Jvm.MethodName)) ∈ gm_G := gm_inG (List.mem_of_getElem? (i := 36) (by decide +kernel)) (by decide +kernel)
theorem gw_37 : (Jvm.Cond.methodLink "GumBubble$Rows" (13 : Nat) ({ cls := "java/lang/Math", name := "max", desc := "(II)I" } : Jvm.MethodName)) ∈ gm_G := gm_inG (List.mem_of_getElem? (i := 37) (by decide +kernel)) (by decide +kernel)
theorem gw_38 : (Jvm.Cond.static ({ cls := "java/lang/Math", name := "max", desc := "(II)I" } : Jvm.MethodName)) ∈ gm_G := gm_inG (List.mem_of_getElem? (i := 38) (by decide +kernel)) (by decide +kernel)
theorem gw_39 : (Jvm.Cond.code ({ cls := "java/lang/Math", name := "max", desc := "(II)I" } : Jvm.MethodName) prog_16_method_65_code (2 : Nat) (Option.some Jvm.ClassFile.FieldType.int)) ∈ gm_G := gm_inG (List.mem_of_getElem? (i := 39) (by decide +kernel)) (by decide +kernel)
theorem gw_40 : (Jvm.Cond.fieldLink "GumBubble$Rows" (7 : Nat) "GumBubble$Rows" "limit" "I") ∈ gm_G := gm_inG (List.mem_of_getElem? (i := 40) (by decide +kernel)) (by decide +kernel)
theorem gw_41 : (Jvm.Cond.fieldLink "GumBubble$Rows" (19 : Nat) "GumBubble$Rows" "cells" "[I") ∈ gm_G := gm_inG (List.mem_of_getElem? (i := 41) (by decide +kernel)) (by decide +kernel)
theorem gw_42 : (Jvm.Cond.fieldLink "GumBubble$Rows" (23 : Nat) "GumBubble$Rows" "count" "I") ∈ gm_G := gm_inG (List.mem_of_getElem? (i := 42) (by decide +kernel)) (by decide +kernel)
theorem gw_43 : (Jvm.Cond.fieldLink "GumBubble" (259 : Nat) "GumBubble$Rows" "count" "I") ∈ gm_G := gm_inG (List.mem_of_getElem? (i := 43) (by decide +kernel)) (by decide +kernel)
theorem gw_50 : (Jvm.Cond.superclass "GumBubble$Rows" "java/lang/Object") ∈ gm_G := gm_inG (List.mem_of_getElem? (i := 50) (by decide +kernel)) (by decide +kernel)
theorem gw_51 : (Jvm.Cond.arrayClass Jvm.ClassFile.FieldType.int) ∈ gm_G := gm_inG (List.mem_of_getElem? (i := 51) (by decide +kernel)) (by decide +kernel)
theorem gw_52 : (Jvm.Cond.instantiable "GumBubble$Plain" (1 : Nat)) ∈ gm_G := gm_inG (List.mem_of_getElem? (i := 52) (by decide +kernel)) (by decide +kernel)
theorem gw_53 : (Jvm.Cond.methodLink "GumBubble" (36 : Nat) ({ cls := "GumBubble$Plain", name := "<init>", desc := "(I)V" } : Jvm.MethodName)) ∈ gm_G := gm_inG (List.mem_of_getElem? (i := 53) (by decide +kernel)) (by decide +kernel)
theorem gw_54 : (Jvm.Cond.instanceMethod ({ cls := "GumBubble$Plain", name := "<init>", desc := "(I)V" } : Jvm.MethodName)) ∈ gm_G := gm_inG (List.mem_of_getElem? (i := 54) (by decide +kernel)) (by decide +kernel)
theorem gw_55 : (Jvm.Cond.code ({ cls := "GumBubble$Plain", name := "<init>", desc := "(I)V" } : Jvm.MethodName) prog_7_method_1_code (2 : Nat) (Option.none : Option Jvm.ClassFile.FieldType)) ∈ gm_G := gm_inG (List.mem_of_getElem? (i := 55) (by decide +kernel)) (by decide +kernel)
theorem gw_56 : (Jvm.Cond.methodLink "GumBubble$Plain" (1 : Nat) ({ cls := "java/lang/Object", name := "<init>", desc := "()V" } : Jvm.MethodName)) ∈ gm_G := gm_inG (List.mem_of_getElem? (i := 56) (by decide +kernel)) (by decide +kernel)
theorem gw_57 : (Jvm.Cond.fieldLink "GumBubble$Plain" (7 : Nat) "GumBubble$Plain" "number" "I") ∈ gm_G := gm_inG (List.mem_of_getElem? (i := 57) (by decide +kernel)) (by decide +kernel)
theorem gw_58 : (Jvm.Cond.fieldLink "GumBubble" (123 : Nat) "GumBubble$Plain" "number" "I") ∈ gm_G := gm_inG (List.mem_of_getElem? (i := 58) (by decide +kernel)) (by decide +kernel)
theorem gw_59 : (Jvm.Cond.fieldLink "GumBubble$Afternoon" (131 : Nat) "GumBubble$Plain" "number" "I") ∈ gm_G := gm_inG (List.mem_of_getElem? (i := 59) (by decide +kernel)) (by decide +kernel)
theorem gw_62 : (Jvm.Cond.superclass "GumBubble$Plain" "java/lang/Object") ∈ gm_G := gm_inG (List.mem_of_getElem? (i := 62) (by decide +kernel)) (by decide +kernel)
theorem gw_63 : (Jvm.Cond.classLink "GumBubble" (37 : Nat) "GumBubble$Quick") ∈ gm_G := gm_inG (List.mem_of_getElem? (i := 63) (by decide +kernel)) (by decide +kernel)
theorem gw_64 : (Jvm.Cond.instantiable "GumBubble$Quick" (1 : Nat)) ∈ gm_G := gm_inG (List.mem_of_getElem? (i := 64) (by decide +kernel)) (by decide +kernel)
theorem gw_65 : (Jvm.Cond.methodLink "GumBubble" (39 : Nat) ({ cls := "GumBubble$Quick", name := "<init>", desc := "(I)V" } : Jvm.MethodName)) ∈ gm_G := gm_inG (List.mem_of_getElem? (i := 65) (by decide +kernel)) (by decide +kernel)
theorem gw_66 : (Jvm.Cond.instanceMethod ({ cls := "GumBubble$Quick", name := "<init>", desc := "(I)V" } : Jvm.MethodName)) ∈ gm_G := gm_inG (List.mem_of_getElem? (i := 66) (by decide +kernel)) (by decide +kernel)
theorem gw_67 : (Jvm.Cond.code ({ cls := "GumBubble$Quick", name := "<init>", desc := "(I)V" } : Jvm.MethodName) prog_8_method_1_code (2 : Nat) (Option.none : Option Jvm.ClassFile.FieldType)) ∈ gm_G := gm_inG (List.mem_of_getElem? (i := 67) (by decide +kernel)) (by decide +kernel)
theorem gw_68 : (Jvm.Cond.methodLink "GumBubble$Quick" (1 : Nat) ({ cls := "GumBubble$Plain", name := "<init>", desc := "(I)V" } : Jvm.MethodName)) ∈ gm_G := gm_inG (List.mem_of_getElem? (i := 68) (by decide +kernel)) (by decide +kernel)
theorem gw_70 : (Jvm.Cond.superclass "GumBubble$Quick" "GumBubble$Plain") ∈ gm_G := gm_inG (List.mem_of_getElem? (i := 70) (by decide +kernel)) (by decide +kernel)
theorem gw_71 : (Jvm.Cond.classLink "GumBubble" (40 : Nat) "GumBubble$Slow") ∈ gm_G := gm_inG (List.mem_of_getElem? (i := 71) (by decide +kernel)) (by decide +kernel)
theorem gw_72 : (Jvm.Cond.instantiable "GumBubble$Slow" (1 : Nat)) ∈ gm_G := gm_inG (List.mem_of_getElem? (i := 72) (by decide +kernel)) (by decide +kernel)
theorem gw_73 : (Jvm.Cond.methodLink "GumBubble" (42 : Nat) ({ cls := "GumBubble$Slow", name := "<init>", desc := "(I)V" } : Jvm.MethodName)) ∈ gm_G := gm_inG (List.mem_of_getElem? (i := 73) (by decide +kernel)) (by decide +kernel)
theorem gw_74 : (Jvm.Cond.instanceMethod ({ cls := "GumBubble$Slow", name := "<init>", desc := "(I)V" } : Jvm.MethodName)) ∈ gm_G := gm_inG (List.mem_of_getElem? (i := 74) (by decide +kernel)) (by decide +kernel)
theorem gw_75 : (Jvm.Cond.code ({ cls := "GumBubble$Slow", name := "<init>", desc := "(I)V" } : Jvm.MethodName) prog_11_method_1_code (2 : Nat) (Option.none : Option Jvm.ClassFile.FieldType)) ∈ gm_G := gm_inG (List.mem_of_getElem? (i := 75) (by decide +kernel)) (by decide +kernel)
theorem gw_76 : (Jvm.Cond.methodLink "GumBubble$Slow" (1 : Nat) ({ cls := "GumBubble$Plain", name := "<init>", desc := "(I)V" } : Jvm.MethodName)) ∈ gm_G := gm_inG (List.mem_of_getElem? (i := 76) (by decide +kernel)) (by decide +kernel)
theorem gw_78 : (Jvm.Cond.superclass "GumBubble$Slow" "GumBubble$Plain") ∈ gm_G := gm_inG (List.mem_of_getElem? (i := 78) (by decide +kernel)) (by decide +kernel)
theorem gw_79 : (Jvm.Cond.classLink "GumBubble" (43 : Nat) "GumBubble$Cold") ∈ gm_G := gm_inG (List.mem_of_getElem? (i := 79) (by decide +kernel)) (by decide +kernel)
theorem gw_80 : (Jvm.Cond.instantiable "GumBubble$Cold" (1 : Nat)) ∈ gm_G := gm_inG (List.mem_of_getElem? (i := 80) (by decide +kernel)) (by decide +kernel)
theorem gw_81 : (Jvm.Cond.methodLink "GumBubble" (45 : Nat) ({ cls := "GumBubble$Cold", name := "<init>", desc := "(I)V" } : Jvm.MethodName)) ∈ gm_G := gm_inG (List.mem_of_getElem? (i := 81) (by decide +kernel)) (by decide +kernel)
theorem gw_82 : (Jvm.Cond.instanceMethod ({ cls := "GumBubble$Cold", name := "<init>", desc := "(I)V" } : Jvm.MethodName)) ∈ gm_G := gm_inG (List.mem_of_getElem? (i := 82) (by decide +kernel)) (by decide +kernel)
theorem gw_83 : (Jvm.Cond.code ({ cls := "GumBubble$Cold", name := "<init>", desc := "(I)V" } : Jvm.MethodName) prog_5_method_1_code (2 : Nat) (Option.none : Option Jvm.ClassFile.FieldType)) ∈ gm_G := gm_inG (List.mem_of_getElem? (i := 83) (by decide +kernel)) (by decide +kernel)
theorem gw_84 : (Jvm.Cond.methodLink "GumBubble$Cold" (1 : Nat) ({ cls := "GumBubble$Plain", name := "<init>", desc := "(I)V" } : Jvm.MethodName)) ∈ gm_G := gm_inG (List.mem_of_getElem? (i := 84) (by decide +kernel)) (by decide +kernel)
theorem gw_86 : (Jvm.Cond.superclass "GumBubble$Cold" "GumBubble$Plain") ∈ gm_G := gm_inG (List.mem_of_getElem? (i := 86) (by decide +kernel)) (by decide +kernel)
theorem gw_87 : (Jvm.Cond.classLink "GumBubble" (46 : Nat) "GumBubble$Greedy") ∈ gm_G := gm_inG (List.mem_of_getElem? (i := 87) (by decide +kernel)) (by decide +kernel)
theorem gw_88 : (Jvm.Cond.instantiable "GumBubble$Greedy" (1 : Nat)) ∈ gm_G := gm_inG (List.mem_of_getElem? (i := 88) (by decide +kernel)) (by decide +kernel)
theorem gw_89 : (Jvm.Cond.methodLink "GumBubble" (48 : Nat) ({ cls := "GumBubble$Greedy", name := "<init>", desc := "(I)V" } : Jvm.MethodName)) ∈ gm_G := gm_inG (List.mem_of_getElem? (i := 89) (by decide +kernel)) (by decide +kernel)
theorem gw_90 : (Jvm.Cond.instanceMethod ({ cls := "GumBubble$Greedy", name := "<init>", desc := "(I)V" } : Jvm.MethodName)) ∈ gm_G := gm_inG (List.mem_of_getElem? (i := 90) (by decide +kernel)) (by decide +kernel)
theorem gw_91 : (Jvm.Cond.code ({ cls := "GumBubble$Greedy", name := "<init>", desc := "(I)V" } : Jvm.MethodName) prog_6_method_1_code (2 : Nat) (Option.none : Option Jvm.ClassFile.FieldType)) ∈ gm_G := gm_inG (List.mem_of_getElem? (i := 91) (by decide +kernel)) (by decide +kernel)
theorem gw_92 : (Jvm.Cond.methodLink "GumBubble$Greedy" (1 : Nat) ({ cls := "GumBubble$Quick", name := "<init>", desc := "(I)V" } : Jvm.MethodName)) ∈ gm_G := gm_inG (List.mem_of_getElem? (i := 92) (by decide +kernel)) (by decide +kernel)
theorem gw_94 : (Jvm.Cond.superclass "GumBubble$Greedy" "GumBubble$Quick") ∈ gm_G := gm_inG (List.mem_of_getElem? (i := 94) (by decide +kernel)) (by decide +kernel)
theorem gw_95 : (Jvm.Cond.classLink "GumBubble" (49 : Nat) "GumBubble$Careful") ∈ gm_G := gm_inG (List.mem_of_getElem? (i := 95) (by decide +kernel)) (by decide +kernel)
theorem gw_96 : (Jvm.Cond.instantiable "GumBubble$Careful" (1 : Nat)) ∈ gm_G := gm_inG (List.mem_of_getElem? (i := 96) (by decide +kernel)) (by decide +kernel)
theorem gw_97 : (Jvm.Cond.methodLink "GumBubble" (51 : Nat) ({ cls := "GumBubble$Careful", name := "<init>", desc := "(I)V" } : Jvm.MethodName)) ∈ gm_G := gm_inG (List.mem_of_getElem? (i := 97) (by decide +kernel)) (by decide +kernel)
theorem gw_98 : (Jvm.Cond.instanceMethod ({ cls := "GumBubble$Careful", name := "<init>", desc := "(I)V" } : Jvm.MethodName)) ∈ gm_G := gm_inG (List.mem_of_getElem? (i := 98) (by decide +kernel)) (by decide +kernel)
theorem gw_99 : (Jvm.Cond.code ({ cls := "GumBubble$Careful", name := "<init>", desc := "(I)V" } : Jvm.MethodName) prog_3_method_1_code (2 : Nat) (Option.none : Option Jvm.ClassFile.FieldType)) ∈ gm_G := gm_inG (List.mem_of_getElem? (i := 99) (by decide +kernel)) (by decide +kernel)
theorem gw_100 : (Jvm.Cond.methodLink "GumBubble$Careful" (1 : Nat) ({ cls := "GumBubble$Slow", name := "<init>", desc := "(I)V" } : Jvm.MethodName)) ∈ gm_G := gm_inG (List.mem_of_getElem? (i := 100) (by decide +kernel)) (by decide +kernel)
theorem gw_102 : (Jvm.Cond.superclass "GumBubble$Careful" "GumBubble$Slow") ∈ gm_G := gm_inG (List.mem_of_getElem? (i := 102) (by decide +kernel)) (by decide +kernel)
theorem gw_103 : (Jvm.Cond.classLink "GumBubble" (52 : Nat) "GumBubble$Told") ∈ gm_G := gm_inG (List.mem_of_getElem? (i := 103) (by decide +kernel)) (by decide +kernel)
theorem gw_104 : (Jvm.Cond.instantiable "GumBubble$Told" (1 : Nat)) ∈ gm_G := gm_inG (List.mem_of_getElem? (i := 104) (by decide +kernel)) (by decide +kernel)
theorem gw_105 : (Jvm.Cond.methodLink "GumBubble" (54 : Nat) ({ cls := "GumBubble$Told", name := "<init>", desc := "(I)V" } : Jvm.MethodName)) ∈ gm_G := gm_inG (List.mem_of_getElem? (i := 105) (by decide +kernel)) (by decide +kernel)
theorem gw_106 : (Jvm.Cond.instanceMethod ({ cls := "GumBubble$Told", name := "<init>", desc := "(I)V" } : Jvm.MethodName)) ∈ gm_G := gm_inG (List.mem_of_getElem? (i := 106) (by decide +kernel)) (by decide +kernel)
theorem gw_107 : (Jvm.Cond.code ({ cls := "GumBubble$Told", name := "<init>", desc := "(I)V" } : Jvm.MethodName) prog_12_method_1_code (2 : Nat) (Option.none : Option Jvm.ClassFile.FieldType)) ∈ gm_G := gm_inG (List.mem_of_getElem? (i := 107) (by decide +kernel)) (by decide +kernel)
theorem gw_108 : (Jvm.Cond.methodLink "GumBubble$Told" (1 : Nat) ({ cls := "GumBubble$Cold", name := "<init>", desc := "(I)V" } : Jvm.MethodName)) ∈ gm_G := gm_inG (List.mem_of_getElem? (i := 108) (by decide +kernel)) (by decide +kernel)
theorem gw_110 : (Jvm.Cond.superclass "GumBubble$Told" "GumBubble$Cold") ∈ gm_G := gm_inG (List.mem_of_getElem? (i := 110) (by decide +kernel)) (by decide +kernel)
theorem gw_111 : (Jvm.Cond.classLink "GumBubble" (55 : Nat) "GumBubble$Scene") ∈ gm_G := gm_inG (List.mem_of_getElem? (i := 111) (by decide +kernel)) (by decide +kernel)
theorem gw_112 : (Jvm.Cond.instantiable "GumBubble$Scene" (10 : Nat)) ∈ gm_G := gm_inG (List.mem_of_getElem? (i := 112) (by decide +kernel)) (by decide +kernel)
theorem gw_113 : (Jvm.Cond.methodLink "GumBubble" (57 : Nat) ({ cls := "GumBubble$Scene", name := "<init>", desc := "(LGumBubble$Plain;)V" } : Jvm.MethodName)) ∈ gm_G := gm_inG (List.mem_of_getElem? (i := 113) (by decide +kernel)) (by decide +kernel)
theorem gw_114 : (Jvm.Cond.instanceMethod ({ cls := "GumBubble$Scene", name := "<init>", desc := "(LGumBubble$Plain;)V" } : Jvm.MethodName)) ∈ gm_G := gm_inG (List.mem_of_getElem? (i := 114) (by decide +kernel)) (by decide +kernel)
theorem gw_115 : (Jvm.Cond.code ({ cls := "GumBubble$Scene", name := "<init>", desc := "(LGumBubble$Plain;)V" } : Jvm.MethodName) prog_10_method_1_code (3 : Nat) (Option.none : Option Jvm.ClassFile.FieldType)) ∈ gm_G := gm_inG (List.mem_of_getElem? (i := 115) (by decide +kernel)) (by decide +kernel)
theorem gw_116 : (Jvm.Cond.methodLink "GumBubble$Scene" (3 : Nat) ({ cls := "java/lang/Object", name := "<init>", desc := "()V" } : Jvm.MethodName)) ∈ gm_G := gm_inG (List.mem_of_getElem? (i := 116) (by decide +kernel)) (by decide +kernel)
theorem gw_117 : (Jvm.Cond.classLink "GumBubble$Scene" (9 : Nat) "GumBubble$Child") ∈ gm_G := gm_inG (List.mem_of_getElem? (i := 117) (by decide +kernel)) (by decide +kernel)
theorem gw_119 : (Jvm.Cond.classLink "GumBubble$Scene" (21 : Nat) "GumBubble$Afternoon") ∈ gm_G := gm_inG (List.mem_of_getElem? (i := 119) (by decide +kernel)) (by decide +kernel)
theorem gw_120 : (Jvm.Cond.instantiable "GumBubble$Afternoon" (10 : Nat)) ∈ gm_G := gm_inG (List.mem_of_getElem? (i := 120) (by decide +kernel)) (by decide +kernel)
theorem gw_122 : (Jvm.Cond.instanceMethod ({ cls := "GumBubble$Afternoon", name := "<init>", desc := "()V" } : Jvm.MethodName)) ∈ gm_G := gm_inG (List.mem_of_getElem? (i := 122) (by decide +kernel)) (by decide +kernel)
theorem gw_123 : (Jvm.Cond.code ({ cls := "GumBubble$Afternoon", name := "<init>", desc := "()V" } : Jvm.MethodName) prog_2_method_1_code (1 : Nat) (Option.none : Option Jvm.ClassFile.FieldType)) ∈ gm_G := gm_inG (List.mem_of_getElem? (i := 123) (by decide +kernel)) (by decide +kernel)
theorem gw_124 : (Jvm.Cond.methodLink "GumBubble$Afternoon" (1 : Nat) ({ cls := "java/lang/Object", name := "<init>", desc := "()V" } : Jvm.MethodName)) ∈ gm_G := gm_inG (List.mem_of_getElem? (i := 124) (by decide +kernel)) (by decide +kernel)
theorem gw_125 : (Jvm.Cond.fieldLink "GumBubble$Afternoon" (7 : Nat) "GumBubble$Afternoon" "wind" "I") ∈ gm_G := gm_inG (List.mem_of_getElem? (i := 125) (by decide +kernel)) (by decide +kernel)
theorem gw_126 : (Jvm.Cond.fieldLink "GumBubble$Child" (53 : Nat) "GumBubble$Afternoon" "wind" "I") ∈ gm_G := gm_inG (List.mem_of_getElem? (i := 126) (by decide +kernel)) (by decide +kernel)
theorem gw_127 : (Jvm.Cond.fieldLink "GumBubble" (165 : Nat) "GumBubble$Afternoon" "wind" "I") ∈ gm_G := gm_inG (List.mem_of_getElem? (i := 127) (by decide +kernel)) (by decide +kernel)
theorem gw_128 : (Jvm.Cond.fieldLink "GumBubble$Afternoon" (13 : Nat) "GumBubble$Afternoon" "sweet" "I") ∈ gm_G := gm_inG (List.mem_of_getElem? (i := 128) (by decide +kernel)) (by decide +kernel)
theorem gw_129 : (Jvm.Cond.fieldLink "GumBubble" (108 : Nat) "GumBubble$Afternoon" "sweet" "I") ∈ gm_G := gm_inG (List.mem_of_getElem? (i := 129) (by decide +kernel)) (by decide +kernel)
theorem gw_130 : (Jvm.Cond.fieldLink "GumBubble$Afternoon" (49 : Nat) "GumBubble$Afternoon" "changes" "I") ∈ gm_G := gm_inG (List.mem_of_getElem? (i := 130) (by decide +kernel)) (by decide +kernel)
theorem gw_131 : (Jvm.Cond.fieldLink "GumBubble$Afternoon" (16 : Nat) "GumBubble$Afternoon" "amounts" "[I") ∈ gm_G := gm_inG (List.mem_of_getElem? (i := 131) (by decide +kernel)) (by decide +kernel)
theorem gw_132 : (Jvm.Cond.fieldLink "GumBubble$Afternoon" (20 : Nat) "GumBubble$Afternoon" "ends" "[I") ∈ gm_G := gm_inG (List.mem_of_getElem? (i := 132) (by decide +kernel)) (by decide +kernel)
theorem gw_133 : (Jvm.Cond.fieldLink "GumBubble$Afternoon" (23 : Nat) "GumBubble$Afternoon" "code" "[I") ∈ gm_G := gm_inG (List.mem_of_getElem? (i := 133) (by decide +kernel)) (by decide +kernel)
theorem gw_134 : (Jvm.Cond.fieldLink "GumBubble$Afternoon" (115 : Nat) "GumBubble$Afternoon" "codeSize" "I") ∈ gm_G := gm_inG (List.mem_of_getElem? (i := 134) (by decide +kernel)) (by decide +kernel)
theorem gw_135 : (Jvm.Cond.fieldLink "GumBubble$Afternoon" (26 : Nat) "GumBubble$Afternoon" "tape" "[I") ∈ gm_G := gm_inG (List.mem_of_getElem? (i := 135) (by decide +kernel)) (by decide +kernel)
theorem gw_136 : (Jvm.Cond.fieldLink "GumBubble$Afternoon" (35 : Nat) "GumBubble$Afternoon" "size" "I") ∈ gm_G := gm_inG (List.mem_of_getElem? (i := 136) (by decide +kernel)) (by decide +kernel)
theorem gw_137 : (Jvm.Cond.fieldLink "GumBubble$Afternoon" (42 : Nat) "GumBubble$Afternoon" "at" "I") ∈ gm_G := gm_inG (List.mem_of_getElem? (i := 137) (by decide +kernel)) (by decide +kernel)
theorem gw_158 : (Jvm.Cond.superclass "GumBubble$Afternoon" "java/lang/Object") ∈ gm_G := gm_inG (List.mem_of_getElem? (i := 158) (by decide +kernel)) (by decide +kernel)
theorem gw_159 : (Jvm.Cond.classLink "GumBubble$Scene" (28 : Nat) "GumBubble$Rows") ∈ gm_G := gm_inG (List.mem_of_getElem? (i := 159) (by decide +kernel)) (by decide +kernel)
theorem gw_160 : (Jvm.Cond.methodLink "GumBubble$Scene" (30 : Nat) ({ cls := "GumBubble$Rows", name := "<init>", desc := "(I)V" } : Jvm.MethodName)) ∈ gm_G := gm_inG (List.mem_of_getElem? (i := 160) (by decide +kernel)) (by decide +kernel)
theorem gw_161 : (Jvm.Cond.instantiable "GumBubble$Child" (9 : Nat)) ∈ gm_G := gm_inG (List.mem_of_getElem? (i := 161) (by decide +kernel)) (by decide +kernel)
theorem gw_162 : (Jvm.Cond.methodLink "GumBubble$Scene" (43 : Nat) ({ cls := "GumBubble$Child", name := "<init>", desc := "(ILGumBubble$Plain;)V" } : Jvm.MethodName)) ∈ gm_G := gm_inG (List.mem_of_getElem? (i := 162) (by decide +kernel)) (by decide +kernel)
theorem gw_163 : (Jvm.Cond.instanceMethod ({ cls := "GumBubble$Child", name := "<init>", desc := "(ILGumBubble$Plain;)V" } : Jvm.MethodName)) ∈ gm_G := gm_inG (List.mem_of_getElem? (i := 163) (by decide +kernel)) (by decide +kernel)
theorem gw_164 : (Jvm.Cond.code ({ cls := "GumBubble$Child", name := "<init>", desc := "(ILGumBubble$Plain;)V" } : Jvm.MethodName) prog_4_method_1_code (3 : Nat) (Option.none : Option Jvm.ClassFile.FieldType)) ∈ gm_G := gm_inG (List.mem_of_getElem? (i := 164) (by decide +kernel)) (by decide +kernel)
theorem gw_165 : (Jvm.Cond.methodLink "GumBubble$Child" (3 : Nat) ({ cls := "java/lang/Object", name := "<init>", desc := "()V" } : Jvm.MethodName)) ∈ gm_G := gm_inG (List.mem_of_getElem? (i := 165) (by decide +kernel)) (by decide +kernel)
theorem gw_166 : (Jvm.Cond.fieldLink "GumBubble$Child" (15 : Nat) "GumBubble$Child" "number" "I") ∈ gm_G := gm_inG (List.mem_of_getElem? (i := 166) (by decide +kernel)) (by decide +kernel)
theorem gw_167 : (Jvm.Cond.fieldLink "GumBubble$Plain" (27 : Nat) "GumBubble$Child" "number" "I") ∈ gm_G := gm_inG (List.mem_of_getElem? (i := 167) (by decide +kernel)) (by decide +kernel)
theorem gw_168 : (Jvm.Cond.fieldLink "GumBubble$Careful" (33 : Nat) "GumBubble$Child" "number" "I") ∈ gm_G := gm_inG (List.mem_of_getElem? (i := 168) (by decide +kernel)) (by decide +kernel)
theorem gw_169 : (Jvm.Cond.fieldLink "GumBubble$Afternoon" (122 : Nat) "GumBubble$Child" "number" "I") ∈ gm_G := gm_inG (List.mem_of_getElem? (i := 169) (by decide +kernel)) (by decide +kernel)
theorem gw_170 : (Jvm.Cond.fieldLink "GumBubble" (301 : Nat) "GumBubble$Child" "number" "I") ∈ gm_G := gm_inG (List.mem_of_getElem? (i := 170) (by decide +kernel)) (by decide +kernel)
theorem gw_171 : (Jvm.Cond.fieldLink "GumBubble$Child" (19 : Nat) "GumBubble$Child" "kind" "LGumBubble$Plain;") ∈ gm_G := gm_inG (List.mem_of_getElem? (i := 171) (by decide +kernel)) (by decide +kernel)
theorem gw_172 : (Jvm.Cond.fieldLink "GumBubble" (119 : Nat) "GumBubble$Child" "kind" "LGumBubble$Plain;") ∈ gm_G := gm_inG (List.mem_of_getElem? (i := 172) (by decide +kernel)) (by decide +kernel)
theorem gw_173 : (Jvm.Cond.fieldLink "GumBubble$Afternoon" (127 : Nat) "GumBubble$Child" "kind" "LGumBubble$Plain;") ∈ gm_G := gm_inG (List.mem_of_getElem? (i := 173) (by decide +kernel)) (by decide +kernel)
theorem gw_174 : (Jvm.Cond.fieldLink "GumBubble$Plain" (13 : Nat) "GumBubble$Child" "v" "I") ∈ gm_G := gm_inG (List.mem_of_getElem? (i := 174) (by decide +kernel)) (by decide +kernel)
theorem gw_175 : (Jvm.Cond.fieldLink "GumBubble$Child" (23 : Nat) "GumBubble$Child" "v" "I") ∈ gm_G := gm_inG (List.mem_of_getElem? (i := 175) (by decide +kernel)) (by decide +kernel)
theorem gw_176 : (Jvm.Cond.fieldLink "GumBubble$Told" (27 : Nat) "GumBubble$Child" "v" "I") ∈ gm_G := gm_inG (List.mem_of_getElem? (i := 176) (by decide +kernel)) (by decide +kernel)
theorem gw_177 : (Jvm.Cond.fieldLink "GumBubble" (126 : Nat) "GumBubble$Child" "v" "I") ∈ gm_G := gm_inG (List.mem_of_getElem? (i := 177) (by decide +kernel)) (by decide +kernel)
theorem gw_178 : (Jvm.Cond.fieldLink "GumBubble$Afternoon" (134 : Nat) "GumBubble$Child" "v" "I") ∈ gm_G := gm_inG (List.mem_of_getElem? (i := 178) (by decide +kernel)) (by decide +kernel)
theorem gw_179 : (Jvm.Cond.fieldLink "GumBubble$Greedy" (11 : Nat) "GumBubble$Child" "pieces" "I") ∈ gm_G := gm_inG (List.mem_of_getElem? (i := 179) (by decide +kernel)) (by decide +kernel)
theorem gw_180 : (Jvm.Cond.fieldLink "GumBubble$Child" (26 : Nat) "GumBubble$Child" "pieces" "I") ∈ gm_G := gm_inG (List.mem_of_getElem? (i := 180) (by decide +kernel)) (by decide +kernel)
theorem gw_181 : (Jvm.Cond.fieldLink "GumBubble$Plain" (18 : Nat) "GumBubble$Child" "pieces" "I") ∈ gm_G := gm_inG (List.mem_of_getElem? (i := 181) (by decide +kernel)) (by decide +kernel)
theorem gw_182 : (Jvm.Cond.fieldLink "GumBubble$Careful" (11 : Nat) "GumBubble$Child" "pieces" "I") ∈ gm_G := gm_inG (List.mem_of_getElem? (i := 182) (by decide +kernel)) (by decide +kernel)
theorem gw_183 : (Jvm.Cond.fieldLink "GumBubble$Quick" (11 : Nat) "GumBubble$Child" "pieces" "I") ∈ gm_G := gm_inG (List.mem_of_getElem? (i := 183) (by decide +kernel)) (by decide +kernel)
theorem gw_184 : (Jvm.Cond.fieldLink "GumBubble$Cold" (17 : Nat) "GumBubble$Child" "pieces" "I") ∈ gm_G := gm_inG (List.mem_of_getElem? (i := 184) (by decide +kernel)) (by decide +kernel)
theorem gw_185 : (Jvm.Cond.fieldLink "GumBubble" (129 : Nat) "GumBubble$Child" "pieces" "I") ∈ gm_G := gm_inG (List.mem_of_getElem? (i := 185) (by decide +kernel)) (by decide +kernel)
theorem gw_186 : (Jvm.Cond.fieldLink "GumBubble$Afternoon" (137 : Nat) "GumBubble$Child" "pieces" "I") ∈ gm_G := gm_inG (List.mem_of_getElem? (i := 186) (by decide +kernel)) (by decide +kernel)
theorem gw_187 : (Jvm.Cond.fieldLink "GumBubble$Child" (29 : Nat) "GumBubble$Child" "sugar" "I") ∈ gm_G := gm_inG (List.mem_of_getElem? (i := 187) (by decide +kernel)) (by decide +kernel)
theorem gw_188 : (Jvm.Cond.fieldLink "GumBubble" (132 : Nat) "GumBubble$Child" "sugar" "I") ∈ gm_G := gm_inG (List.mem_of_getElem? (i := 188) (by decide +kernel)) (by decide +kernel)
theorem gw_189 : (Jvm.Cond.fieldLink "GumBubble$Afternoon" (140 : Nat) "GumBubble$Child" "sugar" "I") ∈ gm_G := gm_inG (List.mem_of_getElem? (i := 189) (by decide +kernel)) (by decide +kernel)
theorem gw_190 : (Jvm.Cond.fieldLink "GumBubble$Child" (32 : Nat) "GumBubble$Child" "jaw" "I") ∈ gm_G := gm_inG (List.mem_of_getElem? (i := 190) (by decide +kernel)) (by decide +kernel)
theorem gw_191 : (Jvm.Cond.fieldLink "GumBubble" (135 : Nat) "GumBubble$Child" "jaw" "I") ∈ gm_G := gm_inG (List.mem_of_getElem? (i := 191) (by decide +kernel)) (by decide +kernel)
theorem gw_192 : (Jvm.Cond.fieldLink "GumBubble$Child" (35 : Nat) "GumBubble$Child" "bubble" "I") ∈ gm_G := gm_inG (List.mem_of_getElem? (i := 192) (by decide +kernel)) (by decide +kernel)
theorem gw_193 : (Jvm.Cond.fieldLink "GumBubble" (138 : Nat) "GumBubble$Child" "bubble" "I") ∈ gm_G := gm_inG (List.mem_of_getElem? (i := 193) (by decide +kernel)) (by decide +kernel)
theorem gw_194 : (Jvm.Cond.fieldLink "GumBubble$Child" (38 : Nat) "GumBubble$Child" "hair" "I") ∈ gm_G := gm_inG (List.mem_of_getElem? (i := 194) (by decide +kernel)) (by decide +kernel)
theorem gw_195 : (Jvm.Cond.fieldLink "GumBubble" (141 : Nat) "GumBubble$Child" "hair" "I") ∈ gm_G := gm_inG (List.mem_of_getElem? (i := 195) (by decide +kernel)) (by decide +kernel)
theorem gw_196 : (Jvm.Cond.fieldLink "GumBubble$Child" (9 : Nat) "GumBubble$Child" "row" "[I") ∈ gm_G := gm_inG (List.mem_of_getElem? (i := 196) (by decide +kernel)) (by decide +kernel)
theorem gw_197 : (Jvm.Cond.fieldLink "GumBubble$Told" (11 : Nat) "GumBubble$Child" "row" "[I") ∈ gm_G := gm_inG (List.mem_of_getElem? (i := 197) (by decide +kernel)) (by decide +kernel)
theorem gw_198 : (Jvm.Cond.fieldLink "GumBubble" (162 : Nat) "GumBubble$Child" "row" "[I") ∈ gm_G := gm_inG (List.mem_of_getElem? (i := 198) (by decide +kernel)) (by decide +kernel)
theorem gw_217 : (Jvm.Cond.superclass "GumBubble$Child" "java/lang/Object") ∈ gm_G := gm_inG (List.mem_of_getElem? (i := 217) (by decide +kernel)) (by decide +kernel)
theorem gw_218 : (Jvm.Cond.fieldLink "GumBubble$Scene" (46 : Nat) "GumBubble$Scene" "minute" "I") ∈ gm_G := gm_inG (List.mem_of_getElem? (i := 218) (by decide +kernel)) (by decide +kernel)
theorem gw_219 : (Jvm.Cond.fieldLink "GumBubble" (144 : Nat) "GumBubble$Scene" "minute" "I") ∈ gm_G := gm_inG (List.mem_of_getElem? (i := 219) (by decide +kernel)) (by decide +kernel)
theorem gw_220 : (Jvm.Cond.fieldLink "GumBubble$Scene" (50 : Nat) "GumBubble$Scene" "size" "I") ∈ gm_G := gm_inG (List.mem_of_getElem? (i := 220) (by decide +kernel)) (by decide +kernel)
theorem gw_221 : (Jvm.Cond.fieldLink "GumBubble" (101 : Nat) "GumBubble$Scene" "size" "I") ∈ gm_G := gm_inG (List.mem_of_getElem? (i := 221) (by decide +kernel)) (by decide +kernel)
theorem gw_222 : (Jvm.Cond.fieldLink "GumBubble$Scene" (11 : Nat) "GumBubble$Scene" "children" "[LGumBubble$Child;") ∈ gm_G := gm_inG (List.mem_of_getElem? (i := 222) (by decide +kernel)) (by decide +kernel)
theorem gw_223 : (Jvm.Cond.fieldLink "GumBubble" (104 : Nat) "GumBubble$Scene" "children" "[LGumBubble$Child;") ∈ gm_G := gm_inG (List.mem_of_getElem? (i := 223) (by decide +kernel)) (by decide +kernel)
theorem gw_224 : (Jvm.Cond.fieldLink "GumBubble$Scene" (17 : Nat) "GumBubble$Scene" "tape" "[I") ∈ gm_G := gm_inG (List.mem_of_getElem? (i := 224) (by decide +kernel)) (by decide +kernel)
theorem gw_225 : (Jvm.Cond.fieldLink "GumBubble" (84 : Nat) "GumBubble$Scene" "tape" "[I") ∈ gm_G := gm_inG (List.mem_of_getElem? (i := 225) (by decide +kernel)) (by decide +kernel)
theorem gw_226 : (Jvm.Cond.fieldLink "GumBubble" (80 : Nat) "GumBubble$Scene" "tapeSize" "I") ∈ gm_G := gm_inG (List.mem_of_getElem? (i := 226) (by decide +kernel)) (by decide +kernel)
theorem gw_227 : (Jvm.Cond.fieldLink "GumBubble$Scene" (66 : Nat) "GumBubble$Scene" "tapeSize" "I") ∈ gm_G := gm_inG (List.mem_of_getElem? (i := 227) (by decide +kernel)) (by decide +kernel)
theorem gw_228 : (Jvm.Cond.fieldLink "GumBubble$Scene" (57 : Nat) "GumBubble$Scene" "afternoons" "I") ∈ gm_G := gm_inG (List.mem_of_getElem? (i := 228) (by decide +kernel)) (by decide +kernel)
theorem gw_229 : (Jvm.Cond.fieldLink "GumBubble" (87 : Nat) "GumBubble$Scene" "afternoons" "I") ∈ gm_G := gm_inG (List.mem_of_getElem? (i := 229) (by decide +kernel)) (by decide +kernel)
theorem gw_230 : (Jvm.Cond.fieldLink "GumBubble$Scene" (24 : Nat) "GumBubble$Scene" "afternoon" "LGumBubble$Afternoon;") ∈ gm_G := gm_inG (List.mem_of_getElem? (i := 230) (by decide +kernel)) (by decide +kernel)
theorem gw_231 : (Jvm.Cond.fieldLink "GumBubble" (97 : Nat) "GumBubble$Scene" "afternoon" "LGumBubble$Afternoon;") ∈ gm_G := gm_inG (List.mem_of_getElem? (i := 231) (by decide +kernel)) (by decide +kernel)
theorem gw_232 : (Jvm.Cond.fieldLink "GumBubble$Scene" (33 : Nat) "GumBubble$Scene" "seen" "LGumBubble$Rows;") ∈ gm_G := gm_inG (List.mem_of_getElem? (i := 232) (by decide +kernel)) (by decide +kernel)
theorem gw_233 : (Jvm.Cond.fieldLink "GumBubble" (233 : Nat) "GumBubble$Scene" "seen" "LGumBubble$Rows;") ∈ gm_G := gm_inG (List.mem_of_getElem? (i := 233) (by decide +kernel)) (by decide +kernel)
theorem gw_234 : (Jvm.Cond.fieldLink "GumBubble$Scene" (37 : Nat) "GumBubble$Scene" "plan" "LGumBubble$Rows;") ∈ gm_G := gm_inG (List.mem_of_getElem? (i := 234) (by decide +kernel)) (by decide +kernel)
theorem gw_235 : (Jvm.Cond.fieldLink "GumBubble" (250 : Nat) "GumBubble$Scene" "plan" "LGumBubble$Rows;") ∈ gm_G := gm_inG (List.mem_of_getElem? (i := 235) (by decide +kernel)) (by decide +kernel)
theorem gw_236 : (Jvm.Cond.fieldLink "GumBubble$Scene" (40 : Nat) "GumBubble$Scene" "book" "LGumBubble$Rows;") ∈ gm_G := gm_inG (List.mem_of_getElem? (i := 236) (by decide +kernel)) (by decide +kernel)
theorem gw_237 : (Jvm.Cond.fieldLink "GumBubble" (256 : Nat) "GumBubble$Scene" "book" "LGumBubble$Rows;") ∈ gm_G := gm_inG (List.mem_of_getElem? (i := 237) (by decide +kernel)) (by decide +kernel)
theorem gw_258 : (Jvm.Cond.superclass "GumBubble$Scene" "java/lang/Object") ∈ gm_G := gm_inG (List.mem_of_getElem? (i := 258) (by decide +kernel)) (by decide +kernel)
theorem gw_259 : (Jvm.Cond.classLink "GumBubble" (67 : Nat) "GumBubble$Child") ∈ gm_G := gm_inG (List.mem_of_getElem? (i := 259) (by decide +kernel)) (by decide +kernel)
theorem gw_260 : (Jvm.Cond.methodLink "GumBubble" (69 : Nat) ({ cls := "GumBubble$Child", name := "<init>", desc := "(ILGumBubble$Plain;)V" } : Jvm.MethodName)) ∈ gm_G := gm_inG (List.mem_of_getElem? (i := 260) (by decide +kernel)) (by decide +kernel)
theorem gw_261 : (Jvm.Cond.fieldLink "GumBubble" (13 : Nat) "GumBubble" "kinds" "[LGumBubble$Plain;") ∈ gm_G := gm_inG (List.mem_of_getElem? (i := 261) (by decide +kernel)) (by decide +kernel)
theorem gw_262 : (Jvm.Cond.fieldLink "GumBubble" (60 : Nat) "GumBubble" "now" "LGumBubble$Scene;") ∈ gm_G := gm_inG (List.mem_of_getElem? (i := 262) (by decide +kernel)) (by decide +kernel)
theorem gw_263 : (Jvm.Cond.fieldLink "GumBubble" (64 : Nat) "GumBubble" "kept" "LGumBubble$Scene;") ∈ gm_G := gm_inG (List.mem_of_getElem? (i := 263) (by decide +kernel)) (by decide +kernel)
theorem gw_264 : (Jvm.Cond.fieldLink "GumBubble" (285 : Nat) "GumBubble" "hasImage" "Z") ∈ gm_G := gm_inG (List.mem_of_getElem? (i := 264) (by decide +kernel)) (by decide +kernel)
theorem gw_265 : (Jvm.Cond.fieldLink "GumBubble" (22 : Nat) "GumBubble" "trace" "LGumBubble$Rows;") ∈ gm_G := gm_inG (List.mem_of_getElem? (i := 265) (by decide +kernel)) (by decide +kernel)
theorem gw_266 : (Jvm.Cond.fieldLink "GumBubble" (72 : Nat) "GumBubble" "trial" "LGumBubble$Child;") ∈ gm_G := gm_inG (List.mem_of_getElem? (i := 266) (by decide +kernel)) (by decide +kernel)
theorem gw_267 : (Jvm.Cond.fieldLink "GumBubble" (26 : Nat) "GumBubble" "behind" "[I") ∈ gm_G := gm_inG (List.mem_of_getElem? (i := 267) (by decide +kernel)) (by decide +kernel)
theorem gw_268 : (Jvm.Cond.fieldLink "GumBubble" (30 : Nat) "GumBubble" "tried" "[I") ∈ gm_G := gm_inG (List.mem_of_getElem? (i := 268) (by decide +kernel)) (by decide +kernel)
theorem gw_269 : (Jvm.Cond.fieldLink "GumBubble" (33 : Nat) "GumBubble" "best" "[I") ∈ gm_G := gm_inG (List.mem_of_getElem? (i := 269) (by decide +kernel)) (by decide +kernel)
theorem gw_270 : (Jvm.Cond.fieldLink "GumBubble" (226 : Nat) "GumBubble" "bestSum" "I") ∈ gm_G := gm_inG (List.mem_of_getElem? (i := 270) (by decide +kernel)) (by decide +kernel)
theorem gw_291 : (Jvm.Cond.superclass "GumBubble" "java/lang/Object") ∈ gm_G := gm_inG (List.mem_of_getElem? (i := 291) (by decide +kernel)) (by decide +kernel)
theorem gw_292 : (Jvm.Cond.methodLink "GumBubbleLaw" (13 : Nat) ({ cls := "GumBubble", name := "feed", desc := "(I)I" } : Jvm.MethodName)) ∈ gm_G := gm_inG (List.mem_of_getElem? (i := 292) (by decide +kernel)) (by decide +kernel)
theorem gw_293 : (Jvm.Cond.instanceMethod ({ cls := "GumBubble", name := "feed", desc := "(I)I" } : Jvm.MethodName)) ∈ gm_G := gm_inG (List.mem_of_getElem? (i := 293) (by decide +kernel)) (by decide +kernel)
theorem gw_294 : (Jvm.Cond.selects "GumBubble" ({ cls := "GumBubble", name := "feed", desc := "(I)I" } : Jvm.MethodName) ({ cls := "GumBubble", name := "feed", desc := "(I)I" } : Jvm.MethodName)) ∈ gm_G := gm_inG (List.mem_of_getElem? (i := 294) (by decide +kernel)) (by decide +kernel)
theorem gw_295 : (Jvm.Cond.code ({ cls := "GumBubble", name := "feed", desc := "(I)I" } : Jvm.MethodName) prog_1_method_2_code (2 : Nat) (Option.some Jvm.ClassFile.FieldType.int)) ∈ gm_G := gm_inG (List.mem_of_getElem? (i := 295) (by decide +kernel)) (by decide +kernel)
theorem gw_296 : (Jvm.Cond.methodLink "GumBubble" (76 : Nat) ({ cls := "GumBubble", name := "isOutside", desc := "(III)Z" } : Jvm.MethodName)) ∈ gm_G := gm_inG (List.mem_of_getElem? (i := 296) (by decide +kernel)) (by decide +kernel)
theorem gw_297 : (Jvm.Cond.static ({ cls := "GumBubble", name := "isOutside", desc := "(III)Z" } : Jvm.MethodName)) ∈ gm_G := gm_inG (List.mem_of_getElem? (i := 297) (by decide +kernel)) (by decide +kernel)
theorem gw_298 : (Jvm.Cond.code ({ cls := "GumBubble", name := "isOutside", desc := "(III)Z" } : Jvm.MethodName) prog_1_method_39_code (3 : Nat) (Option.some Jvm.ClassFile.FieldType.boolean)) ∈ gm_G := gm_inG (List.mem_of_getElem? (i := 298) (by decide +kernel)) (by decide +kernel)
theorem gw_299 : (Jvm.Cond.methodLink "GumBubbleLaw" (18 : Nat) ({ cls := "GumBubble", name := "afternoon", desc := "()I" } : Jvm.MethodName)) ∈ gm_G := gm_inG (List.mem_of_getElem? (i := 299) (by decide +kernel)) (by decide +kernel)
theorem gw_300 : (Jvm.Cond.instanceMethod ({ cls := "GumBubble", name := "afternoon", desc := "()I" } : Jvm.MethodName)) ∈ gm_G := gm_inG (List.mem_of_getElem? (i := 300) (by decide +kernel)) (by decide +kernel)
theorem gw_301 : (Jvm.Cond.selects "GumBubble" ({ cls := "GumBubble", name := "afternoon", desc := "()I" } : Jvm.MethodName) ({ cls := "GumBubble", name := "afternoon", desc := "()I" } : Jvm.MethodName)) ∈ gm_G := gm_inG (List.mem_of_getElem? (i := 301) (by decide +kernel)) (by decide +kernel)
theorem gw_302 : (Jvm.Cond.code ({ cls := "GumBubble", name := "afternoon", desc := "()I" } : Jvm.MethodName) prog_1_method_3_code (3 : Nat) (Option.some Jvm.ClassFile.FieldType.int)) ∈ gm_G := gm_inG (List.mem_of_getElem? (i := 302) (by decide +kernel)) (by decide +kernel)
theorem gw_303 : (Jvm.Cond.classLink "GumBubble" (90 : Nat) "GumBubble$Afternoon") ∈ gm_G := gm_inG (List.mem_of_getElem? (i := 303) (by decide +kernel)) (by decide +kernel)
theorem gw_305 : (Jvm.Cond.methodLink "GumBubble" (93 : Nat) ({ cls := "GumBubble$Afternoon", name := "read", desc := "([II)I" } : Jvm.MethodName)) ∈ gm_G := gm_inG (List.mem_of_getElem? (i := 305) (by decide +kernel)) (by decide +kernel)
theorem gw_306 : (Jvm.Cond.instanceMethod ({ cls := "GumBubble$Afternoon", name := "read", desc := "([II)I" } : Jvm.MethodName)) ∈ gm_G := gm_inG (List.mem_of_getElem? (i := 306) (by decide +kernel)) (by decide +kernel)
theorem gw_307 : (Jvm.Cond.selects "GumBubble$Afternoon" ({ cls := "GumBubble$Afternoon", name := "read", desc := "([II)I" } : Jvm.MethodName) ({ cls := "GumBubble$Afternoon", name := "read", desc := "([II)I" } : Jvm.MethodName)) ∈ gm_G := gm_inG (List.mem_of_getElem? (i := 307) (by decide +kernel)) (by decide +kernel)
theorem gw_308 : (Jvm.Cond.code ({ cls := "GumBubble$Afternoon", name := "read", desc := "([II)I" } : Jvm.MethodName) prog_2_method_2_code (4 : Nat) (Option.some Jvm.ClassFile.FieldType.int)) ∈ gm_G := gm_inG (List.mem_of_getElem? (i := 308) (by decide +kernel)) (by decide +kernel)
theorem gw_309 : (Jvm.Cond.methodLink "GumBubble$Afternoon" (29 : Nat) ({ cls := "java/lang/Math", name := "min", desc := "(II)I" } : Jvm.MethodName)) ∈ gm_G := gm_inG (List.mem_of_getElem? (i := 309) (by decide +kernel)) (by decide +kernel)
theorem gw_310 : (Jvm.Cond.static ({ cls := "java/lang/Math", name := "min", desc := "(II)I" } : Jvm.MethodName)) ∈ gm_G := gm_inG (List.mem_of_getElem? (i := 310) (by decide +kernel)) (by decide +kernel)
theorem gw_311 : (Jvm.Cond.code ({ cls := "java/lang/Math", name := "min", desc := "(II)I" } : Jvm.MethodName) prog_16_method_69_code (2 : Nat) (Option.some Jvm.ClassFile.FieldType.int)) ∈ gm_G := gm_inG (List.mem_of_getElem? (i := 311) (by decide +kernel)) (by decide +kernel)
theorem gw_312 : (Jvm.Cond.methodLink "GumBubble$Afternoon" (38 : Nat) ({ cls := "GumBubble$Afternoon", name := "take", desc := "(C)Z" } : Jvm.MethodName)) ∈ gm_G := gm_inG (List.mem_of_getElem? (i := 312) (by decide +kernel)) (by decide +kernel)
theorem gw_314 : (Jvm.Cond.instanceMethod ({ cls := "GumBubble$Afternoon", name := "take", desc := "(C)Z" } : Jvm.MethodName)) ∈ gm_G := gm_inG (List.mem_of_getElem? (i := 314) (by decide +kernel)) (by decide +kernel)
theorem gw_315 : (Jvm.Cond.code ({ cls := "GumBubble$Afternoon", name := "take", desc := "(C)Z" } : Jvm.MethodName) prog_2_method_11_code (2 : Nat) (Option.some Jvm.ClassFile.FieldType.boolean)) ∈ gm_G := gm_inG (List.mem_of_getElem? (i := 315) (by decide +kernel)) (by decide +kernel)
theorem gw_316 : (Jvm.Cond.methodLink "GumBubble$Afternoon" (59 : Nat) ({ cls := "GumBubble$Afternoon", name := "next", desc := "()I" } : Jvm.MethodName)) ∈ gm_G := gm_inG (List.mem_of_getElem? (i := 316) (by decide +kernel)) (by decide +kernel)
theorem gw_318 : (Jvm.Cond.instanceMethod ({ cls := "GumBubble$Afternoon", name := "next", desc := "()I" } : Jvm.MethodName)) ∈ gm_G := gm_inG (List.mem_of_getElem? (i := 318) (by decide +kernel)) (by decide +kernel)
theorem gw_319 : (Jvm.Cond.code ({ cls := "GumBubble$Afternoon", name := "next", desc := "()I" } : Jvm.MethodName) prog_2_method_12_code (1 : Nat) (Option.some Jvm.ClassFile.FieldType.int)) ∈ gm_G := gm_inG (List.mem_of_getElem? (i := 319) (by decide +kernel)) (by decide +kernel)
theorem gw_320 : (Jvm.Cond.methodLink "GumBubble$Afternoon" (45 : Nat) ({ cls := "GumBubble$Afternoon", name := "readClause", desc := "()Z" } : Jvm.MethodName)) ∈ gm_G := gm_inG (List.mem_of_getElem? (i := 320) (by decide +kernel)) (by decide +kernel)
theorem gw_322 : (Jvm.Cond.instanceMethod ({ cls := "GumBubble$Afternoon", name := "readClause", desc := "()Z" } : Jvm.MethodName)) ∈ gm_G := gm_inG (List.mem_of_getElem? (i := 322) (by decide +kernel)) (by decide +kernel)
theorem gw_323 : (Jvm.Cond.code ({ cls := "GumBubble$Afternoon", name := "readClause", desc := "()Z" } : Jvm.MethodName) prog_2_method_4_code (3 : Nat) (Option.some Jvm.ClassFile.FieldType.boolean)) ∈ gm_G := gm_inG (List.mem_of_getElem? (i := 323) (by decide +kernel)) (by decide +kernel)
theorem gw_325 : (Jvm.Cond.methodLink "GumBubble$Afternoon" (65 : Nat) ({ cls := "GumBubble$Afternoon", name := "readWordAndNumber", desc := "(Ljava/lang/String;)I" } : Jvm.MethodName)) ∈ gm_G := gm_inG (List.mem_of_getElem? (i := 325) (by decide +kernel)) (by decide +kernel)
theorem gw_327 : (Jvm.Cond.instanceMethod ({ cls := "GumBubble$Afternoon", name := "readWordAndNumber", desc := "(Ljava/lang/String;)I" } : Jvm.MethodName)) ∈ gm_G := gm_inG (List.mem_of_getElem? (i := 327) (by decide +kernel)) (by decide +kernel)
theorem gw_328 : (Jvm.Cond.code ({ cls := "GumBubble$Afternoon", name := "readWordAndNumber", desc := "(Ljava/lang/String;)I" } : Jvm.MethodName) prog_2_method_5_code (3 : Nat) (Option.some Jvm.ClassFile.FieldType.int)) ∈ gm_G := gm_inG (List.mem_of_getElem? (i := 328) (by decide +kernel)) (by decide +kernel)
theorem gw_329 : (Jvm.Cond.methodLink "GumBubble$Afternoon" (83 : Nat) ({ cls := "java/lang/String", name := "length", desc := "()I" } : Jvm.MethodName)) ∈ gm_G := gm_inG (List.mem_of_getElem? (i := 329) (by decide +kernel)) (by decide +kernel)
theorem gw_330 : (Jvm.Cond.instanceMethod ({ cls := "java/lang/String", name := "length", desc := "()I" } : Jvm.MethodName)) ∈ gm_G := gm_inG (List.mem_of_getElem? (i := 330) (by decide +kernel)) (by decide +kernel)
theorem gw_331 : (Jvm.Cond.selects "java/lang/String" ({ cls := "java/lang/String", name := "length", desc := "()I" } : Jvm.MethodName) ({ cls := "java/lang/String", name := "length", desc := "()I" } : Jvm.MethodName)) ∈ gm_G := gm_inG (List.mem_of_getElem? (i := 331) (by decide +kernel)) (by decide +kernel)
theorem gw_332 : (Jvm.Cond.code ({ cls := "java/lang/String", name := "length", desc := "()I" } : Jvm.MethodName) prog_17_method_54_code (1 : Nat) (Option.some Jvm.ClassFile.FieldType.int)) ∈ gm_G := gm_inG (List.mem_of_getElem? (i := 332) (by decide +kernel)) (by decide +kernel)
theorem gw_333 : (Jvm.Cond.methodLink "java/lang/String" (335 : Nat) ({ cls := "java/lang/String", name := "coder", desc := "()B" } : Jvm.MethodName)) ∈ gm_G := gm_inG (List.mem_of_getElem? (i := 333) (by decide +kernel)) (by decide +kernel)
theorem gw_334 : (Jvm.Cond.instanceMethod ({ cls := "java/lang/String", name := "coder", desc := "()B" } : Jvm.MethodName)) ∈ gm_G := gm_inG (List.mem_of_getElem? (i := 334) (by decide +kernel)) (by decide +kernel)
theorem gw_335 : (Jvm.Cond.selects "java/lang/String" ({ cls := "java/lang/String", name := "coder", desc := "()B" } : Jvm.MethodName) ({ cls := "java/lang/String", name := "coder", desc := "()B" } : Jvm.MethodName)) ∈ gm_G := gm_inG (List.mem_of_getElem? (i := 335) (by decide +kernel)) (by decide +kernel)
theorem gw_336 : (Jvm.Cond.code ({ cls := "java/lang/String", name := "coder", desc := "()B" } : Jvm.MethodName) prog_17_method_152_code (1 : Nat) (Option.some Jvm.ClassFile.FieldType.byte)) ∈ gm_G := gm_inG (List.mem_of_getElem? (i := 336) (by decide +kernel)) (by decide +kernel)
theorem gw_337 : (Jvm.Cond.fieldLink "java/lang/String" (38 : Nat) "java/lang/String" "COMPACT_STRINGS" "Z") ∈ gm_G := gm_inG (List.mem_of_getElem? (i := 337) (by decide +kernel)) (by decide +kernel)
theorem gw_339 : (Jvm.Cond.methodLink "GumBubble$Afternoon" (88 : Nat) ({ cls := "java/lang/String", name := "charAt", desc := "(I)C" } : Jvm.MethodName)) ∈ gm_G := gm_inG (List.mem_of_getElem? (i := 339) (by decide +kernel)) (by decide +kernel)
theorem gw_340 : (Jvm.Cond.instanceMethod ({ cls := "java/lang/String", name := "charAt", desc := "(I)C" } : Jvm.MethodName)) ∈ gm_G := gm_inG (List.mem_of_getElem? (i := 340) (by decide +kernel)) (by decide +kernel)
theorem gw_341 : (Jvm.Cond.selects "java/lang/String" ({ cls := "java/lang/String", name := "charAt", desc := "(I)C" } : Jvm.MethodName) ({ cls := "java/lang/String", name := "charAt", desc := "(I)C" } : Jvm.MethodName)) ∈ gm_G := gm_inG (List.mem_of_getElem? (i := 341) (by decide +kernel)) (by decide +kernel)
theorem gw_342 : (Jvm.Cond.code ({ cls := "java/lang/String", name := "charAt", desc := "(I)C" } : Jvm.MethodName) prog_17_method_56_code (2 : Nat) (Option.some Jvm.ClassFile.FieldType.char)) ∈ gm_G := gm_inG (List.mem_of_getElem? (i := 342) (by decide +kernel)) (by decide +kernel)
theorem gw_343 : (Jvm.Cond.methodLink "java/lang/String" (492 : Nat) ({ cls := "java/lang/String", name := "isLatin1", desc := "()Z" } : Jvm.MethodName)) ∈ gm_G := gm_inG (List.mem_of_getElem? (i := 343) (by decide +kernel)) (by decide +kernel)
theorem gw_344 : (Jvm.Cond.instanceMethod ({ cls := "java/lang/String", name := "isLatin1", desc := "()Z" } : Jvm.MethodName)) ∈ gm_G := gm_inG (List.mem_of_getElem? (i := 344) (by decide +kernel)) (by decide +kernel)
theorem gw_345 : (Jvm.Cond.selects "java/lang/String" ({ cls := "java/lang/String", name := "isLatin1", desc := "()Z" } : Jvm.MethodName) ({ cls := "java/lang/String", name := "isLatin1", desc := "()Z" } : Jvm.MethodName)) ∈ gm_G := gm_inG (List.mem_of_getElem? (i := 345) (by decide +kernel)) (by decide +kernel)
theorem gw_346 : (Jvm.Cond.code ({ cls := "java/lang/String", name := "isLatin1", desc := "()Z" } : Jvm.MethodName) prog_17_method_154_code (1 : Nat) (Option.some Jvm.ClassFile.FieldType.boolean)) ∈ gm_G := gm_inG (List.mem_of_getElem? (i := 346) (by decide +kernel)) (by decide +kernel)
theorem gw_347 : (Jvm.Cond.methodLink "java/lang/String" (495 : Nat) ({ cls := "java/lang/StringLatin1", name := "charAt", desc := "([BI)C" } : Jvm.MethodName)) ∈ gm_G := gm_inG (List.mem_of_getElem? (i := 347) (by decide +kernel)) (by decide +kernel)
theorem gw_348 : (Jvm.Cond.static ({ cls := "java/lang/StringLatin1", name := "charAt", desc := "([BI)C" } : Jvm.MethodName)) ∈ gm_G := gm_inG (List.mem_of_getElem? (i := 348) (by decide +kernel)) (by decide +kernel)
theorem gw_349 : (Jvm.Cond.code ({ cls := "java/lang/StringLatin1", name := "charAt", desc := "([BI)C" } : Jvm.MethodName) prog_18_method_2_code (2 : Nat) (Option.some Jvm.ClassFile.FieldType.char)) ∈ gm_G := gm_inG (List.mem_of_getElem? (i := 349) (by decide +kernel)) (by decide +kernel)
theorem gw_350 : (Jvm.Cond.methodLink "java/lang/StringLatin1" (9 : Nat) ({ cls := "java/lang/String", name := "checkIndex", desc := "(II)V" } : Jvm.MethodName)) ∈ gm_G := gm_inG (List.mem_of_getElem? (i := 350) (by decide +kernel)) (by decide +kernel)
theorem gw_351 : (Jvm.Cond.static ({ cls := "java/lang/String", name := "checkIndex", desc := "(II)V" } : Jvm.MethodName)) ∈ gm_G := gm_inG (List.mem_of_getElem? (i := 351) (by decide +kernel)) (by decide +kernel)
theorem gw_352 : (Jvm.Cond.code ({ cls := "java/lang/String", name := "checkIndex", desc := "(II)V" } : Jvm.MethodName) prog_17_method_155_code (2 : Nat) (Option.none : Option Jvm.ClassFile.FieldType)) ∈ gm_G := gm_inG (List.mem_of_getElem? (i := 352) (by decide +kernel)) (by decide +kernel)
theorem gw_353 : (Jvm.Cond.fieldLink "java/lang/String" (1053 : Nat) "jdk/internal/util/Preconditions" "SIOOBE_FORMATTER" "Ljava/util/function/BiFunction;") ∈ gm_G := gm_inG (List.mem_of_getElem? (i := 353) (by decide +kernel)) (by decide +kernel)
theorem gw_355 : (Jvm.Cond.methodLink "java/lang/String" (1059 : Nat) ({ cls := "jdk/internal/util/Preconditions", name := "checkIndex", desc := "(IILjava/util/function/BiFunction;)I" } : Jvm.MethodName)) ∈ gm_G := gm_inG (List.mem_of_getElem? (i := 355) (by decide +kernel)) (by decide +kernel)
theorem gw_356 : (Jvm.Cond.static ({ cls := "jdk/internal/util/Preconditions", name := "checkIndex", desc := "(IILjava/util/function/BiFunction;)I" } : Jvm.MethodName)) ∈ gm_G := gm_inG (List.mem_of_getElem? (i := 356) (by decide +kernel)) (by decide +kernel)
theorem gw_357 : (Jvm.Cond.code ({ cls := "jdk/internal/util/Preconditions", name := "checkIndex", desc := "(IILjava/util/function/BiFunction;)I" } : Jvm.MethodName) prog_21_method_11_code (3 : Nat) (Option.some Jvm.ClassFile.FieldType.int)) ∈ gm_G := gm_inG (List.mem_of_getElem? (i := 357) (by decide +kernel)) (by decide +kernel)
theorem gw_358 : (Jvm.Cond.methodLink "java/lang/String" (498 : Nat) ({ cls := "java/lang/StringUTF16", name := "charAt", desc := "([BI)C" } : Jvm.MethodName)) ∈ gm_G := gm_inG (List.mem_of_getElem? (i := 358) (by decide +kernel)) (by decide +kernel)
theorem gw_359 : (Jvm.Cond.static ({ cls := "java/lang/StringUTF16", name := "charAt", desc := "([BI)C" } : Jvm.MethodName)) ∈ gm_G := gm_inG (List.mem_of_getElem? (i := 359) (by decide +kernel)) (by decide +kernel)
theorem gw_360 : (Jvm.Cond.code ({ cls := "java/lang/StringUTF16", name := "charAt", desc := "([BI)C" } : Jvm.MethodName) prog_19_method_83_code (2 : Nat) (Option.some Jvm.ClassFile.FieldType.char)) ∈ gm_G := gm_inG (List.mem_of_getElem? (i := 360) (by decide +kernel)) (by decide +kernel)
theorem gw_361 : (Jvm.Cond.methodLink "java/lang/StringUTF16" (67 : Nat) ({ cls := "java/lang/StringUTF16", name := "checkIndex", desc := "(I[B)V" } : Jvm.MethodName)) ∈ gm_G := gm_inG (List.mem_of_getElem? (i := 361) (by decide +kernel)) (by decide +kernel)
theorem gw_362 : (Jvm.Cond.static ({ cls := "java/lang/StringUTF16", name := "checkIndex", desc := "(I[B)V" } : Jvm.MethodName)) ∈ gm_G := gm_inG (List.mem_of_getElem? (i := 362) (by decide +kernel)) (by decide +kernel)
theorem gw_363 : (Jvm.Cond.code ({ cls := "java/lang/StringUTF16", name := "checkIndex", desc := "(I[B)V" } : Jvm.MethodName) prog_19_method_91_code (2 : Nat) (Option.none : Option Jvm.ClassFile.FieldType)) ∈ gm_G := gm_inG (List.mem_of_getElem? (i := 363) (by decide +kernel)) (by decide +kernel)
theorem gw_364 : (Jvm.Cond.methodLink "java/lang/StringUTF16" (48 : Nat) ({ cls := "java/lang/StringUTF16", name := "length", desc := "([B)I" } : Jvm.MethodName)) ∈ gm_G := gm_inG (List.mem_of_getElem? (i := 364) (by decide +kernel)) (by decide +kernel)
theorem gw_365 : (Jvm.Cond.static ({ cls := "java/lang/StringUTF16", name := "length", desc := "([B)I" } : Jvm.MethodName)) ∈ gm_G := gm_inG (List.mem_of_getElem? (i := 365) (by decide +kernel)) (by decide +kernel)
theorem gw_366 : (Jvm.Cond.code ({ cls := "java/lang/StringUTF16", name := "length", desc := "([B)I" } : Jvm.MethodName) prog_19_method_6_code (1 : Nat) (Option.some Jvm.ClassFile.FieldType.int)) ∈ gm_G := gm_inG (List.mem_of_getElem? (i := 366) (by decide +kernel)) (by decide +kernel)
theorem gw_367 : (Jvm.Cond.methodLink "java/lang/StringUTF16" (414 : Nat) ({ cls := "java/lang/String", name := "checkIndex", desc := "(II)V" } : Jvm.MethodName)) ∈ gm_G := gm_inG (List.mem_of_getElem? (i := 367) (by decide +kernel)) (by decide +kernel)
theorem gw_368 : (Jvm.Cond.methodLink "java/lang/StringUTF16" (71 : Nat) ({ cls := "java/lang/StringUTF16", name := "getChar", desc := "([BI)C" } : Jvm.MethodName)) ∈ gm_G := gm_inG (List.mem_of_getElem? (i := 368) (by decide +kernel)) (by decide +kernel)
theorem gw_369 : (Jvm.Cond.static ({ cls := "java/lang/StringUTF16", name := "getChar", desc := "([BI)C" } : Jvm.MethodName)) ∈ gm_G := gm_inG (List.mem_of_getElem? (i := 369) (by decide +kernel)) (by decide +kernel)
theorem gw_370 : (Jvm.Cond.code ({ cls := "java/lang/StringUTF16", name := "getChar", desc := "([BI)C" } : Jvm.MethodName) prog_19_method_5_code (2 : Nat) (Option.some Jvm.ClassFile.FieldType.char)) ∈ gm_G := gm_inG (List.mem_of_getElem? (i := 370) (by decide +kernel)) (by decide +kernel)
theorem gw_371 : (Jvm.Cond.fieldLink "java/lang/StringUTF16" (44 : Nat) "java/lang/StringUTF16" "$assertionsDisabled" "Z") ∈ gm_G := gm_inG (List.mem_of_getElem? (i := 371) (by decide +kernel)) (by decide +kernel)
theorem gw_373 : (Jvm.Cond.fieldLink "java/lang/StringUTF16" (59 : Nat) "java/lang/StringUTF16" "HI_BYTE_SHIFT" "I") ∈ gm_G := gm_inG (List.mem_of_getElem? (i := 373) (by decide +kernel)) (by decide +kernel)
theorem gw_375 : (Jvm.Cond.fieldLink "java/lang/StringUTF16" (63 : Nat) "java/lang/StringUTF16" "LO_BYTE_SHIFT" "I") ∈ gm_G := gm_inG (List.mem_of_getElem? (i := 375) (by decide +kernel)) (by decide +kernel)
theorem gw_377 : (Jvm.Cond.methodLink "GumBubble$Afternoon" (92 : Nat) ({ cls := "GumBubble$Afternoon", name := "readNumber", desc := "()I" } : Jvm.MethodName)) ∈ gm_G := gm_inG (List.mem_of_getElem? (i := 377) (by decide +kernel)) (by decide +kernel)
theorem gw_379 : (Jvm.Cond.instanceMethod ({ cls := "GumBubble$Afternoon", name := "readNumber", desc := "()I" } : Jvm.MethodName)) ∈ gm_G := gm_inG (List.mem_of_getElem? (i := 379) (by decide +kernel)) (by decide +kernel)
theorem gw_380 : (Jvm.Cond.code ({ cls := "GumBubble$Afternoon", name := "readNumber", desc := "()I" } : Jvm.MethodName) prog_2_method_6_code (3 : Nat) (Option.some Jvm.ClassFile.FieldType.int)) ∈ gm_G := gm_inG (List.mem_of_getElem? (i := 380) (by decide +kernel)) (by decide +kernel)
theorem gw_384 : (Jvm.Cond.methodLink "GumBubble$Afternoon" (75 : Nat) ({ cls := "GumBubble$Afternoon", name := "readEither", desc := "(I)Z" } : Jvm.MethodName)) ∈ gm_G := gm_inG (List.mem_of_getElem? (i := 384) (by decide +kernel)) (by decide +kernel)
theorem gw_386 : (Jvm.Cond.instanceMethod ({ cls := "GumBubble$Afternoon", name := "readEither", desc := "(I)Z" } : Jvm.MethodName)) ∈ gm_G := gm_inG (List.mem_of_getElem? (i := 386) (by decide +kernel)) (by decide +kernel)
theorem gw_387 : (Jvm.Cond.code ({ cls := "GumBubble$Afternoon", name := "readEither", desc := "(I)Z" } : Jvm.MethodName) prog_2_method_7_code (4 : Nat) (Option.some Jvm.ClassFile.FieldType.boolean)) ∈ gm_G := gm_inG (List.mem_of_getElem? (i := 387) (by decide +kernel)) (by decide +kernel)
theorem gw_388 : (Jvm.Cond.methodLink "GumBubble$Afternoon" (95 : Nat) ({ cls := "GumBubble$Afternoon", name := "readFactor", desc := "(I)Z" } : Jvm.MethodName)) ∈ gm_G := gm_inG (List.mem_of_getElem? (i := 388) (by decide +kernel)) (by decide +kernel)
theorem gw_390 : (Jvm.Cond.instanceMethod ({ cls := "GumBubble$Afternoon", name := "readFactor", desc := "(I)Z" } : Jvm.MethodName)) ∈ gm_G := gm_inG (List.mem_of_getElem? (i := 390) (by decide +kernel)) (by decide +kernel)
theorem gw_391 : (Jvm.Cond.code ({ cls := "GumBubble$Afternoon", name := "readFactor", desc := "(I)Z" } : Jvm.MethodName) prog_2_method_8_code (3 : Nat) (Option.some Jvm.ClassFile.FieldType.boolean)) ∈ gm_G := gm_inG (List.mem_of_getElem? (i := 391) (by decide +kernel)) (by decide +kernel)
theorem gw_392 : (Jvm.Cond.methodLink "GumBubble$Afternoon" (101 : Nat) ({ cls := "GumBubble$Afternoon", name := "readTest", desc := "()Z" } : Jvm.MethodName)) ∈ gm_G := gm_inG (List.mem_of_getElem? (i := 392) (by decide +kernel)) (by decide +kernel)
theorem gw_394 : (Jvm.Cond.instanceMethod ({ cls := "GumBubble$Afternoon", name := "readTest", desc := "()Z" } : Jvm.MethodName)) ∈ gm_G := gm_inG (List.mem_of_getElem? (i := 394) (by decide +kernel)) (by decide +kernel)
theorem gw_395 : (Jvm.Cond.code ({ cls := "GumBubble$Afternoon", name := "readTest", desc := "()Z" } : Jvm.MethodName) prog_2_method_9_code (4 : Nat) (Option.some Jvm.ClassFile.FieldType.boolean)) ∈ gm_G := gm_inG (List.mem_of_getElem? (i := 395) (by decide +kernel)) (by decide +kernel)
theorem gw_397 : (Jvm.Cond.methodLink "GumBubble$Afternoon" (106 : Nat) ({ cls := "GumBubble$Afternoon", name := "readOneOf", desc := "(Ljava/lang/String;)I" } : Jvm.MethodName)) ∈ gm_G := gm_inG (List.mem_of_getElem? (i := 397) (by decide +kernel)) (by decide +kernel)
theorem gw_399 : (Jvm.Cond.instanceMethod ({ cls := "GumBubble$Afternoon", name := "readOneOf", desc := "(Ljava/lang/String;)I" } : Jvm.MethodName)) ∈ gm_G := gm_inG (List.mem_of_getElem? (i := 399) (by decide +kernel)) (by decide +kernel)
theorem gw_400 : (Jvm.Cond.code ({ cls := "GumBubble$Afternoon", name := "readOneOf", desc := "(Ljava/lang/String;)I" } : Jvm.MethodName) prog_2_method_10_code (3 : Nat) (Option.some Jvm.ClassFile.FieldType.int)) ∈ gm_G := gm_inG (List.mem_of_getElem? (i := 400) (by decide +kernel)) (by decide +kernel)
theorem gw_401 : (Jvm.Cond.methodLink "GumBubble$Afternoon" (111 : Nat) ({ cls := "java/lang/String", name := "indexOf", desc := "(I)I" } : Jvm.MethodName)) ∈ gm_G := gm_inG (List.mem_of_getElem? (i := 401) (by decide +kernel)) (by decide +kernel)
theorem gw_402 : (Jvm.Cond.instanceMethod ({ cls := "java/lang/String", name := "indexOf", desc := "(I)I" } : Jvm.MethodName)) ∈ gm_G := gm_inG (List.mem_of_getElem? (i := 402) (by decide +kernel)) (by decide +kernel)
theorem gw_403 : (Jvm.Cond.selects "java/lang/String" ({ cls := "java/lang/String", name := "indexOf", desc := "(I)I" } : Jvm.MethodName) ({ cls := "java/lang/String", name := "indexOf", desc := "(I)I" } : Jvm.MethodName)) ∈ gm_G := gm_inG (List.mem_of_getElem? (i := 403) (by decide +kernel)) (by decide +kernel)
theorem gw_404 : (Jvm.Cond.code ({ cls := "java/lang/String", name := "indexOf", desc := "(I)I" } : Jvm.MethodName) prog_17_method_79_code (2 : Nat) (Option.some Jvm.ClassFile.FieldType.int)) ∈ gm_G := gm_inG (List.mem_of_getElem? (i := 404) (by decide +kernel)) (by decide +kernel)
theorem gw_405 : (Jvm.Cond.methodLink "java/lang/String" (633 : Nat) ({ cls := "java/lang/String", name := "indexOf", desc := "(II)I" } : Jvm.MethodName)) ∈ gm_G := gm_inG (List.mem_of_getElem? (i := 405) (by decide +kernel)) (by decide +kernel)
theorem gw_406 : (Jvm.Cond.instanceMethod ({ cls := "java/lang/String", name := "indexOf", desc := "(II)I" } : Jvm.MethodName)) ∈ gm_G := gm_inG (List.mem_of_getElem? (i := 406) (by decide +kernel)) (by decide +kernel)
theorem gw_407 : (Jvm.Cond.selects "java/lang/String" ({ cls := "java/lang/String", name := "indexOf", desc := "(II)I" } : Jvm.MethodName) ({ cls := "java/lang/String", name := "indexOf", desc := "(II)I" } : Jvm.MethodName)) ∈ gm_G := gm_inG (List.mem_of_getElem? (i := 407) (by decide +kernel)) (by decide +kernel)
theorem gw_408 : (Jvm.Cond.code ({ cls := "java/lang/String", name := "indexOf", desc := "(II)I" } : Jvm.MethodName) prog_17_method_80_code (3 : Nat) (Option.some Jvm.ClassFile.FieldType.int)) ∈ gm_G := gm_inG (List.mem_of_getElem? (i := 408) (by decide +kernel)) (by decide +kernel)
theorem gw_409 : (Jvm.Cond.methodLink "java/lang/String" (505 : Nat) ({ cls := "java/lang/String", name := "length", desc := "()I" } : Jvm.MethodName)) ∈ gm_G := gm_inG (List.mem_of_getElem? (i := 409) (by decide +kernel)) (by decide +kernel)
theorem gw_410 : (Jvm.Cond.methodLink "java/lang/String" (637 : Nat) ({ cls := "java/lang/StringLatin1", name := "indexOf", desc := "([BIII)I" } : Jvm.MethodName)) ∈ gm_G := gm_inG (List.mem_of_getElem? (i := 410) (by decide +kernel)) (by decide +kernel)
theorem gw_411 : (Jvm.Cond.static ({ cls := "java/lang/StringLatin1", name := "indexOf", desc := "([BIII)I" } : Jvm.MethodName)) ∈ gm_G := gm_inG (List.mem_of_getElem? (i := 411) (by decide +kernel)) (by decide +kernel)
theorem gw_412 : (Jvm.Cond.code ({ cls := "java/lang/StringLatin1", name := "indexOf", desc := "([BIII)I" } : Jvm.MethodName) prog_18_method_22_code (4 : Nat) (Option.some Jvm.ClassFile.FieldType.int)) ∈ gm_G := gm_inG (List.mem_of_getElem? (i := 412) (by decide +kernel)) (by decide +kernel)
theorem gw_413 : (Jvm.Cond.methodLink "java/lang/StringLatin1" (88 : Nat) ({ cls := "java/lang/StringLatin1", name := "canEncode", desc := "(I)Z" } : Jvm.MethodName)) ∈ gm_G := gm_inG (List.mem_of_getElem? (i := 413) (by decide +kernel)) (by decide +kernel)
theorem gw_414 : (Jvm.Cond.static ({ cls := "java/lang/StringLatin1", name := "canEncode", desc := "(I)Z" } : Jvm.MethodName)) ∈ gm_G := gm_inG (List.mem_of_getElem? (i := 414) (by decide +kernel)) (by decide +kernel)
theorem gw_415 : (Jvm.Cond.code ({ cls := "java/lang/StringLatin1", name := "canEncode", desc := "(I)Z" } : Jvm.MethodName) prog_18_method_4_code (1 : Nat) (Option.some Jvm.ClassFile.FieldType.boolean)) ∈ gm_G := gm_inG (List.mem_of_getElem? (i := 415) (by decide +kernel)) (by decide +kernel)
theorem gw_416 : (Jvm.Cond.methodLink "java/lang/StringLatin1" (92 : Nat) ({ cls := "java/lang/Math", name := "max", desc := "(II)I" } : Jvm.MethodName)) ∈ gm_G := gm_inG (List.mem_of_getElem? (i := 416) (by decide +kernel)) (by decide +kernel)
theorem gw_417 : (Jvm.Cond.methodLink "java/lang/StringLatin1" (38 : Nat) ({ cls := "java/lang/Math", name := "min", desc := "(II)I" } : Jvm.MethodName)) ∈ gm_G := gm_inG (List.mem_of_getElem? (i := 417) (by decide +kernel)) (by decide +kernel)
theorem gw_418 : (Jvm.Cond.methodLink "java/lang/StringLatin1" (95 : Nat) ({ cls := "java/lang/StringLatin1", name := "indexOfChar", desc := "([BIII)I" } : Jvm.MethodName)) ∈ gm_G := gm_inG (List.mem_of_getElem? (i := 418) (by decide +kernel)) (by decide +kernel)
theorem gw_419 : (Jvm.Cond.static ({ cls := "java/lang/StringLatin1", name := "indexOfChar", desc := "([BIII)I" } : Jvm.MethodName)) ∈ gm_G := gm_inG (List.mem_of_getElem? (i := 419) (by decide +kernel)) (by decide +kernel)
theorem gw_420 : (Jvm.Cond.code ({ cls := "java/lang/StringLatin1", name := "indexOfChar", desc := "([BIII)I" } : Jvm.MethodName) prog_18_method_23_code (6 : Nat) (Option.some Jvm.ClassFile.FieldType.int)) ∈ gm_G := gm_inG (List.mem_of_getElem? (i := 420) (by decide +kernel)) (by decide +kernel)
theorem gw_421 : (Jvm.Cond.methodLink "java/lang/String" (640 : Nat) ({ cls := "java/lang/StringUTF16", name := "indexOf", desc := "([BIII)I" } : Jvm.MethodName)) ∈ gm_G := gm_inG (List.mem_of_getElem? (i := 421) (by decide +kernel)) (by decide +kernel)
theorem gw_422 : (Jvm.Cond.static ({ cls := "java/lang/StringUTF16", name := "indexOf", desc := "([BIII)I" } : Jvm.MethodName)) ∈ gm_G := gm_inG (List.mem_of_getElem? (i := 422) (by decide +kernel)) (by decide +kernel)
theorem gw_423 : (Jvm.Cond.code ({ cls := "java/lang/StringUTF16", name := "indexOf", desc := "([BIII)I" } : Jvm.MethodName) prog_19_method_40_code (4 : Nat) (Option.some Jvm.ClassFile.FieldType.int)) ∈ gm_G := gm_inG (List.mem_of_getElem? (i := 423) (by decide +kernel)) (by decide +kernel)
theorem gw_424 : (Jvm.Cond.methodLink "java/lang/StringUTF16" (224 : Nat) ({ cls := "java/lang/Math", name := "max", desc := "(II)I" } : Jvm.MethodName)) ∈ gm_G := gm_inG (List.mem_of_getElem? (i := 424) (by decide +kernel)) (by decide +kernel)
theorem gw_425 : (Jvm.Cond.methodLink "java/lang/StringUTF16" (183 : Nat) ({ cls := "java/lang/Math", name := "min", desc := "(II)I" } : Jvm.MethodName)) ∈ gm_G := gm_inG (List.mem_of_getElem? (i := 425) (by decide +kernel)) (by decide +kernel)
theorem gw_426 : (Jvm.Cond.constant "java/lang/StringUTF16" (227 : Nat) (65536 : Int32)) ∈ gm_G := gm_inG (List.mem_of_getElem? (i := 426) (by decide +kernel)) (by decide +kernel)
theorem gw_427 : (Jvm.Cond.methodLink "java/lang/StringUTF16" (228 : Nat) ({ cls := "java/lang/StringUTF16", name := "indexOfChar", desc := "([BIII)I" } : Jvm.MethodName)) ∈ gm_G := gm_inG (List.mem_of_getElem? (i := 427) (by decide +kernel)) (by decide +kernel)
theorem gw_428 : (Jvm.Cond.static ({ cls := "java/lang/StringUTF16", name := "indexOfChar", desc := "([BIII)I" } : Jvm.MethodName)) ∈ gm_G := gm_inG (List.mem_of_getElem? (i := 428) (by decide +kernel)) (by decide +kernel)
theorem gw_429 : (Jvm.Cond.code ({ cls := "java/lang/StringUTF16", name := "indexOfChar", desc := "([BIII)I" } : Jvm.MethodName) prog_19_method_47_code (4 : Nat) (Option.some Jvm.ClassFile.FieldType.int)) ∈ gm_G := gm_inG (List.mem_of_getElem? (i := 429) (by decide +kernel)) (by decide +kernel)
theorem gw_430 : (Jvm.Cond.methodLink "java/lang/StringUTF16" (96 : Nat) ({ cls := "java/lang/StringUTF16", name := "checkBoundsBeginEnd", desc := "(II[B)V" } : Jvm.MethodName)) ∈ gm_G := gm_inG (List.mem_of_getElem? (i := 430) (by decide +kernel)) (by decide +kernel)
theorem gw_431 : (Jvm.Cond.static ({ cls := "java/lang/StringUTF16", name := "checkBoundsBeginEnd", desc := "(II[B)V" } : Jvm.MethodName)) ∈ gm_G := gm_inG (List.mem_of_getElem? (i := 431) (by decide +kernel)) (by decide +kernel)
theorem gw_432 : (Jvm.Cond.code ({ cls := "java/lang/StringUTF16", name := "checkBoundsBeginEnd", desc := "(II[B)V" } : Jvm.MethodName) prog_19_method_93_code (3 : Nat) (Option.none : Option Jvm.ClassFile.FieldType)) ∈ gm_G := gm_inG (List.mem_of_getElem? (i := 432) (by decide +kernel)) (by decide +kernel)
theorem gw_433 : (Jvm.Cond.methodLink "java/lang/StringUTF16" (241 : Nat) ({ cls := "java/lang/String", name := "checkBoundsBeginEnd", desc := "(III)V" } : Jvm.MethodName)) ∈ gm_G := gm_inG (List.mem_of_getElem? (i := 433) (by decide +kernel)) (by decide +kernel)
theorem gw_434 : (Jvm.Cond.static ({ cls := "java/lang/String", name := "checkBoundsBeginEnd", desc := "(III)V" } : Jvm.MethodName)) ∈ gm_G := gm_inG (List.mem_of_getElem? (i := 434) (by decide +kernel)) (by decide +kernel)
theorem gw_435 : (Jvm.Cond.code ({ cls := "java/lang/String", name := "checkBoundsBeginEnd", desc := "(III)V" } : Jvm.MethodName) prog_17_method_158_code (3 : Nat) (Option.none : Option Jvm.ClassFile.FieldType)) ∈ gm_G := gm_inG (List.mem_of_getElem? (i := 435) (by decide +kernel)) (by decide +kernel)
theorem gw_436 : (Jvm.Cond.methodLink "java/lang/String" (1062 : Nat) ({ cls := "jdk/internal/util/Preconditions", name := "checkFromToIndex", desc := "(IIILjava/util/function/BiFunction;)I" } : Jvm.MethodName)) ∈ gm_G := gm_inG (List.mem_of_getElem? (i := 436) (by decide +kernel)) (by decide +kernel)
theorem gw_437 : (Jvm.Cond.static ({ cls := "jdk/internal/util/Preconditions", name := "checkFromToIndex", desc := "(IIILjava/util/function/BiFunction;)I" } : Jvm.MethodName)) ∈ gm_G := gm_inG (List.mem_of_getElem? (i := 437) (by decide +kernel)) (by decide +kernel)
theorem gw_438 : (Jvm.Cond.code ({ cls := "jdk/internal/util/Preconditions", name := "checkFromToIndex", desc := "(IIILjava/util/function/BiFunction;)I" } : Jvm.MethodName) prog_21_method_12_code (4 : Nat) (Option.some Jvm.ClassFile.FieldType.int)) ∈ gm_G := gm_inG (List.mem_of_getElem? (i := 438) (by decide +kernel)) (by decide +kernel)
theorem gw_439 : (Jvm.Cond.methodLink "java/lang/StringUTF16" (244 : Nat) ({ cls := "java/lang/StringUTF16", name := "indexOfCharUnsafe", desc := "([BIII)I" } : Jvm.MethodName)) ∈ gm_G := gm_inG (List.mem_of_getElem? (i := 439) (by decide +kernel)) (by decide +kernel)
theorem gw_440 : (Jvm.Cond.static ({ cls := "java/lang/StringUTF16", name := "indexOfCharUnsafe", desc := "([BIII)I" } : Jvm.MethodName)) ∈ gm_G := gm_inG (List.mem_of_getElem? (i := 440) (by decide +kernel)) (by decide +kernel)
theorem gw_441 : (Jvm.Cond.code ({ cls := "java/lang/StringUTF16", name := "indexOfCharUnsafe", desc := "([BIII)I" } : Jvm.MethodName) prog_19_method_48_code (5 : Nat) (Option.some Jvm.ClassFile.FieldType.int)) ∈ gm_G := gm_inG (List.mem_of_getElem? (i := 441) (by decide +kernel)) (by decide +kernel)
theorem gw_442 : (Jvm.Cond.methodLink "java/lang/StringUTF16" (232 : Nat) ({ cls := "java/lang/StringUTF16", name := "indexOfSupplementary", desc := "([BIII)I" } : Jvm.MethodName)) ∈ gm_G := gm_inG (List.mem_of_getElem? (i := 442) (by decide +kernel)) (by decide +kernel)
theorem gw_443 : (Jvm.Cond.static ({ cls := "java/lang/StringUTF16", name := "indexOfSupplementary", desc := "([BIII)I" } : Jvm.MethodName)) ∈ gm_G := gm_inG (List.mem_of_getElem? (i := 443) (by decide +kernel)) (by decide +kernel)
theorem gw_444 : (Jvm.Cond.code ({ cls := "java/lang/StringUTF16", name := "indexOfSupplementary", desc := "([BIII)I" } : Jvm.MethodName) prog_19_method_49_code (7 : Nat) (Option.some Jvm.ClassFile.FieldType.int)) ∈ gm_G := gm_inG (List.mem_of_getElem? (i := 444) (by decide +kernel)) (by decide +kernel)
theorem gw_445 : (Jvm.Cond.methodLink "java/lang/StringUTF16" (164 : Nat) ({ cls := "java/lang/Character", name := "isValidCodePoint", desc := "(I)Z" } : Jvm.MethodName)) ∈ gm_G := gm_inG (List.mem_of_getElem? (i := 445) (by decide +kernel)) (by decide +kernel)
theorem gw_446 : (Jvm.Cond.static ({ cls := "java/lang/Character", name := "isValidCodePoint", desc := "(I)Z" } : Jvm.MethodName)) ∈ gm_G := gm_inG (List.mem_of_getElem? (i := 446) (by decide +kernel)) (by decide +kernel)
theorem gw_447 : (Jvm.Cond.code ({ cls := "java/lang/Character", name := "isValidCodePoint", desc := "(I)Z" } : Jvm.MethodName) prog_15_method_11_code (2 : Nat) (Option.some Jvm.ClassFile.FieldType.boolean)) ∈ gm_G := gm_inG (List.mem_of_getElem? (i := 447) (by decide +kernel)) (by decide +kernel)
theorem gw_448 : (Jvm.Cond.methodLink "java/lang/StringUTF16" (157 : Nat) ({ cls := "java/lang/Character", name := "highSurrogate", desc := "(I)C" } : Jvm.MethodName)) ∈ gm_G := gm_inG (List.mem_of_getElem? (i := 448) (by decide +kernel)) (by decide +kernel)
theorem gw_449 : (Jvm.Cond.static ({ cls := "java/lang/Character", name := "highSurrogate", desc := "(I)C" } : Jvm.MethodName)) ∈ gm_G := gm_inG (List.mem_of_getElem? (i := 449) (by decide +kernel)) (by decide +kernel)
theorem gw_450 : (Jvm.Cond.code ({ cls := "java/lang/Character", name := "highSurrogate", desc := "(I)C" } : Jvm.MethodName) prog_15_method_28_code (1 : Nat) (Option.some Jvm.ClassFile.FieldType.char)) ∈ gm_G := gm_inG (List.mem_of_getElem? (i := 450) (by decide +kernel)) (by decide +kernel)
theorem gw_451 : (Jvm.Cond.constant "java/lang/Character" (110 : Nat) (55232 : Int32)) ∈ gm_G := gm_inG (List.mem_of_getElem? (i := 451) (by decide +kernel)) (by decide +kernel)
theorem gw_452 : (Jvm.Cond.methodLink "java/lang/StringUTF16" (161 : Nat) ({ cls := "java/lang/Character", name := "lowSurrogate", desc := "(I)C" } : Jvm.MethodName)) ∈ gm_G := gm_inG (List.mem_of_getElem? (i := 452) (by decide +kernel)) (by decide +kernel)
theorem gw_453 : (Jvm.Cond.static ({ cls := "java/lang/Character", name := "lowSurrogate", desc := "(I)C" } : Jvm.MethodName)) ∈ gm_G := gm_inG (List.mem_of_getElem? (i := 453) (by decide +kernel)) (by decide +kernel)
theorem gw_454 : (Jvm.Cond.code ({ cls := "java/lang/Character", name := "lowSurrogate", desc := "(I)C" } : Jvm.MethodName) prog_15_method_29_code (1 : Nat) (Option.some Jvm.ClassFile.FieldType.char)) ∈ gm_G := gm_inG (List.mem_of_getElem? (i := 454) (by decide +kernel)) (by decide +kernel)
theorem gw_455 : (Jvm.Cond.constant "java/lang/Character" (76 : Nat) (56320 : Int32)) ∈ gm_G := gm_inG (List.mem_of_getElem? (i := 455) (by decide +kernel)) (by decide +kernel)
theorem gw_457 : (Jvm.Cond.methodLink "GumBubble$Afternoon" (98 : Nat) ({ cls := "GumBubble$Afternoon", name := "put", desc := "(I)V" } : Jvm.MethodName)) ∈ gm_G := gm_inG (List.mem_of_getElem? (i := 457) (by decide +kernel)) (by decide +kernel)
theorem gw_459 : (Jvm.Cond.instanceMethod ({ cls := "GumBubble$Afternoon", name := "put", desc := "(I)V" } : Jvm.MethodName)) ∈ gm_G := gm_inG (List.mem_of_getElem? (i := 459) (by decide +kernel)) (by decide +kernel)
theorem gw_460 : (Jvm.Cond.code ({ cls := "GumBubble$Afternoon", name := "put", desc := "(I)V" } : Jvm.MethodName) prog_2_method_13_code (2 : Nat) (Option.none : Option Jvm.ClassFile.FieldType)) ∈ gm_G := gm_inG (List.mem_of_getElem? (i := 460) (by decide +kernel)) (by decide +kernel)
theorem gw_461 : (Jvm.Cond.methodLink "GumBubble$Afternoon" (79 : Nat) ({ cls := "GumBubble$Afternoon", name := "addChange", desc := "(I)V" } : Jvm.MethodName)) ∈ gm_G := gm_inG (List.mem_of_getElem? (i := 461) (by decide +kernel)) (by decide +kernel)
theorem gw_463 : (Jvm.Cond.instanceMethod ({ cls := "GumBubble$Afternoon", name := "addChange", desc := "(I)V" } : Jvm.MethodName)) ∈ gm_G := gm_inG (List.mem_of_getElem? (i := 463) (by decide +kernel)) (by decide +kernel)
theorem gw_464 : (Jvm.Cond.code ({ cls := "GumBubble$Afternoon", name := "addChange", desc := "(I)V" } : Jvm.MethodName) prog_2_method_14_code (2 : Nat) (Option.none : Option Jvm.ClassFile.FieldType)) ∈ gm_G := gm_inG (List.mem_of_getElem? (i := 464) (by decide +kernel)) (by decide +kernel)
theorem gw_465 : (Jvm.Cond.arrayClass Jvm.ClassFile.FieldType.byte) ∈ gm_G := gm_inG (List.mem_of_getElem? (i := 465) (by decide +kernel)) (by decide +kernel)
theorem gw_466 : (Jvm.Cond.methodLink "GumBubbleLaw" (23 : Nat) ({ cls := "GumBubble", name := "child", desc := "(II)I" } : Jvm.MethodName)) ∈ gm_G := gm_inG (List.mem_of_getElem? (i := 466) (by decide +kernel)) (by decide +kernel)
theorem gw_467 : (Jvm.Cond.instanceMethod ({ cls := "GumBubble", name := "child", desc := "(II)I" } : Jvm.MethodName)) ∈ gm_G := gm_inG (List.mem_of_getElem? (i := 467) (by decide +kernel)) (by decide +kernel)
theorem gw_468 : (Jvm.Cond.selects "GumBubble" ({ cls := "GumBubble", name := "child", desc := "(II)I" } : Jvm.MethodName) ({ cls := "GumBubble", name := "child", desc := "(II)I" } : Jvm.MethodName)) ∈ gm_G := gm_inG (List.mem_of_getElem? (i := 468) (by decide +kernel)) (by decide +kernel)
theorem gw_469 : (Jvm.Cond.code ({ cls := "GumBubble", name := "child", desc := "(II)I" } : Jvm.MethodName) prog_1_method_4_code (3 : Nat) (Option.some Jvm.ClassFile.FieldType.int)) ∈ gm_G := gm_inG (List.mem_of_getElem? (i := 469) (by decide +kernel)) (by decide +kernel)
theorem gw_470 : (Jvm.Cond.methodLink "GumBubble" (111 : Nat) ({ cls := "GumBubble$Child", name := "begin", desc := "(LGumBubble$Plain;II)V" } : Jvm.MethodName)) ∈ gm_G := gm_inG (List.mem_of_getElem? (i := 470) (by decide +kernel)) (by decide +kernel)
theorem gw_471 : (Jvm.Cond.instanceMethod ({ cls := "GumBubble$Child", name := "begin", desc := "(LGumBubble$Plain;II)V" } : Jvm.MethodName)) ∈ gm_G := gm_inG (List.mem_of_getElem? (i := 471) (by decide +kernel)) (by decide +kernel)
theorem gw_472 : (Jvm.Cond.selects "GumBubble$Child" ({ cls := "GumBubble$Child", name := "begin", desc := "(LGumBubble$Plain;II)V" } : Jvm.MethodName) ({ cls := "GumBubble$Child", name := "begin", desc := "(LGumBubble$Plain;II)V" } : Jvm.MethodName)) ∈ gm_G := gm_inG (List.mem_of_getElem? (i := 472) (by decide +kernel)) (by decide +kernel)
theorem gw_473 : (Jvm.Cond.code ({ cls := "GumBubble$Child", name := "begin", desc := "(LGumBubble$Plain;II)V" } : Jvm.MethodName) prog_4_method_2_code (5 : Nat) (Option.none : Option Jvm.ClassFile.FieldType)) ∈ gm_G := gm_inG (List.mem_of_getElem? (i := 473) (by decide +kernel)) (by decide +kernel)
theorem gw_474 : (Jvm.Cond.methodLink "GumBubbleLaw" (28 : Nat) ({ cls := "GumBubble", name := "of", desc := "(II)I" } : Jvm.MethodName)) ∈ gm_G := gm_inG (List.mem_of_getElem? (i := 474) (by decide +kernel)) (by decide +kernel)
theorem gw_475 : (Jvm.Cond.instanceMethod ({ cls := "GumBubble", name := "of", desc := "(II)I" } : Jvm.MethodName)) ∈ gm_G := gm_inG (List.mem_of_getElem? (i := 475) (by decide +kernel)) (by decide +kernel)
theorem gw_476 : (Jvm.Cond.selects "GumBubble" ({ cls := "GumBubble", name := "of", desc := "(II)I" } : Jvm.MethodName) ({ cls := "GumBubble", name := "of", desc := "(II)I" } : Jvm.MethodName)) ∈ gm_G := gm_inG (List.mem_of_getElem? (i := 476) (by decide +kernel)) (by decide +kernel)
theorem gw_477 : (Jvm.Cond.code ({ cls := "GumBubble", name := "of", desc := "(II)I" } : Jvm.MethodName) prog_1_method_5_code (4 : Nat) (Option.some Jvm.ClassFile.FieldType.int)) ∈ gm_G := gm_inG (List.mem_of_getElem? (i := 477) (by decide +kernel)) (by decide +kernel)
theorem gw_478 : (Jvm.Cond.methodLink "GumBubble" (115 : Nat) ({ cls := "GumBubble", name := "isNobody", desc := "(I)Z" } : Jvm.MethodName)) ∈ gm_G := gm_inG (List.mem_of_getElem? (i := 478) (by decide +kernel)) (by decide +kernel)
theorem gw_480 : (Jvm.Cond.instanceMethod ({ cls := "GumBubble", name := "isNobody", desc := "(I)Z" } : Jvm.MethodName)) ∈ gm_G := gm_inG (List.mem_of_getElem? (i := 480) (by decide +kernel)) (by decide +kernel)
theorem gw_481 : (Jvm.Cond.code ({ cls := "GumBubble", name := "isNobody", desc := "(I)Z" } : Jvm.MethodName) prog_1_method_40_code (2 : Nat) (Option.some Jvm.ClassFile.FieldType.boolean)) ∈ gm_G := gm_inG (List.mem_of_getElem? (i := 481) (by decide +kernel)) (by decide +kernel)
theorem gw_482 : (Jvm.Cond.methodLink "GumBubble" (147 : Nat) ({ cls := "GumBubble$Afternoon", name := "stretchOf", desc := "(LGumBubble$Child;I)I" } : Jvm.MethodName)) ∈ gm_G := gm_inG (List.mem_of_getElem? (i := 482) (by decide +kernel)) (by decide +kernel)
theorem gw_483 : (Jvm.Cond.instanceMethod ({ cls := "GumBubble$Afternoon", name := "stretchOf", desc := "(LGumBubble$Child;I)I" } : Jvm.MethodName)) ∈ gm_G := gm_inG (List.mem_of_getElem? (i := 483) (by decide +kernel)) (by decide +kernel)
theorem gw_484 : (Jvm.Cond.selects "GumBubble$Afternoon" ({ cls := "GumBubble$Afternoon", name := "stretchOf", desc := "(LGumBubble$Child;I)I" } : Jvm.MethodName) ({ cls := "GumBubble$Afternoon", name := "stretchOf", desc := "(LGumBubble$Child;I)I" } : Jvm.MethodName)) ∈ gm_G := gm_inG (List.mem_of_getElem? (i := 484) (by decide +kernel)) (by decide +kernel)
theorem gw_485 : (Jvm.Cond.code ({ cls := "GumBubble$Afternoon", name := "stretchOf", desc := "(LGumBubble$Child;I)I" } : Jvm.MethodName) prog_2_method_3_code (6 : Nat) (Option.some Jvm.ClassFile.FieldType.int)) ∈ gm_G := gm_inG (List.mem_of_getElem? (i := 485) (by decide +kernel)) (by decide +kernel)
theorem gw_486 : (Jvm.Cond.methodLink "GumBubble$Afternoon" (52 : Nat) ({ cls := "GumBubble$Afternoon", name := "isSo", desc := "(IILGumBubble$Child;I)Z" } : Jvm.MethodName)) ∈ gm_G := gm_inG (List.mem_of_getElem? (i := 486) (by decide +kernel)) (by decide +kernel)
theorem gw_488 : (Jvm.Cond.instanceMethod ({ cls := "GumBubble$Afternoon", name := "isSo", desc := "(IILGumBubble$Child;I)Z" } : Jvm.MethodName)) ∈ gm_G := gm_inG (List.mem_of_getElem? (i := 488) (by decide +kernel)) (by decide +kernel)
theorem gw_489 : (Jvm.Cond.code ({ cls := "GumBubble$Afternoon", name := "isSo", desc := "(IILGumBubble$Child;I)Z" } : Jvm.MethodName) prog_2_method_15_code (8 : Nat) (Option.some Jvm.ClassFile.FieldType.boolean)) ∈ gm_G := gm_inG (List.mem_of_getElem? (i := 489) (by decide +kernel)) (by decide +kernel)
theorem gw_490 : (Jvm.Cond.methodLink "GumBubble$Afternoon" (118 : Nat) ({ cls := "GumBubble$Afternoon", name := "passes", desc := "(ILGumBubble$Child;I)Z" } : Jvm.MethodName)) ∈ gm_G := gm_inG (List.mem_of_getElem? (i := 490) (by decide +kernel)) (by decide +kernel)
theorem gw_491 : (Jvm.Cond.static ({ cls := "GumBubble$Afternoon", name := "passes", desc := "(ILGumBubble$Child;I)Z" } : Jvm.MethodName)) ∈ gm_G := gm_inG (List.mem_of_getElem? (i := 491) (by decide +kernel)) (by decide +kernel)
theorem gw_492 : (Jvm.Cond.code ({ cls := "GumBubble$Afternoon", name := "passes", desc := "(ILGumBubble$Child;I)Z" } : Jvm.MethodName) prog_2_method_16_code (5 : Nat) (Option.some Jvm.ClassFile.FieldType.boolean)) ∈ gm_G := gm_inG (List.mem_of_getElem? (i := 492) (by decide +kernel)) (by decide +kernel)
theorem gw_493 : (Jvm.Cond.methodLink "GumBubble$Afternoon" (56 : Nat) ({ cls := "java/lang/Math", name := "max", desc := "(II)I" } : Jvm.MethodName)) ∈ gm_G := gm_inG (List.mem_of_getElem? (i := 493) (by decide +kernel)) (by decide +kernel)
theorem gw_494 : (Jvm.Cond.methodLink "GumBubble" (151 : Nat) ({ cls := "GumBubble$Plain", name := "sugarChewed", desc := "(LGumBubble$Child;I)I" } : Jvm.MethodName)) ∈ gm_G := gm_inG (List.mem_of_getElem? (i := 494) (by decide +kernel)) (by decide +kernel)
theorem gw_495 : (Jvm.Cond.instanceMethod ({ cls := "GumBubble$Plain", name := "sugarChewed", desc := "(LGumBubble$Child;I)I" } : Jvm.MethodName)) ∈ gm_G := gm_inG (List.mem_of_getElem? (i := 495) (by decide +kernel)) (by decide +kernel)
theorem gw_496 : (Jvm.Cond.selects "GumBubble$Plain" ({ cls := "GumBubble$Plain", name := "sugarChewed", desc := "(LGumBubble$Child;I)I" } : Jvm.MethodName) ({ cls := "GumBubble$Plain", name := "sugarChewed", desc := "(LGumBubble$Child;I)I" } : Jvm.MethodName)) ∈ gm_G := gm_inG (List.mem_of_getElem? (i := 496) (by decide +kernel)) (by decide +kernel)
theorem gw_497 : (Jvm.Cond.sameMethod "GumBubble$Plain" "GumBubble$Plain" "sugarChewed" "(LGumBubble$Child;I)I") ∈ gm_G := gm_inG (List.mem_of_getElem? (i := 497) (by decide +kernel)) (by decide +kernel)
theorem gw_498 : (Jvm.Cond.selects "GumBubble$Careful" ({ cls := "GumBubble$Plain", name := "sugarChewed", desc := "(LGumBubble$Child;I)I" } : Jvm.MethodName) ({ cls := "GumBubble$Careful", name := "sugarChewed", desc := "(LGumBubble$Child;I)I" } : Jvm.MethodName)) ∈ gm_G := gm_inG (List.mem_of_getElem? (i := 498) (by decide +kernel)) (by decide +kernel)
theorem gw_499 : (Jvm.Cond.instanceMethod ({ cls := "GumBubble$Careful", name := "sugarChewed", desc := "(LGumBubble$Child;I)I" } : Jvm.MethodName)) ∈ gm_G := gm_inG (List.mem_of_getElem? (i := 499) (by decide +kernel)) (by decide +kernel)
theorem gw_500 : (Jvm.Cond.code ({ cls := "GumBubble$Careful", name := "sugarChewed", desc := "(LGumBubble$Child;I)I" } : Jvm.MethodName) prog_3_method_2_code (3 : Nat) (Option.some Jvm.ClassFile.FieldType.int)) ∈ gm_G := gm_inG (List.mem_of_getElem? (i := 500) (by decide +kernel)) (by decide +kernel)
theorem gw_501 : (Jvm.Cond.methodLink "GumBubble$Careful" (7 : Nat) ({ cls := "GumBubble$Slow", name := "sugarChewed", desc := "(LGumBubble$Child;I)I" } : Jvm.MethodName)) ∈ gm_G := gm_inG (List.mem_of_getElem? (i := 501) (by decide +kernel)) (by decide +kernel)
theorem gw_502 : (Jvm.Cond.instanceMethod ({ cls := "GumBubble$Slow", name := "sugarChewed", desc := "(LGumBubble$Child;I)I" } : Jvm.MethodName)) ∈ gm_G := gm_inG (List.mem_of_getElem? (i := 502) (by decide +kernel)) (by decide +kernel)
theorem gw_503 : (Jvm.Cond.code ({ cls := "GumBubble$Slow", name := "sugarChewed", desc := "(LGumBubble$Child;I)I" } : Jvm.MethodName) prog_11_method_2_code (3 : Nat) (Option.some Jvm.ClassFile.FieldType.int)) ∈ gm_G := gm_inG (List.mem_of_getElem? (i := 503) (by decide +kernel)) (by decide +kernel)
theorem gw_504 : (Jvm.Cond.methodLink "GumBubble$Slow" (7 : Nat) ({ cls := "GumBubble$Plain", name := "sugarChewed", desc := "(LGumBubble$Child;I)I" } : Jvm.MethodName)) ∈ gm_G := gm_inG (List.mem_of_getElem? (i := 504) (by decide +kernel)) (by decide +kernel)
theorem gw_505 : (Jvm.Cond.selects "GumBubble$Cold" ({ cls := "GumBubble$Plain", name := "sugarChewed", desc := "(LGumBubble$Child;I)I" } : Jvm.MethodName) ({ cls := "GumBubble$Cold", name := "sugarChewed", desc := "(LGumBubble$Child;I)I" } : Jvm.MethodName)) ∈ gm_G := gm_inG (List.mem_of_getElem? (i := 505) (by decide +kernel)) (by decide +kernel)
theorem gw_506 : (Jvm.Cond.instanceMethod ({ cls := "GumBubble$Cold", name := "sugarChewed", desc := "(LGumBubble$Child;I)I" } : Jvm.MethodName)) ∈ gm_G := gm_inG (List.mem_of_getElem? (i := 506) (by decide +kernel)) (by decide +kernel)
theorem gw_507 : (Jvm.Cond.code ({ cls := "GumBubble$Cold", name := "sugarChewed", desc := "(LGumBubble$Child;I)I" } : Jvm.MethodName) prog_5_method_2_code (3 : Nat) (Option.some Jvm.ClassFile.FieldType.int)) ∈ gm_G := gm_inG (List.mem_of_getElem? (i := 507) (by decide +kernel)) (by decide +kernel)
theorem gw_508 : (Jvm.Cond.methodLink "GumBubble$Cold" (7 : Nat) ({ cls := "GumBubble$Plain", name := "sugarChewed", desc := "(LGumBubble$Child;I)I" } : Jvm.MethodName)) ∈ gm_G := gm_inG (List.mem_of_getElem? (i := 508) (by decide +kernel)) (by decide +kernel)
theorem gw_509 : (Jvm.Cond.methodLink "GumBubble$Cold" (11 : Nat) ({ cls := "java/lang/Math", name := "max", desc := "(II)I" } : Jvm.MethodName)) ∈ gm_G := gm_inG (List.mem_of_getElem? (i := 509) (by decide +kernel)) (by decide +kernel)
theorem gw_510 : (Jvm.Cond.selects "GumBubble$Greedy" ({ cls := "GumBubble$Plain", name := "sugarChewed", desc := "(LGumBubble$Child;I)I" } : Jvm.MethodName) ({ cls := "GumBubble$Greedy", name := "sugarChewed", desc := "(LGumBubble$Child;I)I" } : Jvm.MethodName)) ∈ gm_G := gm_inG (List.mem_of_getElem? (i := 510) (by decide +kernel)) (by decide +kernel)
theorem gw_511 : (Jvm.Cond.instanceMethod ({ cls := "GumBubble$Greedy", name := "sugarChewed", desc := "(LGumBubble$Child;I)I" } : Jvm.MethodName)) ∈ gm_G := gm_inG (List.mem_of_getElem? (i := 511) (by decide +kernel)) (by decide +kernel)
theorem gw_512 : (Jvm.Cond.code ({ cls := "GumBubble$Greedy", name := "sugarChewed", desc := "(LGumBubble$Child;I)I" } : Jvm.MethodName) prog_6_method_2_code (3 : Nat) (Option.some Jvm.ClassFile.FieldType.int)) ∈ gm_G := gm_inG (List.mem_of_getElem? (i := 512) (by decide +kernel)) (by decide +kernel)
theorem gw_513 : (Jvm.Cond.methodLink "GumBubble$Greedy" (7 : Nat) ({ cls := "GumBubble$Quick", name := "sugarChewed", desc := "(LGumBubble$Child;I)I" } : Jvm.MethodName)) ∈ gm_G := gm_inG (List.mem_of_getElem? (i := 513) (by decide +kernel)) (by decide +kernel)
theorem gw_514 : (Jvm.Cond.instanceMethod ({ cls := "GumBubble$Quick", name := "sugarChewed", desc := "(LGumBubble$Child;I)I" } : Jvm.MethodName)) ∈ gm_G := gm_inG (List.mem_of_getElem? (i := 514) (by decide +kernel)) (by decide +kernel)
theorem gw_515 : (Jvm.Cond.code ({ cls := "GumBubble$Quick", name := "sugarChewed", desc := "(LGumBubble$Child;I)I" } : Jvm.MethodName) prog_8_method_2_code (3 : Nat) (Option.some Jvm.ClassFile.FieldType.int)) ∈ gm_G := gm_inG (List.mem_of_getElem? (i := 515) (by decide +kernel)) (by decide +kernel)
theorem gw_516 : (Jvm.Cond.methodLink "GumBubble$Quick" (7 : Nat) ({ cls := "GumBubble$Plain", name := "sugarChewed", desc := "(LGumBubble$Child;I)I" } : Jvm.MethodName)) ∈ gm_G := gm_inG (List.mem_of_getElem? (i := 516) (by decide +kernel)) (by decide +kernel)
theorem gw_517 : (Jvm.Cond.selects "GumBubble$Quick" ({ cls := "GumBubble$Plain", name := "sugarChewed", desc := "(LGumBubble$Child;I)I" } : Jvm.MethodName) ({ cls := "GumBubble$Quick", name := "sugarChewed", desc := "(LGumBubble$Child;I)I" } : Jvm.MethodName)) ∈ gm_G := gm_inG (List.mem_of_getElem? (i := 517) (by decide +kernel)) (by decide +kernel)
theorem gw_518 : (Jvm.Cond.selects "GumBubble$Slow" ({ cls := "GumBubble$Plain", name := "sugarChewed", desc := "(LGumBubble$Child;I)I" } : Jvm.MethodName) ({ cls := "GumBubble$Slow", name := "sugarChewed", desc := "(LGumBubble$Child;I)I" } : Jvm.MethodName)) ∈ gm_G := gm_inG (List.mem_of_getElem? (i := 518) (by decide +kernel)) (by decide +kernel)
theorem gw_519 : (Jvm.Cond.selects "GumBubble$Told" ({ cls := "GumBubble$Plain", name := "sugarChewed", desc := "(LGumBubble$Child;I)I" } : Jvm.MethodName) ({ cls := "GumBubble$Told", name := "sugarChewed", desc := "(LGumBubble$Child;I)I" } : Jvm.MethodName)) ∈ gm_G := gm_inG (List.mem_of_getElem? (i := 519) (by decide +kernel)) (by decide +kernel)
theorem gw_520 : (Jvm.Cond.instanceMethod ({ cls := "GumBubble$Told", name := "sugarChewed", desc := "(LGumBubble$Child;I)I" } : Jvm.MethodName)) ∈ gm_G := gm_inG (List.mem_of_getElem? (i := 520) (by decide +kernel)) (by decide +kernel)
theorem gw_521 : (Jvm.Cond.code ({ cls := "GumBubble$Told", name := "sugarChewed", desc := "(LGumBubble$Child;I)I" } : Jvm.MethodName) prog_12_method_2_code (3 : Nat) (Option.some Jvm.ClassFile.FieldType.int)) ∈ gm_G := gm_inG (List.mem_of_getElem? (i := 521) (by decide +kernel)) (by decide +kernel)
theorem gw_522 : (Jvm.Cond.methodLink "GumBubble$Told" (7 : Nat) ({ cls := "GumBubble$Cold", name := "sugarChewed", desc := "(LGumBubble$Child;I)I" } : Jvm.MethodName)) ∈ gm_G := gm_inG (List.mem_of_getElem? (i := 522) (by decide +kernel)) (by decide +kernel)
theorem gw_523 : (Jvm.Cond.code ({ cls := "GumBubble$Plain", name := "sugarChewed", desc := "(LGumBubble$Child;I)I" } : Jvm.MethodName) prog_7_method_2_code (3 : Nat) (Option.some Jvm.ClassFile.FieldType.int)) ∈ gm_G := gm_inG (List.mem_of_getElem? (i := 523) (by decide +kernel)) (by decide +kernel)
theorem gw_524 : (Jvm.Cond.methodLink "GumBubble" (154 : Nat) ({ cls := "GumBubble$Plain", name := "jawTired", desc := "(LGumBubble$Child;)I" } : Jvm.MethodName)) ∈ gm_G := gm_inG (List.mem_of_getElem? (i := 524) (by decide +kernel)) (by decide +kernel)
theorem gw_525 : (Jvm.Cond.instanceMethod ({ cls := "GumBubble$Plain", name := "jawTired", desc := "(LGumBubble$Child;)I" } : Jvm.MethodName)) ∈ gm_G := gm_inG (List.mem_of_getElem? (i := 525) (by decide +kernel)) (by decide +kernel)
theorem gw_526 : (Jvm.Cond.selects "GumBubble$Plain" ({ cls := "GumBubble$Plain", name := "jawTired", desc := "(LGumBubble$Child;)I" } : Jvm.MethodName) ({ cls := "GumBubble$Plain", name := "jawTired", desc := "(LGumBubble$Child;)I" } : Jvm.MethodName)) ∈ gm_G := gm_inG (List.mem_of_getElem? (i := 526) (by decide +kernel)) (by decide +kernel)
theorem gw_527 : (Jvm.Cond.sameMethod "GumBubble$Plain" "GumBubble$Plain" "jawTired" "(LGumBubble$Child;)I") ∈ gm_G := gm_inG (List.mem_of_getElem? (i := 527) (by decide +kernel)) (by decide +kernel)
theorem gw_528 : (Jvm.Cond.selects "GumBubble$Careful" ({ cls := "GumBubble$Plain", name := "jawTired", desc := "(LGumBubble$Child;)I" } : Jvm.MethodName) ({ cls := "GumBubble$Careful", name := "jawTired", desc := "(LGumBubble$Child;)I" } : Jvm.MethodName)) ∈ gm_G := gm_inG (List.mem_of_getElem? (i := 528) (by decide +kernel)) (by decide +kernel)
theorem gw_529 : (Jvm.Cond.instanceMethod ({ cls := "GumBubble$Careful", name := "jawTired", desc := "(LGumBubble$Child;)I" } : Jvm.MethodName)) ∈ gm_G := gm_inG (List.mem_of_getElem? (i := 529) (by decide +kernel)) (by decide +kernel)
theorem gw_530 : (Jvm.Cond.code ({ cls := "GumBubble$Careful", name := "jawTired", desc := "(LGumBubble$Child;)I" } : Jvm.MethodName) prog_3_method_3_code (2 : Nat) (Option.some Jvm.ClassFile.FieldType.int)) ∈ gm_G := gm_inG (List.mem_of_getElem? (i := 530) (by decide +kernel)) (by decide +kernel)
theorem gw_531 : (Jvm.Cond.selects "GumBubble$Cold" ({ cls := "GumBubble$Plain", name := "jawTired", desc := "(LGumBubble$Child;)I" } : Jvm.MethodName) ({ cls := "GumBubble$Cold", name := "jawTired", desc := "(LGumBubble$Child;)I" } : Jvm.MethodName)) ∈ gm_G := gm_inG (List.mem_of_getElem? (i := 531) (by decide +kernel)) (by decide +kernel)
theorem gw_532 : (Jvm.Cond.instanceMethod ({ cls := "GumBubble$Cold", name := "jawTired", desc := "(LGumBubble$Child;)I" } : Jvm.MethodName)) ∈ gm_G := gm_inG (List.mem_of_getElem? (i := 532) (by decide +kernel)) (by decide +kernel)
theorem gw_533 : (Jvm.Cond.code ({ cls := "GumBubble$Cold", name := "jawTired", desc := "(LGumBubble$Child;)I" } : Jvm.MethodName) prog_5_method_3_code (2 : Nat) (Option.some Jvm.ClassFile.FieldType.int)) ∈ gm_G := gm_inG (List.mem_of_getElem? (i := 533) (by decide +kernel)) (by decide +kernel)
theorem gw_534 : (Jvm.Cond.selects "GumBubble$Greedy" ({ cls := "GumBubble$Plain", name := "jawTired", desc := "(LGumBubble$Child;)I" } : Jvm.MethodName) ({ cls := "GumBubble$Quick", name := "jawTired", desc := "(LGumBubble$Child;)I" } : Jvm.MethodName)) ∈ gm_G := gm_inG (List.mem_of_getElem? (i := 534) (by decide +kernel)) (by decide +kernel)
theorem gw_535 : (Jvm.Cond.instanceMethod ({ cls := "GumBubble$Quick", name := "jawTired", desc := "(LGumBubble$Child;)I" } : Jvm.MethodName)) ∈ gm_G := gm_inG (List.mem_of_getElem? (i := 535) (by decide +kernel)) (by decide +kernel)
theorem gw_536 : (Jvm.Cond.code ({ cls := "GumBubble$Quick", name := "jawTired", desc := "(LGumBubble$Child;)I" } : Jvm.MethodName) prog_8_method_3_code (2 : Nat) (Option.some Jvm.ClassFile.FieldType.int)) ∈ gm_G := gm_inG (List.mem_of_getElem? (i := 536) (by decide +kernel)) (by decide +kernel)
theorem gw_537 : (Jvm.Cond.selects "GumBubble$Quick" ({ cls := "GumBubble$Plain", name := "jawTired", desc := "(LGumBubble$Child;)I" } : Jvm.MethodName) ({ cls := "GumBubble$Quick", name := "jawTired", desc := "(LGumBubble$Child;)I" } : Jvm.MethodName)) ∈ gm_G := gm_inG (List.mem_of_getElem? (i := 537) (by decide +kernel)) (by decide +kernel)
theorem gw_538 : (Jvm.Cond.selects "GumBubble$Slow" ({ cls := "GumBubble$Plain", name := "jawTired", desc := "(LGumBubble$Child;)I" } : Jvm.MethodName) ({ cls := "GumBubble$Plain", name := "jawTired", desc := "(LGumBubble$Child;)I" } : Jvm.MethodName)) ∈ gm_G := gm_inG (List.mem_of_getElem? (i := 538) (by decide +kernel)) (by decide +kernel)
theorem gw_539 : (Jvm.Cond.selects "GumBubble$Told" ({ cls := "GumBubble$Plain", name := "jawTired", desc := "(LGumBubble$Child;)I" } : Jvm.MethodName) ({ cls := "GumBubble$Cold", name := "jawTired", desc := "(LGumBubble$Child;)I" } : Jvm.MethodName)) ∈ gm_G := gm_inG (List.mem_of_getElem? (i := 539) (by decide +kernel)) (by decide +kernel)
theorem gw_540 : (Jvm.Cond.code ({ cls := "GumBubble$Plain", name := "jawTired", desc := "(LGumBubble$Child;)I" } : Jvm.MethodName) prog_7_method_3_code (2 : Nat) (Option.some Jvm.ClassFile.FieldType.int)) ∈ gm_G := gm_inG (List.mem_of_getElem? (i := 540) (by decide +kernel)) (by decide +kernel)
theorem gw_541 : (Jvm.Cond.methodLink "GumBubble" (158 : Nat) ({ cls := "GumBubble", name := "holdsNow", desc := "(I)I" } : Jvm.MethodName)) ∈ gm_G := gm_inG (List.mem_of_getElem? (i := 541) (by decide +kernel)) (by decide +kernel)
theorem gw_543 : (Jvm.Cond.instanceMethod ({ cls := "GumBubble", name := "holdsNow", desc := "(I)I" } : Jvm.MethodName)) ∈ gm_G := gm_inG (List.mem_of_getElem? (i := 543) (by decide +kernel)) (by decide +kernel)
theorem gw_544 : (Jvm.Cond.code ({ cls := "GumBubble", name := "holdsNow", desc := "(I)I" } : Jvm.MethodName) prog_1_method_42_code (2 : Nat) (Option.some Jvm.ClassFile.FieldType.int)) ∈ gm_G := gm_inG (List.mem_of_getElem? (i := 544) (by decide +kernel)) (by decide +kernel)
theorem gw_545 : (Jvm.Cond.methodLink "GumBubble" (193 : Nat) ({ cls := "GumBubble$Child", name := "holds", desc := "(LGumBubble$Afternoon;I)I" } : Jvm.MethodName)) ∈ gm_G := gm_inG (List.mem_of_getElem? (i := 545) (by decide +kernel)) (by decide +kernel)
theorem gw_546 : (Jvm.Cond.instanceMethod ({ cls := "GumBubble$Child", name := "holds", desc := "(LGumBubble$Afternoon;I)I" } : Jvm.MethodName)) ∈ gm_G := gm_inG (List.mem_of_getElem? (i := 546) (by decide +kernel)) (by decide +kernel)
theorem gw_547 : (Jvm.Cond.selects "GumBubble$Child" ({ cls := "GumBubble$Child", name := "holds", desc := "(LGumBubble$Afternoon;I)I" } : Jvm.MethodName) ({ cls := "GumBubble$Child", name := "holds", desc := "(LGumBubble$Afternoon;I)I" } : Jvm.MethodName)) ∈ gm_G := gm_inG (List.mem_of_getElem? (i := 547) (by decide +kernel)) (by decide +kernel)
theorem gw_548 : (Jvm.Cond.code ({ cls := "GumBubble$Child", name := "holds", desc := "(LGumBubble$Afternoon;I)I" } : Jvm.MethodName) prog_4_method_4_code (5 : Nat) (Option.some Jvm.ClassFile.FieldType.int)) ∈ gm_G := gm_inG (List.mem_of_getElem? (i := 548) (by decide +kernel)) (by decide +kernel)
theorem gw_549 : (Jvm.Cond.methodLink "GumBubble$Child" (47 : Nat) ({ cls := "GumBubble$Afternoon", name := "stretchOf", desc := "(LGumBubble$Child;I)I" } : Jvm.MethodName)) ∈ gm_G := gm_inG (List.mem_of_getElem? (i := 549) (by decide +kernel)) (by decide +kernel)
theorem gw_550 : (Jvm.Cond.methodLink "GumBubble$Child" (56 : Nat) ({ cls := "java/lang/Math", name := "max", desc := "(II)I" } : Jvm.MethodName)) ∈ gm_G := gm_inG (List.mem_of_getElem? (i := 550) (by decide +kernel)) (by decide +kernel)
theorem gw_551 : (Jvm.Cond.methodLink "GumBubble$Child" (62 : Nat) ({ cls := "GumBubble$Plain", name := "dares", desc := "(I)I" } : Jvm.MethodName)) ∈ gm_G := gm_inG (List.mem_of_getElem? (i := 551) (by decide +kernel)) (by decide +kernel)
theorem gw_552 : (Jvm.Cond.instanceMethod ({ cls := "GumBubble$Plain", name := "dares", desc := "(I)I" } : Jvm.MethodName)) ∈ gm_G := gm_inG (List.mem_of_getElem? (i := 552) (by decide +kernel)) (by decide +kernel)
theorem gw_553 : (Jvm.Cond.selects "GumBubble$Plain" ({ cls := "GumBubble$Plain", name := "dares", desc := "(I)I" } : Jvm.MethodName) ({ cls := "GumBubble$Plain", name := "dares", desc := "(I)I" } : Jvm.MethodName)) ∈ gm_G := gm_inG (List.mem_of_getElem? (i := 553) (by decide +kernel)) (by decide +kernel)
theorem gw_554 : (Jvm.Cond.sameMethod "GumBubble$Plain" "GumBubble$Plain" "dares" "(I)I") ∈ gm_G := gm_inG (List.mem_of_getElem? (i := 554) (by decide +kernel)) (by decide +kernel)
theorem gw_555 : (Jvm.Cond.selects "GumBubble$Careful" ({ cls := "GumBubble$Plain", name := "dares", desc := "(I)I" } : Jvm.MethodName) ({ cls := "GumBubble$Careful", name := "dares", desc := "(I)I" } : Jvm.MethodName)) ∈ gm_G := gm_inG (List.mem_of_getElem? (i := 555) (by decide +kernel)) (by decide +kernel)
theorem gw_556 : (Jvm.Cond.instanceMethod ({ cls := "GumBubble$Careful", name := "dares", desc := "(I)I" } : Jvm.MethodName)) ∈ gm_G := gm_inG (List.mem_of_getElem? (i := 556) (by decide +kernel)) (by decide +kernel)
theorem gw_557 : (Jvm.Cond.code ({ cls := "GumBubble$Careful", name := "dares", desc := "(I)I" } : Jvm.MethodName) prog_3_method_4_code (2 : Nat) (Option.some Jvm.ClassFile.FieldType.int)) ∈ gm_G := gm_inG (List.mem_of_getElem? (i := 557) (by decide +kernel)) (by decide +kernel)
theorem gw_558 : (Jvm.Cond.methodLink "GumBubble$Careful" (17 : Nat) ({ cls := "java/lang/Math", name := "max", desc := "(II)I" } : Jvm.MethodName)) ∈ gm_G := gm_inG (List.mem_of_getElem? (i := 558) (by decide +kernel)) (by decide +kernel)
theorem gw_559 : (Jvm.Cond.selects "GumBubble$Cold" ({ cls := "GumBubble$Plain", name := "dares", desc := "(I)I" } : Jvm.MethodName) ({ cls := "GumBubble$Plain", name := "dares", desc := "(I)I" } : Jvm.MethodName)) ∈ gm_G := gm_inG (List.mem_of_getElem? (i := 559) (by decide +kernel)) (by decide +kernel)
theorem gw_560 : (Jvm.Cond.selects "GumBubble$Greedy" ({ cls := "GumBubble$Plain", name := "dares", desc := "(I)I" } : Jvm.MethodName) ({ cls := "GumBubble$Plain", name := "dares", desc := "(I)I" } : Jvm.MethodName)) ∈ gm_G := gm_inG (List.mem_of_getElem? (i := 560) (by decide +kernel)) (by decide +kernel)
theorem gw_561 : (Jvm.Cond.selects "GumBubble$Quick" ({ cls := "GumBubble$Plain", name := "dares", desc := "(I)I" } : Jvm.MethodName) ({ cls := "GumBubble$Plain", name := "dares", desc := "(I)I" } : Jvm.MethodName)) ∈ gm_G := gm_inG (List.mem_of_getElem? (i := 561) (by decide +kernel)) (by decide +kernel)
theorem gw_562 : (Jvm.Cond.selects "GumBubble$Slow" ({ cls := "GumBubble$Plain", name := "dares", desc := "(I)I" } : Jvm.MethodName) ({ cls := "GumBubble$Plain", name := "dares", desc := "(I)I" } : Jvm.MethodName)) ∈ gm_G := gm_inG (List.mem_of_getElem? (i := 562) (by decide +kernel)) (by decide +kernel)
theorem gw_563 : (Jvm.Cond.selects "GumBubble$Told" ({ cls := "GumBubble$Plain", name := "dares", desc := "(I)I" } : Jvm.MethodName) ({ cls := "GumBubble$Plain", name := "dares", desc := "(I)I" } : Jvm.MethodName)) ∈ gm_G := gm_inG (List.mem_of_getElem? (i := 563) (by decide +kernel)) (by decide +kernel)
theorem gw_564 : (Jvm.Cond.code ({ cls := "GumBubble$Plain", name := "dares", desc := "(I)I" } : Jvm.MethodName) prog_7_method_4_code (2 : Nat) (Option.some Jvm.ClassFile.FieldType.int)) ∈ gm_G := gm_inG (List.mem_of_getElem? (i := 564) (by decide +kernel)) (by decide +kernel)
theorem gw_565 : (Jvm.Cond.methodLink "GumBubbleLaw" (32 : Nat) ({ cls := "GumBubble", name := "row", desc := "(III)I" } : Jvm.MethodName)) ∈ gm_G := gm_inG (List.mem_of_getElem? (i := 565) (by decide +kernel)) (by decide +kernel)
theorem gw_566 : (Jvm.Cond.instanceMethod ({ cls := "GumBubble", name := "row", desc := "(III)I" } : Jvm.MethodName)) ∈ gm_G := gm_inG (List.mem_of_getElem? (i := 566) (by decide +kernel)) (by decide +kernel)
theorem gw_567 : (Jvm.Cond.selects "GumBubble" ({ cls := "GumBubble", name := "row", desc := "(III)I" } : Jvm.MethodName) ({ cls := "GumBubble", name := "row", desc := "(III)I" } : Jvm.MethodName)) ∈ gm_G := gm_inG (List.mem_of_getElem? (i := 567) (by decide +kernel)) (by decide +kernel)
theorem gw_568 : (Jvm.Cond.code ({ cls := "GumBubble", name := "row", desc := "(III)I" } : Jvm.MethodName) prog_1_method_6_code (6 : Nat) (Option.some Jvm.ClassFile.FieldType.int)) ∈ gm_G := gm_inG (List.mem_of_getElem? (i := 568) (by decide +kernel)) (by decide +kernel)
theorem gw_569 : (Jvm.Cond.methodLink "GumBubbleLaw" (37 : Nat) ({ cls := "GumBubble", name := "set", desc := "(III)I" } : Jvm.MethodName)) ∈ gm_G := gm_inG (List.mem_of_getElem? (i := 569) (by decide +kernel)) (by decide +kernel)
theorem gw_570 : (Jvm.Cond.instanceMethod ({ cls := "GumBubble", name := "set", desc := "(III)I" } : Jvm.MethodName)) ∈ gm_G := gm_inG (List.mem_of_getElem? (i := 570) (by decide +kernel)) (by decide +kernel)
theorem gw_571 : (Jvm.Cond.selects "GumBubble" ({ cls := "GumBubble", name := "set", desc := "(III)I" } : Jvm.MethodName) ({ cls := "GumBubble", name := "set", desc := "(III)I" } : Jvm.MethodName)) ∈ gm_G := gm_inG (List.mem_of_getElem? (i := 571) (by decide +kernel)) (by decide +kernel)
theorem gw_572 : (Jvm.Cond.code ({ cls := "GumBubble", name := "set", desc := "(III)I" } : Jvm.MethodName) prog_1_method_7_code (7 : Nat) (Option.some Jvm.ClassFile.FieldType.int)) ∈ gm_G := gm_inG (List.mem_of_getElem? (i := 572) (by decide +kernel)) (by decide +kernel)
theorem gw_573 : (Jvm.Cond.methodLink "GumBubbleLaw" (41 : Nat) ({ cls := "GumBubble", name := "told", desc := "(I)I" } : Jvm.MethodName)) ∈ gm_G := gm_inG (List.mem_of_getElem? (i := 573) (by decide +kernel)) (by decide +kernel)
theorem gw_574 : (Jvm.Cond.instanceMethod ({ cls := "GumBubble", name := "told", desc := "(I)I" } : Jvm.MethodName)) ∈ gm_G := gm_inG (List.mem_of_getElem? (i := 574) (by decide +kernel)) (by decide +kernel)
theorem gw_575 : (Jvm.Cond.selects "GumBubble" ({ cls := "GumBubble", name := "told", desc := "(I)I" } : Jvm.MethodName) ({ cls := "GumBubble", name := "told", desc := "(I)I" } : Jvm.MethodName)) ∈ gm_G := gm_inG (List.mem_of_getElem? (i := 575) (by decide +kernel)) (by decide +kernel)
theorem gw_576 : (Jvm.Cond.code ({ cls := "GumBubble", name := "told", desc := "(I)I" } : Jvm.MethodName) prog_1_method_8_code (2 : Nat) (Option.some Jvm.ClassFile.FieldType.int)) ∈ gm_G := gm_inG (List.mem_of_getElem? (i := 576) (by decide +kernel)) (by decide +kernel)
theorem gw_577 : (Jvm.Cond.methodLink "GumBubble" (168 : Nat) ({ cls := "GumBubble", name := "sumBehind", desc := "(I)I" } : Jvm.MethodName)) ∈ gm_G := gm_inG (List.mem_of_getElem? (i := 577) (by decide +kernel)) (by decide +kernel)
theorem gw_579 : (Jvm.Cond.instanceMethod ({ cls := "GumBubble", name := "sumBehind", desc := "(I)I" } : Jvm.MethodName)) ∈ gm_G := gm_inG (List.mem_of_getElem? (i := 579) (by decide +kernel)) (by decide +kernel)
theorem gw_580 : (Jvm.Cond.code ({ cls := "GumBubble", name := "sumBehind", desc := "(I)I" } : Jvm.MethodName) prog_1_method_45_code (4 : Nat) (Option.some Jvm.ClassFile.FieldType.int)) ∈ gm_G := gm_inG (List.mem_of_getElem? (i := 580) (by decide +kernel)) (by decide +kernel)
theorem gw_581 : (Jvm.Cond.methodLink "GumBubble" (182 : Nat) ({ cls := "GumBubble", name := "holdsBehind", desc := "(II)I" } : Jvm.MethodName)) ∈ gm_G := gm_inG (List.mem_of_getElem? (i := 581) (by decide +kernel)) (by decide +kernel)
theorem gw_583 : (Jvm.Cond.instanceMethod ({ cls := "GumBubble", name := "holdsBehind", desc := "(II)I" } : Jvm.MethodName)) ∈ gm_G := gm_inG (List.mem_of_getElem? (i := 583) (by decide +kernel)) (by decide +kernel)
theorem gw_584 : (Jvm.Cond.code ({ cls := "GumBubble", name := "holdsBehind", desc := "(II)I" } : Jvm.MethodName) prog_1_method_43_code (3 : Nat) (Option.some Jvm.ClassFile.FieldType.int)) ∈ gm_G := gm_inG (List.mem_of_getElem? (i := 584) (by decide +kernel)) (by decide +kernel)
theorem gw_585 : (Jvm.Cond.methodLink "GumBubble" (186 : Nat) ({ cls := "GumBubble$Child", name := "copy", desc := "(LGumBubble$Child;)V" } : Jvm.MethodName)) ∈ gm_G := gm_inG (List.mem_of_getElem? (i := 585) (by decide +kernel)) (by decide +kernel)
theorem gw_586 : (Jvm.Cond.instanceMethod ({ cls := "GumBubble$Child", name := "copy", desc := "(LGumBubble$Child;)V" } : Jvm.MethodName)) ∈ gm_G := gm_inG (List.mem_of_getElem? (i := 586) (by decide +kernel)) (by decide +kernel)
theorem gw_587 : (Jvm.Cond.selects "GumBubble$Child" ({ cls := "GumBubble$Child", name := "copy", desc := "(LGumBubble$Child;)V" } : Jvm.MethodName) ({ cls := "GumBubble$Child", name := "copy", desc := "(LGumBubble$Child;)V" } : Jvm.MethodName)) ∈ gm_G := gm_inG (List.mem_of_getElem? (i := 587) (by decide +kernel)) (by decide +kernel)
theorem gw_588 : (Jvm.Cond.code ({ cls := "GumBubble$Child", name := "copy", desc := "(LGumBubble$Child;)V" } : Jvm.MethodName) prog_4_method_3_code (2 : Nat) (Option.none : Option Jvm.ClassFile.FieldType)) ∈ gm_G := gm_inG (List.mem_of_getElem? (i := 588) (by decide +kernel)) (by decide +kernel)
theorem gw_589 : (Jvm.Cond.methodLink "GumBubble$Child" (41 : Nat) ({ cls := "java/lang/System", name := "arraycopy", desc := "(Ljava/lang/Object;ILjava/lang/Object;II)V" } : Jvm.MethodName)) ∈ gm_G := gm_inG (List.mem_of_getElem? (i := 589) (by decide +kernel)) (by decide +kernel)
theorem gw_590 : (Jvm.Cond.static ({ cls := "java/lang/System", name := "arraycopy", desc := "(Ljava/lang/Object;ILjava/lang/Object;II)V" } : Jvm.MethodName)) ∈ gm_G := gm_inG (List.mem_of_getElem? (i := 590) (by decide +kernel)) (by decide +kernel)
theorem gw_591 : (Jvm.Cond.native ({ cls := "java/lang/System", name := "arraycopy", desc := "(Ljava/lang/Object;ILjava/lang/Object;II)V" } : Jvm.MethodName)) ∈ gm_G := gm_inG (List.mem_of_getElem? (i := 591) (by decide +kernel)) (by decide +kernel)
theorem gw_592 : (Jvm.Cond.methodLink "GumBubble" (289 : Nat) ({ cls := "GumBubble", name := "trialBehind", desc := "(I)I" } : Jvm.MethodName)) ∈ gm_G := gm_inG (List.mem_of_getElem? (i := 592) (by decide +kernel)) (by decide +kernel)
theorem gw_594 : (Jvm.Cond.instanceMethod ({ cls := "GumBubble", name := "trialBehind", desc := "(I)I" } : Jvm.MethodName)) ∈ gm_G := gm_inG (List.mem_of_getElem? (i := 594) (by decide +kernel)) (by decide +kernel)
theorem gw_595 : (Jvm.Cond.code ({ cls := "GumBubble", name := "trialBehind", desc := "(I)I" } : Jvm.MethodName) prog_1_method_44_code (3 : Nat) (Option.some Jvm.ClassFile.FieldType.int)) ∈ gm_G := gm_inG (List.mem_of_getElem? (i := 595) (by decide +kernel)) (by decide +kernel)
theorem gw_596 : (Jvm.Cond.methodLink "GumBubble" (179 : Nat) ({ cls := "GumBubble$Child", name := "passMinute", desc := "(I)V" } : Jvm.MethodName)) ∈ gm_G := gm_inG (List.mem_of_getElem? (i := 596) (by decide +kernel)) (by decide +kernel)
theorem gw_597 : (Jvm.Cond.instanceMethod ({ cls := "GumBubble$Child", name := "passMinute", desc := "(I)V" } : Jvm.MethodName)) ∈ gm_G := gm_inG (List.mem_of_getElem? (i := 597) (by decide +kernel)) (by decide +kernel)
theorem gw_598 : (Jvm.Cond.selects "GumBubble$Child" ({ cls := "GumBubble$Child", name := "passMinute", desc := "(I)V" } : Jvm.MethodName) ({ cls := "GumBubble$Child", name := "passMinute", desc := "(I)V" } : Jvm.MethodName)) ∈ gm_G := gm_inG (List.mem_of_getElem? (i := 598) (by decide +kernel)) (by decide +kernel)
theorem gw_599 : (Jvm.Cond.code ({ cls := "GumBubble$Child", name := "passMinute", desc := "(I)V" } : Jvm.MethodName) prog_4_method_5_code (2 : Nat) (Option.none : Option Jvm.ClassFile.FieldType)) ∈ gm_G := gm_inG (List.mem_of_getElem? (i := 599) (by decide +kernel)) (by decide +kernel)
theorem gw_600 : (Jvm.Cond.methodLink "GumBubble$Child" (68 : Nat) ({ cls := "GumBubble$Plain", name := "sugarChewed", desc := "(LGumBubble$Child;I)I" } : Jvm.MethodName)) ∈ gm_G := gm_inG (List.mem_of_getElem? (i := 600) (by decide +kernel)) (by decide +kernel)
theorem gw_601 : (Jvm.Cond.methodLink "GumBubble$Child" (71 : Nat) ({ cls := "GumBubble$Plain", name := "jawTired", desc := "(LGumBubble$Child;)I" } : Jvm.MethodName)) ∈ gm_G := gm_inG (List.mem_of_getElem? (i := 601) (by decide +kernel)) (by decide +kernel)
theorem gw_602 : (Jvm.Cond.methodLink "GumBubble$Child" (75 : Nat) ({ cls := "java/lang/Math", name := "min", desc := "(II)I" } : Jvm.MethodName)) ∈ gm_G := gm_inG (List.mem_of_getElem? (i := 602) (by decide +kernel)) (by decide +kernel)
theorem gw_603 : (Jvm.Cond.methodLink "GumBubble" (171 : Nat) ({ cls := "GumBubble", name := "bubbleBits", desc := "()I" } : Jvm.MethodName)) ∈ gm_G := gm_inG (List.mem_of_getElem? (i := 603) (by decide +kernel)) (by decide +kernel)
theorem gw_605 : (Jvm.Cond.instanceMethod ({ cls := "GumBubble", name := "bubbleBits", desc := "()I" } : Jvm.MethodName)) ∈ gm_G := gm_inG (List.mem_of_getElem? (i := 605) (by decide +kernel)) (by decide +kernel)
theorem gw_606 : (Jvm.Cond.code ({ cls := "GumBubble", name := "bubbleBits", desc := "()I" } : Jvm.MethodName) prog_1_method_41_code (3 : Nat) (Option.some Jvm.ClassFile.FieldType.int)) ∈ gm_G := gm_inG (List.mem_of_getElem? (i := 606) (by decide +kernel)) (by decide +kernel)
theorem gw_607 : (Jvm.Cond.methodLink "GumBubbleLaw" (45 : Nat) ({ cls := "GumBubble", name := "blow", desc := "(II)I" } : Jvm.MethodName)) ∈ gm_G := gm_inG (List.mem_of_getElem? (i := 607) (by decide +kernel)) (by decide +kernel)
theorem gw_608 : (Jvm.Cond.instanceMethod ({ cls := "GumBubble", name := "blow", desc := "(II)I" } : Jvm.MethodName)) ∈ gm_G := gm_inG (List.mem_of_getElem? (i := 608) (by decide +kernel)) (by decide +kernel)
theorem gw_609 : (Jvm.Cond.selects "GumBubble" ({ cls := "GumBubble", name := "blow", desc := "(II)I" } : Jvm.MethodName) ({ cls := "GumBubble", name := "blow", desc := "(II)I" } : Jvm.MethodName)) ∈ gm_G := gm_inG (List.mem_of_getElem? (i := 609) (by decide +kernel)) (by decide +kernel)
theorem gw_610 : (Jvm.Cond.code ({ cls := "GumBubble", name := "blow", desc := "(II)I" } : Jvm.MethodName) prog_1_method_9_code (5 : Nat) (Option.some Jvm.ClassFile.FieldType.int)) ∈ gm_G := gm_inG (List.mem_of_getElem? (i := 610) (by decide +kernel)) (by decide +kernel)
theorem gw_611 : (Jvm.Cond.methodLink "GumBubble" (175 : Nat) ({ cls := "GumBubble$Child", name := "breathe", desc := "(II)Z" } : Jvm.MethodName)) ∈ gm_G := gm_inG (List.mem_of_getElem? (i := 611) (by decide +kernel)) (by decide +kernel)
theorem gw_612 : (Jvm.Cond.instanceMethod ({ cls := "GumBubble$Child", name := "breathe", desc := "(II)Z" } : Jvm.MethodName)) ∈ gm_G := gm_inG (List.mem_of_getElem? (i := 612) (by decide +kernel)) (by decide +kernel)
theorem gw_613 : (Jvm.Cond.selects "GumBubble$Child" ({ cls := "GumBubble$Child", name := "breathe", desc := "(II)Z" } : Jvm.MethodName) ({ cls := "GumBubble$Child", name := "breathe", desc := "(II)Z" } : Jvm.MethodName)) ∈ gm_G := gm_inG (List.mem_of_getElem? (i := 613) (by decide +kernel)) (by decide +kernel)
theorem gw_614 : (Jvm.Cond.code ({ cls := "GumBubble$Child", name := "breathe", desc := "(II)Z" } : Jvm.MethodName) prog_4_method_6_code (3 : Nat) (Option.some Jvm.ClassFile.FieldType.boolean)) ∈ gm_G := gm_inG (List.mem_of_getElem? (i := 614) (by decide +kernel)) (by decide +kernel)
theorem gw_615 : (Jvm.Cond.methodLink "GumBubbleLaw" (49 : Nat) ({ cls := "GumBubble", name := "pass", desc := "(I)I" } : Jvm.MethodName)) ∈ gm_G := gm_inG (List.mem_of_getElem? (i := 615) (by decide +kernel)) (by decide +kernel)
theorem gw_616 : (Jvm.Cond.instanceMethod ({ cls := "GumBubble", name := "pass", desc := "(I)I" } : Jvm.MethodName)) ∈ gm_G := gm_inG (List.mem_of_getElem? (i := 616) (by decide +kernel)) (by decide +kernel)
theorem gw_617 : (Jvm.Cond.selects "GumBubble" ({ cls := "GumBubble", name := "pass", desc := "(I)I" } : Jvm.MethodName) ({ cls := "GumBubble", name := "pass", desc := "(I)I" } : Jvm.MethodName)) ∈ gm_G := gm_inG (List.mem_of_getElem? (i := 617) (by decide +kernel)) (by decide +kernel)
theorem gw_618 : (Jvm.Cond.code ({ cls := "GumBubble", name := "pass", desc := "(I)I" } : Jvm.MethodName) prog_1_method_10_code (4 : Nat) (Option.some Jvm.ClassFile.FieldType.int)) ∈ gm_G := gm_inG (List.mem_of_getElem? (i := 618) (by decide +kernel)) (by decide +kernel)
theorem gw_619 : (Jvm.Cond.methodLink "GumBubbleLaw" (53 : Nat) ({ cls := "GumBubble", name := "on", desc := "(II)I" } : Jvm.MethodName)) ∈ gm_G := gm_inG (List.mem_of_getElem? (i := 619) (by decide +kernel)) (by decide +kernel)
theorem gw_620 : (Jvm.Cond.instanceMethod ({ cls := "GumBubble", name := "on", desc := "(II)I" } : Jvm.MethodName)) ∈ gm_G := gm_inG (List.mem_of_getElem? (i := 620) (by decide +kernel)) (by decide +kernel)
theorem gw_621 : (Jvm.Cond.selects "GumBubble" ({ cls := "GumBubble", name := "on", desc := "(II)I" } : Jvm.MethodName) ({ cls := "GumBubble", name := "on", desc := "(II)I" } : Jvm.MethodName)) ∈ gm_G := gm_inG (List.mem_of_getElem? (i := 621) (by decide +kernel)) (by decide +kernel)
theorem gw_622 : (Jvm.Cond.code ({ cls := "GumBubble", name := "on", desc := "(II)I" } : Jvm.MethodName) prog_1_method_11_code (5 : Nat) (Option.some Jvm.ClassFile.FieldType.int)) ∈ gm_G := gm_inG (List.mem_of_getElem? (i := 622) (by decide +kernel)) (by decide +kernel)
theorem gw_623 : (Jvm.Cond.methodLink "GumBubbleLaw" (57 : Nat) ({ cls := "GumBubble", name := "when", desc := "(II)I" } : Jvm.MethodName)) ∈ gm_G := gm_inG (List.mem_of_getElem? (i := 623) (by decide +kernel)) (by decide +kernel)
theorem gw_624 : (Jvm.Cond.instanceMethod ({ cls := "GumBubble", name := "when", desc := "(II)I" } : Jvm.MethodName)) ∈ gm_G := gm_inG (List.mem_of_getElem? (i := 624) (by decide +kernel)) (by decide +kernel)
theorem gw_625 : (Jvm.Cond.selects "GumBubble" ({ cls := "GumBubble", name := "when", desc := "(II)I" } : Jvm.MethodName) ({ cls := "GumBubble", name := "when", desc := "(II)I" } : Jvm.MethodName)) ∈ gm_G := gm_inG (List.mem_of_getElem? (i := 625) (by decide +kernel)) (by decide +kernel)
theorem gw_626 : (Jvm.Cond.code ({ cls := "GumBubble", name := "when", desc := "(II)I" } : Jvm.MethodName) prog_1_method_12_code (3 : Nat) (Option.some Jvm.ClassFile.FieldType.int)) ∈ gm_G := gm_inG (List.mem_of_getElem? (i := 626) (by decide +kernel)) (by decide +kernel)
theorem gw_627 : (Jvm.Cond.methodLink "GumBubble" (190 : Nat) ({ cls := "GumBubble", name := "trialWhen", desc := "(I)I" } : Jvm.MethodName)) ∈ gm_G := gm_inG (List.mem_of_getElem? (i := 627) (by decide +kernel)) (by decide +kernel)
theorem gw_629 : (Jvm.Cond.instanceMethod ({ cls := "GumBubble", name := "trialWhen", desc := "(I)I" } : Jvm.MethodName)) ∈ gm_G := gm_inG (List.mem_of_getElem? (i := 629) (by decide +kernel)) (by decide +kernel)
theorem gw_630 : (Jvm.Cond.code ({ cls := "GumBubble", name := "trialWhen", desc := "(I)I" } : Jvm.MethodName) prog_1_method_46_code (6 : Nat) (Option.some Jvm.ClassFile.FieldType.int)) ∈ gm_G := gm_inG (List.mem_of_getElem? (i := 630) (by decide +kernel)) (by decide +kernel)
theorem gw_631 : (Jvm.Cond.methodLink "GumBubbleLaw" (61 : Nat) ({ cls := "GumBubble", name := "soon", desc := "(II)I" } : Jvm.MethodName)) ∈ gm_G := gm_inG (List.mem_of_getElem? (i := 631) (by decide +kernel)) (by decide +kernel)
theorem gw_632 : (Jvm.Cond.instanceMethod ({ cls := "GumBubble", name := "soon", desc := "(II)I" } : Jvm.MethodName)) ∈ gm_G := gm_inG (List.mem_of_getElem? (i := 632) (by decide +kernel)) (by decide +kernel)
theorem gw_633 : (Jvm.Cond.selects "GumBubble" ({ cls := "GumBubble", name := "soon", desc := "(II)I" } : Jvm.MethodName) ({ cls := "GumBubble", name := "soon", desc := "(II)I" } : Jvm.MethodName)) ∈ gm_G := gm_inG (List.mem_of_getElem? (i := 633) (by decide +kernel)) (by decide +kernel)
theorem gw_634 : (Jvm.Cond.code ({ cls := "GumBubble", name := "soon", desc := "(II)I" } : Jvm.MethodName) prog_1_method_13_code (4 : Nat) (Option.some Jvm.ClassFile.FieldType.int)) ∈ gm_G := gm_inG (List.mem_of_getElem? (i := 634) (by decide +kernel)) (by decide +kernel)
theorem gw_635 : (Jvm.Cond.methodLink "GumBubbleLaw" (65 : Nat) ({ cls := "GumBubble", name := "pieces", desc := "(II)I" } : Jvm.MethodName)) ∈ gm_G := gm_inG (List.mem_of_getElem? (i := 635) (by decide +kernel)) (by decide +kernel)
theorem gw_636 : (Jvm.Cond.instanceMethod ({ cls := "GumBubble", name := "pieces", desc := "(II)I" } : Jvm.MethodName)) ∈ gm_G := gm_inG (List.mem_of_getElem? (i := 636) (by decide +kernel)) (by decide +kernel)
theorem gw_637 : (Jvm.Cond.selects "GumBubble" ({ cls := "GumBubble", name := "pieces", desc := "(II)I" } : Jvm.MethodName) ({ cls := "GumBubble", name := "pieces", desc := "(II)I" } : Jvm.MethodName)) ∈ gm_G := gm_inG (List.mem_of_getElem? (i := 637) (by decide +kernel)) (by decide +kernel)
theorem gw_638 : (Jvm.Cond.code ({ cls := "GumBubble", name := "pieces", desc := "(II)I" } : Jvm.MethodName) prog_1_method_14_code (7 : Nat) (Option.some Jvm.ClassFile.FieldType.int)) ∈ gm_G := gm_inG (List.mem_of_getElem? (i := 638) (by decide +kernel)) (by decide +kernel)
theorem gw_639 : (Jvm.Cond.methodLink "GumBubbleLaw" (69 : Nat) ({ cls := "GumBubble", name := "breaths", desc := "(II)I" } : Jvm.MethodName)) ∈ gm_G := gm_inG (List.mem_of_getElem? (i := 639) (by decide +kernel)) (by decide +kernel)
theorem gw_640 : (Jvm.Cond.instanceMethod ({ cls := "GumBubble", name := "breaths", desc := "(II)I" } : Jvm.MethodName)) ∈ gm_G := gm_inG (List.mem_of_getElem? (i := 640) (by decide +kernel)) (by decide +kernel)
theorem gw_641 : (Jvm.Cond.selects "GumBubble" ({ cls := "GumBubble", name := "breaths", desc := "(II)I" } : Jvm.MethodName) ({ cls := "GumBubble", name := "breaths", desc := "(II)I" } : Jvm.MethodName)) ∈ gm_G := gm_inG (List.mem_of_getElem? (i := 641) (by decide +kernel)) (by decide +kernel)
theorem gw_642 : (Jvm.Cond.code ({ cls := "GumBubble", name := "breaths", desc := "(II)I" } : Jvm.MethodName) prog_1_method_15_code (3 : Nat) (Option.some Jvm.ClassFile.FieldType.int)) ∈ gm_G := gm_inG (List.mem_of_getElem? (i := 642) (by decide +kernel)) (by decide +kernel)
theorem gw_643 : (Jvm.Cond.methodLink "GumBubble" (197 : Nat) ({ cls := "java/lang/Math", name := "max", desc := "(II)I" } : Jvm.MethodName)) ∈ gm_G := gm_inG (List.mem_of_getElem? (i := 643) (by decide +kernel)) (by decide +kernel)
theorem gw_644 : (Jvm.Cond.methodLink "GumBubbleLaw" (73 : Nat) ({ cls := "GumBubble", name := "slack", desc := "(I)I" } : Jvm.MethodName)) ∈ gm_G := gm_inG (List.mem_of_getElem? (i := 644) (by decide +kernel)) (by decide +kernel)
theorem gw_645 : (Jvm.Cond.instanceMethod ({ cls := "GumBubble", name := "slack", desc := "(I)I" } : Jvm.MethodName)) ∈ gm_G := gm_inG (List.mem_of_getElem? (i := 645) (by decide +kernel)) (by decide +kernel)
theorem gw_646 : (Jvm.Cond.selects "GumBubble" ({ cls := "GumBubble", name := "slack", desc := "(I)I" } : Jvm.MethodName) ({ cls := "GumBubble", name := "slack", desc := "(I)I" } : Jvm.MethodName)) ∈ gm_G := gm_inG (List.mem_of_getElem? (i := 646) (by decide +kernel)) (by decide +kernel)
theorem gw_647 : (Jvm.Cond.code ({ cls := "GumBubble", name := "slack", desc := "(I)I" } : Jvm.MethodName) prog_1_method_16_code (2 : Nat) (Option.some Jvm.ClassFile.FieldType.int)) ∈ gm_G := gm_inG (List.mem_of_getElem? (i := 647) (by decide +kernel)) (by decide +kernel)
theorem gw_648 : (Jvm.Cond.methodLink "GumBubbleLaw" (77 : Nat) ({ cls := "GumBubble", name := "likely", desc := "(III)J" } : Jvm.MethodName)) ∈ gm_G := gm_inG (List.mem_of_getElem? (i := 648) (by decide +kernel)) (by decide +kernel)
theorem gw_649 : (Jvm.Cond.instanceMethod ({ cls := "GumBubble", name := "likely", desc := "(III)J" } : Jvm.MethodName)) ∈ gm_G := gm_inG (List.mem_of_getElem? (i := 649) (by decide +kernel)) (by decide +kernel)
theorem gw_650 : (Jvm.Cond.selects "GumBubble" ({ cls := "GumBubble", name := "likely", desc := "(III)J" } : Jvm.MethodName) ({ cls := "GumBubble", name := "likely", desc := "(III)J" } : Jvm.MethodName)) ∈ gm_G := gm_inG (List.mem_of_getElem? (i := 650) (by decide +kernel)) (by decide +kernel)
theorem gw_651 : (Jvm.Cond.code ({ cls := "GumBubble", name := "likely", desc := "(III)J" } : Jvm.MethodName) prog_1_method_17_code (4 : Nat) (Option.some Jvm.ClassFile.FieldType.long)) ∈ gm_G := gm_inG (List.mem_of_getElem? (i := 651) (by decide +kernel)) (by decide +kernel)
theorem gw_652 : (Jvm.Cond.constantLong "GumBubble" (202 : Nat) (-9223372036854775808 : Int64)) ∈ gm_G := gm_inG (List.mem_of_getElem? (i := 652) (by decide +kernel)) (by decide +kernel)
theorem gw_653 : (Jvm.Cond.methodLink "GumBubble" (204 : Nat) ({ cls := "GumBubble", name := "thinsBearing", desc := "(II)I" } : Jvm.MethodName)) ∈ gm_G := gm_inG (List.mem_of_getElem? (i := 653) (by decide +kernel)) (by decide +kernel)
theorem gw_654 : (Jvm.Cond.static ({ cls := "GumBubble", name := "thinsBearing", desc := "(II)I" } : Jvm.MethodName)) ∈ gm_G := gm_inG (List.mem_of_getElem? (i := 654) (by decide +kernel)) (by decide +kernel)
theorem gw_655 : (Jvm.Cond.code ({ cls := "GumBubble", name := "thinsBearing", desc := "(II)I" } : Jvm.MethodName) prog_1_method_48_code (2 : Nat) (Option.some Jvm.ClassFile.FieldType.int)) ∈ gm_G := gm_inG (List.mem_of_getElem? (i := 655) (by decide +kernel)) (by decide +kernel)
theorem gw_656 : (Jvm.Cond.methodLink "GumBubble" (217 : Nat) ({ cls := "GumBubble", name := "thinsBelow", desc := "(II)I" } : Jvm.MethodName)) ∈ gm_G := gm_inG (List.mem_of_getElem? (i := 656) (by decide +kernel)) (by decide +kernel)
theorem gw_657 : (Jvm.Cond.static ({ cls := "GumBubble", name := "thinsBelow", desc := "(II)I" } : Jvm.MethodName)) ∈ gm_G := gm_inG (List.mem_of_getElem? (i := 657) (by decide +kernel)) (by decide +kernel)
theorem gw_658 : (Jvm.Cond.code ({ cls := "GumBubble", name := "thinsBelow", desc := "(II)I" } : Jvm.MethodName) prog_1_method_49_code (4 : Nat) (Option.some Jvm.ClassFile.FieldType.int)) ∈ gm_G := gm_inG (List.mem_of_getElem? (i := 658) (by decide +kernel)) (by decide +kernel)
theorem gw_659 : (Jvm.Cond.methodLink "GumBubble" (211 : Nat) ({ cls := "GumBubble", name := "thinned", desc := "(II)I" } : Jvm.MethodName)) ∈ gm_G := gm_inG (List.mem_of_getElem? (i := 659) (by decide +kernel)) (by decide +kernel)
theorem gw_660 : (Jvm.Cond.static ({ cls := "GumBubble", name := "thinned", desc := "(II)I" } : Jvm.MethodName)) ∈ gm_G := gm_inG (List.mem_of_getElem? (i := 660) (by decide +kernel)) (by decide +kernel)
theorem gw_661 : (Jvm.Cond.code ({ cls := "GumBubble", name := "thinned", desc := "(II)I" } : Jvm.MethodName) prog_1_method_47_code (2 : Nat) (Option.some Jvm.ClassFile.FieldType.int)) ∈ gm_G := gm_inG (List.mem_of_getElem? (i := 661) (by decide +kernel)) (by decide +kernel)
theorem gw_662 : (Jvm.Cond.methodLink "GumBubble" (207 : Nat) ({ cls := "GumBubble", name := "fraction", desc := "(III)J" } : Jvm.MethodName)) ∈ gm_G := gm_inG (List.mem_of_getElem? (i := 662) (by decide +kernel)) (by decide +kernel)
theorem gw_663 : (Jvm.Cond.static ({ cls := "GumBubble", name := "fraction", desc := "(III)J" } : Jvm.MethodName)) ∈ gm_G := gm_inG (List.mem_of_getElem? (i := 663) (by decide +kernel)) (by decide +kernel)
theorem gw_664 : (Jvm.Cond.code ({ cls := "GumBubble", name := "fraction", desc := "(III)J" } : Jvm.MethodName) prog_1_method_50_code (4 : Nat) (Option.some Jvm.ClassFile.FieldType.long)) ∈ gm_G := gm_inG (List.mem_of_getElem? (i := 664) (by decide +kernel)) (by decide +kernel)
theorem gw_665 : (Jvm.Cond.methodLink "GumBubble" (292 : Nat) ({ cls := "GumBubble", name := "greatestCommon", desc := "(II)I" } : Jvm.MethodName)) ∈ gm_G := gm_inG (List.mem_of_getElem? (i := 665) (by decide +kernel)) (by decide +kernel)
theorem gw_666 : (Jvm.Cond.static ({ cls := "GumBubble", name := "greatestCommon", desc := "(II)I" } : Jvm.MethodName)) ∈ gm_G := gm_inG (List.mem_of_getElem? (i := 666) (by decide +kernel)) (by decide +kernel)
theorem gw_667 : (Jvm.Cond.code ({ cls := "GumBubble", name := "greatestCommon", desc := "(II)I" } : Jvm.MethodName) prog_1_method_51_code (4 : Nat) (Option.some Jvm.ClassFile.FieldType.int)) ∈ gm_G := gm_inG (List.mem_of_getElem? (i := 667) (by decide +kernel)) (by decide +kernel)
theorem gw_668 : (Jvm.Cond.methodLink "GumBubbleLaw" (82 : Nat) ({ cls := "GumBubble", name := "dare", desc := "(I)I" } : Jvm.MethodName)) ∈ gm_G := gm_inG (List.mem_of_getElem? (i := 668) (by decide +kernel)) (by decide +kernel)
theorem gw_669 : (Jvm.Cond.instanceMethod ({ cls := "GumBubble", name := "dare", desc := "(I)I" } : Jvm.MethodName)) ∈ gm_G := gm_inG (List.mem_of_getElem? (i := 669) (by decide +kernel)) (by decide +kernel)
theorem gw_670 : (Jvm.Cond.selects "GumBubble" ({ cls := "GumBubble", name := "dare", desc := "(I)I" } : Jvm.MethodName) ({ cls := "GumBubble", name := "dare", desc := "(I)I" } : Jvm.MethodName)) ∈ gm_G := gm_inG (List.mem_of_getElem? (i := 670) (by decide +kernel)) (by decide +kernel)
theorem gw_671 : (Jvm.Cond.code ({ cls := "GumBubble", name := "dare", desc := "(I)I" } : Jvm.MethodName) prog_1_method_18_code (8 : Nat) (Option.some Jvm.ClassFile.FieldType.int)) ∈ gm_G := gm_inG (List.mem_of_getElem? (i := 671) (by decide +kernel)) (by decide +kernel)
theorem gw_672 : (Jvm.Cond.methodLink "GumBubble" (214 : Nat) ({ cls := "java/lang/Math", name := "min", desc := "(II)I" } : Jvm.MethodName)) ∈ gm_G := gm_inG (List.mem_of_getElem? (i := 672) (by decide +kernel)) (by decide +kernel)
theorem gw_673 : (Jvm.Cond.methodLink "GumBubbleLaw" (86 : Nat) ({ cls := "GumBubble", name := "first", desc := "()I" } : Jvm.MethodName)) ∈ gm_G := gm_inG (List.mem_of_getElem? (i := 673) (by decide +kernel)) (by decide +kernel)
theorem gw_674 : (Jvm.Cond.instanceMethod ({ cls := "GumBubble", name := "first", desc := "()I" } : Jvm.MethodName)) ∈ gm_G := gm_inG (List.mem_of_getElem? (i := 674) (by decide +kernel)) (by decide +kernel)
theorem gw_675 : (Jvm.Cond.selects "GumBubble" ({ cls := "GumBubble", name := "first", desc := "()I" } : Jvm.MethodName) ({ cls := "GumBubble", name := "first", desc := "()I" } : Jvm.MethodName)) ∈ gm_G := gm_inG (List.mem_of_getElem? (i := 675) (by decide +kernel)) (by decide +kernel)
theorem gw_676 : (Jvm.Cond.code ({ cls := "GumBubble", name := "first", desc := "()I" } : Jvm.MethodName) prog_1_method_19_code (5 : Nat) (Option.some Jvm.ClassFile.FieldType.int)) ∈ gm_G := gm_inG (List.mem_of_getElem? (i := 676) (by decide +kernel)) (by decide +kernel)
theorem gw_677 : (Jvm.Cond.methodLink "GumBubbleLaw" (90 : Nat) ({ cls := "GumBubble", name := "beats", desc := "(III)J" } : Jvm.MethodName)) ∈ gm_G := gm_inG (List.mem_of_getElem? (i := 677) (by decide +kernel)) (by decide +kernel)
theorem gw_678 : (Jvm.Cond.instanceMethod ({ cls := "GumBubble", name := "beats", desc := "(III)J" } : Jvm.MethodName)) ∈ gm_G := gm_inG (List.mem_of_getElem? (i := 678) (by decide +kernel)) (by decide +kernel)
theorem gw_679 : (Jvm.Cond.selects "GumBubble" ({ cls := "GumBubble", name := "beats", desc := "(III)J" } : Jvm.MethodName) ({ cls := "GumBubble", name := "beats", desc := "(III)J" } : Jvm.MethodName)) ∈ gm_G := gm_inG (List.mem_of_getElem? (i := 679) (by decide +kernel)) (by decide +kernel)
theorem gw_680 : (Jvm.Cond.code ({ cls := "GumBubble", name := "beats", desc := "(III)J" } : Jvm.MethodName) prog_1_method_20_code (8 : Nat) (Option.some Jvm.ClassFile.FieldType.long)) ∈ gm_G := gm_inG (List.mem_of_getElem? (i := 680) (by decide +kernel)) (by decide +kernel)
theorem gw_681 : (Jvm.Cond.methodLink "GumBubbleLaw" (94 : Nat) ({ cls := "GumBubble", name := "swap", desc := "()I" } : Jvm.MethodName)) ∈ gm_G := gm_inG (List.mem_of_getElem? (i := 681) (by decide +kernel)) (by decide +kernel)
theorem gw_682 : (Jvm.Cond.instanceMethod ({ cls := "GumBubble", name := "swap", desc := "()I" } : Jvm.MethodName)) ∈ gm_G := gm_inG (List.mem_of_getElem? (i := 682) (by decide +kernel)) (by decide +kernel)
theorem gw_683 : (Jvm.Cond.selects "GumBubble" ({ cls := "GumBubble", name := "swap", desc := "()I" } : Jvm.MethodName) ({ cls := "GumBubble", name := "swap", desc := "()I" } : Jvm.MethodName)) ∈ gm_G := gm_inG (List.mem_of_getElem? (i := 683) (by decide +kernel)) (by decide +kernel)
theorem gw_684 : (Jvm.Cond.code ({ cls := "GumBubble", name := "swap", desc := "()I" } : Jvm.MethodName) prog_1_method_21_code (6 : Nat) (Option.some Jvm.ClassFile.FieldType.int)) ∈ gm_G := gm_inG (List.mem_of_getElem? (i := 684) (by decide +kernel)) (by decide +kernel)
theorem gw_685 : (Jvm.Cond.methodLink "GumBubble" (220 : Nat) ({ cls := "GumBubble", name := "holdsWithGumOf", desc := "(II)I" } : Jvm.MethodName)) ∈ gm_G := gm_inG (List.mem_of_getElem? (i := 685) (by decide +kernel)) (by decide +kernel)
theorem gw_687 : (Jvm.Cond.instanceMethod ({ cls := "GumBubble", name := "holdsWithGumOf", desc := "(II)I" } : Jvm.MethodName)) ∈ gm_G := gm_inG (List.mem_of_getElem? (i := 687) (by decide +kernel)) (by decide +kernel)
theorem gw_688 : (Jvm.Cond.code ({ cls := "GumBubble", name := "holdsWithGumOf", desc := "(II)I" } : Jvm.MethodName) prog_1_method_52_code (3 : Nat) (Option.some Jvm.ClassFile.FieldType.int)) ∈ gm_G := gm_inG (List.mem_of_getElem? (i := 688) (by decide +kernel)) (by decide +kernel)
theorem gw_689 : (Jvm.Cond.methodLink "GumBubbleLaw" (98 : Nat) ({ cls := "GumBubble", name := "order", desc := "(I)I" } : Jvm.MethodName)) ∈ gm_G := gm_inG (List.mem_of_getElem? (i := 689) (by decide +kernel)) (by decide +kernel)
theorem gw_690 : (Jvm.Cond.instanceMethod ({ cls := "GumBubble", name := "order", desc := "(I)I" } : Jvm.MethodName)) ∈ gm_G := gm_inG (List.mem_of_getElem? (i := 690) (by decide +kernel)) (by decide +kernel)
theorem gw_691 : (Jvm.Cond.selects "GumBubble" ({ cls := "GumBubble", name := "order", desc := "(I)I" } : Jvm.MethodName) ({ cls := "GumBubble", name := "order", desc := "(I)I" } : Jvm.MethodName)) ∈ gm_G := gm_inG (List.mem_of_getElem? (i := 691) (by decide +kernel)) (by decide +kernel)
theorem gw_692 : (Jvm.Cond.code ({ cls := "GumBubble", name := "order", desc := "(I)I" } : Jvm.MethodName) prog_1_method_22_code (3 : Nat) (Option.some Jvm.ClassFile.FieldType.int)) ∈ gm_G := gm_inG (List.mem_of_getElem? (i := 692) (by decide +kernel)) (by decide +kernel)
theorem gw_693 : (Jvm.Cond.methodLink "GumBubble" (223 : Nat) ({ cls := "GumBubble", name := "fillBehind", desc := "(I)V" } : Jvm.MethodName)) ∈ gm_G := gm_inG (List.mem_of_getElem? (i := 693) (by decide +kernel)) (by decide +kernel)
theorem gw_695 : (Jvm.Cond.instanceMethod ({ cls := "GumBubble", name := "fillBehind", desc := "(I)V" } : Jvm.MethodName)) ∈ gm_G := gm_inG (List.mem_of_getElem? (i := 695) (by decide +kernel)) (by decide +kernel)
theorem gw_696 : (Jvm.Cond.code ({ cls := "GumBubble", name := "fillBehind", desc := "(I)V" } : Jvm.MethodName) prog_1_method_53_code (3 : Nat) (Option.none : Option Jvm.ClassFile.FieldType)) ∈ gm_G := gm_inG (List.mem_of_getElem? (i := 696) (by decide +kernel)) (by decide +kernel)
theorem gw_697 : (Jvm.Cond.methodLink "GumBubble" (229 : Nat) ({ cls := "GumBubble", name := "arrange", desc := "(III)V" } : Jvm.MethodName)) ∈ gm_G := gm_inG (List.mem_of_getElem? (i := 697) (by decide +kernel)) (by decide +kernel)
theorem gw_699 : (Jvm.Cond.instanceMethod ({ cls := "GumBubble", name := "arrange", desc := "(III)V" } : Jvm.MethodName)) ∈ gm_G := gm_inG (List.mem_of_getElem? (i := 699) (by decide +kernel)) (by decide +kernel)
theorem gw_700 : (Jvm.Cond.code ({ cls := "GumBubble", name := "arrange", desc := "(III)V" } : Jvm.MethodName) prog_1_method_54_code (5 : Nat) (Option.none : Option Jvm.ClassFile.FieldType)) ∈ gm_G := gm_inG (List.mem_of_getElem? (i := 700) (by decide +kernel)) (by decide +kernel)
theorem gw_701 : (Jvm.Cond.methodLink "GumBubble" (295 : Nat) ({ cls := "java/lang/System", name := "arraycopy", desc := "(Ljava/lang/Object;ILjava/lang/Object;II)V" } : Jvm.MethodName)) ∈ gm_G := gm_inG (List.mem_of_getElem? (i := 701) (by decide +kernel)) (by decide +kernel)
theorem gw_702 : (Jvm.Cond.methodLink "GumBubbleLaw" (102 : Nat) ({ cls := "GumBubble", name := "clean", desc := "(II)I" } : Jvm.MethodName)) ∈ gm_G := gm_inG (List.mem_of_getElem? (i := 702) (by decide +kernel)) (by decide +kernel)
theorem gw_703 : (Jvm.Cond.instanceMethod ({ cls := "GumBubble", name := "clean", desc := "(II)I" } : Jvm.MethodName)) ∈ gm_G := gm_inG (List.mem_of_getElem? (i := 703) (by decide +kernel)) (by decide +kernel)
theorem gw_704 : (Jvm.Cond.selects "GumBubble" ({ cls := "GumBubble", name := "clean", desc := "(II)I" } : Jvm.MethodName) ({ cls := "GumBubble", name := "clean", desc := "(II)I" } : Jvm.MethodName)) ∈ gm_G := gm_inG (List.mem_of_getElem? (i := 704) (by decide +kernel)) (by decide +kernel)
theorem gw_705 : (Jvm.Cond.code ({ cls := "GumBubble", name := "clean", desc := "(II)I" } : Jvm.MethodName) prog_1_method_23_code (3 : Nat) (Option.some Jvm.ClassFile.FieldType.int)) ∈ gm_G := gm_inG (List.mem_of_getElem? (i := 705) (by decide +kernel)) (by decide +kernel)
theorem gw_706 : (Jvm.Cond.methodLink "GumBubbleLaw" (106 : Nat) ({ cls := "GumBubble", name := "see", desc := "(III)I" } : Jvm.MethodName)) ∈ gm_G := gm_inG (List.mem_of_getElem? (i := 706) (by decide +kernel)) (by decide +kernel)
theorem gw_707 : (Jvm.Cond.instanceMethod ({ cls := "GumBubble", name := "see", desc := "(III)I" } : Jvm.MethodName)) ∈ gm_G := gm_inG (List.mem_of_getElem? (i := 707) (by decide +kernel)) (by decide +kernel)
theorem gw_708 : (Jvm.Cond.selects "GumBubble" ({ cls := "GumBubble", name := "see", desc := "(III)I" } : Jvm.MethodName) ({ cls := "GumBubble", name := "see", desc := "(III)I" } : Jvm.MethodName)) ∈ gm_G := gm_inG (List.mem_of_getElem? (i := 708) (by decide +kernel)) (by decide +kernel)
theorem gw_709 : (Jvm.Cond.code ({ cls := "GumBubble", name := "see", desc := "(III)I" } : Jvm.MethodName) prog_1_method_24_code (4 : Nat) (Option.some Jvm.ClassFile.FieldType.int)) ∈ gm_G := gm_inG (List.mem_of_getElem? (i := 709) (by decide +kernel)) (by decide +kernel)
theorem gw_710 : (Jvm.Cond.methodLink "GumBubble" (236 : Nat) ({ cls := "GumBubble$Rows", name := "clear", desc := "()I" } : Jvm.MethodName)) ∈ gm_G := gm_inG (List.mem_of_getElem? (i := 710) (by decide +kernel)) (by decide +kernel)
theorem gw_711 : (Jvm.Cond.instanceMethod ({ cls := "GumBubble$Rows", name := "clear", desc := "()I" } : Jvm.MethodName)) ∈ gm_G := gm_inG (List.mem_of_getElem? (i := 711) (by decide +kernel)) (by decide +kernel)
theorem gw_712 : (Jvm.Cond.selects "GumBubble$Rows" ({ cls := "GumBubble$Rows", name := "clear", desc := "()I" } : Jvm.MethodName) ({ cls := "GumBubble$Rows", name := "clear", desc := "()I" } : Jvm.MethodName)) ∈ gm_G := gm_inG (List.mem_of_getElem? (i := 712) (by decide +kernel)) (by decide +kernel)
theorem gw_713 : (Jvm.Cond.code ({ cls := "GumBubble$Rows", name := "clear", desc := "()I" } : Jvm.MethodName) prog_9_method_6_code (1 : Nat) (Option.some Jvm.ClassFile.FieldType.int)) ∈ gm_G := gm_inG (List.mem_of_getElem? (i := 713) (by decide +kernel)) (by decide +kernel)
theorem gw_714 : (Jvm.Cond.methodLink "GumBubble" (239 : Nat) ({ cls := "GumBubble$Rows", name := "isFull", desc := "()Z" } : Jvm.MethodName)) ∈ gm_G := gm_inG (List.mem_of_getElem? (i := 714) (by decide +kernel)) (by decide +kernel)
theorem gw_715 : (Jvm.Cond.instanceMethod ({ cls := "GumBubble$Rows", name := "isFull", desc := "()Z" } : Jvm.MethodName)) ∈ gm_G := gm_inG (List.mem_of_getElem? (i := 715) (by decide +kernel)) (by decide +kernel)
theorem gw_716 : (Jvm.Cond.selects "GumBubble$Rows" ({ cls := "GumBubble$Rows", name := "isFull", desc := "()Z" } : Jvm.MethodName) ({ cls := "GumBubble$Rows", name := "isFull", desc := "()Z" } : Jvm.MethodName)) ∈ gm_G := gm_inG (List.mem_of_getElem? (i := 716) (by decide +kernel)) (by decide +kernel)
theorem gw_717 : (Jvm.Cond.code ({ cls := "GumBubble$Rows", name := "isFull", desc := "()Z" } : Jvm.MethodName) prog_9_method_2_code (1 : Nat) (Option.some Jvm.ClassFile.FieldType.boolean)) ∈ gm_G := gm_inG (List.mem_of_getElem? (i := 717) (by decide +kernel)) (by decide +kernel)
theorem gw_718 : (Jvm.Cond.methodLink "GumBubble" (243 : Nat) ({ cls := "GumBubble$Rows", name := "add", desc := "(III)I" } : Jvm.MethodName)) ∈ gm_G := gm_inG (List.mem_of_getElem? (i := 718) (by decide +kernel)) (by decide +kernel)
theorem gw_719 : (Jvm.Cond.instanceMethod ({ cls := "GumBubble$Rows", name := "add", desc := "(III)I" } : Jvm.MethodName)) ∈ gm_G := gm_inG (List.mem_of_getElem? (i := 719) (by decide +kernel)) (by decide +kernel)
theorem gw_720 : (Jvm.Cond.selects "GumBubble$Rows" ({ cls := "GumBubble$Rows", name := "add", desc := "(III)I" } : Jvm.MethodName) ({ cls := "GumBubble$Rows", name := "add", desc := "(III)I" } : Jvm.MethodName)) ∈ gm_G := gm_inG (List.mem_of_getElem? (i := 720) (by decide +kernel)) (by decide +kernel)
theorem gw_721 : (Jvm.Cond.code ({ cls := "GumBubble$Rows", name := "add", desc := "(III)I" } : Jvm.MethodName) prog_9_method_5_code (4 : Nat) (Option.some Jvm.ClassFile.FieldType.int)) ∈ gm_G := gm_inG (List.mem_of_getElem? (i := 721) (by decide +kernel)) (by decide +kernel)
theorem gw_722 : (Jvm.Cond.methodLink "GumBubbleLaw" (110 : Nat) ({ cls := "GumBubble", name := "who", desc := "(II)I" } : Jvm.MethodName)) ∈ gm_G := gm_inG (List.mem_of_getElem? (i := 722) (by decide +kernel)) (by decide +kernel)
theorem gw_723 : (Jvm.Cond.instanceMethod ({ cls := "GumBubble", name := "who", desc := "(II)I" } : Jvm.MethodName)) ∈ gm_G := gm_inG (List.mem_of_getElem? (i := 723) (by decide +kernel)) (by decide +kernel)
theorem gw_724 : (Jvm.Cond.selects "GumBubble" ({ cls := "GumBubble", name := "who", desc := "(II)I" } : Jvm.MethodName) ({ cls := "GumBubble", name := "who", desc := "(II)I" } : Jvm.MethodName)) ∈ gm_G := gm_inG (List.mem_of_getElem? (i := 724) (by decide +kernel)) (by decide +kernel)
theorem gw_725 : (Jvm.Cond.code ({ cls := "GumBubble", name := "who", desc := "(II)I" } : Jvm.MethodName) prog_1_method_25_code (5 : Nat) (Option.some Jvm.ClassFile.FieldType.int)) ∈ gm_G := gm_inG (List.mem_of_getElem? (i := 725) (by decide +kernel)) (by decide +kernel)
theorem gw_726 : (Jvm.Cond.methodLink "GumBubbleLaw" (114 : Nat) ({ cls := "GumBubble", name := "firm", desc := "(II)I" } : Jvm.MethodName)) ∈ gm_G := gm_inG (List.mem_of_getElem? (i := 726) (by decide +kernel)) (by decide +kernel)
theorem gw_727 : (Jvm.Cond.instanceMethod ({ cls := "GumBubble", name := "firm", desc := "(II)I" } : Jvm.MethodName)) ∈ gm_G := gm_inG (List.mem_of_getElem? (i := 727) (by decide +kernel)) (by decide +kernel)
theorem gw_728 : (Jvm.Cond.selects "GumBubble" ({ cls := "GumBubble", name := "firm", desc := "(II)I" } : Jvm.MethodName) ({ cls := "GumBubble", name := "firm", desc := "(II)I" } : Jvm.MethodName)) ∈ gm_G := gm_inG (List.mem_of_getElem? (i := 728) (by decide +kernel)) (by decide +kernel)
theorem gw_729 : (Jvm.Cond.code ({ cls := "GumBubble", name := "firm", desc := "(II)I" } : Jvm.MethodName) prog_1_method_26_code (6 : Nat) (Option.some Jvm.ClassFile.FieldType.int)) ∈ gm_G := gm_inG (List.mem_of_getElem? (i := 729) (by decide +kernel)) (by decide +kernel)
theorem gw_730 : (Jvm.Cond.methodLink "GumBubble" (247 : Nat) ({ cls := "GumBubble", name := "isAllSeen", desc := "(III)Z" } : Jvm.MethodName)) ∈ gm_G := gm_inG (List.mem_of_getElem? (i := 730) (by decide +kernel)) (by decide +kernel)
theorem gw_732 : (Jvm.Cond.instanceMethod ({ cls := "GumBubble", name := "isAllSeen", desc := "(III)Z" } : Jvm.MethodName)) ∈ gm_G := gm_inG (List.mem_of_getElem? (i := 732) (by decide +kernel)) (by decide +kernel)
theorem gw_733 : (Jvm.Cond.code ({ cls := "GumBubble", name := "isAllSeen", desc := "(III)Z" } : Jvm.MethodName) prog_1_method_55_code (6 : Nat) (Option.some Jvm.ClassFile.FieldType.boolean)) ∈ gm_G := gm_inG (List.mem_of_getElem? (i := 733) (by decide +kernel)) (by decide +kernel)
theorem gw_734 : (Jvm.Cond.methodLink "GumBubble" (262 : Nat) ({ cls := "GumBubble$Rows", name := "cell", desc := "(II)I" } : Jvm.MethodName)) ∈ gm_G := gm_inG (List.mem_of_getElem? (i := 734) (by decide +kernel)) (by decide +kernel)
theorem gw_735 : (Jvm.Cond.instanceMethod ({ cls := "GumBubble$Rows", name := "cell", desc := "(II)I" } : Jvm.MethodName)) ∈ gm_G := gm_inG (List.mem_of_getElem? (i := 735) (by decide +kernel)) (by decide +kernel)
theorem gw_736 : (Jvm.Cond.selects "GumBubble$Rows" ({ cls := "GumBubble$Rows", name := "cell", desc := "(II)I" } : Jvm.MethodName) ({ cls := "GumBubble$Rows", name := "cell", desc := "(II)I" } : Jvm.MethodName)) ∈ gm_G := gm_inG (List.mem_of_getElem? (i := 736) (by decide +kernel)) (by decide +kernel)
theorem gw_737 : (Jvm.Cond.code ({ cls := "GumBubble$Rows", name := "cell", desc := "(II)I" } : Jvm.MethodName) prog_9_method_4_code (3 : Nat) (Option.some Jvm.ClassFile.FieldType.int)) ∈ gm_G := gm_inG (List.mem_of_getElem? (i := 737) (by decide +kernel)) (by decide +kernel)
theorem gw_738 : (Jvm.Cond.methodLink "GumBubble$Rows" (26 : Nat) ({ cls := "GumBubble$Rows", name := "isKept", desc := "(I)Z" } : Jvm.MethodName)) ∈ gm_G := gm_inG (List.mem_of_getElem? (i := 738) (by decide +kernel)) (by decide +kernel)
theorem gw_739 : (Jvm.Cond.instanceMethod ({ cls := "GumBubble$Rows", name := "isKept", desc := "(I)Z" } : Jvm.MethodName)) ∈ gm_G := gm_inG (List.mem_of_getElem? (i := 739) (by decide +kernel)) (by decide +kernel)
theorem gw_740 : (Jvm.Cond.selects "GumBubble$Rows" ({ cls := "GumBubble$Rows", name := "isKept", desc := "(I)Z" } : Jvm.MethodName) ({ cls := "GumBubble$Rows", name := "isKept", desc := "(I)Z" } : Jvm.MethodName)) ∈ gm_G := gm_inG (List.mem_of_getElem? (i := 740) (by decide +kernel)) (by decide +kernel)
theorem gw_741 : (Jvm.Cond.code ({ cls := "GumBubble$Rows", name := "isKept", desc := "(I)Z" } : Jvm.MethodName) prog_9_method_3_code (2 : Nat) (Option.some Jvm.ClassFile.FieldType.boolean)) ∈ gm_G := gm_inG (List.mem_of_getElem? (i := 741) (by decide +kernel)) (by decide +kernel)
theorem gw_742 : (Jvm.Cond.methodLink "GumBubbleLaw" (118 : Nat) ({ cls := "GumBubble", name := "had", desc := "(I)I" } : Jvm.MethodName)) ∈ gm_G := gm_inG (List.mem_of_getElem? (i := 742) (by decide +kernel)) (by decide +kernel)
theorem gw_743 : (Jvm.Cond.instanceMethod ({ cls := "GumBubble", name := "had", desc := "(I)I" } : Jvm.MethodName)) ∈ gm_G := gm_inG (List.mem_of_getElem? (i := 743) (by decide +kernel)) (by decide +kernel)
theorem gw_744 : (Jvm.Cond.selects "GumBubble" ({ cls := "GumBubble", name := "had", desc := "(I)I" } : Jvm.MethodName) ({ cls := "GumBubble", name := "had", desc := "(I)I" } : Jvm.MethodName)) ∈ gm_G := gm_inG (List.mem_of_getElem? (i := 744) (by decide +kernel)) (by decide +kernel)
theorem gw_745 : (Jvm.Cond.code ({ cls := "GumBubble", name := "had", desc := "(I)I" } : Jvm.MethodName) prog_1_method_27_code (4 : Nat) (Option.some Jvm.ClassFile.FieldType.int)) ∈ gm_G := gm_inG (List.mem_of_getElem? (i := 745) (by decide +kernel)) (by decide +kernel)
theorem gw_746 : (Jvm.Cond.methodLink "GumBubbleLaw" (122 : Nat) ({ cls := "GumBubble", name := "mean", desc := "(II)J" } : Jvm.MethodName)) ∈ gm_G := gm_inG (List.mem_of_getElem? (i := 746) (by decide +kernel)) (by decide +kernel)
theorem gw_747 : (Jvm.Cond.instanceMethod ({ cls := "GumBubble", name := "mean", desc := "(II)J" } : Jvm.MethodName)) ∈ gm_G := gm_inG (List.mem_of_getElem? (i := 747) (by decide +kernel)) (by decide +kernel)
theorem gw_748 : (Jvm.Cond.selects "GumBubble" ({ cls := "GumBubble", name := "mean", desc := "(II)J" } : Jvm.MethodName) ({ cls := "GumBubble", name := "mean", desc := "(II)J" } : Jvm.MethodName)) ∈ gm_G := gm_inG (List.mem_of_getElem? (i := 748) (by decide +kernel)) (by decide +kernel)
theorem gw_749 : (Jvm.Cond.code ({ cls := "GumBubble", name := "mean", desc := "(II)J" } : Jvm.MethodName) prog_1_method_28_code (3 : Nat) (Option.some Jvm.ClassFile.FieldType.long)) ∈ gm_G := gm_inG (List.mem_of_getElem? (i := 749) (by decide +kernel)) (by decide +kernel)
theorem gw_750 : (Jvm.Cond.methodLink "GumBubbleLaw" (127 : Nat) ({ cls := "GumBubble", name := "plan", desc := "(II)I" } : Jvm.MethodName)) ∈ gm_G := gm_inG (List.mem_of_getElem? (i := 750) (by decide +kernel)) (by decide +kernel)
theorem gw_751 : (Jvm.Cond.instanceMethod ({ cls := "GumBubble", name := "plan", desc := "(II)I" } : Jvm.MethodName)) ∈ gm_G := gm_inG (List.mem_of_getElem? (i := 751) (by decide +kernel)) (by decide +kernel)
theorem gw_752 : (Jvm.Cond.selects "GumBubble" ({ cls := "GumBubble", name := "plan", desc := "(II)I" } : Jvm.MethodName) ({ cls := "GumBubble", name := "plan", desc := "(II)I" } : Jvm.MethodName)) ∈ gm_G := gm_inG (List.mem_of_getElem? (i := 752) (by decide +kernel)) (by decide +kernel)
theorem gw_753 : (Jvm.Cond.code ({ cls := "GumBubble", name := "plan", desc := "(II)I" } : Jvm.MethodName) prog_1_method_29_code (3 : Nat) (Option.some Jvm.ClassFile.FieldType.int)) ∈ gm_G := gm_inG (List.mem_of_getElem? (i := 753) (by decide +kernel)) (by decide +kernel)
theorem gw_754 : (Jvm.Cond.methodLink "GumBubbleLaw" (131 : Nat) ({ cls := "GumBubble", name := "done", desc := "(I)I" } : Jvm.MethodName)) ∈ gm_G := gm_inG (List.mem_of_getElem? (i := 754) (by decide +kernel)) (by decide +kernel)
theorem gw_755 : (Jvm.Cond.instanceMethod ({ cls := "GumBubble", name := "done", desc := "(I)I" } : Jvm.MethodName)) ∈ gm_G := gm_inG (List.mem_of_getElem? (i := 755) (by decide +kernel)) (by decide +kernel)
theorem gw_756 : (Jvm.Cond.selects "GumBubble" ({ cls := "GumBubble", name := "done", desc := "(I)I" } : Jvm.MethodName) ({ cls := "GumBubble", name := "done", desc := "(I)I" } : Jvm.MethodName)) ∈ gm_G := gm_inG (List.mem_of_getElem? (i := 756) (by decide +kernel)) (by decide +kernel)
theorem gw_757 : (Jvm.Cond.code ({ cls := "GumBubble", name := "done", desc := "(I)I" } : Jvm.MethodName) prog_1_method_30_code (4 : Nat) (Option.some Jvm.ClassFile.FieldType.int)) ∈ gm_G := gm_inG (List.mem_of_getElem? (i := 757) (by decide +kernel)) (by decide +kernel)
theorem gw_758 : (Jvm.Cond.methodLink "GumBubble" (253 : Nat) ({ cls := "GumBubble", name := "tryPlan", desc := "()V" } : Jvm.MethodName)) ∈ gm_G := gm_inG (List.mem_of_getElem? (i := 758) (by decide +kernel)) (by decide +kernel)
theorem gw_760 : (Jvm.Cond.instanceMethod ({ cls := "GumBubble", name := "tryPlan", desc := "()V" } : Jvm.MethodName)) ∈ gm_G := gm_inG (List.mem_of_getElem? (i := 760) (by decide +kernel)) (by decide +kernel)
theorem gw_761 : (Jvm.Cond.code ({ cls := "GumBubble", name := "tryPlan", desc := "()V" } : Jvm.MethodName) prog_1_method_56_code (4 : Nat) (Option.none : Option Jvm.ClassFile.FieldType)) ∈ gm_G := gm_inG (List.mem_of_getElem? (i := 761) (by decide +kernel)) (by decide +kernel)
theorem gw_762 : (Jvm.Cond.methodLink "GumBubble" (302 : Nat) ({ cls := "GumBubble", name := "tryPlanRow", desc := "(II)V" } : Jvm.MethodName)) ∈ gm_G := gm_inG (List.mem_of_getElem? (i := 762) (by decide +kernel)) (by decide +kernel)
theorem gw_764 : (Jvm.Cond.instanceMethod ({ cls := "GumBubble", name := "tryPlanRow", desc := "(II)V" } : Jvm.MethodName)) ∈ gm_G := gm_inG (List.mem_of_getElem? (i := 764) (by decide +kernel)) (by decide +kernel)
theorem gw_765 : (Jvm.Cond.code ({ cls := "GumBubble", name := "tryPlanRow", desc := "(II)V" } : Jvm.MethodName) prog_1_method_57_code (3 : Nat) (Option.none : Option Jvm.ClassFile.FieldType)) ∈ gm_G := gm_inG (List.mem_of_getElem? (i := 765) (by decide +kernel)) (by decide +kernel)
theorem gw_766 : (Jvm.Cond.methodLink "GumBubbleLaw" (135 : Nat) ({ cls := "GumBubble", name := "book", desc := "(II)I" } : Jvm.MethodName)) ∈ gm_G := gm_inG (List.mem_of_getElem? (i := 766) (by decide +kernel)) (by decide +kernel)
theorem gw_767 : (Jvm.Cond.instanceMethod ({ cls := "GumBubble", name := "book", desc := "(II)I" } : Jvm.MethodName)) ∈ gm_G := gm_inG (List.mem_of_getElem? (i := 767) (by decide +kernel)) (by decide +kernel)
theorem gw_768 : (Jvm.Cond.selects "GumBubble" ({ cls := "GumBubble", name := "book", desc := "(II)I" } : Jvm.MethodName) ({ cls := "GumBubble", name := "book", desc := "(II)I" } : Jvm.MethodName)) ∈ gm_G := gm_inG (List.mem_of_getElem? (i := 768) (by decide +kernel)) (by decide +kernel)
theorem gw_769 : (Jvm.Cond.code ({ cls := "GumBubble", name := "book", desc := "(II)I" } : Jvm.MethodName) prog_1_method_31_code (3 : Nat) (Option.some Jvm.ClassFile.FieldType.int)) ∈ gm_G := gm_inG (List.mem_of_getElem? (i := 769) (by decide +kernel)) (by decide +kernel)
theorem gw_770 : (Jvm.Cond.methodLink "GumBubbleLaw" (139 : Nat) ({ cls := "GumBubble", name := "looked", desc := "()I" } : Jvm.MethodName)) ∈ gm_G := gm_inG (List.mem_of_getElem? (i := 770) (by decide +kernel)) (by decide +kernel)
theorem gw_771 : (Jvm.Cond.instanceMethod ({ cls := "GumBubble", name := "looked", desc := "()I" } : Jvm.MethodName)) ∈ gm_G := gm_inG (List.mem_of_getElem? (i := 771) (by decide +kernel)) (by decide +kernel)
theorem gw_772 : (Jvm.Cond.selects "GumBubble" ({ cls := "GumBubble", name := "looked", desc := "()I" } : Jvm.MethodName) ({ cls := "GumBubble", name := "looked", desc := "()I" } : Jvm.MethodName)) ∈ gm_G := gm_inG (List.mem_of_getElem? (i := 772) (by decide +kernel)) (by decide +kernel)
theorem gw_773 : (Jvm.Cond.code ({ cls := "GumBubble", name := "looked", desc := "()I" } : Jvm.MethodName) prog_1_method_32_code (3 : Nat) (Option.some Jvm.ClassFile.FieldType.int)) ∈ gm_G := gm_inG (List.mem_of_getElem? (i := 773) (by decide +kernel)) (by decide +kernel)
theorem gw_774 : (Jvm.Cond.methodLink "GumBubbleLaw" (143 : Nat) ({ cls := "GumBubble", name := "act", desc := "(III)I" } : Jvm.MethodName)) ∈ gm_G := gm_inG (List.mem_of_getElem? (i := 774) (by decide +kernel)) (by decide +kernel)
theorem gw_775 : (Jvm.Cond.instanceMethod ({ cls := "GumBubble", name := "act", desc := "(III)I" } : Jvm.MethodName)) ∈ gm_G := gm_inG (List.mem_of_getElem? (i := 775) (by decide +kernel)) (by decide +kernel)
theorem gw_776 : (Jvm.Cond.selects "GumBubble" ({ cls := "GumBubble", name := "act", desc := "(III)I" } : Jvm.MethodName) ({ cls := "GumBubble", name := "act", desc := "(III)I" } : Jvm.MethodName)) ∈ gm_G := gm_inG (List.mem_of_getElem? (i := 776) (by decide +kernel)) (by decide +kernel)
theorem gw_777 : (Jvm.Cond.code ({ cls := "GumBubble", name := "act", desc := "(III)I" } : Jvm.MethodName) prog_1_method_33_code (5 : Nat) (Option.some Jvm.ClassFile.FieldType.int)) ∈ gm_G := gm_inG (List.mem_of_getElem? (i := 777) (by decide +kernel)) (by decide +kernel)
theorem gw_778 : (Jvm.Cond.methodLink "GumBubble" (265 : Nat) ({ cls := "GumBubble$Plain", name := "chews", desc := "(LGumBubble$Rows;LGumBubble$Child;I)I" } : Jvm.MethodName)) ∈ gm_G := gm_inG (List.mem_of_getElem? (i := 778) (by decide +kernel)) (by decide +kernel)
theorem gw_779 : (Jvm.Cond.instanceMethod ({ cls := "GumBubble$Plain", name := "chews", desc := "(LGumBubble$Rows;LGumBubble$Child;I)I" } : Jvm.MethodName)) ∈ gm_G := gm_inG (List.mem_of_getElem? (i := 779) (by decide +kernel)) (by decide +kernel)
theorem gw_780 : (Jvm.Cond.selects "GumBubble$Plain" ({ cls := "GumBubble$Plain", name := "chews", desc := "(LGumBubble$Rows;LGumBubble$Child;I)I" } : Jvm.MethodName) ({ cls := "GumBubble$Plain", name := "chews", desc := "(LGumBubble$Rows;LGumBubble$Child;I)I" } : Jvm.MethodName)) ∈ gm_G := gm_inG (List.mem_of_getElem? (i := 780) (by decide +kernel)) (by decide +kernel)
theorem gw_781 : (Jvm.Cond.sameMethod "GumBubble$Plain" "GumBubble$Plain" "chews" "(LGumBubble$Rows;LGumBubble$Child;I)I") ∈ gm_G := gm_inG (List.mem_of_getElem? (i := 781) (by decide +kernel)) (by decide +kernel)
theorem gw_782 : (Jvm.Cond.selects "GumBubble$Careful" ({ cls := "GumBubble$Plain", name := "chews", desc := "(LGumBubble$Rows;LGumBubble$Child;I)I" } : Jvm.MethodName) ({ cls := "GumBubble$Careful", name := "chews", desc := "(LGumBubble$Rows;LGumBubble$Child;I)I" } : Jvm.MethodName)) ∈ gm_G := gm_inG (List.mem_of_getElem? (i := 782) (by decide +kernel)) (by decide +kernel)
theorem gw_783 : (Jvm.Cond.instanceMethod ({ cls := "GumBubble$Careful", name := "chews", desc := "(LGumBubble$Rows;LGumBubble$Child;I)I" } : Jvm.MethodName)) ∈ gm_G := gm_inG (List.mem_of_getElem? (i := 783) (by decide +kernel)) (by decide +kernel)
theorem gw_784 : (Jvm.Cond.code ({ cls := "GumBubble$Careful", name := "chews", desc := "(LGumBubble$Rows;LGumBubble$Child;I)I" } : Jvm.MethodName) prog_3_method_5_code (4 : Nat) (Option.some Jvm.ClassFile.FieldType.int)) ∈ gm_G := gm_inG (List.mem_of_getElem? (i := 784) (by decide +kernel)) (by decide +kernel)
theorem gw_785 : (Jvm.Cond.methodLink "GumBubble$Careful" (23 : Nat) ({ cls := "GumBubble$Rows", name := "add", desc := "(III)I" } : Jvm.MethodName)) ∈ gm_G := gm_inG (List.mem_of_getElem? (i := 785) (by decide +kernel)) (by decide +kernel)
theorem gw_786 : (Jvm.Cond.methodLink "GumBubble$Careful" (29 : Nat) ({ cls := "GumBubble$Slow", name := "chews", desc := "(LGumBubble$Rows;LGumBubble$Child;I)I" } : Jvm.MethodName)) ∈ gm_G := gm_inG (List.mem_of_getElem? (i := 786) (by decide +kernel)) (by decide +kernel)
theorem gw_787 : (Jvm.Cond.sameMethod "GumBubble$Slow" "GumBubble$Plain" "chews" "(LGumBubble$Rows;LGumBubble$Child;I)I") ∈ gm_G := gm_inG (List.mem_of_getElem? (i := 787) (by decide +kernel)) (by decide +kernel)
theorem gw_789 : (Jvm.Cond.selects "GumBubble$Cold" ({ cls := "GumBubble$Plain", name := "chews", desc := "(LGumBubble$Rows;LGumBubble$Child;I)I" } : Jvm.MethodName) ({ cls := "GumBubble$Plain", name := "chews", desc := "(LGumBubble$Rows;LGumBubble$Child;I)I" } : Jvm.MethodName)) ∈ gm_G := gm_inG (List.mem_of_getElem? (i := 789) (by decide +kernel)) (by decide +kernel)
theorem gw_790 : (Jvm.Cond.selects "GumBubble$Greedy" ({ cls := "GumBubble$Plain", name := "chews", desc := "(LGumBubble$Rows;LGumBubble$Child;I)I" } : Jvm.MethodName) ({ cls := "GumBubble$Quick", name := "chews", desc := "(LGumBubble$Rows;LGumBubble$Child;I)I" } : Jvm.MethodName)) ∈ gm_G := gm_inG (List.mem_of_getElem? (i := 790) (by decide +kernel)) (by decide +kernel)
theorem gw_791 : (Jvm.Cond.instanceMethod ({ cls := "GumBubble$Quick", name := "chews", desc := "(LGumBubble$Rows;LGumBubble$Child;I)I" } : Jvm.MethodName)) ∈ gm_G := gm_inG (List.mem_of_getElem? (i := 791) (by decide +kernel)) (by decide +kernel)
theorem gw_792 : (Jvm.Cond.code ({ cls := "GumBubble$Quick", name := "chews", desc := "(LGumBubble$Rows;LGumBubble$Child;I)I" } : Jvm.MethodName) prog_8_method_4_code (4 : Nat) (Option.some Jvm.ClassFile.FieldType.int)) ∈ gm_G := gm_inG (List.mem_of_getElem? (i := 792) (by decide +kernel)) (by decide +kernel)
theorem gw_793 : (Jvm.Cond.methodLink "GumBubble$Quick" (17 : Nat) ({ cls := "GumBubble$Rows", name := "add", desc := "(III)I" } : Jvm.MethodName)) ∈ gm_G := gm_inG (List.mem_of_getElem? (i := 793) (by decide +kernel)) (by decide +kernel)
theorem gw_794 : (Jvm.Cond.methodLink "GumBubble$Quick" (23 : Nat) ({ cls := "GumBubble$Plain", name := "chews", desc := "(LGumBubble$Rows;LGumBubble$Child;I)I" } : Jvm.MethodName)) ∈ gm_G := gm_inG (List.mem_of_getElem? (i := 794) (by decide +kernel)) (by decide +kernel)
theorem gw_795 : (Jvm.Cond.selects "GumBubble$Quick" ({ cls := "GumBubble$Plain", name := "chews", desc := "(LGumBubble$Rows;LGumBubble$Child;I)I" } : Jvm.MethodName) ({ cls := "GumBubble$Quick", name := "chews", desc := "(LGumBubble$Rows;LGumBubble$Child;I)I" } : Jvm.MethodName)) ∈ gm_G := gm_inG (List.mem_of_getElem? (i := 795) (by decide +kernel)) (by decide +kernel)
theorem gw_796 : (Jvm.Cond.selects "GumBubble$Slow" ({ cls := "GumBubble$Plain", name := "chews", desc := "(LGumBubble$Rows;LGumBubble$Child;I)I" } : Jvm.MethodName) ({ cls := "GumBubble$Plain", name := "chews", desc := "(LGumBubble$Rows;LGumBubble$Child;I)I" } : Jvm.MethodName)) ∈ gm_G := gm_inG (List.mem_of_getElem? (i := 796) (by decide +kernel)) (by decide +kernel)
theorem gw_797 : (Jvm.Cond.selects "GumBubble$Told" ({ cls := "GumBubble$Plain", name := "chews", desc := "(LGumBubble$Rows;LGumBubble$Child;I)I" } : Jvm.MethodName) ({ cls := "GumBubble$Plain", name := "chews", desc := "(LGumBubble$Rows;LGumBubble$Child;I)I" } : Jvm.MethodName)) ∈ gm_G := gm_inG (List.mem_of_getElem? (i := 797) (by decide +kernel)) (by decide +kernel)
theorem gw_798 : (Jvm.Cond.code ({ cls := "GumBubble$Plain", name := "chews", desc := "(LGumBubble$Rows;LGumBubble$Child;I)I" } : Jvm.MethodName) prog_7_method_5_code (4 : Nat) (Option.some Jvm.ClassFile.FieldType.int)) ∈ gm_G := gm_inG (List.mem_of_getElem? (i := 798) (by decide +kernel)) (by decide +kernel)
theorem gw_799 : (Jvm.Cond.methodLink "GumBubble$Plain" (21 : Nat) ({ cls := "GumBubble$Rows", name := "add", desc := "(III)I" } : Jvm.MethodName)) ∈ gm_G := gm_inG (List.mem_of_getElem? (i := 799) (by decide +kernel)) (by decide +kernel)
theorem gw_800 : (Jvm.Cond.methodLink "GumBubble" (269 : Nat) ({ cls := "GumBubble$Plain", name := "blows", desc := "(LGumBubble$Rows;LGumBubble$Child;I)I" } : Jvm.MethodName)) ∈ gm_G := gm_inG (List.mem_of_getElem? (i := 800) (by decide +kernel)) (by decide +kernel)
theorem gw_801 : (Jvm.Cond.instanceMethod ({ cls := "GumBubble$Plain", name := "blows", desc := "(LGumBubble$Rows;LGumBubble$Child;I)I" } : Jvm.MethodName)) ∈ gm_G := gm_inG (List.mem_of_getElem? (i := 801) (by decide +kernel)) (by decide +kernel)
theorem gw_802 : (Jvm.Cond.selects "GumBubble$Plain" ({ cls := "GumBubble$Plain", name := "blows", desc := "(LGumBubble$Rows;LGumBubble$Child;I)I" } : Jvm.MethodName) ({ cls := "GumBubble$Plain", name := "blows", desc := "(LGumBubble$Rows;LGumBubble$Child;I)I" } : Jvm.MethodName)) ∈ gm_G := gm_inG (List.mem_of_getElem? (i := 802) (by decide +kernel)) (by decide +kernel)
theorem gw_803 : (Jvm.Cond.sameMethod "GumBubble$Plain" "GumBubble$Plain" "blows" "(LGumBubble$Rows;LGumBubble$Child;I)I") ∈ gm_G := gm_inG (List.mem_of_getElem? (i := 803) (by decide +kernel)) (by decide +kernel)
theorem gw_804 : (Jvm.Cond.selects "GumBubble$Careful" ({ cls := "GumBubble$Plain", name := "blows", desc := "(LGumBubble$Rows;LGumBubble$Child;I)I" } : Jvm.MethodName) ({ cls := "GumBubble$Slow", name := "blows", desc := "(LGumBubble$Rows;LGumBubble$Child;I)I" } : Jvm.MethodName)) ∈ gm_G := gm_inG (List.mem_of_getElem? (i := 804) (by decide +kernel)) (by decide +kernel)
theorem gw_805 : (Jvm.Cond.instanceMethod ({ cls := "GumBubble$Slow", name := "blows", desc := "(LGumBubble$Rows;LGumBubble$Child;I)I" } : Jvm.MethodName)) ∈ gm_G := gm_inG (List.mem_of_getElem? (i := 805) (by decide +kernel)) (by decide +kernel)
theorem gw_806 : (Jvm.Cond.code ({ cls := "GumBubble$Slow", name := "blows", desc := "(LGumBubble$Rows;LGumBubble$Child;I)I" } : Jvm.MethodName) prog_11_method_3_code (4 : Nat) (Option.some Jvm.ClassFile.FieldType.int)) ∈ gm_G := gm_inG (List.mem_of_getElem? (i := 806) (by decide +kernel)) (by decide +kernel)
theorem gw_807 : (Jvm.Cond.methodLink "GumBubble$Slow" (11 : Nat) ({ cls := "GumBubble$Rows", name := "add", desc := "(III)I" } : Jvm.MethodName)) ∈ gm_G := gm_inG (List.mem_of_getElem? (i := 807) (by decide +kernel)) (by decide +kernel)
theorem gw_808 : (Jvm.Cond.methodLink "GumBubble$Slow" (17 : Nat) ({ cls := "GumBubble$Plain", name := "blows", desc := "(LGumBubble$Rows;LGumBubble$Child;I)I" } : Jvm.MethodName)) ∈ gm_G := gm_inG (List.mem_of_getElem? (i := 808) (by decide +kernel)) (by decide +kernel)
theorem gw_809 : (Jvm.Cond.selects "GumBubble$Cold" ({ cls := "GumBubble$Plain", name := "blows", desc := "(LGumBubble$Rows;LGumBubble$Child;I)I" } : Jvm.MethodName) ({ cls := "GumBubble$Plain", name := "blows", desc := "(LGumBubble$Rows;LGumBubble$Child;I)I" } : Jvm.MethodName)) ∈ gm_G := gm_inG (List.mem_of_getElem? (i := 809) (by decide +kernel)) (by decide +kernel)
theorem gw_810 : (Jvm.Cond.selects "GumBubble$Greedy" ({ cls := "GumBubble$Plain", name := "blows", desc := "(LGumBubble$Rows;LGumBubble$Child;I)I" } : Jvm.MethodName) ({ cls := "GumBubble$Plain", name := "blows", desc := "(LGumBubble$Rows;LGumBubble$Child;I)I" } : Jvm.MethodName)) ∈ gm_G := gm_inG (List.mem_of_getElem? (i := 810) (by decide +kernel)) (by decide +kernel)
theorem gw_811 : (Jvm.Cond.selects "GumBubble$Quick" ({ cls := "GumBubble$Plain", name := "blows", desc := "(LGumBubble$Rows;LGumBubble$Child;I)I" } : Jvm.MethodName) ({ cls := "GumBubble$Plain", name := "blows", desc := "(LGumBubble$Rows;LGumBubble$Child;I)I" } : Jvm.MethodName)) ∈ gm_G := gm_inG (List.mem_of_getElem? (i := 811) (by decide +kernel)) (by decide +kernel)
theorem gw_812 : (Jvm.Cond.selects "GumBubble$Slow" ({ cls := "GumBubble$Plain", name := "blows", desc := "(LGumBubble$Rows;LGumBubble$Child;I)I" } : Jvm.MethodName) ({ cls := "GumBubble$Slow", name := "blows", desc := "(LGumBubble$Rows;LGumBubble$Child;I)I" } : Jvm.MethodName)) ∈ gm_G := gm_inG (List.mem_of_getElem? (i := 812) (by decide +kernel)) (by decide +kernel)
theorem gw_813 : (Jvm.Cond.selects "GumBubble$Told" ({ cls := "GumBubble$Plain", name := "blows", desc := "(LGumBubble$Rows;LGumBubble$Child;I)I" } : Jvm.MethodName) ({ cls := "GumBubble$Told", name := "blows", desc := "(LGumBubble$Rows;LGumBubble$Child;I)I" } : Jvm.MethodName)) ∈ gm_G := gm_inG (List.mem_of_getElem? (i := 813) (by decide +kernel)) (by decide +kernel)
theorem gw_814 : (Jvm.Cond.instanceMethod ({ cls := "GumBubble$Told", name := "blows", desc := "(LGumBubble$Rows;LGumBubble$Child;I)I" } : Jvm.MethodName)) ∈ gm_G := gm_inG (List.mem_of_getElem? (i := 814) (by decide +kernel)) (by decide +kernel)
theorem gw_815 : (Jvm.Cond.code ({ cls := "GumBubble$Told", name := "blows", desc := "(LGumBubble$Rows;LGumBubble$Child;I)I" } : Jvm.MethodName) prog_12_method_3_code (4 : Nat) (Option.some Jvm.ClassFile.FieldType.int)) ∈ gm_G := gm_inG (List.mem_of_getElem? (i := 815) (by decide +kernel)) (by decide +kernel)
theorem gw_816 : (Jvm.Cond.methodLink "GumBubble$Told" (17 : Nat) ({ cls := "GumBubble$Rows", name := "add", desc := "(III)I" } : Jvm.MethodName)) ∈ gm_G := gm_inG (List.mem_of_getElem? (i := 816) (by decide +kernel)) (by decide +kernel)
theorem gw_817 : (Jvm.Cond.methodLink "GumBubble$Told" (23 : Nat) ({ cls := "GumBubble$Cold", name := "blows", desc := "(LGumBubble$Rows;LGumBubble$Child;I)I" } : Jvm.MethodName)) ∈ gm_G := gm_inG (List.mem_of_getElem? (i := 817) (by decide +kernel)) (by decide +kernel)
theorem gw_818 : (Jvm.Cond.sameMethod "GumBubble$Cold" "GumBubble$Plain" "blows" "(LGumBubble$Rows;LGumBubble$Child;I)I") ∈ gm_G := gm_inG (List.mem_of_getElem? (i := 818) (by decide +kernel)) (by decide +kernel)
theorem gw_820 : (Jvm.Cond.code ({ cls := "GumBubble$Plain", name := "blows", desc := "(LGumBubble$Rows;LGumBubble$Child;I)I" } : Jvm.MethodName) prog_7_method_6_code (4 : Nat) (Option.some Jvm.ClassFile.FieldType.int)) ∈ gm_G := gm_inG (List.mem_of_getElem? (i := 820) (by decide +kernel)) (by decide +kernel)
theorem gw_821 : (Jvm.Cond.methodLink "GumBubble$Plain" (28 : Nat) ({ cls := "GumBubble$Plain", name := "chews", desc := "(LGumBubble$Rows;LGumBubble$Child;I)I" } : Jvm.MethodName)) ∈ gm_G := gm_inG (List.mem_of_getElem? (i := 821) (by decide +kernel)) (by decide +kernel)
theorem gw_822 : (Jvm.Cond.methodLink "GumBubble" (272 : Nat) ({ cls := "GumBubble$Plain", name := "tells", desc := "(LGumBubble$Rows;LGumBubble$Child;I)I" } : Jvm.MethodName)) ∈ gm_G := gm_inG (List.mem_of_getElem? (i := 822) (by decide +kernel)) (by decide +kernel)
theorem gw_823 : (Jvm.Cond.instanceMethod ({ cls := "GumBubble$Plain", name := "tells", desc := "(LGumBubble$Rows;LGumBubble$Child;I)I" } : Jvm.MethodName)) ∈ gm_G := gm_inG (List.mem_of_getElem? (i := 823) (by decide +kernel)) (by decide +kernel)
theorem gw_824 : (Jvm.Cond.selects "GumBubble$Plain" ({ cls := "GumBubble$Plain", name := "tells", desc := "(LGumBubble$Rows;LGumBubble$Child;I)I" } : Jvm.MethodName) ({ cls := "GumBubble$Plain", name := "tells", desc := "(LGumBubble$Rows;LGumBubble$Child;I)I" } : Jvm.MethodName)) ∈ gm_G := gm_inG (List.mem_of_getElem? (i := 824) (by decide +kernel)) (by decide +kernel)
theorem gw_825 : (Jvm.Cond.sameMethod "GumBubble$Plain" "GumBubble$Plain" "tells" "(LGumBubble$Rows;LGumBubble$Child;I)I") ∈ gm_G := gm_inG (List.mem_of_getElem? (i := 825) (by decide +kernel)) (by decide +kernel)
theorem gw_826 : (Jvm.Cond.selects "GumBubble$Careful" ({ cls := "GumBubble$Plain", name := "tells", desc := "(LGumBubble$Rows;LGumBubble$Child;I)I" } : Jvm.MethodName) ({ cls := "GumBubble$Plain", name := "tells", desc := "(LGumBubble$Rows;LGumBubble$Child;I)I" } : Jvm.MethodName)) ∈ gm_G := gm_inG (List.mem_of_getElem? (i := 826) (by decide +kernel)) (by decide +kernel)
theorem gw_827 : (Jvm.Cond.selects "GumBubble$Cold" ({ cls := "GumBubble$Plain", name := "tells", desc := "(LGumBubble$Rows;LGumBubble$Child;I)I" } : Jvm.MethodName) ({ cls := "GumBubble$Cold", name := "tells", desc := "(LGumBubble$Rows;LGumBubble$Child;I)I" } : Jvm.MethodName)) ∈ gm_G := gm_inG (List.mem_of_getElem? (i := 827) (by decide +kernel)) (by decide +kernel)
theorem gw_828 : (Jvm.Cond.instanceMethod ({ cls := "GumBubble$Cold", name := "tells", desc := "(LGumBubble$Rows;LGumBubble$Child;I)I" } : Jvm.MethodName)) ∈ gm_G := gm_inG (List.mem_of_getElem? (i := 828) (by decide +kernel)) (by decide +kernel)
theorem gw_829 : (Jvm.Cond.code ({ cls := "GumBubble$Cold", name := "tells", desc := "(LGumBubble$Rows;LGumBubble$Child;I)I" } : Jvm.MethodName) prog_5_method_4_code (4 : Nat) (Option.some Jvm.ClassFile.FieldType.int)) ∈ gm_G := gm_inG (List.mem_of_getElem? (i := 829) (by decide +kernel)) (by decide +kernel)
theorem gw_830 : (Jvm.Cond.methodLink "GumBubble$Cold" (23 : Nat) ({ cls := "GumBubble$Rows", name := "add", desc := "(III)I" } : Jvm.MethodName)) ∈ gm_G := gm_inG (List.mem_of_getElem? (i := 830) (by decide +kernel)) (by decide +kernel)
theorem gw_831 : (Jvm.Cond.methodLink "GumBubble$Cold" (29 : Nat) ({ cls := "GumBubble$Plain", name := "tells", desc := "(LGumBubble$Rows;LGumBubble$Child;I)I" } : Jvm.MethodName)) ∈ gm_G := gm_inG (List.mem_of_getElem? (i := 831) (by decide +kernel)) (by decide +kernel)
theorem gw_832 : (Jvm.Cond.selects "GumBubble$Greedy" ({ cls := "GumBubble$Plain", name := "tells", desc := "(LGumBubble$Rows;LGumBubble$Child;I)I" } : Jvm.MethodName) ({ cls := "GumBubble$Greedy", name := "tells", desc := "(LGumBubble$Rows;LGumBubble$Child;I)I" } : Jvm.MethodName)) ∈ gm_G := gm_inG (List.mem_of_getElem? (i := 832) (by decide +kernel)) (by decide +kernel)
theorem gw_833 : (Jvm.Cond.instanceMethod ({ cls := "GumBubble$Greedy", name := "tells", desc := "(LGumBubble$Rows;LGumBubble$Child;I)I" } : Jvm.MethodName)) ∈ gm_G := gm_inG (List.mem_of_getElem? (i := 833) (by decide +kernel)) (by decide +kernel)
theorem gw_834 : (Jvm.Cond.code ({ cls := "GumBubble$Greedy", name := "tells", desc := "(LGumBubble$Rows;LGumBubble$Child;I)I" } : Jvm.MethodName) prog_6_method_3_code (4 : Nat) (Option.some Jvm.ClassFile.FieldType.int)) ∈ gm_G := gm_inG (List.mem_of_getElem? (i := 834) (by decide +kernel)) (by decide +kernel)
theorem gw_835 : (Jvm.Cond.methodLink "GumBubble$Greedy" (17 : Nat) ({ cls := "GumBubble$Rows", name := "add", desc := "(III)I" } : Jvm.MethodName)) ∈ gm_G := gm_inG (List.mem_of_getElem? (i := 835) (by decide +kernel)) (by decide +kernel)
theorem gw_836 : (Jvm.Cond.methodLink "GumBubble$Greedy" (23 : Nat) ({ cls := "GumBubble$Quick", name := "tells", desc := "(LGumBubble$Rows;LGumBubble$Child;I)I" } : Jvm.MethodName)) ∈ gm_G := gm_inG (List.mem_of_getElem? (i := 836) (by decide +kernel)) (by decide +kernel)
theorem gw_837 : (Jvm.Cond.sameMethod "GumBubble$Quick" "GumBubble$Plain" "tells" "(LGumBubble$Rows;LGumBubble$Child;I)I") ∈ gm_G := gm_inG (List.mem_of_getElem? (i := 837) (by decide +kernel)) (by decide +kernel)
theorem gw_839 : (Jvm.Cond.methodLink "GumBubble$Greedy" (27 : Nat) ({ cls := "GumBubble$Greedy", name := "chews", desc := "(LGumBubble$Rows;LGumBubble$Child;I)I" } : Jvm.MethodName)) ∈ gm_G := gm_inG (List.mem_of_getElem? (i := 839) (by decide +kernel)) (by decide +kernel)
theorem gw_840 : (Jvm.Cond.sameMethod "GumBubble$Greedy" "GumBubble$Quick" "chews" "(LGumBubble$Rows;LGumBubble$Child;I)I") ∈ gm_G := gm_inG (List.mem_of_getElem? (i := 840) (by decide +kernel)) (by decide +kernel)
theorem gw_842 : (Jvm.Cond.selects "GumBubble$Greedy" ({ cls := "GumBubble$Greedy", name := "chews", desc := "(LGumBubble$Rows;LGumBubble$Child;I)I" } : Jvm.MethodName) ({ cls := "GumBubble$Quick", name := "chews", desc := "(LGumBubble$Rows;LGumBubble$Child;I)I" } : Jvm.MethodName)) ∈ gm_G := gm_inG (List.mem_of_getElem? (i := 842) (by decide +kernel)) (by decide +kernel)
theorem gw_843 : (Jvm.Cond.selects "GumBubble$Quick" ({ cls := "GumBubble$Plain", name := "tells", desc := "(LGumBubble$Rows;LGumBubble$Child;I)I" } : Jvm.MethodName) ({ cls := "GumBubble$Plain", name := "tells", desc := "(LGumBubble$Rows;LGumBubble$Child;I)I" } : Jvm.MethodName)) ∈ gm_G := gm_inG (List.mem_of_getElem? (i := 843) (by decide +kernel)) (by decide +kernel)
theorem gw_844 : (Jvm.Cond.selects "GumBubble$Slow" ({ cls := "GumBubble$Plain", name := "tells", desc := "(LGumBubble$Rows;LGumBubble$Child;I)I" } : Jvm.MethodName) ({ cls := "GumBubble$Plain", name := "tells", desc := "(LGumBubble$Rows;LGumBubble$Child;I)I" } : Jvm.MethodName)) ∈ gm_G := gm_inG (List.mem_of_getElem? (i := 844) (by decide +kernel)) (by decide +kernel)
theorem gw_845 : (Jvm.Cond.selects "GumBubble$Told" ({ cls := "GumBubble$Plain", name := "tells", desc := "(LGumBubble$Rows;LGumBubble$Child;I)I" } : Jvm.MethodName) ({ cls := "GumBubble$Cold", name := "tells", desc := "(LGumBubble$Rows;LGumBubble$Child;I)I" } : Jvm.MethodName)) ∈ gm_G := gm_inG (List.mem_of_getElem? (i := 845) (by decide +kernel)) (by decide +kernel)
theorem gw_846 : (Jvm.Cond.code ({ cls := "GumBubble$Plain", name := "tells", desc := "(LGumBubble$Rows;LGumBubble$Child;I)I" } : Jvm.MethodName) prog_7_method_7_code (4 : Nat) (Option.some Jvm.ClassFile.FieldType.int)) ∈ gm_G := gm_inG (List.mem_of_getElem? (i := 846) (by decide +kernel)) (by decide +kernel)
theorem gw_847 : (Jvm.Cond.methodLink "GumBubble$Plain" (32 : Nat) ({ cls := "GumBubble$Plain", name := "blows", desc := "(LGumBubble$Rows;LGumBubble$Child;I)I" } : Jvm.MethodName)) ∈ gm_G := gm_inG (List.mem_of_getElem? (i := 847) (by decide +kernel)) (by decide +kernel)
theorem gw_848 : (Jvm.Cond.methodLink "GumBubbleLaw" (147 : Nat) ({ cls := "GumBubble", name := "trace", desc := "(I)I" } : Jvm.MethodName)) ∈ gm_G := gm_inG (List.mem_of_getElem? (i := 848) (by decide +kernel)) (by decide +kernel)
theorem gw_849 : (Jvm.Cond.instanceMethod ({ cls := "GumBubble", name := "trace", desc := "(I)I" } : Jvm.MethodName)) ∈ gm_G := gm_inG (List.mem_of_getElem? (i := 849) (by decide +kernel)) (by decide +kernel)
theorem gw_850 : (Jvm.Cond.selects "GumBubble" ({ cls := "GumBubble", name := "trace", desc := "(I)I" } : Jvm.MethodName) ({ cls := "GumBubble", name := "trace", desc := "(I)I" } : Jvm.MethodName)) ∈ gm_G := gm_inG (List.mem_of_getElem? (i := 850) (by decide +kernel)) (by decide +kernel)
theorem gw_851 : (Jvm.Cond.code ({ cls := "GumBubble", name := "trace", desc := "(I)I" } : Jvm.MethodName) prog_1_method_34_code (2 : Nat) (Option.some Jvm.ClassFile.FieldType.int)) ∈ gm_G := gm_inG (List.mem_of_getElem? (i := 851) (by decide +kernel)) (by decide +kernel)
theorem gw_852 : (Jvm.Cond.methodLink "GumBubble" (275 : Nat) ({ cls := "GumBubble$Rows", name := "isKept", desc := "(I)Z" } : Jvm.MethodName)) ∈ gm_G := gm_inG (List.mem_of_getElem? (i := 852) (by decide +kernel)) (by decide +kernel)
theorem gw_853 : (Jvm.Cond.methodLink "GumBubbleLaw" (151 : Nat) ({ cls := "GumBubble", name := "as", desc := "(II)I" } : Jvm.MethodName)) ∈ gm_G := gm_inG (List.mem_of_getElem? (i := 853) (by decide +kernel)) (by decide +kernel)
theorem gw_854 : (Jvm.Cond.instanceMethod ({ cls := "GumBubble", name := "as", desc := "(II)I" } : Jvm.MethodName)) ∈ gm_G := gm_inG (List.mem_of_getElem? (i := 854) (by decide +kernel)) (by decide +kernel)
theorem gw_855 : (Jvm.Cond.selects "GumBubble" ({ cls := "GumBubble", name := "as", desc := "(II)I" } : Jvm.MethodName) ({ cls := "GumBubble", name := "as", desc := "(II)I" } : Jvm.MethodName)) ∈ gm_G := gm_inG (List.mem_of_getElem? (i := 855) (by decide +kernel)) (by decide +kernel)
theorem gw_856 : (Jvm.Cond.code ({ cls := "GumBubble", name := "as", desc := "(II)I" } : Jvm.MethodName) prog_1_method_35_code (4 : Nat) (Option.some Jvm.ClassFile.FieldType.int)) ∈ gm_G := gm_inG (List.mem_of_getElem? (i := 856) (by decide +kernel)) (by decide +kernel)
theorem gw_857 : (Jvm.Cond.methodLink "GumBubble" (278 : Nat) ({ cls := "GumBubble", name := "isUnder", desc := "(LGumBubble$Plain;I)Z" } : Jvm.MethodName)) ∈ gm_G := gm_inG (List.mem_of_getElem? (i := 857) (by decide +kernel)) (by decide +kernel)
theorem gw_858 : (Jvm.Cond.static ({ cls := "GumBubble", name := "isUnder", desc := "(LGumBubble$Plain;I)Z" } : Jvm.MethodName)) ∈ gm_G := gm_inG (List.mem_of_getElem? (i := 858) (by decide +kernel)) (by decide +kernel)
theorem gw_859 : (Jvm.Cond.code ({ cls := "GumBubble", name := "isUnder", desc := "(LGumBubble$Plain;I)Z" } : Jvm.MethodName) prog_1_method_58_code (2 : Nat) (Option.some Jvm.ClassFile.FieldType.boolean)) ∈ gm_G := gm_inG (List.mem_of_getElem? (i := 859) (by decide +kernel)) (by decide +kernel)
theorem gw_860 : (Jvm.Cond.methodLink "GumBubbleLaw" (155 : Nat) ({ cls := "GumBubble", name := "image", desc := "()I" } : Jvm.MethodName)) ∈ gm_G := gm_inG (List.mem_of_getElem? (i := 860) (by decide +kernel)) (by decide +kernel)
theorem gw_861 : (Jvm.Cond.instanceMethod ({ cls := "GumBubble", name := "image", desc := "()I" } : Jvm.MethodName)) ∈ gm_G := gm_inG (List.mem_of_getElem? (i := 861) (by decide +kernel)) (by decide +kernel)
theorem gw_862 : (Jvm.Cond.selects "GumBubble" ({ cls := "GumBubble", name := "image", desc := "()I" } : Jvm.MethodName) ({ cls := "GumBubble", name := "image", desc := "()I" } : Jvm.MethodName)) ∈ gm_G := gm_inG (List.mem_of_getElem? (i := 862) (by decide +kernel)) (by decide +kernel)
theorem gw_863 : (Jvm.Cond.code ({ cls := "GumBubble", name := "image", desc := "()I" } : Jvm.MethodName) prog_1_method_36_code (1 : Nat) (Option.some Jvm.ClassFile.FieldType.int)) ∈ gm_G := gm_inG (List.mem_of_getElem? (i := 863) (by decide +kernel)) (by decide +kernel)
theorem gw_864 : (Jvm.Cond.methodLink "GumBubble" (282 : Nat) ({ cls := "GumBubble$Scene", name := "copy", desc := "(LGumBubble$Scene;)V" } : Jvm.MethodName)) ∈ gm_G := gm_inG (List.mem_of_getElem? (i := 864) (by decide +kernel)) (by decide +kernel)
theorem gw_865 : (Jvm.Cond.instanceMethod ({ cls := "GumBubble$Scene", name := "copy", desc := "(LGumBubble$Scene;)V" } : Jvm.MethodName)) ∈ gm_G := gm_inG (List.mem_of_getElem? (i := 865) (by decide +kernel)) (by decide +kernel)
theorem gw_866 : (Jvm.Cond.selects "GumBubble$Scene" ({ cls := "GumBubble$Scene", name := "copy", desc := "(LGumBubble$Scene;)V" } : Jvm.MethodName) ({ cls := "GumBubble$Scene", name := "copy", desc := "(LGumBubble$Scene;)V" } : Jvm.MethodName)) ∈ gm_G := gm_inG (List.mem_of_getElem? (i := 866) (by decide +kernel)) (by decide +kernel)
theorem gw_867 : (Jvm.Cond.code ({ cls := "GumBubble$Scene", name := "copy", desc := "(LGumBubble$Scene;)V" } : Jvm.MethodName) prog_10_method_2_code (3 : Nat) (Option.none : Option Jvm.ClassFile.FieldType)) ∈ gm_G := gm_inG (List.mem_of_getElem? (i := 867) (by decide +kernel)) (by decide +kernel)
theorem gw_868 : (Jvm.Cond.methodLink "GumBubble$Scene" (53 : Nat) ({ cls := "GumBubble$Child", name := "copy", desc := "(LGumBubble$Child;)V" } : Jvm.MethodName)) ∈ gm_G := gm_inG (List.mem_of_getElem? (i := 868) (by decide +kernel)) (by decide +kernel)
theorem gw_869 : (Jvm.Cond.methodLink "GumBubble$Scene" (60 : Nat) ({ cls := "java/lang/System", name := "arraycopy", desc := "(Ljava/lang/Object;ILjava/lang/Object;II)V" } : Jvm.MethodName)) ∈ gm_G := gm_inG (List.mem_of_getElem? (i := 869) (by decide +kernel)) (by decide +kernel)
theorem gw_870 : (Jvm.Cond.methodLink "GumBubble$Scene" (69 : Nat) ({ cls := "GumBubble$Rows", name := "copy", desc := "(LGumBubble$Rows;)V" } : Jvm.MethodName)) ∈ gm_G := gm_inG (List.mem_of_getElem? (i := 870) (by decide +kernel)) (by decide +kernel)
theorem gw_871 : (Jvm.Cond.instanceMethod ({ cls := "GumBubble$Rows", name := "copy", desc := "(LGumBubble$Rows;)V" } : Jvm.MethodName)) ∈ gm_G := gm_inG (List.mem_of_getElem? (i := 871) (by decide +kernel)) (by decide +kernel)
theorem gw_872 : (Jvm.Cond.selects "GumBubble$Rows" ({ cls := "GumBubble$Rows", name := "copy", desc := "(LGumBubble$Rows;)V" } : Jvm.MethodName) ({ cls := "GumBubble$Rows", name := "copy", desc := "(LGumBubble$Rows;)V" } : Jvm.MethodName)) ∈ gm_G := gm_inG (List.mem_of_getElem? (i := 872) (by decide +kernel)) (by decide +kernel)
theorem gw_873 : (Jvm.Cond.code ({ cls := "GumBubble$Rows", name := "copy", desc := "(LGumBubble$Rows;)V" } : Jvm.MethodName) prog_9_method_7_code (2 : Nat) (Option.none : Option Jvm.ClassFile.FieldType)) ∈ gm_G := gm_inG (List.mem_of_getElem? (i := 873) (by decide +kernel)) (by decide +kernel)
theorem gw_874 : (Jvm.Cond.methodLink "GumBubble$Rows" (30 : Nat) ({ cls := "java/lang/Math", name := "min", desc := "(II)I" } : Jvm.MethodName)) ∈ gm_G := gm_inG (List.mem_of_getElem? (i := 874) (by decide +kernel)) (by decide +kernel)
theorem gw_875 : (Jvm.Cond.methodLink "GumBubble$Rows" (33 : Nat) ({ cls := "java/lang/System", name := "arraycopy", desc := "(Ljava/lang/Object;ILjava/lang/Object;II)V" } : Jvm.MethodName)) ∈ gm_G := gm_inG (List.mem_of_getElem? (i := 875) (by decide +kernel)) (by decide +kernel)
theorem gw_876 : (Jvm.Cond.methodLink "GumBubbleLaw" (159 : Nat) ({ cls := "GumBubble", name := "undo", desc := "()I" } : Jvm.MethodName)) ∈ gm_G := gm_inG (List.mem_of_getElem? (i := 876) (by decide +kernel)) (by decide +kernel)
theorem gw_877 : (Jvm.Cond.instanceMethod ({ cls := "GumBubble", name := "undo", desc := "()I" } : Jvm.MethodName)) ∈ gm_G := gm_inG (List.mem_of_getElem? (i := 877) (by decide +kernel)) (by decide +kernel)
theorem gw_878 : (Jvm.Cond.selects "GumBubble" ({ cls := "GumBubble", name := "undo", desc := "()I" } : Jvm.MethodName) ({ cls := "GumBubble", name := "undo", desc := "()I" } : Jvm.MethodName)) ∈ gm_G := gm_inG (List.mem_of_getElem? (i := 878) (by decide +kernel)) (by decide +kernel)
theorem gw_879 : (Jvm.Cond.code ({ cls := "GumBubble", name := "undo", desc := "()I" } : Jvm.MethodName) prog_1_method_37_code (1 : Nat) (Option.some Jvm.ClassFile.FieldType.int)) ∈ gm_G := gm_inG (List.mem_of_getElem? (i := 879) (by decide +kernel)) (by decide +kernel)
theorem gw_880 : (Jvm.Cond.methodLink "GumBubbleLaw" (163 : Nat) ({ cls := "GumBubble", name := "count", desc := "(I)I" } : Jvm.MethodName)) ∈ gm_G := gm_inG (List.mem_of_getElem? (i := 880) (by decide +kernel)) (by decide +kernel)
theorem gw_881 : (Jvm.Cond.instanceMethod ({ cls := "GumBubble", name := "count", desc := "(I)I" } : Jvm.MethodName)) ∈ gm_G := gm_inG (List.mem_of_getElem? (i := 881) (by decide +kernel)) (by decide +kernel)
theorem gw_882 : (Jvm.Cond.selects "GumBubble" ({ cls := "GumBubble", name := "count", desc := "(I)I" } : Jvm.MethodName) ({ cls := "GumBubble", name := "count", desc := "(I)I" } : Jvm.MethodName)) ∈ gm_G := gm_inG (List.mem_of_getElem? (i := 882) (by decide +kernel)) (by decide +kernel)
theorem gw_883 : (Jvm.Cond.code ({ cls := "GumBubble", name := "count", desc := "(I)I" } : Jvm.MethodName) prog_1_method_38_code (2 : Nat) (Option.some Jvm.ClassFile.FieldType.int)) ∈ gm_G := gm_inG (List.mem_of_getElem? (i := 883) (by decide +kernel)) (by decide +kernel)
theorem gw_884 : (Jvm.Cond.classLink "GumBubbleLaw" (10 : Nat) "GumBubbleModel") ∈ gm_G := gm_inG (List.mem_of_getElem? (i := 884) (by decide +kernel)) (by decide +kernel)
theorem gw_885 : (Jvm.Cond.instantiable "GumBubbleModel" (23 : Nat)) ∈ gm_G := gm_inG (List.mem_of_getElem? (i := 885) (by decide +kernel)) (by decide +kernel)
theorem gw_886 : (Jvm.Cond.methodLink "GumBubbleLaw" (12 : Nat) ({ cls := "GumBubbleModel", name := "<init>", desc := "()V" } : Jvm.MethodName)) ∈ gm_G := gm_inG (List.mem_of_getElem? (i := 886) (by decide +kernel)) (by decide +kernel)
theorem gw_887 : (Jvm.Cond.instanceMethod ({ cls := "GumBubbleModel", name := "<init>", desc := "()V" } : Jvm.MethodName)) ∈ gm_G := gm_inG (List.mem_of_getElem? (i := 887) (by decide +kernel)) (by decide +kernel)
theorem gw_888 : (Jvm.Cond.code ({ cls := "GumBubbleModel", name := "<init>", desc := "()V" } : Jvm.MethodName) prog_14_method_1_code (1 : Nat) (Option.none : Option Jvm.ClassFile.FieldType)) ∈ gm_G := gm_inG (List.mem_of_getElem? (i := 888) (by decide +kernel)) (by decide +kernel)
theorem gw_889 : (Jvm.Cond.methodLink "GumBubbleModel" (3 : Nat) ({ cls := "java/lang/Object", name := "<init>", desc := "()V" } : Jvm.MethodName)) ∈ gm_G := gm_inG (List.mem_of_getElem? (i := 889) (by decide +kernel)) (by decide +kernel)
theorem gw_890 : (Jvm.Cond.fieldLink "GumBubbleModel" (9 : Nat) "GumBubbleModel" "s" "[I") ∈ gm_G := gm_inG (List.mem_of_getElem? (i := 890) (by decide +kernel)) (by decide +kernel)
theorem gw_891 : (Jvm.Cond.fieldLink "GumBubbleModel" (15 : Nat) "GumBubbleModel" "image" "[I") ∈ gm_G := gm_inG (List.mem_of_getElem? (i := 891) (by decide +kernel)) (by decide +kernel)
theorem gw_892 : (Jvm.Cond.fieldLink "GumBubbleModel" (18 : Nat) "GumBubbleModel" "frame" "[I") ∈ gm_G := gm_inG (List.mem_of_getElem? (i := 892) (by decide +kernel)) (by decide +kernel)
theorem gw_893 : (Jvm.Cond.fieldLink "GumBubbleModel" (283 : Nat) "GumBubbleModel" "hasImage" "Z") ∈ gm_G := gm_inG (List.mem_of_getElem? (i := 893) (by decide +kernel)) (by decide +kernel)
theorem gw_894 : (Jvm.Cond.fieldLink "GumBubbleModel" (75 : Nat) "GumBubbleModel" "act" "I") ∈ gm_G := gm_inG (List.mem_of_getElem? (i := 894) (by decide +kernel)) (by decide +kernel)
theorem gw_895 : (Jvm.Cond.fieldLink "GumBubbleModel" (48 : Nat) "GumBubbleModel" "spot" "I") ∈ gm_G := gm_inG (List.mem_of_getElem? (i := 895) (by decide +kernel)) (by decide +kernel)
theorem gw_896 : (Jvm.Cond.fieldLink "GumBubbleModel" (51 : Nat) "GumBubbleModel" "end" "I") ∈ gm_G := gm_inG (List.mem_of_getElem? (i := 896) (by decide +kernel)) (by decide +kernel)
theorem gw_897 : (Jvm.Cond.fieldLink "GumBubbleModel" (54 : Nat) "GumBubbleModel" "isWrong" "Z") ∈ gm_G := gm_inG (List.mem_of_getElem? (i := 897) (by decide +kernel)) (by decide +kernel)
theorem gw_898 : (Jvm.Cond.fieldLink "GumBubbleModel" (78 : Nat) "GumBubbleModel" "open" "I") ∈ gm_G := gm_inG (List.mem_of_getElem? (i := 898) (by decide +kernel)) (by decide +kernel)
theorem gw_899 : (Jvm.Cond.fieldLink "GumBubbleModel" (21 : Nat) "GumBubbleModel" "by" "[I") ∈ gm_G := gm_inG (List.mem_of_getElem? (i := 899) (by decide +kernel)) (by decide +kernel)
theorem gw_900 : (Jvm.Cond.fieldLink "GumBubbleModel" (24 : Nat) "GumBubbleModel" "truths" "[Z") ∈ gm_G := gm_inG (List.mem_of_getElem? (i := 900) (by decide +kernel)) (by decide +kernel)
theorem gw_901 : (Jvm.Cond.fieldLink "GumBubbleModel" (189 : Nat) "GumBubbleModel" "bestWhen" "I") ∈ gm_G := gm_inG (List.mem_of_getElem? (i := 901) (by decide +kernel)) (by decide +kernel)
theorem gw_902 : (Jvm.Cond.fieldLink "GumBubbleModel" (192 : Nat) "GumBubbleModel" "mostHeld" "I") ∈ gm_G := gm_inG (List.mem_of_getElem? (i := 902) (by decide +kernel)) (by decide +kernel)
theorem gw_903 : (Jvm.Cond.fieldLink "GumBubbleModel" (28 : Nat) "GumBubbleModel" "held" "[I") ∈ gm_G := gm_inG (List.mem_of_getElem? (i := 903) (by decide +kernel)) (by decide +kernel)
theorem gw_904 : (Jvm.Cond.fieldLink "GumBubbleModel" (31 : Nat) "GumBubbleModel" "line" "[I") ∈ gm_G := gm_inG (List.mem_of_getElem? (i := 904) (by decide +kernel)) (by decide +kernel)
theorem gw_905 : (Jvm.Cond.fieldLink "GumBubbleModel" (34 : Nat) "GumBubbleModel" "bestLine" "[I") ∈ gm_G := gm_inG (List.mem_of_getElem? (i := 905) (by decide +kernel)) (by decide +kernel)
theorem gw_906 : (Jvm.Cond.fieldLink "GumBubbleModel" (228 : Nat) "GumBubbleModel" "mostInAll" "I") ∈ gm_G := gm_inG (List.mem_of_getElem? (i := 906) (by decide +kernel)) (by decide +kernel)
theorem gw_907 : (Jvm.Cond.fieldLink "GumBubbleModel" (37 : Nat) "GumBubbleModel" "bodies" "[I") ∈ gm_G := gm_inG (List.mem_of_getElem? (i := 907) (by decide +kernel)) (by decide +kernel)
theorem gw_908 : (Jvm.Cond.fieldLink "GumBubbleModel" (247 : Nat) "GumBubbleModel" "ran" "I") ∈ gm_G := gm_inG (List.mem_of_getElem? (i := 908) (by decide +kernel)) (by decide +kernel)
theorem gw_909 : (Jvm.Cond.fieldLink "GumBubbleModel" (256 : Nat) "GumBubbleModel" "kind" "I") ∈ gm_G := gm_inG (List.mem_of_getElem? (i := 909) (by decide +kernel)) (by decide +kernel)
theorem gw_910 : (Jvm.Cond.fieldLink "GumBubbleModel" (253 : Nat) "GumBubbleModel" "number" "I") ∈ gm_G := gm_inG (List.mem_of_getElem? (i := 910) (by decide +kernel)) (by decide +kernel)
theorem gw_911 : (Jvm.Cond.fieldLink "GumBubbleModel" (268 : Nat) "GumBubbleModel" "tellsV" "I") ∈ gm_G := gm_inG (List.mem_of_getElem? (i := 911) (by decide +kernel)) (by decide +kernel)
theorem gw_958 : (Jvm.Cond.superclass "GumBubbleModel" "java/lang/Object") ∈ gm_G := gm_inG (List.mem_of_getElem? (i := 958) (by decide +kernel)) (by decide +kernel)
theorem gw_959 : (Jvm.Cond.arrayClass Jvm.ClassFile.FieldType.boolean) ∈ gm_G := gm_inG (List.mem_of_getElem? (i := 959) (by decide +kernel)) (by decide +kernel)
theorem gw_960 : (Jvm.Cond.methodLink "GumBubbleLaw" (17 : Nat) ({ cls := "GumBubbleModel", name := "feed", desc := "(I)I" } : Jvm.MethodName)) ∈ gm_G := gm_inG (List.mem_of_getElem? (i := 960) (by decide +kernel)) (by decide +kernel)
theorem gw_961 : (Jvm.Cond.instanceMethod ({ cls := "GumBubbleModel", name := "feed", desc := "(I)I" } : Jvm.MethodName)) ∈ gm_G := gm_inG (List.mem_of_getElem? (i := 961) (by decide +kernel)) (by decide +kernel)
theorem gw_962 : (Jvm.Cond.selects "GumBubbleModel" ({ cls := "GumBubbleModel", name := "feed", desc := "(I)I" } : Jvm.MethodName) ({ cls := "GumBubbleModel", name := "feed", desc := "(I)I" } : Jvm.MethodName)) ∈ gm_G := gm_inG (List.mem_of_getElem? (i := 962) (by decide +kernel)) (by decide +kernel)
theorem gw_963 : (Jvm.Cond.code ({ cls := "GumBubbleModel", name := "feed", desc := "(I)I" } : Jvm.MethodName) prog_14_method_9_code (2 : Nat) (Option.some Jvm.ClassFile.FieldType.int)) ∈ gm_G := gm_inG (List.mem_of_getElem? (i := 963) (by decide +kernel)) (by decide +kernel)
theorem gw_964 : (Jvm.Cond.methodLink "GumBubbleModel" (44 : Nat) ({ cls := "GumBubbleModel", name := "in", desc := "(III)Z" } : Jvm.MethodName)) ∈ gm_G := gm_inG (List.mem_of_getElem? (i := 964) (by decide +kernel)) (by decide +kernel)
theorem gw_965 : (Jvm.Cond.static ({ cls := "GumBubbleModel", name := "in", desc := "(III)Z" } : Jvm.MethodName)) ∈ gm_G := gm_inG (List.mem_of_getElem? (i := 965) (by decide +kernel)) (by decide +kernel)
theorem gw_966 : (Jvm.Cond.code ({ cls := "GumBubbleModel", name := "in", desc := "(III)Z" } : Jvm.MethodName) prog_14_method_3_code (3 : Nat) (Option.some Jvm.ClassFile.FieldType.boolean)) ∈ gm_G := gm_inG (List.mem_of_getElem? (i := 966) (by decide +kernel)) (by decide +kernel)
theorem gw_967 : (Jvm.Cond.methodLink "GumBubbleLaw" (22 : Nat) ({ cls := "GumBubbleModel", name := "afternoon", desc := "()I" } : Jvm.MethodName)) ∈ gm_G := gm_inG (List.mem_of_getElem? (i := 967) (by decide +kernel)) (by decide +kernel)
theorem gw_968 : (Jvm.Cond.instanceMethod ({ cls := "GumBubbleModel", name := "afternoon", desc := "()I" } : Jvm.MethodName)) ∈ gm_G := gm_inG (List.mem_of_getElem? (i := 968) (by decide +kernel)) (by decide +kernel)
theorem gw_969 : (Jvm.Cond.selects "GumBubbleModel" ({ cls := "GumBubbleModel", name := "afternoon", desc := "()I" } : Jvm.MethodName) ({ cls := "GumBubbleModel", name := "afternoon", desc := "()I" } : Jvm.MethodName)) ∈ gm_G := gm_inG (List.mem_of_getElem? (i := 969) (by decide +kernel)) (by decide +kernel)
theorem gw_970 : (Jvm.Cond.code ({ cls := "GumBubbleModel", name := "afternoon", desc := "()I" } : Jvm.MethodName) prog_14_method_23_code (2 : Nat) (Option.some Jvm.ClassFile.FieldType.int)) ∈ gm_G := gm_inG (List.mem_of_getElem? (i := 970) (by decide +kernel)) (by decide +kernel)
theorem gw_971 : (Jvm.Cond.methodLink "GumBubbleModel" (126 : Nat) ({ cls := "GumBubbleModel", name := "clauseHere", desc := "()V" } : Jvm.MethodName)) ∈ gm_G := gm_inG (List.mem_of_getElem? (i := 971) (by decide +kernel)) (by decide +kernel)
theorem gw_973 : (Jvm.Cond.instanceMethod ({ cls := "GumBubbleModel", name := "clauseHere", desc := "()V" } : Jvm.MethodName)) ∈ gm_G := gm_inG (List.mem_of_getElem? (i := 973) (by decide +kernel)) (by decide +kernel)
theorem gw_974 : (Jvm.Cond.code ({ cls := "GumBubbleModel", name := "clauseHere", desc := "()V" } : Jvm.MethodName) prog_14_method_22_code (1 : Nat) (Option.none : Option Jvm.ClassFile.FieldType)) ∈ gm_G := gm_inG (List.mem_of_getElem? (i := 974) (by decide +kernel)) (by decide +kernel)
theorem gw_975 : (Jvm.Cond.methodLink "GumBubbleModel" (58 : Nat) ({ cls := "GumBubbleModel", name := "here", desc := "()I" } : Jvm.MethodName)) ∈ gm_G := gm_inG (List.mem_of_getElem? (i := 975) (by decide +kernel)) (by decide +kernel)
theorem gw_977 : (Jvm.Cond.instanceMethod ({ cls := "GumBubbleModel", name := "here", desc := "()I" } : Jvm.MethodName)) ∈ gm_G := gm_inG (List.mem_of_getElem? (i := 977) (by decide +kernel)) (by decide +kernel)
theorem gw_978 : (Jvm.Cond.code ({ cls := "GumBubbleModel", name := "here", desc := "()I" } : Jvm.MethodName) prog_14_method_10_code (1 : Nat) (Option.some Jvm.ClassFile.FieldType.int)) ∈ gm_G := gm_inG (List.mem_of_getElem? (i := 978) (by decide +kernel)) (by decide +kernel)
theorem gw_980 : (Jvm.Cond.methodLink "GumBubbleModel" (110 : Nat) ({ cls := "GumBubbleModel", name := "tellsHere", desc := "(ILjava/lang/String;)V" } : Jvm.MethodName)) ∈ gm_G := gm_inG (List.mem_of_getElem? (i := 980) (by decide +kernel)) (by decide +kernel)
theorem gw_982 : (Jvm.Cond.instanceMethod ({ cls := "GumBubbleModel", name := "tellsHere", desc := "(ILjava/lang/String;)V" } : Jvm.MethodName)) ∈ gm_G := gm_inG (List.mem_of_getElem? (i := 982) (by decide +kernel)) (by decide +kernel)
theorem gw_983 : (Jvm.Cond.code ({ cls := "GumBubbleModel", name := "tellsHere", desc := "(ILjava/lang/String;)V" } : Jvm.MethodName) prog_14_method_20_code (4 : Nat) (Option.none : Option Jvm.ClassFile.FieldType)) ∈ gm_G := gm_inG (List.mem_of_getElem? (i := 983) (by decide +kernel)) (by decide +kernel)
theorem gw_984 : (Jvm.Cond.methodLink "GumBubbleModel" (104 : Nat) ({ cls := "GumBubbleModel", name := "spells", desc := "(Ljava/lang/String;)V" } : Jvm.MethodName)) ∈ gm_G := gm_inG (List.mem_of_getElem? (i := 984) (by decide +kernel)) (by decide +kernel)
theorem gw_986 : (Jvm.Cond.instanceMethod ({ cls := "GumBubbleModel", name := "spells", desc := "(Ljava/lang/String;)V" } : Jvm.MethodName)) ∈ gm_G := gm_inG (List.mem_of_getElem? (i := 986) (by decide +kernel)) (by decide +kernel)
theorem gw_987 : (Jvm.Cond.code ({ cls := "GumBubbleModel", name := "spells", desc := "(Ljava/lang/String;)V" } : Jvm.MethodName) prog_14_method_12_code (3 : Nat) (Option.none : Option Jvm.ClassFile.FieldType)) ∈ gm_G := gm_inG (List.mem_of_getElem? (i := 987) (by decide +kernel)) (by decide +kernel)
theorem gw_988 : (Jvm.Cond.methodLink "GumBubbleModel" (62 : Nat) ({ cls := "java/lang/String", name := "length", desc := "()I" } : Jvm.MethodName)) ∈ gm_G := gm_inG (List.mem_of_getElem? (i := 988) (by decide +kernel)) (by decide +kernel)
theorem gw_989 : (Jvm.Cond.methodLink "GumBubbleModel" (67 : Nat) ({ cls := "java/lang/String", name := "charAt", desc := "(I)C" } : Jvm.MethodName)) ∈ gm_G := gm_inG (List.mem_of_getElem? (i := 989) (by decide +kernel)) (by decide +kernel)
theorem gw_990 : (Jvm.Cond.methodLink "GumBubbleModel" (71 : Nat) ({ cls := "GumBubbleModel", name := "must", desc := "(I)V" } : Jvm.MethodName)) ∈ gm_G := gm_inG (List.mem_of_getElem? (i := 990) (by decide +kernel)) (by decide +kernel)
theorem gw_992 : (Jvm.Cond.instanceMethod ({ cls := "GumBubbleModel", name := "must", desc := "(I)V" } : Jvm.MethodName)) ∈ gm_G := gm_inG (List.mem_of_getElem? (i := 992) (by decide +kernel)) (by decide +kernel)
theorem gw_993 : (Jvm.Cond.code ({ cls := "GumBubbleModel", name := "must", desc := "(I)V" } : Jvm.MethodName) prog_14_method_11_code (2 : Nat) (Option.none : Option Jvm.ClassFile.FieldType)) ∈ gm_G := gm_inG (List.mem_of_getElem? (i := 993) (by decide +kernel)) (by decide +kernel)
theorem gw_994 : (Jvm.Cond.methodLink "GumBubbleModel" (98 : Nat) ({ cls := "GumBubbleModel", name := "figures", desc := "()I" } : Jvm.MethodName)) ∈ gm_G := gm_inG (List.mem_of_getElem? (i := 994) (by decide +kernel)) (by decide +kernel)
theorem gw_996 : (Jvm.Cond.instanceMethod ({ cls := "GumBubbleModel", name := "figures", desc := "()I" } : Jvm.MethodName)) ∈ gm_G := gm_inG (List.mem_of_getElem? (i := 996) (by decide +kernel)) (by decide +kernel)
theorem gw_997 : (Jvm.Cond.code ({ cls := "GumBubbleModel", name := "figures", desc := "()I" } : Jvm.MethodName) prog_14_method_13_code (3 : Nat) (Option.some Jvm.ClassFile.FieldType.int)) ∈ gm_G := gm_inG (List.mem_of_getElem? (i := 997) (by decide +kernel)) (by decide +kernel)
theorem gw_998 : (Jvm.Cond.methodLink "GumBubbleModel" (123 : Nat) ({ cls := "GumBubbleModel", name := "wordOfS", desc := "()V" } : Jvm.MethodName)) ∈ gm_G := gm_inG (List.mem_of_getElem? (i := 998) (by decide +kernel)) (by decide +kernel)
theorem gw_1000 : (Jvm.Cond.instanceMethod ({ cls := "GumBubbleModel", name := "wordOfS", desc := "()V" } : Jvm.MethodName)) ∈ gm_G := gm_inG (List.mem_of_getElem? (i := 1000) (by decide +kernel)) (by decide +kernel)
theorem gw_1001 : (Jvm.Cond.code ({ cls := "GumBubbleModel", name := "wordOfS", desc := "()V" } : Jvm.MethodName) prog_14_method_21_code (1 : Nat) (Option.none : Option Jvm.ClassFile.FieldType)) ∈ gm_G := gm_inG (List.mem_of_getElem? (i := 1001) (by decide +kernel)) (by decide +kernel)
theorem gw_1004 : (Jvm.Cond.methodLink "GumBubbleModel" (116 : Nat) ({ cls := "GumBubbleModel", name := "much", desc := "(ILjava/lang/String;)V" } : Jvm.MethodName)) ∈ gm_G := gm_inG (List.mem_of_getElem? (i := 1004) (by decide +kernel)) (by decide +kernel)
theorem gw_1006 : (Jvm.Cond.instanceMethod ({ cls := "GumBubbleModel", name := "much", desc := "(ILjava/lang/String;)V" } : Jvm.MethodName)) ∈ gm_G := gm_inG (List.mem_of_getElem? (i := 1006) (by decide +kernel)) (by decide +kernel)
theorem gw_1007 : (Jvm.Cond.code ({ cls := "GumBubbleModel", name := "much", desc := "(ILjava/lang/String;)V" } : Jvm.MethodName) prog_14_method_19_code (4 : Nat) (Option.none : Option Jvm.ClassFile.FieldType)) ∈ gm_G := gm_inG (List.mem_of_getElem? (i := 1007) (by decide +kernel)) (by decide +kernel)
theorem gw_1008 : (Jvm.Cond.methodLink "GumBubbleModel" (87 : Nat) ({ cls := "GumBubbleModel", name := "some", desc := "()V" } : Jvm.MethodName)) ∈ gm_G := gm_inG (List.mem_of_getElem? (i := 1008) (by decide +kernel)) (by decide +kernel)
theorem gw_1010 : (Jvm.Cond.instanceMethod ({ cls := "GumBubbleModel", name := "some", desc := "()V" } : Jvm.MethodName)) ∈ gm_G := gm_inG (List.mem_of_getElem? (i := 1010) (by decide +kernel)) (by decide +kernel)
theorem gw_1011 : (Jvm.Cond.code ({ cls := "GumBubbleModel", name := "some", desc := "()V" } : Jvm.MethodName) prog_14_method_18_code (1 : Nat) (Option.none : Option Jvm.ClassFile.FieldType)) ∈ gm_G := gm_inG (List.mem_of_getElem? (i := 1011) (by decide +kernel)) (by decide +kernel)
theorem gw_1012 : (Jvm.Cond.methodLink "GumBubbleModel" (101 : Nat) ({ cls := "GumBubbleModel", name := "every", desc := "()V" } : Jvm.MethodName)) ∈ gm_G := gm_inG (List.mem_of_getElem? (i := 1012) (by decide +kernel)) (by decide +kernel)
theorem gw_1014 : (Jvm.Cond.instanceMethod ({ cls := "GumBubbleModel", name := "every", desc := "()V" } : Jvm.MethodName)) ∈ gm_G := gm_inG (List.mem_of_getElem? (i := 1014) (by decide +kernel)) (by decide +kernel)
theorem gw_1015 : (Jvm.Cond.code ({ cls := "GumBubbleModel", name := "every", desc := "()V" } : Jvm.MethodName) prog_14_method_17_code (1 : Nat) (Option.none : Option Jvm.ClassFile.FieldType)) ∈ gm_G := gm_inG (List.mem_of_getElem? (i := 1015) (by decide +kernel)) (by decide +kernel)
theorem gw_1016 : (Jvm.Cond.methodLink "GumBubbleModel" (81 : Nat) ({ cls := "GumBubbleModel", name := "factor", desc := "()V" } : Jvm.MethodName)) ∈ gm_G := gm_inG (List.mem_of_getElem? (i := 1016) (by decide +kernel)) (by decide +kernel)
theorem gw_1018 : (Jvm.Cond.instanceMethod ({ cls := "GumBubbleModel", name := "factor", desc := "()V" } : Jvm.MethodName)) ∈ gm_G := gm_inG (List.mem_of_getElem? (i := 1018) (by decide +kernel)) (by decide +kernel)
theorem gw_1019 : (Jvm.Cond.code ({ cls := "GumBubbleModel", name := "factor", desc := "()V" } : Jvm.MethodName) prog_14_method_16_code (5 : Nat) (Option.none : Option Jvm.ClassFile.FieldType)) ∈ gm_G := gm_inG (List.mem_of_getElem? (i := 1019) (by decide +kernel)) (by decide +kernel)
theorem gw_1020 : (Jvm.Cond.methodLink "GumBubbleModel" (84 : Nat) ({ cls := "GumBubbleModel", name := "emits", desc := "(I)V" } : Jvm.MethodName)) ∈ gm_G := gm_inG (List.mem_of_getElem? (i := 1020) (by decide +kernel)) (by decide +kernel)
theorem gw_1022 : (Jvm.Cond.instanceMethod ({ cls := "GumBubbleModel", name := "emits", desc := "(I)V" } : Jvm.MethodName)) ∈ gm_G := gm_inG (List.mem_of_getElem? (i := 1022) (by decide +kernel)) (by decide +kernel)
theorem gw_1023 : (Jvm.Cond.code ({ cls := "GumBubbleModel", name := "emits", desc := "(I)V" } : Jvm.MethodName) prog_14_method_15_code (2 : Nat) (Option.none : Option Jvm.ClassFile.FieldType)) ∈ gm_G := gm_inG (List.mem_of_getElem? (i := 1023) (by decide +kernel)) (by decide +kernel)
theorem gw_1025 : (Jvm.Cond.methodLink "GumBubbleModel" (92 : Nat) ({ cls := "GumBubbleModel", name := "among", desc := "(Ljava/lang/String;)I" } : Jvm.MethodName)) ∈ gm_G := gm_inG (List.mem_of_getElem? (i := 1025) (by decide +kernel)) (by decide +kernel)
theorem gw_1027 : (Jvm.Cond.instanceMethod ({ cls := "GumBubbleModel", name := "among", desc := "(Ljava/lang/String;)I" } : Jvm.MethodName)) ∈ gm_G := gm_inG (List.mem_of_getElem? (i := 1027) (by decide +kernel)) (by decide +kernel)
theorem gw_1028 : (Jvm.Cond.code ({ cls := "GumBubbleModel", name := "among", desc := "(Ljava/lang/String;)I" } : Jvm.MethodName) prog_14_method_14_code (3 : Nat) (Option.some Jvm.ClassFile.FieldType.int)) ∈ gm_G := gm_inG (List.mem_of_getElem? (i := 1028) (by decide +kernel)) (by decide +kernel)
theorem gw_1031 : (Jvm.Cond.methodLink "GumBubbleLaw" (27 : Nat) ({ cls := "GumBubbleModel", name := "child", desc := "(II)I" } : Jvm.MethodName)) ∈ gm_G := gm_inG (List.mem_of_getElem? (i := 1031) (by decide +kernel)) (by decide +kernel)
theorem gw_1032 : (Jvm.Cond.instanceMethod ({ cls := "GumBubbleModel", name := "child", desc := "(II)I" } : Jvm.MethodName)) ∈ gm_G := gm_inG (List.mem_of_getElem? (i := 1032) (by decide +kernel)) (by decide +kernel)
theorem gw_1033 : (Jvm.Cond.selects "GumBubbleModel" ({ cls := "GumBubbleModel", name := "child", desc := "(II)I" } : Jvm.MethodName) ({ cls := "GumBubbleModel", name := "child", desc := "(II)I" } : Jvm.MethodName)) ∈ gm_G := gm_inG (List.mem_of_getElem? (i := 1033) (by decide +kernel)) (by decide +kernel)
theorem gw_1034 : (Jvm.Cond.code ({ cls := "GumBubbleModel", name := "child", desc := "(II)I" } : Jvm.MethodName) prog_14_method_32_code (5 : Nat) (Option.some Jvm.ClassFile.FieldType.int)) ∈ gm_G := gm_inG (List.mem_of_getElem? (i := 1034) (by decide +kernel)) (by decide +kernel)
theorem gw_1035 : (Jvm.Cond.methodLink "GumBubbleModel" (151 : Nat) ({ cls := "GumBubbleModel", name := "sweetNow", desc := "()I" } : Jvm.MethodName)) ∈ gm_G := gm_inG (List.mem_of_getElem? (i := 1035) (by decide +kernel)) (by decide +kernel)
theorem gw_1037 : (Jvm.Cond.instanceMethod ({ cls := "GumBubbleModel", name := "sweetNow", desc := "()I" } : Jvm.MethodName)) ∈ gm_G := gm_inG (List.mem_of_getElem? (i := 1037) (by decide +kernel)) (by decide +kernel)
theorem gw_1038 : (Jvm.Cond.code ({ cls := "GumBubbleModel", name := "sweetNow", desc := "()I" } : Jvm.MethodName) prog_14_method_25_code (1 : Nat) (Option.some Jvm.ClassFile.FieldType.int)) ∈ gm_G := gm_inG (List.mem_of_getElem? (i := 1038) (by decide +kernel)) (by decide +kernel)
theorem gw_1039 : (Jvm.Cond.methodLink "GumBubbleModel" (129 : Nat) ({ cls := "GumBubbleModel", name := "tellsOf", desc := "(II)I" } : Jvm.MethodName)) ∈ gm_G := gm_inG (List.mem_of_getElem? (i := 1039) (by decide +kernel)) (by decide +kernel)
theorem gw_1041 : (Jvm.Cond.instanceMethod ({ cls := "GumBubbleModel", name := "tellsOf", desc := "(II)I" } : Jvm.MethodName)) ∈ gm_G := gm_inG (List.mem_of_getElem? (i := 1041) (by decide +kernel)) (by decide +kernel)
theorem gw_1042 : (Jvm.Cond.code ({ cls := "GumBubbleModel", name := "tellsOf", desc := "(II)I" } : Jvm.MethodName) prog_14_method_24_code (3 : Nat) (Option.some Jvm.ClassFile.FieldType.int)) ∈ gm_G := gm_inG (List.mem_of_getElem? (i := 1042) (by decide +kernel)) (by decide +kernel)
theorem gw_1043 : (Jvm.Cond.methodLink "GumBubbleLaw" (31 : Nat) ({ cls := "GumBubbleModel", name := "of", desc := "(II)I" } : Jvm.MethodName)) ∈ gm_G := gm_inG (List.mem_of_getElem? (i := 1043) (by decide +kernel)) (by decide +kernel)
theorem gw_1044 : (Jvm.Cond.instanceMethod ({ cls := "GumBubbleModel", name := "of", desc := "(II)I" } : Jvm.MethodName)) ∈ gm_G := gm_inG (List.mem_of_getElem? (i := 1044) (by decide +kernel)) (by decide +kernel)
theorem gw_1045 : (Jvm.Cond.selects "GumBubbleModel" ({ cls := "GumBubbleModel", name := "of", desc := "(II)I" } : Jvm.MethodName) ({ cls := "GumBubbleModel", name := "of", desc := "(II)I" } : Jvm.MethodName)) ∈ gm_G := gm_inG (List.mem_of_getElem? (i := 1045) (by decide +kernel)) (by decide +kernel)
theorem gw_1046 : (Jvm.Cond.code ({ cls := "GumBubbleModel", name := "of", desc := "(II)I" } : Jvm.MethodName) prog_14_method_33_code (3 : Nat) (Option.some Jvm.ClassFile.FieldType.int)) ∈ gm_G := gm_inG (List.mem_of_getElem? (i := 1046) (by decide +kernel)) (by decide +kernel)
theorem gw_1047 : (Jvm.Cond.methodLink "GumBubbleModel" (154 : Nat) ({ cls := "GumBubbleModel", name := "isChild", desc := "(I)Z" } : Jvm.MethodName)) ∈ gm_G := gm_inG (List.mem_of_getElem? (i := 1047) (by decide +kernel)) (by decide +kernel)
theorem gw_1049 : (Jvm.Cond.instanceMethod ({ cls := "GumBubbleModel", name := "isChild", desc := "(I)Z" } : Jvm.MethodName)) ∈ gm_G := gm_inG (List.mem_of_getElem? (i := 1049) (by decide +kernel)) (by decide +kernel)
theorem gw_1050 : (Jvm.Cond.code ({ cls := "GumBubbleModel", name := "isChild", desc := "(I)Z" } : Jvm.MethodName) prog_14_method_6_code (2 : Nat) (Option.some Jvm.ClassFile.FieldType.boolean)) ∈ gm_G := gm_inG (List.mem_of_getElem? (i := 1050) (by decide +kernel)) (by decide +kernel)
theorem gw_1051 : (Jvm.Cond.methodLink "GumBubbleModel" (145 : Nat) ({ cls := "GumBubbleModel", name := "stretchOf", desc := "(I)I" } : Jvm.MethodName)) ∈ gm_G := gm_inG (List.mem_of_getElem? (i := 1051) (by decide +kernel)) (by decide +kernel)
theorem gw_1053 : (Jvm.Cond.instanceMethod ({ cls := "GumBubbleModel", name := "stretchOf", desc := "(I)I" } : Jvm.MethodName)) ∈ gm_G := gm_inG (List.mem_of_getElem? (i := 1053) (by decide +kernel)) (by decide +kernel)
theorem gw_1054 : (Jvm.Cond.code ({ cls := "GumBubbleModel", name := "stretchOf", desc := "(I)I" } : Jvm.MethodName) prog_14_method_27_code (2 : Nat) (Option.some Jvm.ClassFile.FieldType.int)) ∈ gm_G := gm_inG (List.mem_of_getElem? (i := 1054) (by decide +kernel)) (by decide +kernel)
theorem gw_1055 : (Jvm.Cond.methodLink "GumBubbleModel" (133 : Nat) ({ cls := "GumBubbleModel", name := "looks", desc := "(I)I" } : Jvm.MethodName)) ∈ gm_G := gm_inG (List.mem_of_getElem? (i := 1055) (by decide +kernel)) (by decide +kernel)
theorem gw_1057 : (Jvm.Cond.instanceMethod ({ cls := "GumBubbleModel", name := "looks", desc := "(I)I" } : Jvm.MethodName)) ∈ gm_G := gm_inG (List.mem_of_getElem? (i := 1057) (by decide +kernel)) (by decide +kernel)
theorem gw_1058 : (Jvm.Cond.code ({ cls := "GumBubbleModel", name := "looks", desc := "(I)I" } : Jvm.MethodName) prog_14_method_26_code (11 : Nat) (Option.some Jvm.ClassFile.FieldType.int)) ∈ gm_G := gm_inG (List.mem_of_getElem? (i := 1058) (by decide +kernel)) (by decide +kernel)
theorem gw_1059 : (Jvm.Cond.constant "GumBubbleModel" (137 : Nat) (1000000 : Int32)) ∈ gm_G := gm_inG (List.mem_of_getElem? (i := 1059) (by decide +kernel)) (by decide +kernel)
theorem gw_1060 : (Jvm.Cond.methodLink "GumBubbleModel" (138 : Nat) ({ cls := "GumBubbleModel", name := "within", desc := "(III)I" } : Jvm.MethodName)) ∈ gm_G := gm_inG (List.mem_of_getElem? (i := 1060) (by decide +kernel)) (by decide +kernel)
theorem gw_1061 : (Jvm.Cond.static ({ cls := "GumBubbleModel", name := "within", desc := "(III)I" } : Jvm.MethodName)) ∈ gm_G := gm_inG (List.mem_of_getElem? (i := 1061) (by decide +kernel)) (by decide +kernel)
theorem gw_1062 : (Jvm.Cond.code ({ cls := "GumBubbleModel", name := "within", desc := "(III)I" } : Jvm.MethodName) prog_14_method_4_code (3 : Nat) (Option.some Jvm.ClassFile.FieldType.int)) ∈ gm_G := gm_inG (List.mem_of_getElem? (i := 1062) (by decide +kernel)) (by decide +kernel)
theorem gw_1063 : (Jvm.Cond.methodLink "GumBubbleModel" (158 : Nat) ({ cls := "GumBubbleModel", name := "chewsOf", desc := "(I)I" } : Jvm.MethodName)) ∈ gm_G := gm_inG (List.mem_of_getElem? (i := 1063) (by decide +kernel)) (by decide +kernel)
theorem gw_1065 : (Jvm.Cond.instanceMethod ({ cls := "GumBubbleModel", name := "chewsOf", desc := "(I)I" } : Jvm.MethodName)) ∈ gm_G := gm_inG (List.mem_of_getElem? (i := 1065) (by decide +kernel)) (by decide +kernel)
theorem gw_1066 : (Jvm.Cond.code ({ cls := "GumBubbleModel", name := "chewsOf", desc := "(I)I" } : Jvm.MethodName) prog_14_method_28_code (3 : Nat) (Option.some Jvm.ClassFile.FieldType.int)) ∈ gm_G := gm_inG (List.mem_of_getElem? (i := 1066) (by decide +kernel)) (by decide +kernel)
theorem gw_1067 : (Jvm.Cond.methodLink "GumBubbleModel" (142 : Nat) ({ cls := "GumBubbleModel", name := "above", desc := "(I)I" } : Jvm.MethodName)) ∈ gm_G := gm_inG (List.mem_of_getElem? (i := 1067) (by decide +kernel)) (by decide +kernel)
theorem gw_1068 : (Jvm.Cond.static ({ cls := "GumBubbleModel", name := "above", desc := "(I)I" } : Jvm.MethodName)) ∈ gm_G := gm_inG (List.mem_of_getElem? (i := 1068) (by decide +kernel)) (by decide +kernel)
theorem gw_1069 : (Jvm.Cond.code ({ cls := "GumBubbleModel", name := "above", desc := "(I)I" } : Jvm.MethodName) prog_14_method_5_code (1 : Nat) (Option.some Jvm.ClassFile.FieldType.int)) ∈ gm_G := gm_inG (List.mem_of_getElem? (i := 1069) (by decide +kernel)) (by decide +kernel)
theorem gw_1070 : (Jvm.Cond.methodLink "GumBubbleModel" (161 : Nat) ({ cls := "GumBubbleModel", name := "tiresOf", desc := "(I)I" } : Jvm.MethodName)) ∈ gm_G := gm_inG (List.mem_of_getElem? (i := 1070) (by decide +kernel)) (by decide +kernel)
theorem gw_1072 : (Jvm.Cond.instanceMethod ({ cls := "GumBubbleModel", name := "tiresOf", desc := "(I)I" } : Jvm.MethodName)) ∈ gm_G := gm_inG (List.mem_of_getElem? (i := 1072) (by decide +kernel)) (by decide +kernel)
theorem gw_1073 : (Jvm.Cond.code ({ cls := "GumBubbleModel", name := "tiresOf", desc := "(I)I" } : Jvm.MethodName) prog_14_method_29_code (3 : Nat) (Option.some Jvm.ClassFile.FieldType.int)) ∈ gm_G := gm_inG (List.mem_of_getElem? (i := 1073) (by decide +kernel)) (by decide +kernel)
theorem gw_1074 : (Jvm.Cond.methodLink "GumBubbleModel" (148 : Nat) ({ cls := "GumBubbleModel", name := "holdsOf", desc := "(I)I" } : Jvm.MethodName)) ∈ gm_G := gm_inG (List.mem_of_getElem? (i := 1074) (by decide +kernel)) (by decide +kernel)
theorem gw_1076 : (Jvm.Cond.instanceMethod ({ cls := "GumBubbleModel", name := "holdsOf", desc := "(I)I" } : Jvm.MethodName)) ∈ gm_G := gm_inG (List.mem_of_getElem? (i := 1076) (by decide +kernel)) (by decide +kernel)
theorem gw_1077 : (Jvm.Cond.code ({ cls := "GumBubbleModel", name := "holdsOf", desc := "(I)I" } : Jvm.MethodName) prog_14_method_30_code (3 : Nat) (Option.some Jvm.ClassFile.FieldType.int)) ∈ gm_G := gm_inG (List.mem_of_getElem? (i := 1077) (by decide +kernel)) (by decide +kernel)
theorem gw_1078 : (Jvm.Cond.methodLink "GumBubbleLaw" (36 : Nat) ({ cls := "GumBubbleModel", name := "row", desc := "(III)I" } : Jvm.MethodName)) ∈ gm_G := gm_inG (List.mem_of_getElem? (i := 1078) (by decide +kernel)) (by decide +kernel)
theorem gw_1079 : (Jvm.Cond.instanceMethod ({ cls := "GumBubbleModel", name := "row", desc := "(III)I" } : Jvm.MethodName)) ∈ gm_G := gm_inG (List.mem_of_getElem? (i := 1079) (by decide +kernel)) (by decide +kernel)
theorem gw_1080 : (Jvm.Cond.selects "GumBubbleModel" ({ cls := "GumBubbleModel", name := "row", desc := "(III)I" } : Jvm.MethodName) ({ cls := "GumBubbleModel", name := "row", desc := "(III)I" } : Jvm.MethodName)) ∈ gm_G := gm_inG (List.mem_of_getElem? (i := 1080) (by decide +kernel)) (by decide +kernel)
theorem gw_1081 : (Jvm.Cond.code ({ cls := "GumBubbleModel", name := "row", desc := "(III)I" } : Jvm.MethodName) prog_14_method_34_code (5 : Nat) (Option.some Jvm.ClassFile.FieldType.int)) ∈ gm_G := gm_inG (List.mem_of_getElem? (i := 1081) (by decide +kernel)) (by decide +kernel)
theorem gw_1082 : (Jvm.Cond.methodLink "GumBubbleLaw" (40 : Nat) ({ cls := "GumBubbleModel", name := "set", desc := "(III)I" } : Jvm.MethodName)) ∈ gm_G := gm_inG (List.mem_of_getElem? (i := 1082) (by decide +kernel)) (by decide +kernel)
theorem gw_1083 : (Jvm.Cond.instanceMethod ({ cls := "GumBubbleModel", name := "set", desc := "(III)I" } : Jvm.MethodName)) ∈ gm_G := gm_inG (List.mem_of_getElem? (i := 1083) (by decide +kernel)) (by decide +kernel)
theorem gw_1084 : (Jvm.Cond.selects "GumBubbleModel" ({ cls := "GumBubbleModel", name := "set", desc := "(III)I" } : Jvm.MethodName) ({ cls := "GumBubbleModel", name := "set", desc := "(III)I" } : Jvm.MethodName)) ∈ gm_G := gm_inG (List.mem_of_getElem? (i := 1084) (by decide +kernel)) (by decide +kernel)
theorem gw_1085 : (Jvm.Cond.code ({ cls := "GumBubbleModel", name := "set", desc := "(III)I" } : Jvm.MethodName) prog_14_method_35_code (6 : Nat) (Option.some Jvm.ClassFile.FieldType.int)) ∈ gm_G := gm_inG (List.mem_of_getElem? (i := 1085) (by decide +kernel)) (by decide +kernel)
theorem gw_1086 : (Jvm.Cond.methodLink "GumBubbleLaw" (44 : Nat) ({ cls := "GumBubbleModel", name := "told", desc := "(I)I" } : Jvm.MethodName)) ∈ gm_G := gm_inG (List.mem_of_getElem? (i := 1086) (by decide +kernel)) (by decide +kernel)
theorem gw_1087 : (Jvm.Cond.instanceMethod ({ cls := "GumBubbleModel", name := "told", desc := "(I)I" } : Jvm.MethodName)) ∈ gm_G := gm_inG (List.mem_of_getElem? (i := 1087) (by decide +kernel)) (by decide +kernel)
theorem gw_1088 : (Jvm.Cond.selects "GumBubbleModel" ({ cls := "GumBubbleModel", name := "told", desc := "(I)I" } : Jvm.MethodName) ({ cls := "GumBubbleModel", name := "told", desc := "(I)I" } : Jvm.MethodName)) ∈ gm_G := gm_inG (List.mem_of_getElem? (i := 1088) (by decide +kernel)) (by decide +kernel)
theorem gw_1089 : (Jvm.Cond.code ({ cls := "GumBubbleModel", name := "told", desc := "(I)I" } : Jvm.MethodName) prog_14_method_36_code (2 : Nat) (Option.some Jvm.ClassFile.FieldType.int)) ∈ gm_G := gm_inG (List.mem_of_getElem? (i := 1089) (by decide +kernel)) (by decide +kernel)
theorem gw_1090 : (Jvm.Cond.methodLink "GumBubbleModel" (164 : Nat) ({ cls := "GumBubbleModel", name := "allHold", desc := "()I" } : Jvm.MethodName)) ∈ gm_G := gm_inG (List.mem_of_getElem? (i := 1090) (by decide +kernel)) (by decide +kernel)
theorem gw_1092 : (Jvm.Cond.instanceMethod ({ cls := "GumBubbleModel", name := "allHold", desc := "()I" } : Jvm.MethodName)) ∈ gm_G := gm_inG (List.mem_of_getElem? (i := 1092) (by decide +kernel)) (by decide +kernel)
theorem gw_1093 : (Jvm.Cond.code ({ cls := "GumBubbleModel", name := "allHold", desc := "()I" } : Jvm.MethodName) prog_14_method_31_code (3 : Nat) (Option.some Jvm.ClassFile.FieldType.int)) ∈ gm_G := gm_inG (List.mem_of_getElem? (i := 1093) (by decide +kernel)) (by decide +kernel)
theorem gw_1094 : (Jvm.Cond.methodLink "GumBubbleModel" (167 : Nat) ({ cls := "GumBubbleModel", name := "bubbles", desc := "()I" } : Jvm.MethodName)) ∈ gm_G := gm_inG (List.mem_of_getElem? (i := 1094) (by decide +kernel)) (by decide +kernel)
theorem gw_1096 : (Jvm.Cond.instanceMethod ({ cls := "GumBubbleModel", name := "bubbles", desc := "()I" } : Jvm.MethodName)) ∈ gm_G := gm_inG (List.mem_of_getElem? (i := 1096) (by decide +kernel)) (by decide +kernel)
theorem gw_1097 : (Jvm.Cond.code ({ cls := "GumBubbleModel", name := "bubbles", desc := "()I" } : Jvm.MethodName) prog_14_method_37_code (3 : Nat) (Option.some Jvm.ClassFile.FieldType.int)) ∈ gm_G := gm_inG (List.mem_of_getElem? (i := 1097) (by decide +kernel)) (by decide +kernel)
theorem gw_1098 : (Jvm.Cond.methodLink "GumBubbleLaw" (48 : Nat) ({ cls := "GumBubbleModel", name := "blow", desc := "(II)I" } : Jvm.MethodName)) ∈ gm_G := gm_inG (List.mem_of_getElem? (i := 1098) (by decide +kernel)) (by decide +kernel)
theorem gw_1099 : (Jvm.Cond.instanceMethod ({ cls := "GumBubbleModel", name := "blow", desc := "(II)I" } : Jvm.MethodName)) ∈ gm_G := gm_inG (List.mem_of_getElem? (i := 1099) (by decide +kernel)) (by decide +kernel)
theorem gw_1100 : (Jvm.Cond.selects "GumBubbleModel" ({ cls := "GumBubbleModel", name := "blow", desc := "(II)I" } : Jvm.MethodName) ({ cls := "GumBubbleModel", name := "blow", desc := "(II)I" } : Jvm.MethodName)) ∈ gm_G := gm_inG (List.mem_of_getElem? (i := 1100) (by decide +kernel)) (by decide +kernel)
theorem gw_1101 : (Jvm.Cond.code ({ cls := "GumBubbleModel", name := "blow", desc := "(II)I" } : Jvm.MethodName) prog_14_method_39_code (3 : Nat) (Option.some Jvm.ClassFile.FieldType.int)) ∈ gm_G := gm_inG (List.mem_of_getElem? (i := 1101) (by decide +kernel)) (by decide +kernel)
theorem gw_1102 : (Jvm.Cond.methodLink "GumBubbleModel" (170 : Nat) ({ cls := "GumBubbleModel", name := "blows", desc := "(II)Z" } : Jvm.MethodName)) ∈ gm_G := gm_inG (List.mem_of_getElem? (i := 1102) (by decide +kernel)) (by decide +kernel)
theorem gw_1104 : (Jvm.Cond.instanceMethod ({ cls := "GumBubbleModel", name := "blows", desc := "(II)Z" } : Jvm.MethodName)) ∈ gm_G := gm_inG (List.mem_of_getElem? (i := 1104) (by decide +kernel)) (by decide +kernel)
theorem gw_1105 : (Jvm.Cond.code ({ cls := "GumBubbleModel", name := "blows", desc := "(II)Z" } : Jvm.MethodName) prog_14_method_38_code (3 : Nat) (Option.some Jvm.ClassFile.FieldType.boolean)) ∈ gm_G := gm_inG (List.mem_of_getElem? (i := 1105) (by decide +kernel)) (by decide +kernel)
theorem gw_1106 : (Jvm.Cond.methodLink "GumBubbleLaw" (52 : Nat) ({ cls := "GumBubbleModel", name := "pass", desc := "(I)I" } : Jvm.MethodName)) ∈ gm_G := gm_inG (List.mem_of_getElem? (i := 1106) (by decide +kernel)) (by decide +kernel)
theorem gw_1107 : (Jvm.Cond.instanceMethod ({ cls := "GumBubbleModel", name := "pass", desc := "(I)I" } : Jvm.MethodName)) ∈ gm_G := gm_inG (List.mem_of_getElem? (i := 1107) (by decide +kernel)) (by decide +kernel)
theorem gw_1108 : (Jvm.Cond.selects "GumBubbleModel" ({ cls := "GumBubbleModel", name := "pass", desc := "(I)I" } : Jvm.MethodName) ({ cls := "GumBubbleModel", name := "pass", desc := "(I)I" } : Jvm.MethodName)) ∈ gm_G := gm_inG (List.mem_of_getElem? (i := 1108) (by decide +kernel)) (by decide +kernel)
theorem gw_1109 : (Jvm.Cond.code ({ cls := "GumBubbleModel", name := "pass", desc := "(I)I" } : Jvm.MethodName) prog_14_method_44_code (2 : Nat) (Option.some Jvm.ClassFile.FieldType.int)) ∈ gm_G := gm_inG (List.mem_of_getElem? (i := 1109) (by decide +kernel)) (by decide +kernel)
theorem gw_1110 : (Jvm.Cond.methodLink "GumBubbleModel" (180 : Nat) ({ cls := "GumBubbleModel", name := "goesOn", desc := "(I)V" } : Jvm.MethodName)) ∈ gm_G := gm_inG (List.mem_of_getElem? (i := 1110) (by decide +kernel)) (by decide +kernel)
theorem gw_1112 : (Jvm.Cond.instanceMethod ({ cls := "GumBubbleModel", name := "goesOn", desc := "(I)V" } : Jvm.MethodName)) ∈ gm_G := gm_inG (List.mem_of_getElem? (i := 1112) (by decide +kernel)) (by decide +kernel)
theorem gw_1113 : (Jvm.Cond.code ({ cls := "GumBubbleModel", name := "goesOn", desc := "(I)V" } : Jvm.MethodName) prog_14_method_42_code (3 : Nat) (Option.none : Option Jvm.ClassFile.FieldType)) ∈ gm_G := gm_inG (List.mem_of_getElem? (i := 1113) (by decide +kernel)) (by decide +kernel)
theorem gw_1114 : (Jvm.Cond.methodLink "GumBubbleModel" (177 : Nat) ({ cls := "GumBubbleModel", name := "goes", desc := "()V" } : Jvm.MethodName)) ∈ gm_G := gm_inG (List.mem_of_getElem? (i := 1114) (by decide +kernel)) (by decide +kernel)
theorem gw_1116 : (Jvm.Cond.instanceMethod ({ cls := "GumBubbleModel", name := "goes", desc := "()V" } : Jvm.MethodName)) ∈ gm_G := gm_inG (List.mem_of_getElem? (i := 1116) (by decide +kernel)) (by decide +kernel)
theorem gw_1117 : (Jvm.Cond.code ({ cls := "GumBubbleModel", name := "goes", desc := "()V" } : Jvm.MethodName) prog_14_method_41_code (2 : Nat) (Option.none : Option Jvm.ClassFile.FieldType)) ∈ gm_G := gm_inG (List.mem_of_getElem? (i := 1117) (by decide +kernel)) (by decide +kernel)
theorem gw_1118 : (Jvm.Cond.methodLink "GumBubbleModel" (174 : Nat) ({ cls := "GumBubbleModel", name := "goesFor", desc := "(I)V" } : Jvm.MethodName)) ∈ gm_G := gm_inG (List.mem_of_getElem? (i := 1118) (by decide +kernel)) (by decide +kernel)
theorem gw_1120 : (Jvm.Cond.instanceMethod ({ cls := "GumBubbleModel", name := "goesFor", desc := "(I)V" } : Jvm.MethodName)) ∈ gm_G := gm_inG (List.mem_of_getElem? (i := 1120) (by decide +kernel)) (by decide +kernel)
theorem gw_1121 : (Jvm.Cond.code ({ cls := "GumBubbleModel", name := "goesFor", desc := "(I)V" } : Jvm.MethodName) prog_14_method_40_code (3 : Nat) (Option.none : Option Jvm.ClassFile.FieldType)) ∈ gm_G := gm_inG (List.mem_of_getElem? (i := 1121) (by decide +kernel)) (by decide +kernel)
theorem gw_1122 : (Jvm.Cond.methodLink "GumBubbleLaw" (56 : Nat) ({ cls := "GumBubbleModel", name := "on", desc := "(II)I" } : Jvm.MethodName)) ∈ gm_G := gm_inG (List.mem_of_getElem? (i := 1122) (by decide +kernel)) (by decide +kernel)
theorem gw_1123 : (Jvm.Cond.instanceMethod ({ cls := "GumBubbleModel", name := "on", desc := "(II)I" } : Jvm.MethodName)) ∈ gm_G := gm_inG (List.mem_of_getElem? (i := 1123) (by decide +kernel)) (by decide +kernel)
theorem gw_1124 : (Jvm.Cond.selects "GumBubbleModel" ({ cls := "GumBubbleModel", name := "on", desc := "(II)I" } : Jvm.MethodName) ({ cls := "GumBubbleModel", name := "on", desc := "(II)I" } : Jvm.MethodName)) ∈ gm_G := gm_inG (List.mem_of_getElem? (i := 1124) (by decide +kernel)) (by decide +kernel)
theorem gw_1125 : (Jvm.Cond.code ({ cls := "GumBubbleModel", name := "on", desc := "(II)I" } : Jvm.MethodName) prog_14_method_45_code (4 : Nat) (Option.some Jvm.ClassFile.FieldType.int)) ∈ gm_G := gm_inG (List.mem_of_getElem? (i := 1125) (by decide +kernel)) (by decide +kernel)
theorem gw_1126 : (Jvm.Cond.methodLink "GumBubbleModel" (183 : Nat) ({ cls := "GumBubbleModel", name := "keeps", desc := "()V" } : Jvm.MethodName)) ∈ gm_G := gm_inG (List.mem_of_getElem? (i := 1126) (by decide +kernel)) (by decide +kernel)
theorem gw_1128 : (Jvm.Cond.instanceMethod ({ cls := "GumBubbleModel", name := "keeps", desc := "()V" } : Jvm.MethodName)) ∈ gm_G := gm_inG (List.mem_of_getElem? (i := 1128) (by decide +kernel)) (by decide +kernel)
theorem gw_1129 : (Jvm.Cond.code ({ cls := "GumBubbleModel", name := "keeps", desc := "()V" } : Jvm.MethodName) prog_14_method_7_code (2 : Nat) (Option.none : Option Jvm.ClassFile.FieldType)) ∈ gm_G := gm_inG (List.mem_of_getElem? (i := 1129) (by decide +kernel)) (by decide +kernel)
theorem gw_1130 : (Jvm.Cond.methodLink "GumBubbleModel" (186 : Nat) ({ cls := "GumBubbleModel", name := "goesBack", desc := "()V" } : Jvm.MethodName)) ∈ gm_G := gm_inG (List.mem_of_getElem? (i := 1130) (by decide +kernel)) (by decide +kernel)
theorem gw_1132 : (Jvm.Cond.instanceMethod ({ cls := "GumBubbleModel", name := "goesBack", desc := "()V" } : Jvm.MethodName)) ∈ gm_G := gm_inG (List.mem_of_getElem? (i := 1132) (by decide +kernel)) (by decide +kernel)
theorem gw_1133 : (Jvm.Cond.code ({ cls := "GumBubbleModel", name := "goesBack", desc := "()V" } : Jvm.MethodName) prog_14_method_8_code (2 : Nat) (Option.none : Option Jvm.ClassFile.FieldType)) ∈ gm_G := gm_inG (List.mem_of_getElem? (i := 1133) (by decide +kernel)) (by decide +kernel)
theorem gw_1134 : (Jvm.Cond.methodLink "GumBubbleLaw" (60 : Nat) ({ cls := "GumBubbleModel", name := "when", desc := "(II)I" } : Jvm.MethodName)) ∈ gm_G := gm_inG (List.mem_of_getElem? (i := 1134) (by decide +kernel)) (by decide +kernel)
theorem gw_1135 : (Jvm.Cond.instanceMethod ({ cls := "GumBubbleModel", name := "when", desc := "(II)I" } : Jvm.MethodName)) ∈ gm_G := gm_inG (List.mem_of_getElem? (i := 1135) (by decide +kernel)) (by decide +kernel)
theorem gw_1136 : (Jvm.Cond.selects "GumBubbleModel" ({ cls := "GumBubbleModel", name := "when", desc := "(II)I" } : Jvm.MethodName) ({ cls := "GumBubbleModel", name := "when", desc := "(II)I" } : Jvm.MethodName)) ∈ gm_G := gm_inG (List.mem_of_getElem? (i := 1136) (by decide +kernel)) (by decide +kernel)
theorem gw_1137 : (Jvm.Cond.code ({ cls := "GumBubbleModel", name := "when", desc := "(II)I" } : Jvm.MethodName) prog_14_method_47_code (3 : Nat) (Option.some Jvm.ClassFile.FieldType.int)) ∈ gm_G := gm_inG (List.mem_of_getElem? (i := 1137) (by decide +kernel)) (by decide +kernel)
theorem gw_1138 : (Jvm.Cond.methodLink "GumBubbleModel" (198 : Nat) ({ cls := "GumBubbleModel", name := "looksForWhen", desc := "(I)V" } : Jvm.MethodName)) ∈ gm_G := gm_inG (List.mem_of_getElem? (i := 1138) (by decide +kernel)) (by decide +kernel)
theorem gw_1140 : (Jvm.Cond.instanceMethod ({ cls := "GumBubbleModel", name := "looksForWhen", desc := "(I)V" } : Jvm.MethodName)) ∈ gm_G := gm_inG (List.mem_of_getElem? (i := 1140) (by decide +kernel)) (by decide +kernel)
theorem gw_1141 : (Jvm.Cond.code ({ cls := "GumBubbleModel", name := "looksForWhen", desc := "(I)V" } : Jvm.MethodName) prog_14_method_46_code (4 : Nat) (Option.none : Option Jvm.ClassFile.FieldType)) ∈ gm_G := gm_inG (List.mem_of_getElem? (i := 1141) (by decide +kernel)) (by decide +kernel)
theorem gw_1142 : (Jvm.Cond.methodLink "GumBubbleModel" (195 : Nat) ({ cls := "GumBubbleModel", name := "goesAlone", desc := "(I)V" } : Jvm.MethodName)) ∈ gm_G := gm_inG (List.mem_of_getElem? (i := 1142) (by decide +kernel)) (by decide +kernel)
theorem gw_1144 : (Jvm.Cond.instanceMethod ({ cls := "GumBubbleModel", name := "goesAlone", desc := "(I)V" } : Jvm.MethodName)) ∈ gm_G := gm_inG (List.mem_of_getElem? (i := 1144) (by decide +kernel)) (by decide +kernel)
theorem gw_1145 : (Jvm.Cond.code ({ cls := "GumBubbleModel", name := "goesAlone", desc := "(I)V" } : Jvm.MethodName) prog_14_method_43_code (2 : Nat) (Option.none : Option Jvm.ClassFile.FieldType)) ∈ gm_G := gm_inG (List.mem_of_getElem? (i := 1145) (by decide +kernel)) (by decide +kernel)
theorem gw_1146 : (Jvm.Cond.methodLink "GumBubbleLaw" (64 : Nat) ({ cls := "GumBubbleModel", name := "soon", desc := "(II)I" } : Jvm.MethodName)) ∈ gm_G := gm_inG (List.mem_of_getElem? (i := 1146) (by decide +kernel)) (by decide +kernel)
theorem gw_1147 : (Jvm.Cond.instanceMethod ({ cls := "GumBubbleModel", name := "soon", desc := "(II)I" } : Jvm.MethodName)) ∈ gm_G := gm_inG (List.mem_of_getElem? (i := 1147) (by decide +kernel)) (by decide +kernel)
theorem gw_1148 : (Jvm.Cond.selects "GumBubbleModel" ({ cls := "GumBubbleModel", name := "soon", desc := "(II)I" } : Jvm.MethodName) ({ cls := "GumBubbleModel", name := "soon", desc := "(II)I" } : Jvm.MethodName)) ∈ gm_G := gm_inG (List.mem_of_getElem? (i := 1148) (by decide +kernel)) (by decide +kernel)
theorem gw_1149 : (Jvm.Cond.code ({ cls := "GumBubbleModel", name := "soon", desc := "(II)I" } : Jvm.MethodName) prog_14_method_48_code (5 : Nat) (Option.some Jvm.ClassFile.FieldType.int)) ∈ gm_G := gm_inG (List.mem_of_getElem? (i := 1149) (by decide +kernel)) (by decide +kernel)
theorem gw_1150 : (Jvm.Cond.methodLink "GumBubbleLaw" (68 : Nat) ({ cls := "GumBubbleModel", name := "pieces", desc := "(II)I" } : Jvm.MethodName)) ∈ gm_G := gm_inG (List.mem_of_getElem? (i := 1150) (by decide +kernel)) (by decide +kernel)
theorem gw_1151 : (Jvm.Cond.instanceMethod ({ cls := "GumBubbleModel", name := "pieces", desc := "(II)I" } : Jvm.MethodName)) ∈ gm_G := gm_inG (List.mem_of_getElem? (i := 1151) (by decide +kernel)) (by decide +kernel)
theorem gw_1152 : (Jvm.Cond.selects "GumBubbleModel" ({ cls := "GumBubbleModel", name := "pieces", desc := "(II)I" } : Jvm.MethodName) ({ cls := "GumBubbleModel", name := "pieces", desc := "(II)I" } : Jvm.MethodName)) ∈ gm_G := gm_inG (List.mem_of_getElem? (i := 1152) (by decide +kernel)) (by decide +kernel)
theorem gw_1153 : (Jvm.Cond.code ({ cls := "GumBubbleModel", name := "pieces", desc := "(II)I" } : Jvm.MethodName) prog_14_method_49_code (6 : Nat) (Option.some Jvm.ClassFile.FieldType.int)) ∈ gm_G := gm_inG (List.mem_of_getElem? (i := 1153) (by decide +kernel)) (by decide +kernel)
theorem gw_1154 : (Jvm.Cond.methodLink "GumBubbleLaw" (72 : Nat) ({ cls := "GumBubbleModel", name := "breaths", desc := "(II)I" } : Jvm.MethodName)) ∈ gm_G := gm_inG (List.mem_of_getElem? (i := 1154) (by decide +kernel)) (by decide +kernel)
theorem gw_1155 : (Jvm.Cond.instanceMethod ({ cls := "GumBubbleModel", name := "breaths", desc := "(II)I" } : Jvm.MethodName)) ∈ gm_G := gm_inG (List.mem_of_getElem? (i := 1155) (by decide +kernel)) (by decide +kernel)
theorem gw_1156 : (Jvm.Cond.selects "GumBubbleModel" ({ cls := "GumBubbleModel", name := "breaths", desc := "(II)I" } : Jvm.MethodName) ({ cls := "GumBubbleModel", name := "breaths", desc := "(II)I" } : Jvm.MethodName)) ∈ gm_G := gm_inG (List.mem_of_getElem? (i := 1156) (by decide +kernel)) (by decide +kernel)
theorem gw_1157 : (Jvm.Cond.code ({ cls := "GumBubbleModel", name := "breaths", desc := "(II)I" } : Jvm.MethodName) prog_14_method_51_code (3 : Nat) (Option.some Jvm.ClassFile.FieldType.int)) ∈ gm_G := gm_inG (List.mem_of_getElem? (i := 1157) (by decide +kernel)) (by decide +kernel)
theorem gw_1158 : (Jvm.Cond.methodLink "GumBubbleModel" (201 : Nat) ({ cls := "GumBubbleModel", name := "slackOf", desc := "(I)I" } : Jvm.MethodName)) ∈ gm_G := gm_inG (List.mem_of_getElem? (i := 1158) (by decide +kernel)) (by decide +kernel)
theorem gw_1160 : (Jvm.Cond.instanceMethod ({ cls := "GumBubbleModel", name := "slackOf", desc := "(I)I" } : Jvm.MethodName)) ∈ gm_G := gm_inG (List.mem_of_getElem? (i := 1160) (by decide +kernel)) (by decide +kernel)
theorem gw_1161 : (Jvm.Cond.code ({ cls := "GumBubbleModel", name := "slackOf", desc := "(I)I" } : Jvm.MethodName) prog_14_method_50_code (2 : Nat) (Option.some Jvm.ClassFile.FieldType.int)) ∈ gm_G := gm_inG (List.mem_of_getElem? (i := 1161) (by decide +kernel)) (by decide +kernel)
theorem gw_1162 : (Jvm.Cond.methodLink "GumBubbleLaw" (76 : Nat) ({ cls := "GumBubbleModel", name := "slack", desc := "(I)I" } : Jvm.MethodName)) ∈ gm_G := gm_inG (List.mem_of_getElem? (i := 1162) (by decide +kernel)) (by decide +kernel)
theorem gw_1163 : (Jvm.Cond.instanceMethod ({ cls := "GumBubbleModel", name := "slack", desc := "(I)I" } : Jvm.MethodName)) ∈ gm_G := gm_inG (List.mem_of_getElem? (i := 1163) (by decide +kernel)) (by decide +kernel)
theorem gw_1164 : (Jvm.Cond.selects "GumBubbleModel" ({ cls := "GumBubbleModel", name := "slack", desc := "(I)I" } : Jvm.MethodName) ({ cls := "GumBubbleModel", name := "slack", desc := "(I)I" } : Jvm.MethodName)) ∈ gm_G := gm_inG (List.mem_of_getElem? (i := 1164) (by decide +kernel)) (by decide +kernel)
theorem gw_1165 : (Jvm.Cond.code ({ cls := "GumBubbleModel", name := "slack", desc := "(I)I" } : Jvm.MethodName) prog_14_method_52_code (2 : Nat) (Option.some Jvm.ClassFile.FieldType.int)) ∈ gm_G := gm_inG (List.mem_of_getElem? (i := 1165) (by decide +kernel)) (by decide +kernel)
theorem gw_1166 : (Jvm.Cond.methodLink "GumBubbleLaw" (81 : Nat) ({ cls := "GumBubbleModel", name := "likely", desc := "(III)J" } : Jvm.MethodName)) ∈ gm_G := gm_inG (List.mem_of_getElem? (i := 1166) (by decide +kernel)) (by decide +kernel)
theorem gw_1167 : (Jvm.Cond.instanceMethod ({ cls := "GumBubbleModel", name := "likely", desc := "(III)J" } : Jvm.MethodName)) ∈ gm_G := gm_inG (List.mem_of_getElem? (i := 1167) (by decide +kernel)) (by decide +kernel)
theorem gw_1168 : (Jvm.Cond.selects "GumBubbleModel" ({ cls := "GumBubbleModel", name := "likely", desc := "(III)J" } : Jvm.MethodName) ({ cls := "GumBubbleModel", name := "likely", desc := "(III)J" } : Jvm.MethodName)) ∈ gm_G := gm_inG (List.mem_of_getElem? (i := 1168) (by decide +kernel)) (by decide +kernel)
theorem gw_1169 : (Jvm.Cond.code ({ cls := "GumBubbleModel", name := "likely", desc := "(III)J" } : Jvm.MethodName) prog_14_method_56_code (4 : Nat) (Option.some Jvm.ClassFile.FieldType.long)) ∈ gm_G := gm_inG (List.mem_of_getElem? (i := 1169) (by decide +kernel)) (by decide +kernel)
theorem gw_1170 : (Jvm.Cond.constantLong "GumBubbleModel" (207 : Nat) (-9223372036854775808 : Int64)) ∈ gm_G := gm_inG (List.mem_of_getElem? (i := 1170) (by decide +kernel)) (by decide +kernel)
theorem gw_1171 : (Jvm.Cond.methodLink "GumBubbleModel" (209 : Nat) ({ cls := "GumBubbleModel", name := "likelyOf", desc := "(II)I" } : Jvm.MethodName)) ∈ gm_G := gm_inG (List.mem_of_getElem? (i := 1171) (by decide +kernel)) (by decide +kernel)
theorem gw_1172 : (Jvm.Cond.static ({ cls := "GumBubbleModel", name := "likelyOf", desc := "(II)I" } : Jvm.MethodName)) ∈ gm_G := gm_inG (List.mem_of_getElem? (i := 1172) (by decide +kernel)) (by decide +kernel)
theorem gw_1173 : (Jvm.Cond.code ({ cls := "GumBubbleModel", name := "likelyOf", desc := "(II)I" } : Jvm.MethodName) prog_14_method_55_code (4 : Nat) (Option.some Jvm.ClassFile.FieldType.int)) ∈ gm_G := gm_inG (List.mem_of_getElem? (i := 1173) (by decide +kernel)) (by decide +kernel)
theorem gw_1174 : (Jvm.Cond.methodLink "GumBubbleModel" (204 : Nat) ({ cls := "GumBubbleModel", name := "thin", desc := "(II)I" } : Jvm.MethodName)) ∈ gm_G := gm_inG (List.mem_of_getElem? (i := 1174) (by decide +kernel)) (by decide +kernel)
theorem gw_1175 : (Jvm.Cond.static ({ cls := "GumBubbleModel", name := "thin", desc := "(II)I" } : Jvm.MethodName)) ∈ gm_G := gm_inG (List.mem_of_getElem? (i := 1175) (by decide +kernel)) (by decide +kernel)
theorem gw_1176 : (Jvm.Cond.code ({ cls := "GumBubbleModel", name := "thin", desc := "(II)I" } : Jvm.MethodName) prog_14_method_54_code (2 : Nat) (Option.some Jvm.ClassFile.FieldType.int)) ∈ gm_G := gm_inG (List.mem_of_getElem? (i := 1176) (by decide +kernel)) (by decide +kernel)
theorem gw_1177 : (Jvm.Cond.constantLong "GumBubbleModel" (212 : Nat) (10 : Int64)) ∈ gm_G := gm_inG (List.mem_of_getElem? (i := 1177) (by decide +kernel)) (by decide +kernel)
theorem gw_1178 : (Jvm.Cond.methodLink "GumBubbleModel" (214 : Nat) ({ cls := "GumBubbleModel", name := "lowest", desc := "(JJI)J" } : Jvm.MethodName)) ∈ gm_G := gm_inG (List.mem_of_getElem? (i := 1178) (by decide +kernel)) (by decide +kernel)
theorem gw_1179 : (Jvm.Cond.static ({ cls := "GumBubbleModel", name := "lowest", desc := "(JJI)J" } : Jvm.MethodName)) ∈ gm_G := gm_inG (List.mem_of_getElem? (i := 1179) (by decide +kernel)) (by decide +kernel)
theorem gw_1180 : (Jvm.Cond.code ({ cls := "GumBubbleModel", name := "lowest", desc := "(JJI)J" } : Jvm.MethodName) prog_14_method_53_code (11 : Nat) (Option.some Jvm.ClassFile.FieldType.long)) ∈ gm_G := gm_inG (List.mem_of_getElem? (i := 1180) (by decide +kernel)) (by decide +kernel)
theorem gw_1181 : (Jvm.Cond.methodLink "GumBubbleLaw" (85 : Nat) ({ cls := "GumBubbleModel", name := "dare", desc := "(I)I" } : Jvm.MethodName)) ∈ gm_G := gm_inG (List.mem_of_getElem? (i := 1181) (by decide +kernel)) (by decide +kernel)
theorem gw_1182 : (Jvm.Cond.instanceMethod ({ cls := "GumBubbleModel", name := "dare", desc := "(I)I" } : Jvm.MethodName)) ∈ gm_G := gm_inG (List.mem_of_getElem? (i := 1182) (by decide +kernel)) (by decide +kernel)
theorem gw_1183 : (Jvm.Cond.selects "GumBubbleModel" ({ cls := "GumBubbleModel", name := "dare", desc := "(I)I" } : Jvm.MethodName) ({ cls := "GumBubbleModel", name := "dare", desc := "(I)I" } : Jvm.MethodName)) ∈ gm_G := gm_inG (List.mem_of_getElem? (i := 1183) (by decide +kernel)) (by decide +kernel)
theorem gw_1184 : (Jvm.Cond.code ({ cls := "GumBubbleModel", name := "dare", desc := "(I)I" } : Jvm.MethodName) prog_14_method_57_code (7 : Nat) (Option.some Jvm.ClassFile.FieldType.int)) ∈ gm_G := gm_inG (List.mem_of_getElem? (i := 1184) (by decide +kernel)) (by decide +kernel)
theorem gw_1185 : (Jvm.Cond.methodLink "GumBubbleLaw" (89 : Nat) ({ cls := "GumBubbleModel", name := "first", desc := "()I" } : Jvm.MethodName)) ∈ gm_G := gm_inG (List.mem_of_getElem? (i := 1185) (by decide +kernel)) (by decide +kernel)
theorem gw_1186 : (Jvm.Cond.instanceMethod ({ cls := "GumBubbleModel", name := "first", desc := "()I" } : Jvm.MethodName)) ∈ gm_G := gm_inG (List.mem_of_getElem? (i := 1186) (by decide +kernel)) (by decide +kernel)
theorem gw_1187 : (Jvm.Cond.selects "GumBubbleModel" ({ cls := "GumBubbleModel", name := "first", desc := "()I" } : Jvm.MethodName) ({ cls := "GumBubbleModel", name := "first", desc := "()I" } : Jvm.MethodName)) ∈ gm_G := gm_inG (List.mem_of_getElem? (i := 1187) (by decide +kernel)) (by decide +kernel)
theorem gw_1188 : (Jvm.Cond.code ({ cls := "GumBubbleModel", name := "first", desc := "()I" } : Jvm.MethodName) prog_14_method_58_code (5 : Nat) (Option.some Jvm.ClassFile.FieldType.int)) ∈ gm_G := gm_inG (List.mem_of_getElem? (i := 1188) (by decide +kernel)) (by decide +kernel)
theorem gw_1189 : (Jvm.Cond.methodLink "GumBubbleLaw" (93 : Nat) ({ cls := "GumBubbleModel", name := "beats", desc := "(III)J" } : Jvm.MethodName)) ∈ gm_G := gm_inG (List.mem_of_getElem? (i := 1189) (by decide +kernel)) (by decide +kernel)
theorem gw_1190 : (Jvm.Cond.instanceMethod ({ cls := "GumBubbleModel", name := "beats", desc := "(III)J" } : Jvm.MethodName)) ∈ gm_G := gm_inG (List.mem_of_getElem? (i := 1190) (by decide +kernel)) (by decide +kernel)
theorem gw_1191 : (Jvm.Cond.selects "GumBubbleModel" ({ cls := "GumBubbleModel", name := "beats", desc := "(III)J" } : Jvm.MethodName) ({ cls := "GumBubbleModel", name := "beats", desc := "(III)J" } : Jvm.MethodName)) ∈ gm_G := gm_inG (List.mem_of_getElem? (i := 1191) (by decide +kernel)) (by decide +kernel)
theorem gw_1192 : (Jvm.Cond.code ({ cls := "GumBubbleModel", name := "beats", desc := "(III)J" } : Jvm.MethodName) prog_14_method_59_code (10 : Nat) (Option.some Jvm.ClassFile.FieldType.long)) ∈ gm_G := gm_inG (List.mem_of_getElem? (i := 1192) (by decide +kernel)) (by decide +kernel)
theorem gw_1193 : (Jvm.Cond.constantLong "GumBubbleModel" (218 : Nat) (100 : Int64)) ∈ gm_G := gm_inG (List.mem_of_getElem? (i := 1193) (by decide +kernel)) (by decide +kernel)
theorem gw_1194 : (Jvm.Cond.methodLink "GumBubbleLaw" (97 : Nat) ({ cls := "GumBubbleModel", name := "swap", desc := "()I" } : Jvm.MethodName)) ∈ gm_G := gm_inG (List.mem_of_getElem? (i := 1194) (by decide +kernel)) (by decide +kernel)
theorem gw_1195 : (Jvm.Cond.instanceMethod ({ cls := "GumBubbleModel", name := "swap", desc := "()I" } : Jvm.MethodName)) ∈ gm_G := gm_inG (List.mem_of_getElem? (i := 1195) (by decide +kernel)) (by decide +kernel)
theorem gw_1196 : (Jvm.Cond.selects "GumBubbleModel" ({ cls := "GumBubbleModel", name := "swap", desc := "()I" } : Jvm.MethodName) ({ cls := "GumBubbleModel", name := "swap", desc := "()I" } : Jvm.MethodName)) ∈ gm_G := gm_inG (List.mem_of_getElem? (i := 1196) (by decide +kernel)) (by decide +kernel)
theorem gw_1197 : (Jvm.Cond.code ({ cls := "GumBubbleModel", name := "swap", desc := "()I" } : Jvm.MethodName) prog_14_method_62_code (6 : Nat) (Option.some Jvm.ClassFile.FieldType.int)) ∈ gm_G := gm_inG (List.mem_of_getElem? (i := 1197) (by decide +kernel)) (by decide +kernel)
theorem gw_1198 : (Jvm.Cond.methodLink "GumBubbleModel" (224 : Nat) ({ cls := "GumBubbleModel", name := "swaps", desc := "(II)V" } : Jvm.MethodName)) ∈ gm_G := gm_inG (List.mem_of_getElem? (i := 1198) (by decide +kernel)) (by decide +kernel)
theorem gw_1200 : (Jvm.Cond.instanceMethod ({ cls := "GumBubbleModel", name := "swaps", desc := "(II)V" } : Jvm.MethodName)) ∈ gm_G := gm_inG (List.mem_of_getElem? (i := 1200) (by decide +kernel)) (by decide +kernel)
theorem gw_1201 : (Jvm.Cond.code ({ cls := "GumBubbleModel", name := "swaps", desc := "(II)V" } : Jvm.MethodName) prog_14_method_61_code (3 : Nat) (Option.none : Option Jvm.ClassFile.FieldType)) ∈ gm_G := gm_inG (List.mem_of_getElem? (i := 1201) (by decide +kernel)) (by decide +kernel)
theorem gw_1202 : (Jvm.Cond.methodLink "GumBubbleModel" (220 : Nat) ({ cls := "GumBubbleModel", name := "swapsAt", desc := "(III)V" } : Jvm.MethodName)) ∈ gm_G := gm_inG (List.mem_of_getElem? (i := 1202) (by decide +kernel)) (by decide +kernel)
theorem gw_1204 : (Jvm.Cond.instanceMethod ({ cls := "GumBubbleModel", name := "swapsAt", desc := "(III)V" } : Jvm.MethodName)) ∈ gm_G := gm_inG (List.mem_of_getElem? (i := 1204) (by decide +kernel)) (by decide +kernel)
theorem gw_1205 : (Jvm.Cond.code ({ cls := "GumBubbleModel", name := "swapsAt", desc := "(III)V" } : Jvm.MethodName) prog_14_method_60_code (5 : Nat) (Option.none : Option Jvm.ClassFile.FieldType)) ∈ gm_G := gm_inG (List.mem_of_getElem? (i := 1205) (by decide +kernel)) (by decide +kernel)
theorem gw_1206 : (Jvm.Cond.methodLink "GumBubbleLaw" (101 : Nat) ({ cls := "GumBubbleModel", name := "order", desc := "(I)I" } : Jvm.MethodName)) ∈ gm_G := gm_inG (List.mem_of_getElem? (i := 1206) (by decide +kernel)) (by decide +kernel)
theorem gw_1207 : (Jvm.Cond.instanceMethod ({ cls := "GumBubbleModel", name := "order", desc := "(I)I" } : Jvm.MethodName)) ∈ gm_G := gm_inG (List.mem_of_getElem? (i := 1207) (by decide +kernel)) (by decide +kernel)
theorem gw_1208 : (Jvm.Cond.selects "GumBubbleModel" ({ cls := "GumBubbleModel", name := "order", desc := "(I)I" } : Jvm.MethodName) ({ cls := "GumBubbleModel", name := "order", desc := "(I)I" } : Jvm.MethodName)) ∈ gm_G := gm_inG (List.mem_of_getElem? (i := 1208) (by decide +kernel)) (by decide +kernel)
theorem gw_1209 : (Jvm.Cond.code ({ cls := "GumBubbleModel", name := "order", desc := "(I)I" } : Jvm.MethodName) prog_14_method_64_code (4 : Nat) (Option.some Jvm.ClassFile.FieldType.int)) ∈ gm_G := gm_inG (List.mem_of_getElem? (i := 1209) (by decide +kernel)) (by decide +kernel)
theorem gw_1210 : (Jvm.Cond.methodLink "GumBubbleModel" (231 : Nat) ({ cls := "GumBubbleModel", name := "ordersFrom", desc := "(III)V" } : Jvm.MethodName)) ∈ gm_G := gm_inG (List.mem_of_getElem? (i := 1210) (by decide +kernel)) (by decide +kernel)
theorem gw_1212 : (Jvm.Cond.instanceMethod ({ cls := "GumBubbleModel", name := "ordersFrom", desc := "(III)V" } : Jvm.MethodName)) ∈ gm_G := gm_inG (List.mem_of_getElem? (i := 1212) (by decide +kernel)) (by decide +kernel)
theorem gw_1213 : (Jvm.Cond.code ({ cls := "GumBubbleModel", name := "ordersFrom", desc := "(III)V" } : Jvm.MethodName) prog_14_method_63_code (5 : Nat) (Option.none : Option Jvm.ClassFile.FieldType)) ∈ gm_G := gm_inG (List.mem_of_getElem? (i := 1213) (by decide +kernel)) (by decide +kernel)
theorem gw_1214 : (Jvm.Cond.methodLink "GumBubbleLaw" (105 : Nat) ({ cls := "GumBubbleModel", name := "clean", desc := "(II)I" } : Jvm.MethodName)) ∈ gm_G := gm_inG (List.mem_of_getElem? (i := 1214) (by decide +kernel)) (by decide +kernel)
theorem gw_1215 : (Jvm.Cond.instanceMethod ({ cls := "GumBubbleModel", name := "clean", desc := "(II)I" } : Jvm.MethodName)) ∈ gm_G := gm_inG (List.mem_of_getElem? (i := 1215) (by decide +kernel)) (by decide +kernel)
theorem gw_1216 : (Jvm.Cond.selects "GumBubbleModel" ({ cls := "GumBubbleModel", name := "clean", desc := "(II)I" } : Jvm.MethodName) ({ cls := "GumBubbleModel", name := "clean", desc := "(II)I" } : Jvm.MethodName)) ∈ gm_G := gm_inG (List.mem_of_getElem? (i := 1216) (by decide +kernel)) (by decide +kernel)
theorem gw_1217 : (Jvm.Cond.code ({ cls := "GumBubbleModel", name := "clean", desc := "(II)I" } : Jvm.MethodName) prog_14_method_65_code (3 : Nat) (Option.some Jvm.ClassFile.FieldType.int)) ∈ gm_G := gm_inG (List.mem_of_getElem? (i := 1217) (by decide +kernel)) (by decide +kernel)
theorem gw_1218 : (Jvm.Cond.methodLink "GumBubbleLaw" (109 : Nat) ({ cls := "GumBubbleModel", name := "see", desc := "(III)I" } : Jvm.MethodName)) ∈ gm_G := gm_inG (List.mem_of_getElem? (i := 1218) (by decide +kernel)) (by decide +kernel)
theorem gw_1219 : (Jvm.Cond.instanceMethod ({ cls := "GumBubbleModel", name := "see", desc := "(III)I" } : Jvm.MethodName)) ∈ gm_G := gm_inG (List.mem_of_getElem? (i := 1219) (by decide +kernel)) (by decide +kernel)
theorem gw_1220 : (Jvm.Cond.selects "GumBubbleModel" ({ cls := "GumBubbleModel", name := "see", desc := "(III)I" } : Jvm.MethodName) ({ cls := "GumBubbleModel", name := "see", desc := "(III)I" } : Jvm.MethodName)) ∈ gm_G := gm_inG (List.mem_of_getElem? (i := 1220) (by decide +kernel)) (by decide +kernel)
theorem gw_1221 : (Jvm.Cond.code ({ cls := "GumBubbleModel", name := "see", desc := "(III)I" } : Jvm.MethodName) prog_14_method_66_code (4 : Nat) (Option.some Jvm.ClassFile.FieldType.int)) ∈ gm_G := gm_inG (List.mem_of_getElem? (i := 1221) (by decide +kernel)) (by decide +kernel)
theorem gw_1222 : (Jvm.Cond.methodLink "GumBubbleLaw" (113 : Nat) ({ cls := "GumBubbleModel", name := "who", desc := "(II)I" } : Jvm.MethodName)) ∈ gm_G := gm_inG (List.mem_of_getElem? (i := 1222) (by decide +kernel)) (by decide +kernel)
theorem gw_1223 : (Jvm.Cond.instanceMethod ({ cls := "GumBubbleModel", name := "who", desc := "(II)I" } : Jvm.MethodName)) ∈ gm_G := gm_inG (List.mem_of_getElem? (i := 1223) (by decide +kernel)) (by decide +kernel)
theorem gw_1224 : (Jvm.Cond.selects "GumBubbleModel" ({ cls := "GumBubbleModel", name := "who", desc := "(II)I" } : Jvm.MethodName) ({ cls := "GumBubbleModel", name := "who", desc := "(II)I" } : Jvm.MethodName)) ∈ gm_G := gm_inG (List.mem_of_getElem? (i := 1224) (by decide +kernel)) (by decide +kernel)
theorem gw_1225 : (Jvm.Cond.code ({ cls := "GumBubbleModel", name := "who", desc := "(II)I" } : Jvm.MethodName) prog_14_method_69_code (5 : Nat) (Option.some Jvm.ClassFile.FieldType.int)) ∈ gm_G := gm_inG (List.mem_of_getElem? (i := 1225) (by decide +kernel)) (by decide +kernel)
theorem gw_1226 : (Jvm.Cond.methodLink "GumBubbleLaw" (117 : Nat) ({ cls := "GumBubbleModel", name := "firm", desc := "(II)I" } : Jvm.MethodName)) ∈ gm_G := gm_inG (List.mem_of_getElem? (i := 1226) (by decide +kernel)) (by decide +kernel)
theorem gw_1227 : (Jvm.Cond.instanceMethod ({ cls := "GumBubbleModel", name := "firm", desc := "(II)I" } : Jvm.MethodName)) ∈ gm_G := gm_inG (List.mem_of_getElem? (i := 1227) (by decide +kernel)) (by decide +kernel)
theorem gw_1228 : (Jvm.Cond.selects "GumBubbleModel" ({ cls := "GumBubbleModel", name := "firm", desc := "(II)I" } : Jvm.MethodName) ({ cls := "GumBubbleModel", name := "firm", desc := "(II)I" } : Jvm.MethodName)) ∈ gm_G := gm_inG (List.mem_of_getElem? (i := 1228) (by decide +kernel)) (by decide +kernel)
theorem gw_1229 : (Jvm.Cond.code ({ cls := "GumBubbleModel", name := "firm", desc := "(II)I" } : Jvm.MethodName) prog_14_method_70_code (8 : Nat) (Option.some Jvm.ClassFile.FieldType.int)) ∈ gm_G := gm_inG (List.mem_of_getElem? (i := 1229) (by decide +kernel)) (by decide +kernel)
theorem gw_1230 : (Jvm.Cond.methodLink "GumBubbleModel" (237 : Nat) ({ cls := "GumBubbleModel", name := "areAsSeen", desc := "()Z" } : Jvm.MethodName)) ∈ gm_G := gm_inG (List.mem_of_getElem? (i := 1230) (by decide +kernel)) (by decide +kernel)
theorem gw_1232 : (Jvm.Cond.instanceMethod ({ cls := "GumBubbleModel", name := "areAsSeen", desc := "()Z" } : Jvm.MethodName)) ∈ gm_G := gm_inG (List.mem_of_getElem? (i := 1232) (by decide +kernel)) (by decide +kernel)
theorem gw_1233 : (Jvm.Cond.code ({ cls := "GumBubbleModel", name := "areAsSeen", desc := "()Z" } : Jvm.MethodName) prog_14_method_68_code (3 : Nat) (Option.some Jvm.ClassFile.FieldType.boolean)) ∈ gm_G := gm_inG (List.mem_of_getElem? (i := 1233) (by decide +kernel)) (by decide +kernel)
theorem gw_1234 : (Jvm.Cond.methodLink "GumBubbleModel" (234 : Nat) ({ cls := "GumBubbleModel", name := "isAsSeen", desc := "(I)Z" } : Jvm.MethodName)) ∈ gm_G := gm_inG (List.mem_of_getElem? (i := 1234) (by decide +kernel)) (by decide +kernel)
theorem gw_1236 : (Jvm.Cond.instanceMethod ({ cls := "GumBubbleModel", name := "isAsSeen", desc := "(I)Z" } : Jvm.MethodName)) ∈ gm_G := gm_inG (List.mem_of_getElem? (i := 1236) (by decide +kernel)) (by decide +kernel)
theorem gw_1237 : (Jvm.Cond.code ({ cls := "GumBubbleModel", name := "isAsSeen", desc := "(I)Z" } : Jvm.MethodName) prog_14_method_67_code (4 : Nat) (Option.some Jvm.ClassFile.FieldType.boolean)) ∈ gm_G := gm_inG (List.mem_of_getElem? (i := 1237) (by decide +kernel)) (by decide +kernel)
theorem gw_1238 : (Jvm.Cond.methodLink "GumBubbleLaw" (121 : Nat) ({ cls := "GumBubbleModel", name := "had", desc := "(I)I" } : Jvm.MethodName)) ∈ gm_G := gm_inG (List.mem_of_getElem? (i := 1238) (by decide +kernel)) (by decide +kernel)
theorem gw_1239 : (Jvm.Cond.instanceMethod ({ cls := "GumBubbleModel", name := "had", desc := "(I)I" } : Jvm.MethodName)) ∈ gm_G := gm_inG (List.mem_of_getElem? (i := 1239) (by decide +kernel)) (by decide +kernel)
theorem gw_1240 : (Jvm.Cond.selects "GumBubbleModel" ({ cls := "GumBubbleModel", name := "had", desc := "(I)I" } : Jvm.MethodName) ({ cls := "GumBubbleModel", name := "had", desc := "(I)I" } : Jvm.MethodName)) ∈ gm_G := gm_inG (List.mem_of_getElem? (i := 1240) (by decide +kernel)) (by decide +kernel)
theorem gw_1241 : (Jvm.Cond.code ({ cls := "GumBubbleModel", name := "had", desc := "(I)I" } : Jvm.MethodName) prog_14_method_71_code (4 : Nat) (Option.some Jvm.ClassFile.FieldType.int)) ∈ gm_G := gm_inG (List.mem_of_getElem? (i := 1241) (by decide +kernel)) (by decide +kernel)
theorem gw_1242 : (Jvm.Cond.methodLink "GumBubbleLaw" (126 : Nat) ({ cls := "GumBubbleModel", name := "mean", desc := "(II)J" } : Jvm.MethodName)) ∈ gm_G := gm_inG (List.mem_of_getElem? (i := 1242) (by decide +kernel)) (by decide +kernel)
theorem gw_1243 : (Jvm.Cond.instanceMethod ({ cls := "GumBubbleModel", name := "mean", desc := "(II)J" } : Jvm.MethodName)) ∈ gm_G := gm_inG (List.mem_of_getElem? (i := 1243) (by decide +kernel)) (by decide +kernel)
theorem gw_1244 : (Jvm.Cond.selects "GumBubbleModel" ({ cls := "GumBubbleModel", name := "mean", desc := "(II)J" } : Jvm.MethodName) ({ cls := "GumBubbleModel", name := "mean", desc := "(II)J" } : Jvm.MethodName)) ∈ gm_G := gm_inG (List.mem_of_getElem? (i := 1244) (by decide +kernel)) (by decide +kernel)
theorem gw_1245 : (Jvm.Cond.code ({ cls := "GumBubbleModel", name := "mean", desc := "(II)J" } : Jvm.MethodName) prog_14_method_72_code (4 : Nat) (Option.some Jvm.ClassFile.FieldType.long)) ∈ gm_G := gm_inG (List.mem_of_getElem? (i := 1245) (by decide +kernel)) (by decide +kernel)
theorem gw_1246 : (Jvm.Cond.methodLink "GumBubbleLaw" (130 : Nat) ({ cls := "GumBubbleModel", name := "plan", desc := "(II)I" } : Jvm.MethodName)) ∈ gm_G := gm_inG (List.mem_of_getElem? (i := 1246) (by decide +kernel)) (by decide +kernel)
theorem gw_1247 : (Jvm.Cond.instanceMethod ({ cls := "GumBubbleModel", name := "plan", desc := "(II)I" } : Jvm.MethodName)) ∈ gm_G := gm_inG (List.mem_of_getElem? (i := 1247) (by decide +kernel)) (by decide +kernel)
theorem gw_1248 : (Jvm.Cond.selects "GumBubbleModel" ({ cls := "GumBubbleModel", name := "plan", desc := "(II)I" } : Jvm.MethodName) ({ cls := "GumBubbleModel", name := "plan", desc := "(II)I" } : Jvm.MethodName)) ∈ gm_G := gm_inG (List.mem_of_getElem? (i := 1248) (by decide +kernel)) (by decide +kernel)
theorem gw_1249 : (Jvm.Cond.code ({ cls := "GumBubbleModel", name := "plan", desc := "(II)I" } : Jvm.MethodName) prog_14_method_73_code (3 : Nat) (Option.some Jvm.ClassFile.FieldType.int)) ∈ gm_G := gm_inG (List.mem_of_getElem? (i := 1249) (by decide +kernel)) (by decide +kernel)
theorem gw_1250 : (Jvm.Cond.methodLink "GumBubbleLaw" (134 : Nat) ({ cls := "GumBubbleModel", name := "done", desc := "(I)I" } : Jvm.MethodName)) ∈ gm_G := gm_inG (List.mem_of_getElem? (i := 1250) (by decide +kernel)) (by decide +kernel)
theorem gw_1251 : (Jvm.Cond.instanceMethod ({ cls := "GumBubbleModel", name := "done", desc := "(I)I" } : Jvm.MethodName)) ∈ gm_G := gm_inG (List.mem_of_getElem? (i := 1251) (by decide +kernel)) (by decide +kernel)
theorem gw_1252 : (Jvm.Cond.selects "GumBubbleModel" ({ cls := "GumBubbleModel", name := "done", desc := "(I)I" } : Jvm.MethodName) ({ cls := "GumBubbleModel", name := "done", desc := "(I)I" } : Jvm.MethodName)) ∈ gm_G := gm_inG (List.mem_of_getElem? (i := 1252) (by decide +kernel)) (by decide +kernel)
theorem gw_1253 : (Jvm.Cond.code ({ cls := "GumBubbleModel", name := "done", desc := "(I)I" } : Jvm.MethodName) prog_14_method_76_code (4 : Nat) (Option.some Jvm.ClassFile.FieldType.int)) ∈ gm_G := gm_inG (List.mem_of_getElem? (i := 1253) (by decide +kernel)) (by decide +kernel)
theorem gw_1254 : (Jvm.Cond.methodLink "GumBubbleModel" (241 : Nat) ({ cls := "GumBubbleModel", name := "allOf", desc := "(I)I" } : Jvm.MethodName)) ∈ gm_G := gm_inG (List.mem_of_getElem? (i := 1254) (by decide +kernel)) (by decide +kernel)
theorem gw_1256 : (Jvm.Cond.instanceMethod ({ cls := "GumBubbleModel", name := "allOf", desc := "(I)I" } : Jvm.MethodName)) ∈ gm_G := gm_inG (List.mem_of_getElem? (i := 1256) (by decide +kernel)) (by decide +kernel)
theorem gw_1257 : (Jvm.Cond.code ({ cls := "GumBubbleModel", name := "allOf", desc := "(I)I" } : Jvm.MethodName) prog_14_method_75_code (4 : Nat) (Option.some Jvm.ClassFile.FieldType.int)) ∈ gm_G := gm_inG (List.mem_of_getElem? (i := 1257) (by decide +kernel)) (by decide +kernel)
theorem gw_1258 : (Jvm.Cond.methodLink "GumBubbleModel" (244 : Nat) ({ cls := "GumBubbleModel", name := "does", desc := "(II)V" } : Jvm.MethodName)) ∈ gm_G := gm_inG (List.mem_of_getElem? (i := 1258) (by decide +kernel)) (by decide +kernel)
theorem gw_1260 : (Jvm.Cond.instanceMethod ({ cls := "GumBubbleModel", name := "does", desc := "(II)V" } : Jvm.MethodName)) ∈ gm_G := gm_inG (List.mem_of_getElem? (i := 1260) (by decide +kernel)) (by decide +kernel)
theorem gw_1261 : (Jvm.Cond.code ({ cls := "GumBubbleModel", name := "does", desc := "(II)V" } : Jvm.MethodName) prog_14_method_74_code (3 : Nat) (Option.none : Option Jvm.ClassFile.FieldType)) ∈ gm_G := gm_inG (List.mem_of_getElem? (i := 1261) (by decide +kernel)) (by decide +kernel)
theorem gw_1262 : (Jvm.Cond.methodLink "GumBubbleLaw" (138 : Nat) ({ cls := "GumBubbleModel", name := "book", desc := "(II)I" } : Jvm.MethodName)) ∈ gm_G := gm_inG (List.mem_of_getElem? (i := 1262) (by decide +kernel)) (by decide +kernel)
theorem gw_1263 : (Jvm.Cond.instanceMethod ({ cls := "GumBubbleModel", name := "book", desc := "(II)I" } : Jvm.MethodName)) ∈ gm_G := gm_inG (List.mem_of_getElem? (i := 1263) (by decide +kernel)) (by decide +kernel)
theorem gw_1264 : (Jvm.Cond.selects "GumBubbleModel" ({ cls := "GumBubbleModel", name := "book", desc := "(II)I" } : Jvm.MethodName) ({ cls := "GumBubbleModel", name := "book", desc := "(II)I" } : Jvm.MethodName)) ∈ gm_G := gm_inG (List.mem_of_getElem? (i := 1264) (by decide +kernel)) (by decide +kernel)
theorem gw_1265 : (Jvm.Cond.code ({ cls := "GumBubbleModel", name := "book", desc := "(II)I" } : Jvm.MethodName) prog_14_method_77_code (3 : Nat) (Option.some Jvm.ClassFile.FieldType.int)) ∈ gm_G := gm_inG (List.mem_of_getElem? (i := 1265) (by decide +kernel)) (by decide +kernel)
theorem gw_1266 : (Jvm.Cond.methodLink "GumBubbleLaw" (142 : Nat) ({ cls := "GumBubbleModel", name := "looked", desc := "()I" } : Jvm.MethodName)) ∈ gm_G := gm_inG (List.mem_of_getElem? (i := 1266) (by decide +kernel)) (by decide +kernel)
theorem gw_1267 : (Jvm.Cond.instanceMethod ({ cls := "GumBubbleModel", name := "looked", desc := "()I" } : Jvm.MethodName)) ∈ gm_G := gm_inG (List.mem_of_getElem? (i := 1267) (by decide +kernel)) (by decide +kernel)
theorem gw_1268 : (Jvm.Cond.selects "GumBubbleModel" ({ cls := "GumBubbleModel", name := "looked", desc := "()I" } : Jvm.MethodName) ({ cls := "GumBubbleModel", name := "looked", desc := "()I" } : Jvm.MethodName)) ∈ gm_G := gm_inG (List.mem_of_getElem? (i := 1268) (by decide +kernel)) (by decide +kernel)
theorem gw_1269 : (Jvm.Cond.code ({ cls := "GumBubbleModel", name := "looked", desc := "()I" } : Jvm.MethodName) prog_14_method_78_code (2 : Nat) (Option.some Jvm.ClassFile.FieldType.int)) ∈ gm_G := gm_inG (List.mem_of_getElem? (i := 1269) (by decide +kernel)) (by decide +kernel)
theorem gw_1270 : (Jvm.Cond.methodLink "GumBubbleLaw" (146 : Nat) ({ cls := "GumBubbleModel", name := "act", desc := "(III)I" } : Jvm.MethodName)) ∈ gm_G := gm_inG (List.mem_of_getElem? (i := 1270) (by decide +kernel)) (by decide +kernel)
theorem gw_1271 : (Jvm.Cond.instanceMethod ({ cls := "GumBubbleModel", name := "act", desc := "(III)I" } : Jvm.MethodName)) ∈ gm_G := gm_inG (List.mem_of_getElem? (i := 1271) (by decide +kernel)) (by decide +kernel)
theorem gw_1272 : (Jvm.Cond.selects "GumBubbleModel" ({ cls := "GumBubbleModel", name := "act", desc := "(III)I" } : Jvm.MethodName) ({ cls := "GumBubbleModel", name := "act", desc := "(III)I" } : Jvm.MethodName)) ∈ gm_G := gm_inG (List.mem_of_getElem? (i := 1272) (by decide +kernel)) (by decide +kernel)
theorem gw_1273 : (Jvm.Cond.code ({ cls := "GumBubbleModel", name := "act", desc := "(III)I" } : Jvm.MethodName) prog_14_method_87_code (4 : Nat) (Option.some Jvm.ClassFile.FieldType.int)) ∈ gm_G := gm_inG (List.mem_of_getElem? (i := 1273) (by decide +kernel)) (by decide +kernel)
theorem gw_1274 : (Jvm.Cond.methodLink "GumBubbleModel" (265 : Nat) ({ cls := "GumBubbleModel", name := "chewsActs", desc := "(I)I" } : Jvm.MethodName)) ∈ gm_G := gm_inG (List.mem_of_getElem? (i := 1274) (by decide +kernel)) (by decide +kernel)
theorem gw_1276 : (Jvm.Cond.instanceMethod ({ cls := "GumBubbleModel", name := "chewsActs", desc := "(I)I" } : Jvm.MethodName)) ∈ gm_G := gm_inG (List.mem_of_getElem? (i := 1276) (by decide +kernel)) (by decide +kernel)
theorem gw_1277 : (Jvm.Cond.code ({ cls := "GumBubbleModel", name := "chewsActs", desc := "(I)I" } : Jvm.MethodName) prog_14_method_82_code (2 : Nat) (Option.some Jvm.ClassFile.FieldType.int)) ∈ gm_G := gm_inG (List.mem_of_getElem? (i := 1277) (by decide +kernel)) (by decide +kernel)
theorem gw_1278 : (Jvm.Cond.methodLink "GumBubbleModel" (259 : Nat) ({ cls := "GumBubbleModel", name := "isUnder", desc := "(II)Z" } : Jvm.MethodName)) ∈ gm_G := gm_inG (List.mem_of_getElem? (i := 1278) (by decide +kernel)) (by decide +kernel)
theorem gw_1279 : (Jvm.Cond.static ({ cls := "GumBubbleModel", name := "isUnder", desc := "(II)Z" } : Jvm.MethodName)) ∈ gm_G := gm_inG (List.mem_of_getElem? (i := 1279) (by decide +kernel)) (by decide +kernel)
theorem gw_1280 : (Jvm.Cond.code ({ cls := "GumBubbleModel", name := "isUnder", desc := "(II)Z" } : Jvm.MethodName) prog_14_method_80_code (2 : Nat) (Option.some Jvm.ClassFile.FieldType.boolean)) ∈ gm_G := gm_inG (List.mem_of_getElem? (i := 1280) (by decide +kernel)) (by decide +kernel)
theorem gw_1281 : (Jvm.Cond.methodLink "GumBubbleModel" (250 : Nat) ({ cls := "GumBubbleModel", name := "ranBody", desc := "(I)V" } : Jvm.MethodName)) ∈ gm_G := gm_inG (List.mem_of_getElem? (i := 1281) (by decide +kernel)) (by decide +kernel)
theorem gw_1283 : (Jvm.Cond.instanceMethod ({ cls := "GumBubbleModel", name := "ranBody", desc := "(I)V" } : Jvm.MethodName)) ∈ gm_G := gm_inG (List.mem_of_getElem? (i := 1283) (by decide +kernel)) (by decide +kernel)
theorem gw_1284 : (Jvm.Cond.code ({ cls := "GumBubbleModel", name := "ranBody", desc := "(I)V" } : Jvm.MethodName) prog_14_method_79_code (2 : Nat) (Option.none : Option Jvm.ClassFile.FieldType)) ∈ gm_G := gm_inG (List.mem_of_getElem? (i := 1284) (by decide +kernel)) (by decide +kernel)
theorem gw_1285 : (Jvm.Cond.methodLink "GumBubbleModel" (262 : Nat) ({ cls := "GumBubbleModel", name := "plainChews", desc := "(I)I" } : Jvm.MethodName)) ∈ gm_G := gm_inG (List.mem_of_getElem? (i := 1285) (by decide +kernel)) (by decide +kernel)
theorem gw_1287 : (Jvm.Cond.instanceMethod ({ cls := "GumBubbleModel", name := "plainChews", desc := "(I)I" } : Jvm.MethodName)) ∈ gm_G := gm_inG (List.mem_of_getElem? (i := 1287) (by decide +kernel)) (by decide +kernel)
theorem gw_1288 : (Jvm.Cond.code ({ cls := "GumBubbleModel", name := "plainChews", desc := "(I)I" } : Jvm.MethodName) prog_14_method_81_code (2 : Nat) (Option.some Jvm.ClassFile.FieldType.int)) ∈ gm_G := gm_inG (List.mem_of_getElem? (i := 1288) (by decide +kernel)) (by decide +kernel)
theorem gw_1289 : (Jvm.Cond.methodLink "GumBubbleModel" (274 : Nat) ({ cls := "GumBubbleModel", name := "blowsActs", desc := "(I)I" } : Jvm.MethodName)) ∈ gm_G := gm_inG (List.mem_of_getElem? (i := 1289) (by decide +kernel)) (by decide +kernel)
theorem gw_1291 : (Jvm.Cond.instanceMethod ({ cls := "GumBubbleModel", name := "blowsActs", desc := "(I)I" } : Jvm.MethodName)) ∈ gm_G := gm_inG (List.mem_of_getElem? (i := 1291) (by decide +kernel)) (by decide +kernel)
theorem gw_1292 : (Jvm.Cond.code ({ cls := "GumBubbleModel", name := "blowsActs", desc := "(I)I" } : Jvm.MethodName) prog_14_method_84_code (2 : Nat) (Option.some Jvm.ClassFile.FieldType.int)) ∈ gm_G := gm_inG (List.mem_of_getElem? (i := 1292) (by decide +kernel)) (by decide +kernel)
theorem gw_1293 : (Jvm.Cond.methodLink "GumBubbleModel" (271 : Nat) ({ cls := "GumBubbleModel", name := "plainBlows", desc := "(I)I" } : Jvm.MethodName)) ∈ gm_G := gm_inG (List.mem_of_getElem? (i := 1293) (by decide +kernel)) (by decide +kernel)
theorem gw_1295 : (Jvm.Cond.instanceMethod ({ cls := "GumBubbleModel", name := "plainBlows", desc := "(I)I" } : Jvm.MethodName)) ∈ gm_G := gm_inG (List.mem_of_getElem? (i := 1295) (by decide +kernel)) (by decide +kernel)
theorem gw_1296 : (Jvm.Cond.code ({ cls := "GumBubbleModel", name := "plainBlows", desc := "(I)I" } : Jvm.MethodName) prog_14_method_83_code (2 : Nat) (Option.some Jvm.ClassFile.FieldType.int)) ∈ gm_G := gm_inG (List.mem_of_getElem? (i := 1296) (by decide +kernel)) (by decide +kernel)
theorem gw_1297 : (Jvm.Cond.methodLink "GumBubbleModel" (280 : Nat) ({ cls := "GumBubbleModel", name := "tellsActs", desc := "(I)I" } : Jvm.MethodName)) ∈ gm_G := gm_inG (List.mem_of_getElem? (i := 1297) (by decide +kernel)) (by decide +kernel)
theorem gw_1299 : (Jvm.Cond.instanceMethod ({ cls := "GumBubbleModel", name := "tellsActs", desc := "(I)I" } : Jvm.MethodName)) ∈ gm_G := gm_inG (List.mem_of_getElem? (i := 1299) (by decide +kernel)) (by decide +kernel)
theorem gw_1300 : (Jvm.Cond.code ({ cls := "GumBubbleModel", name := "tellsActs", desc := "(I)I" } : Jvm.MethodName) prog_14_method_86_code (3 : Nat) (Option.some Jvm.ClassFile.FieldType.int)) ∈ gm_G := gm_inG (List.mem_of_getElem? (i := 1300) (by decide +kernel)) (by decide +kernel)
theorem gw_1301 : (Jvm.Cond.methodLink "GumBubbleModel" (277 : Nat) ({ cls := "GumBubbleModel", name := "plainTelling", desc := "(I)I" } : Jvm.MethodName)) ∈ gm_G := gm_inG (List.mem_of_getElem? (i := 1301) (by decide +kernel)) (by decide +kernel)
theorem gw_1303 : (Jvm.Cond.instanceMethod ({ cls := "GumBubbleModel", name := "plainTelling", desc := "(I)I" } : Jvm.MethodName)) ∈ gm_G := gm_inG (List.mem_of_getElem? (i := 1303) (by decide +kernel)) (by decide +kernel)
theorem gw_1304 : (Jvm.Cond.code ({ cls := "GumBubbleModel", name := "plainTelling", desc := "(I)I" } : Jvm.MethodName) prog_14_method_85_code (2 : Nat) (Option.some Jvm.ClassFile.FieldType.int)) ∈ gm_G := gm_inG (List.mem_of_getElem? (i := 1304) (by decide +kernel)) (by decide +kernel)
theorem gw_1305 : (Jvm.Cond.methodLink "GumBubbleLaw" (150 : Nat) ({ cls := "GumBubbleModel", name := "trace", desc := "(I)I" } : Jvm.MethodName)) ∈ gm_G := gm_inG (List.mem_of_getElem? (i := 1305) (by decide +kernel)) (by decide +kernel)
theorem gw_1306 : (Jvm.Cond.instanceMethod ({ cls := "GumBubbleModel", name := "trace", desc := "(I)I" } : Jvm.MethodName)) ∈ gm_G := gm_inG (List.mem_of_getElem? (i := 1306) (by decide +kernel)) (by decide +kernel)
theorem gw_1307 : (Jvm.Cond.selects "GumBubbleModel" ({ cls := "GumBubbleModel", name := "trace", desc := "(I)I" } : Jvm.MethodName) ({ cls := "GumBubbleModel", name := "trace", desc := "(I)I" } : Jvm.MethodName)) ∈ gm_G := gm_inG (List.mem_of_getElem? (i := 1307) (by decide +kernel)) (by decide +kernel)
theorem gw_1308 : (Jvm.Cond.code ({ cls := "GumBubbleModel", name := "trace", desc := "(I)I" } : Jvm.MethodName) prog_14_method_88_code (2 : Nat) (Option.some Jvm.ClassFile.FieldType.int)) ∈ gm_G := gm_inG (List.mem_of_getElem? (i := 1308) (by decide +kernel)) (by decide +kernel)
theorem gw_1309 : (Jvm.Cond.methodLink "GumBubbleLaw" (154 : Nat) ({ cls := "GumBubbleModel", name := "as", desc := "(II)I" } : Jvm.MethodName)) ∈ gm_G := gm_inG (List.mem_of_getElem? (i := 1309) (by decide +kernel)) (by decide +kernel)
theorem gw_1310 : (Jvm.Cond.instanceMethod ({ cls := "GumBubbleModel", name := "as", desc := "(II)I" } : Jvm.MethodName)) ∈ gm_G := gm_inG (List.mem_of_getElem? (i := 1310) (by decide +kernel)) (by decide +kernel)
theorem gw_1311 : (Jvm.Cond.selects "GumBubbleModel" ({ cls := "GumBubbleModel", name := "as", desc := "(II)I" } : Jvm.MethodName) ({ cls := "GumBubbleModel", name := "as", desc := "(II)I" } : Jvm.MethodName)) ∈ gm_G := gm_inG (List.mem_of_getElem? (i := 1311) (by decide +kernel)) (by decide +kernel)
theorem gw_1312 : (Jvm.Cond.code ({ cls := "GumBubbleModel", name := "as", desc := "(II)I" } : Jvm.MethodName) prog_14_method_89_code (3 : Nat) (Option.some Jvm.ClassFile.FieldType.int)) ∈ gm_G := gm_inG (List.mem_of_getElem? (i := 1312) (by decide +kernel)) (by decide +kernel)
theorem gw_1313 : (Jvm.Cond.methodLink "GumBubbleLaw" (158 : Nat) ({ cls := "GumBubbleModel", name := "image", desc := "()I" } : Jvm.MethodName)) ∈ gm_G := gm_inG (List.mem_of_getElem? (i := 1313) (by decide +kernel)) (by decide +kernel)
theorem gw_1314 : (Jvm.Cond.instanceMethod ({ cls := "GumBubbleModel", name := "image", desc := "()I" } : Jvm.MethodName)) ∈ gm_G := gm_inG (List.mem_of_getElem? (i := 1314) (by decide +kernel)) (by decide +kernel)
theorem gw_1315 : (Jvm.Cond.selects "GumBubbleModel" ({ cls := "GumBubbleModel", name := "image", desc := "()I" } : Jvm.MethodName) ({ cls := "GumBubbleModel", name := "image", desc := "()I" } : Jvm.MethodName)) ∈ gm_G := gm_inG (List.mem_of_getElem? (i := 1315) (by decide +kernel)) (by decide +kernel)
theorem gw_1316 : (Jvm.Cond.code ({ cls := "GumBubbleModel", name := "image", desc := "()I" } : Jvm.MethodName) prog_14_method_90_code (2 : Nat) (Option.some Jvm.ClassFile.FieldType.int)) ∈ gm_G := gm_inG (List.mem_of_getElem? (i := 1316) (by decide +kernel)) (by decide +kernel)
theorem gw_1317 : (Jvm.Cond.methodLink "GumBubbleLaw" (162 : Nat) ({ cls := "GumBubbleModel", name := "undo", desc := "()I" } : Jvm.MethodName)) ∈ gm_G := gm_inG (List.mem_of_getElem? (i := 1317) (by decide +kernel)) (by decide +kernel)
theorem gw_1318 : (Jvm.Cond.instanceMethod ({ cls := "GumBubbleModel", name := "undo", desc := "()I" } : Jvm.MethodName)) ∈ gm_G := gm_inG (List.mem_of_getElem? (i := 1318) (by decide +kernel)) (by decide +kernel)
theorem gw_1319 : (Jvm.Cond.selects "GumBubbleModel" ({ cls := "GumBubbleModel", name := "undo", desc := "()I" } : Jvm.MethodName) ({ cls := "GumBubbleModel", name := "undo", desc := "()I" } : Jvm.MethodName)) ∈ gm_G := gm_inG (List.mem_of_getElem? (i := 1319) (by decide +kernel)) (by decide +kernel)
theorem gw_1320 : (Jvm.Cond.code ({ cls := "GumBubbleModel", name := "undo", desc := "()I" } : Jvm.MethodName) prog_14_method_91_code (2 : Nat) (Option.some Jvm.ClassFile.FieldType.int)) ∈ gm_G := gm_inG (List.mem_of_getElem? (i := 1320) (by decide +kernel)) (by decide +kernel)
theorem gw_1321 : (Jvm.Cond.methodLink "GumBubbleLaw" (166 : Nat) ({ cls := "GumBubbleModel", name := "count", desc := "(I)I" } : Jvm.MethodName)) ∈ gm_G := gm_inG (List.mem_of_getElem? (i := 1321) (by decide +kernel)) (by decide +kernel)
theorem gw_1322 : (Jvm.Cond.instanceMethod ({ cls := "GumBubbleModel", name := "count", desc := "(I)I" } : Jvm.MethodName)) ∈ gm_G := gm_inG (List.mem_of_getElem? (i := 1322) (by decide +kernel)) (by decide +kernel)
theorem gw_1323 : (Jvm.Cond.selects "GumBubbleModel" ({ cls := "GumBubbleModel", name := "count", desc := "(I)I" } : Jvm.MethodName) ({ cls := "GumBubbleModel", name := "count", desc := "(I)I" } : Jvm.MethodName)) ∈ gm_G := gm_inG (List.mem_of_getElem? (i := 1323) (by decide +kernel)) (by decide +kernel)
theorem gw_1324 : (Jvm.Cond.code ({ cls := "GumBubbleModel", name := "count", desc := "(I)I" } : Jvm.MethodName) prog_14_method_92_code (2 : Nat) (Option.some Jvm.ClassFile.FieldType.int)) ∈ gm_G := gm_inG (List.mem_of_getElem? (i := 1324) (by decide +kernel)) (by decide +kernel)
theorem gw_1325 : (Jvm.Cond.sameMethod "GumBubble$Slow" "GumBubble$Slow" "sugarChewed" "(LGumBubble$Child;I)I") ∈ gm_G := gm_inG (List.mem_of_getElem? (i := 1325) (by decide +kernel)) (by decide +kernel)
theorem gw_1326 : (Jvm.Cond.sameMethod "GumBubble$Quick" "GumBubble$Quick" "sugarChewed" "(LGumBubble$Child;I)I") ∈ gm_G := gm_inG (List.mem_of_getElem? (i := 1326) (by decide +kernel)) (by decide +kernel)
theorem gw_1327 : (Jvm.Cond.sameMethod "GumBubble$Cold" "GumBubble$Cold" "sugarChewed" "(LGumBubble$Child;I)I") ∈ gm_G := gm_inG (List.mem_of_getElem? (i := 1327) (by decide +kernel)) (by decide +kernel)
theorem gw_1337 : (Jvm.Cond.fieldLink "java/lang/String" (9 : Nat) "java/lang/String" "value" "[B") ∈ gm_G := gm_inG (List.mem_of_getElem? (i := 1337) (by decide +kernel)) (by decide +kernel)
theorem gw_1338 : (Jvm.Cond.fieldLink "java/lang/String" (15 : Nat) "java/lang/String" "coder" "B") ∈ gm_G := gm_inG (List.mem_of_getElem? (i := 1338) (by decide +kernel)) (by decide +kernel)
theorem gs_0 : (Jvm.Cond.selects "GumBubble$Afternoon" ({ cls := "GumBubble$Afternoon", name := "take", desc := "(C)Z" } : Jvm.MethodName) ({ cls := "GumBubble$Afternoon", name := "take", desc := "(C)Z" } : Jvm.MethodName)) ∈ gm_G := gm_inS (List.mem_map.mpr ⟨(⟨"GumBubble$Afternoon", "take", "(C)Z"⟩, 10), List.mem_of_getElem? (i := 0) (by decide +kernel), rfl⟩) (by decide +kernel)
theorem gs_1 : (Jvm.Cond.selects "GumBubble$Afternoon" ({ cls := "GumBubble$Afternoon", name := "next", desc := "()I" } : Jvm.MethodName) ({ cls := "GumBubble$Afternoon", name := "next", desc := "()I" } : Jvm.MethodName)) ∈ gm_G := gm_inS (List.mem_map.mpr ⟨(⟨"GumBubble$Afternoon", "next", "()I"⟩, 10), List.mem_of_getElem? (i := 1) (by decide +kernel), rfl⟩) (by decide +kernel)
theorem gs_2 : (Jvm.Cond.selects "GumBubble$Afternoon" ({ cls := "GumBubble$Afternoon", name := "readClause", desc := "()Z" } : Jvm.MethodName) ({ cls := "GumBubble$Afternoon", name := "readClause", desc := "()Z" } : Jvm.MethodName)) ∈ gm_G := gm_inS (List.mem_map.mpr ⟨(⟨"GumBubble$Afternoon", "readClause", "()Z"⟩, 10), List.mem_of_getElem? (i := 2) (by decide +kernel), rfl⟩) (by decide +kernel)
theorem gs_3 : (Jvm.Cond.selects "GumBubble$Afternoon" ({ cls := "GumBubble$Afternoon", name := "readWordAndNumber", desc := "(Ljava/lang/String;)I" } : Jvm.MethodName) ({ cls := "GumBubble$Afternoon", name := "readWordAndNumber", desc := "(Ljava/lang/String;)I" } : Jvm.MethodName)) ∈ gm_G := gm_inS (List.mem_map.mpr ⟨(⟨"GumBubble$Afternoon", "readWordAndNumber", "(Ljava/lang/String;)I"⟩, 10), List.mem_of_getElem? (i := 3) (by decide +kernel), rfl⟩) (by decide +kernel)
theorem gs_4 : (Jvm.Cond.selects "GumBubble$Afternoon" ({ cls := "GumBubble$Afternoon", name := "readNumber", desc := "()I" } : Jvm.MethodName) ({ cls := "GumBubble$Afternoon", name := "readNumber", desc := "()I" } : Jvm.MethodName)) ∈ gm_G := gm_inS (List.mem_map.mpr ⟨(⟨"GumBubble$Afternoon", "readNumber", "()I"⟩, 10), List.mem_of_getElem? (i := 4) (by decide +kernel), rfl⟩) (by decide +kernel)
theorem gs_5 : (Jvm.Cond.selects "GumBubble$Afternoon" ({ cls := "GumBubble$Afternoon", name := "readEither", desc := "(I)Z" } : Jvm.MethodName) ({ cls := "GumBubble$Afternoon", name := "readEither", desc := "(I)Z" } : Jvm.MethodName)) ∈ gm_G := gm_inS (List.mem_map.mpr ⟨(⟨"GumBubble$Afternoon", "readEither", "(I)Z"⟩, 10), List.mem_of_getElem? (i := 5) (by decide +kernel), rfl⟩) (by decide +kernel)
theorem gs_6 : (Jvm.Cond.selects "GumBubble$Afternoon" ({ cls := "GumBubble$Afternoon", name := "readFactor", desc := "(I)Z" } : Jvm.MethodName) ({ cls := "GumBubble$Afternoon", name := "readFactor", desc := "(I)Z" } : Jvm.MethodName)) ∈ gm_G := gm_inS (List.mem_map.mpr ⟨(⟨"GumBubble$Afternoon", "readFactor", "(I)Z"⟩, 10), List.mem_of_getElem? (i := 6) (by decide +kernel), rfl⟩) (by decide +kernel)
theorem gs_7 : (Jvm.Cond.selects "GumBubble$Afternoon" ({ cls := "GumBubble$Afternoon", name := "readTest", desc := "()Z" } : Jvm.MethodName) ({ cls := "GumBubble$Afternoon", name := "readTest", desc := "()Z" } : Jvm.MethodName)) ∈ gm_G := gm_inS (List.mem_map.mpr ⟨(⟨"GumBubble$Afternoon", "readTest", "()Z"⟩, 10), List.mem_of_getElem? (i := 7) (by decide +kernel), rfl⟩) (by decide +kernel)
theorem gs_8 : (Jvm.Cond.selects "GumBubble$Afternoon" ({ cls := "GumBubble$Afternoon", name := "readOneOf", desc := "(Ljava/lang/String;)I" } : Jvm.MethodName) ({ cls := "GumBubble$Afternoon", name := "readOneOf", desc := "(Ljava/lang/String;)I" } : Jvm.MethodName)) ∈ gm_G := gm_inS (List.mem_map.mpr ⟨(⟨"GumBubble$Afternoon", "readOneOf", "(Ljava/lang/String;)I"⟩, 10), List.mem_of_getElem? (i := 8) (by decide +kernel), rfl⟩) (by decide +kernel)
theorem gs_9 : (Jvm.Cond.selects "GumBubble$Afternoon" ({ cls := "GumBubble$Afternoon", name := "put", desc := "(I)V" } : Jvm.MethodName) ({ cls := "GumBubble$Afternoon", name := "put", desc := "(I)V" } : Jvm.MethodName)) ∈ gm_G := gm_inS (List.mem_map.mpr ⟨(⟨"GumBubble$Afternoon", "put", "(I)V"⟩, 10), List.mem_of_getElem? (i := 9) (by decide +kernel), rfl⟩) (by decide +kernel)
theorem gs_10 : (Jvm.Cond.selects "GumBubble$Afternoon" ({ cls := "GumBubble$Afternoon", name := "addChange", desc := "(I)V" } : Jvm.MethodName) ({ cls := "GumBubble$Afternoon", name := "addChange", desc := "(I)V" } : Jvm.MethodName)) ∈ gm_G := gm_inS (List.mem_map.mpr ⟨(⟨"GumBubble$Afternoon", "addChange", "(I)V"⟩, 10), List.mem_of_getElem? (i := 10) (by decide +kernel), rfl⟩) (by decide +kernel)
theorem gs_11 : (Jvm.Cond.selects "GumBubble" ({ cls := "GumBubble", name := "isNobody", desc := "(I)Z" } : Jvm.MethodName) ({ cls := "GumBubble", name := "isNobody", desc := "(I)Z" } : Jvm.MethodName)) ∈ gm_G := gm_inS (List.mem_map.mpr ⟨(⟨"GumBubble", "isNobody", "(I)Z"⟩, 10), List.mem_of_getElem? (i := 11) (by decide +kernel), rfl⟩) (by decide +kernel)
theorem gs_12 : (Jvm.Cond.selects "GumBubble$Afternoon" ({ cls := "GumBubble$Afternoon", name := "isSo", desc := "(IILGumBubble$Child;I)Z" } : Jvm.MethodName) ({ cls := "GumBubble$Afternoon", name := "isSo", desc := "(IILGumBubble$Child;I)Z" } : Jvm.MethodName)) ∈ gm_G := gm_inS (List.mem_map.mpr ⟨(⟨"GumBubble$Afternoon", "isSo", "(IILGumBubble$Child;I)Z"⟩, 10), List.mem_of_getElem? (i := 12) (by decide +kernel), rfl⟩) (by decide +kernel)
theorem gs_13 : (Jvm.Cond.selects "GumBubble" ({ cls := "GumBubble", name := "holdsNow", desc := "(I)I" } : Jvm.MethodName) ({ cls := "GumBubble", name := "holdsNow", desc := "(I)I" } : Jvm.MethodName)) ∈ gm_G := gm_inS (List.mem_map.mpr ⟨(⟨"GumBubble", "holdsNow", "(I)I"⟩, 10), List.mem_of_getElem? (i := 13) (by decide +kernel), rfl⟩) (by decide +kernel)
theorem gs_14 : (Jvm.Cond.selects "GumBubble" ({ cls := "GumBubble", name := "sumBehind", desc := "(I)I" } : Jvm.MethodName) ({ cls := "GumBubble", name := "sumBehind", desc := "(I)I" } : Jvm.MethodName)) ∈ gm_G := gm_inS (List.mem_map.mpr ⟨(⟨"GumBubble", "sumBehind", "(I)I"⟩, 10), List.mem_of_getElem? (i := 14) (by decide +kernel), rfl⟩) (by decide +kernel)
theorem gs_15 : (Jvm.Cond.selects "GumBubble" ({ cls := "GumBubble", name := "holdsBehind", desc := "(II)I" } : Jvm.MethodName) ({ cls := "GumBubble", name := "holdsBehind", desc := "(II)I" } : Jvm.MethodName)) ∈ gm_G := gm_inS (List.mem_map.mpr ⟨(⟨"GumBubble", "holdsBehind", "(II)I"⟩, 10), List.mem_of_getElem? (i := 15) (by decide +kernel), rfl⟩) (by decide +kernel)
theorem gs_16 : (Jvm.Cond.selects "GumBubble" ({ cls := "GumBubble", name := "trialBehind", desc := "(I)I" } : Jvm.MethodName) ({ cls := "GumBubble", name := "trialBehind", desc := "(I)I" } : Jvm.MethodName)) ∈ gm_G := gm_inS (List.mem_map.mpr ⟨(⟨"GumBubble", "trialBehind", "(I)I"⟩, 10), List.mem_of_getElem? (i := 16) (by decide +kernel), rfl⟩) (by decide +kernel)
theorem gs_17 : (Jvm.Cond.selects "GumBubble" ({ cls := "GumBubble", name := "bubbleBits", desc := "()I" } : Jvm.MethodName) ({ cls := "GumBubble", name := "bubbleBits", desc := "()I" } : Jvm.MethodName)) ∈ gm_G := gm_inS (List.mem_map.mpr ⟨(⟨"GumBubble", "bubbleBits", "()I"⟩, 10), List.mem_of_getElem? (i := 17) (by decide +kernel), rfl⟩) (by decide +kernel)
theorem gs_18 : (Jvm.Cond.selects "GumBubble" ({ cls := "GumBubble", name := "trialWhen", desc := "(I)I" } : Jvm.MethodName) ({ cls := "GumBubble", name := "trialWhen", desc := "(I)I" } : Jvm.MethodName)) ∈ gm_G := gm_inS (List.mem_map.mpr ⟨(⟨"GumBubble", "trialWhen", "(I)I"⟩, 10), List.mem_of_getElem? (i := 18) (by decide +kernel), rfl⟩) (by decide +kernel)
theorem gs_19 : (Jvm.Cond.selects "GumBubble" ({ cls := "GumBubble", name := "holdsWithGumOf", desc := "(II)I" } : Jvm.MethodName) ({ cls := "GumBubble", name := "holdsWithGumOf", desc := "(II)I" } : Jvm.MethodName)) ∈ gm_G := gm_inS (List.mem_map.mpr ⟨(⟨"GumBubble", "holdsWithGumOf", "(II)I"⟩, 10), List.mem_of_getElem? (i := 19) (by decide +kernel), rfl⟩) (by decide +kernel)
theorem gs_20 : (Jvm.Cond.selects "GumBubble" ({ cls := "GumBubble", name := "fillBehind", desc := "(I)V" } : Jvm.MethodName) ({ cls := "GumBubble", name := "fillBehind", desc := "(I)V" } : Jvm.MethodName)) ∈ gm_G := gm_inS (List.mem_map.mpr ⟨(⟨"GumBubble", "fillBehind", "(I)V"⟩, 10), List.mem_of_getElem? (i := 20) (by decide +kernel), rfl⟩) (by decide +kernel)
theorem gs_21 : (Jvm.Cond.selects "GumBubble" ({ cls := "GumBubble", name := "arrange", desc := "(III)V" } : Jvm.MethodName) ({ cls := "GumBubble", name := "arrange", desc := "(III)V" } : Jvm.MethodName)) ∈ gm_G := gm_inS (List.mem_map.mpr ⟨(⟨"GumBubble", "arrange", "(III)V"⟩, 10), List.mem_of_getElem? (i := 21) (by decide +kernel), rfl⟩) (by decide +kernel)
theorem gs_22 : (Jvm.Cond.selects "GumBubble" ({ cls := "GumBubble", name := "isAllSeen", desc := "(III)Z" } : Jvm.MethodName) ({ cls := "GumBubble", name := "isAllSeen", desc := "(III)Z" } : Jvm.MethodName)) ∈ gm_G := gm_inS (List.mem_map.mpr ⟨(⟨"GumBubble", "isAllSeen", "(III)Z"⟩, 10), List.mem_of_getElem? (i := 22) (by decide +kernel), rfl⟩) (by decide +kernel)
theorem gs_23 : (Jvm.Cond.selects "GumBubble" ({ cls := "GumBubble", name := "tryPlan", desc := "()V" } : Jvm.MethodName) ({ cls := "GumBubble", name := "tryPlan", desc := "()V" } : Jvm.MethodName)) ∈ gm_G := gm_inS (List.mem_map.mpr ⟨(⟨"GumBubble", "tryPlan", "()V"⟩, 10), List.mem_of_getElem? (i := 23) (by decide +kernel), rfl⟩) (by decide +kernel)
theorem gs_24 : (Jvm.Cond.selects "GumBubble" ({ cls := "GumBubble", name := "tryPlanRow", desc := "(II)V" } : Jvm.MethodName) ({ cls := "GumBubble", name := "tryPlanRow", desc := "(II)V" } : Jvm.MethodName)) ∈ gm_G := gm_inS (List.mem_map.mpr ⟨(⟨"GumBubble", "tryPlanRow", "(II)V"⟩, 10), List.mem_of_getElem? (i := 24) (by decide +kernel), rfl⟩) (by decide +kernel)
theorem gs_25 : (Jvm.Cond.selects "GumBubbleModel" ({ cls := "GumBubbleModel", name := "clauseHere", desc := "()V" } : Jvm.MethodName) ({ cls := "GumBubbleModel", name := "clauseHere", desc := "()V" } : Jvm.MethodName)) ∈ gm_G := gm_inS (List.mem_map.mpr ⟨(⟨"GumBubbleModel", "clauseHere", "()V"⟩, 23), List.mem_of_getElem? (i := 25) (by decide +kernel), rfl⟩) (by decide +kernel)
theorem gs_26 : (Jvm.Cond.selects "GumBubbleModel" ({ cls := "GumBubbleModel", name := "here", desc := "()I" } : Jvm.MethodName) ({ cls := "GumBubbleModel", name := "here", desc := "()I" } : Jvm.MethodName)) ∈ gm_G := gm_inS (List.mem_map.mpr ⟨(⟨"GumBubbleModel", "here", "()I"⟩, 23), List.mem_of_getElem? (i := 26) (by decide +kernel), rfl⟩) (by decide +kernel)
theorem gs_27 : (Jvm.Cond.selects "GumBubbleModel" ({ cls := "GumBubbleModel", name := "tellsHere", desc := "(ILjava/lang/String;)V" } : Jvm.MethodName) ({ cls := "GumBubbleModel", name := "tellsHere", desc := "(ILjava/lang/String;)V" } : Jvm.MethodName)) ∈ gm_G := gm_inS (List.mem_map.mpr ⟨(⟨"GumBubbleModel", "tellsHere", "(ILjava/lang/String;)V"⟩, 23), List.mem_of_getElem? (i := 27) (by decide +kernel), rfl⟩) (by decide +kernel)
theorem gs_28 : (Jvm.Cond.selects "GumBubbleModel" ({ cls := "GumBubbleModel", name := "spells", desc := "(Ljava/lang/String;)V" } : Jvm.MethodName) ({ cls := "GumBubbleModel", name := "spells", desc := "(Ljava/lang/String;)V" } : Jvm.MethodName)) ∈ gm_G := gm_inS (List.mem_map.mpr ⟨(⟨"GumBubbleModel", "spells", "(Ljava/lang/String;)V"⟩, 23), List.mem_of_getElem? (i := 28) (by decide +kernel), rfl⟩) (by decide +kernel)
theorem gs_29 : (Jvm.Cond.selects "GumBubbleModel" ({ cls := "GumBubbleModel", name := "must", desc := "(I)V" } : Jvm.MethodName) ({ cls := "GumBubbleModel", name := "must", desc := "(I)V" } : Jvm.MethodName)) ∈ gm_G := gm_inS (List.mem_map.mpr ⟨(⟨"GumBubbleModel", "must", "(I)V"⟩, 23), List.mem_of_getElem? (i := 29) (by decide +kernel), rfl⟩) (by decide +kernel)
theorem gs_30 : (Jvm.Cond.selects "GumBubbleModel" ({ cls := "GumBubbleModel", name := "figures", desc := "()I" } : Jvm.MethodName) ({ cls := "GumBubbleModel", name := "figures", desc := "()I" } : Jvm.MethodName)) ∈ gm_G := gm_inS (List.mem_map.mpr ⟨(⟨"GumBubbleModel", "figures", "()I"⟩, 23), List.mem_of_getElem? (i := 30) (by decide +kernel), rfl⟩) (by decide +kernel)
theorem gs_31 : (Jvm.Cond.selects "GumBubbleModel" ({ cls := "GumBubbleModel", name := "wordOfS", desc := "()V" } : Jvm.MethodName) ({ cls := "GumBubbleModel", name := "wordOfS", desc := "()V" } : Jvm.MethodName)) ∈ gm_G := gm_inS (List.mem_map.mpr ⟨(⟨"GumBubbleModel", "wordOfS", "()V"⟩, 23), List.mem_of_getElem? (i := 31) (by decide +kernel), rfl⟩) (by decide +kernel)
theorem gs_32 : (Jvm.Cond.selects "GumBubbleModel" ({ cls := "GumBubbleModel", name := "much", desc := "(ILjava/lang/String;)V" } : Jvm.MethodName) ({ cls := "GumBubbleModel", name := "much", desc := "(ILjava/lang/String;)V" } : Jvm.MethodName)) ∈ gm_G := gm_inS (List.mem_map.mpr ⟨(⟨"GumBubbleModel", "much", "(ILjava/lang/String;)V"⟩, 23), List.mem_of_getElem? (i := 32) (by decide +kernel), rfl⟩) (by decide +kernel)
theorem gs_33 : (Jvm.Cond.selects "GumBubbleModel" ({ cls := "GumBubbleModel", name := "some", desc := "()V" } : Jvm.MethodName) ({ cls := "GumBubbleModel", name := "some", desc := "()V" } : Jvm.MethodName)) ∈ gm_G := gm_inS (List.mem_map.mpr ⟨(⟨"GumBubbleModel", "some", "()V"⟩, 23), List.mem_of_getElem? (i := 33) (by decide +kernel), rfl⟩) (by decide +kernel)
theorem gs_34 : (Jvm.Cond.selects "GumBubbleModel" ({ cls := "GumBubbleModel", name := "every", desc := "()V" } : Jvm.MethodName) ({ cls := "GumBubbleModel", name := "every", desc := "()V" } : Jvm.MethodName)) ∈ gm_G := gm_inS (List.mem_map.mpr ⟨(⟨"GumBubbleModel", "every", "()V"⟩, 23), List.mem_of_getElem? (i := 34) (by decide +kernel), rfl⟩) (by decide +kernel)
theorem gs_35 : (Jvm.Cond.selects "GumBubbleModel" ({ cls := "GumBubbleModel", name := "factor", desc := "()V" } : Jvm.MethodName) ({ cls := "GumBubbleModel", name := "factor", desc := "()V" } : Jvm.MethodName)) ∈ gm_G := gm_inS (List.mem_map.mpr ⟨(⟨"GumBubbleModel", "factor", "()V"⟩, 23), List.mem_of_getElem? (i := 35) (by decide +kernel), rfl⟩) (by decide +kernel)
theorem gs_36 : (Jvm.Cond.selects "GumBubbleModel" ({ cls := "GumBubbleModel", name := "emits", desc := "(I)V" } : Jvm.MethodName) ({ cls := "GumBubbleModel", name := "emits", desc := "(I)V" } : Jvm.MethodName)) ∈ gm_G := gm_inS (List.mem_map.mpr ⟨(⟨"GumBubbleModel", "emits", "(I)V"⟩, 23), List.mem_of_getElem? (i := 36) (by decide +kernel), rfl⟩) (by decide +kernel)
theorem gs_37 : (Jvm.Cond.selects "GumBubbleModel" ({ cls := "GumBubbleModel", name := "among", desc := "(Ljava/lang/String;)I" } : Jvm.MethodName) ({ cls := "GumBubbleModel", name := "among", desc := "(Ljava/lang/String;)I" } : Jvm.MethodName)) ∈ gm_G := gm_inS (List.mem_map.mpr ⟨(⟨"GumBubbleModel", "among", "(Ljava/lang/String;)I"⟩, 23), List.mem_of_getElem? (i := 37) (by decide +kernel), rfl⟩) (by decide +kernel)
theorem gs_38 : (Jvm.Cond.selects "GumBubbleModel" ({ cls := "GumBubbleModel", name := "sweetNow", desc := "()I" } : Jvm.MethodName) ({ cls := "GumBubbleModel", name := "sweetNow", desc := "()I" } : Jvm.MethodName)) ∈ gm_G := gm_inS (List.mem_map.mpr ⟨(⟨"GumBubbleModel", "sweetNow", "()I"⟩, 23), List.mem_of_getElem? (i := 38) (by decide +kernel), rfl⟩) (by decide +kernel)
theorem gs_39 : (Jvm.Cond.selects "GumBubbleModel" ({ cls := "GumBubbleModel", name := "tellsOf", desc := "(II)I" } : Jvm.MethodName) ({ cls := "GumBubbleModel", name := "tellsOf", desc := "(II)I" } : Jvm.MethodName)) ∈ gm_G := gm_inS (List.mem_map.mpr ⟨(⟨"GumBubbleModel", "tellsOf", "(II)I"⟩, 23), List.mem_of_getElem? (i := 39) (by decide +kernel), rfl⟩) (by decide +kernel)
theorem gs_40 : (Jvm.Cond.selects "GumBubbleModel" ({ cls := "GumBubbleModel", name := "isChild", desc := "(I)Z" } : Jvm.MethodName) ({ cls := "GumBubbleModel", name := "isChild", desc := "(I)Z" } : Jvm.MethodName)) ∈ gm_G := gm_inS (List.mem_map.mpr ⟨(⟨"GumBubbleModel", "isChild", "(I)Z"⟩, 23), List.mem_of_getElem? (i := 40) (by decide +kernel), rfl⟩) (by decide +kernel)
theorem gs_41 : (Jvm.Cond.selects "GumBubbleModel" ({ cls := "GumBubbleModel", name := "stretchOf", desc := "(I)I" } : Jvm.MethodName) ({ cls := "GumBubbleModel", name := "stretchOf", desc := "(I)I" } : Jvm.MethodName)) ∈ gm_G := gm_inS (List.mem_map.mpr ⟨(⟨"GumBubbleModel", "stretchOf", "(I)I"⟩, 23), List.mem_of_getElem? (i := 41) (by decide +kernel), rfl⟩) (by decide +kernel)
theorem gs_42 : (Jvm.Cond.selects "GumBubbleModel" ({ cls := "GumBubbleModel", name := "looks", desc := "(I)I" } : Jvm.MethodName) ({ cls := "GumBubbleModel", name := "looks", desc := "(I)I" } : Jvm.MethodName)) ∈ gm_G := gm_inS (List.mem_map.mpr ⟨(⟨"GumBubbleModel", "looks", "(I)I"⟩, 23), List.mem_of_getElem? (i := 42) (by decide +kernel), rfl⟩) (by decide +kernel)
theorem gs_43 : (Jvm.Cond.selects "GumBubbleModel" ({ cls := "GumBubbleModel", name := "chewsOf", desc := "(I)I" } : Jvm.MethodName) ({ cls := "GumBubbleModel", name := "chewsOf", desc := "(I)I" } : Jvm.MethodName)) ∈ gm_G := gm_inS (List.mem_map.mpr ⟨(⟨"GumBubbleModel", "chewsOf", "(I)I"⟩, 23), List.mem_of_getElem? (i := 43) (by decide +kernel), rfl⟩) (by decide +kernel)
theorem gs_44 : (Jvm.Cond.selects "GumBubbleModel" ({ cls := "GumBubbleModel", name := "tiresOf", desc := "(I)I" } : Jvm.MethodName) ({ cls := "GumBubbleModel", name := "tiresOf", desc := "(I)I" } : Jvm.MethodName)) ∈ gm_G := gm_inS (List.mem_map.mpr ⟨(⟨"GumBubbleModel", "tiresOf", "(I)I"⟩, 23), List.mem_of_getElem? (i := 44) (by decide +kernel), rfl⟩) (by decide +kernel)
theorem gs_45 : (Jvm.Cond.selects "GumBubbleModel" ({ cls := "GumBubbleModel", name := "holdsOf", desc := "(I)I" } : Jvm.MethodName) ({ cls := "GumBubbleModel", name := "holdsOf", desc := "(I)I" } : Jvm.MethodName)) ∈ gm_G := gm_inS (List.mem_map.mpr ⟨(⟨"GumBubbleModel", "holdsOf", "(I)I"⟩, 23), List.mem_of_getElem? (i := 45) (by decide +kernel), rfl⟩) (by decide +kernel)
theorem gs_46 : (Jvm.Cond.selects "GumBubbleModel" ({ cls := "GumBubbleModel", name := "allHold", desc := "()I" } : Jvm.MethodName) ({ cls := "GumBubbleModel", name := "allHold", desc := "()I" } : Jvm.MethodName)) ∈ gm_G := gm_inS (List.mem_map.mpr ⟨(⟨"GumBubbleModel", "allHold", "()I"⟩, 23), List.mem_of_getElem? (i := 46) (by decide +kernel), rfl⟩) (by decide +kernel)
theorem gs_47 : (Jvm.Cond.selects "GumBubbleModel" ({ cls := "GumBubbleModel", name := "bubbles", desc := "()I" } : Jvm.MethodName) ({ cls := "GumBubbleModel", name := "bubbles", desc := "()I" } : Jvm.MethodName)) ∈ gm_G := gm_inS (List.mem_map.mpr ⟨(⟨"GumBubbleModel", "bubbles", "()I"⟩, 23), List.mem_of_getElem? (i := 47) (by decide +kernel), rfl⟩) (by decide +kernel)
theorem gs_48 : (Jvm.Cond.selects "GumBubbleModel" ({ cls := "GumBubbleModel", name := "blows", desc := "(II)Z" } : Jvm.MethodName) ({ cls := "GumBubbleModel", name := "blows", desc := "(II)Z" } : Jvm.MethodName)) ∈ gm_G := gm_inS (List.mem_map.mpr ⟨(⟨"GumBubbleModel", "blows", "(II)Z"⟩, 23), List.mem_of_getElem? (i := 48) (by decide +kernel), rfl⟩) (by decide +kernel)
theorem gs_49 : (Jvm.Cond.selects "GumBubbleModel" ({ cls := "GumBubbleModel", name := "goesOn", desc := "(I)V" } : Jvm.MethodName) ({ cls := "GumBubbleModel", name := "goesOn", desc := "(I)V" } : Jvm.MethodName)) ∈ gm_G := gm_inS (List.mem_map.mpr ⟨(⟨"GumBubbleModel", "goesOn", "(I)V"⟩, 23), List.mem_of_getElem? (i := 49) (by decide +kernel), rfl⟩) (by decide +kernel)
theorem gs_50 : (Jvm.Cond.selects "GumBubbleModel" ({ cls := "GumBubbleModel", name := "goes", desc := "()V" } : Jvm.MethodName) ({ cls := "GumBubbleModel", name := "goes", desc := "()V" } : Jvm.MethodName)) ∈ gm_G := gm_inS (List.mem_map.mpr ⟨(⟨"GumBubbleModel", "goes", "()V"⟩, 23), List.mem_of_getElem? (i := 50) (by decide +kernel), rfl⟩) (by decide +kernel)
theorem gs_51 : (Jvm.Cond.selects "GumBubbleModel" ({ cls := "GumBubbleModel", name := "goesFor", desc := "(I)V" } : Jvm.MethodName) ({ cls := "GumBubbleModel", name := "goesFor", desc := "(I)V" } : Jvm.MethodName)) ∈ gm_G := gm_inS (List.mem_map.mpr ⟨(⟨"GumBubbleModel", "goesFor", "(I)V"⟩, 23), List.mem_of_getElem? (i := 51) (by decide +kernel), rfl⟩) (by decide +kernel)
theorem gs_52 : (Jvm.Cond.selects "GumBubbleModel" ({ cls := "GumBubbleModel", name := "keeps", desc := "()V" } : Jvm.MethodName) ({ cls := "GumBubbleModel", name := "keeps", desc := "()V" } : Jvm.MethodName)) ∈ gm_G := gm_inS (List.mem_map.mpr ⟨(⟨"GumBubbleModel", "keeps", "()V"⟩, 23), List.mem_of_getElem? (i := 52) (by decide +kernel), rfl⟩) (by decide +kernel)
theorem gs_53 : (Jvm.Cond.selects "GumBubbleModel" ({ cls := "GumBubbleModel", name := "goesBack", desc := "()V" } : Jvm.MethodName) ({ cls := "GumBubbleModel", name := "goesBack", desc := "()V" } : Jvm.MethodName)) ∈ gm_G := gm_inS (List.mem_map.mpr ⟨(⟨"GumBubbleModel", "goesBack", "()V"⟩, 23), List.mem_of_getElem? (i := 53) (by decide +kernel), rfl⟩) (by decide +kernel)
theorem gs_54 : (Jvm.Cond.selects "GumBubbleModel" ({ cls := "GumBubbleModel", name := "looksForWhen", desc := "(I)V" } : Jvm.MethodName) ({ cls := "GumBubbleModel", name := "looksForWhen", desc := "(I)V" } : Jvm.MethodName)) ∈ gm_G := gm_inS (List.mem_map.mpr ⟨(⟨"GumBubbleModel", "looksForWhen", "(I)V"⟩, 23), List.mem_of_getElem? (i := 54) (by decide +kernel), rfl⟩) (by decide +kernel)
theorem gs_55 : (Jvm.Cond.selects "GumBubbleModel" ({ cls := "GumBubbleModel", name := "goesAlone", desc := "(I)V" } : Jvm.MethodName) ({ cls := "GumBubbleModel", name := "goesAlone", desc := "(I)V" } : Jvm.MethodName)) ∈ gm_G := gm_inS (List.mem_map.mpr ⟨(⟨"GumBubbleModel", "goesAlone", "(I)V"⟩, 23), List.mem_of_getElem? (i := 55) (by decide +kernel), rfl⟩) (by decide +kernel)
theorem gs_56 : (Jvm.Cond.selects "GumBubbleModel" ({ cls := "GumBubbleModel", name := "slackOf", desc := "(I)I" } : Jvm.MethodName) ({ cls := "GumBubbleModel", name := "slackOf", desc := "(I)I" } : Jvm.MethodName)) ∈ gm_G := gm_inS (List.mem_map.mpr ⟨(⟨"GumBubbleModel", "slackOf", "(I)I"⟩, 23), List.mem_of_getElem? (i := 56) (by decide +kernel), rfl⟩) (by decide +kernel)
theorem gs_57 : (Jvm.Cond.selects "GumBubbleModel" ({ cls := "GumBubbleModel", name := "swaps", desc := "(II)V" } : Jvm.MethodName) ({ cls := "GumBubbleModel", name := "swaps", desc := "(II)V" } : Jvm.MethodName)) ∈ gm_G := gm_inS (List.mem_map.mpr ⟨(⟨"GumBubbleModel", "swaps", "(II)V"⟩, 23), List.mem_of_getElem? (i := 57) (by decide +kernel), rfl⟩) (by decide +kernel)
theorem gs_58 : (Jvm.Cond.selects "GumBubbleModel" ({ cls := "GumBubbleModel", name := "swapsAt", desc := "(III)V" } : Jvm.MethodName) ({ cls := "GumBubbleModel", name := "swapsAt", desc := "(III)V" } : Jvm.MethodName)) ∈ gm_G := gm_inS (List.mem_map.mpr ⟨(⟨"GumBubbleModel", "swapsAt", "(III)V"⟩, 23), List.mem_of_getElem? (i := 58) (by decide +kernel), rfl⟩) (by decide +kernel)
theorem gs_59 : (Jvm.Cond.selects "GumBubbleModel" ({ cls := "GumBubbleModel", name := "ordersFrom", desc := "(III)V" } : Jvm.MethodName) ({ cls := "GumBubbleModel", name := "ordersFrom", desc := "(III)V" } : Jvm.MethodName)) ∈ gm_G := gm_inS (List.mem_map.mpr ⟨(⟨"GumBubbleModel", "ordersFrom", "(III)V"⟩, 23), List.mem_of_getElem? (i := 59) (by decide +kernel), rfl⟩) (by decide +kernel)
theorem gs_60 : (Jvm.Cond.selects "GumBubbleModel" ({ cls := "GumBubbleModel", name := "areAsSeen", desc := "()Z" } : Jvm.MethodName) ({ cls := "GumBubbleModel", name := "areAsSeen", desc := "()Z" } : Jvm.MethodName)) ∈ gm_G := gm_inS (List.mem_map.mpr ⟨(⟨"GumBubbleModel", "areAsSeen", "()Z"⟩, 23), List.mem_of_getElem? (i := 60) (by decide +kernel), rfl⟩) (by decide +kernel)
theorem gs_61 : (Jvm.Cond.selects "GumBubbleModel" ({ cls := "GumBubbleModel", name := "isAsSeen", desc := "(I)Z" } : Jvm.MethodName) ({ cls := "GumBubbleModel", name := "isAsSeen", desc := "(I)Z" } : Jvm.MethodName)) ∈ gm_G := gm_inS (List.mem_map.mpr ⟨(⟨"GumBubbleModel", "isAsSeen", "(I)Z"⟩, 23), List.mem_of_getElem? (i := 61) (by decide +kernel), rfl⟩) (by decide +kernel)
theorem gs_62 : (Jvm.Cond.selects "GumBubbleModel" ({ cls := "GumBubbleModel", name := "allOf", desc := "(I)I" } : Jvm.MethodName) ({ cls := "GumBubbleModel", name := "allOf", desc := "(I)I" } : Jvm.MethodName)) ∈ gm_G := gm_inS (List.mem_map.mpr ⟨(⟨"GumBubbleModel", "allOf", "(I)I"⟩, 23), List.mem_of_getElem? (i := 62) (by decide +kernel), rfl⟩) (by decide +kernel)
theorem gs_63 : (Jvm.Cond.selects "GumBubbleModel" ({ cls := "GumBubbleModel", name := "does", desc := "(II)V" } : Jvm.MethodName) ({ cls := "GumBubbleModel", name := "does", desc := "(II)V" } : Jvm.MethodName)) ∈ gm_G := gm_inS (List.mem_map.mpr ⟨(⟨"GumBubbleModel", "does", "(II)V"⟩, 23), List.mem_of_getElem? (i := 63) (by decide +kernel), rfl⟩) (by decide +kernel)
theorem gs_64 : (Jvm.Cond.selects "GumBubbleModel" ({ cls := "GumBubbleModel", name := "chewsActs", desc := "(I)I" } : Jvm.MethodName) ({ cls := "GumBubbleModel", name := "chewsActs", desc := "(I)I" } : Jvm.MethodName)) ∈ gm_G := gm_inS (List.mem_map.mpr ⟨(⟨"GumBubbleModel", "chewsActs", "(I)I"⟩, 23), List.mem_of_getElem? (i := 64) (by decide +kernel), rfl⟩) (by decide +kernel)
theorem gs_65 : (Jvm.Cond.selects "GumBubbleModel" ({ cls := "GumBubbleModel", name := "ranBody", desc := "(I)V" } : Jvm.MethodName) ({ cls := "GumBubbleModel", name := "ranBody", desc := "(I)V" } : Jvm.MethodName)) ∈ gm_G := gm_inS (List.mem_map.mpr ⟨(⟨"GumBubbleModel", "ranBody", "(I)V"⟩, 23), List.mem_of_getElem? (i := 65) (by decide +kernel), rfl⟩) (by decide +kernel)
theorem gs_66 : (Jvm.Cond.selects "GumBubbleModel" ({ cls := "GumBubbleModel", name := "plainChews", desc := "(I)I" } : Jvm.MethodName) ({ cls := "GumBubbleModel", name := "plainChews", desc := "(I)I" } : Jvm.MethodName)) ∈ gm_G := gm_inS (List.mem_map.mpr ⟨(⟨"GumBubbleModel", "plainChews", "(I)I"⟩, 23), List.mem_of_getElem? (i := 66) (by decide +kernel), rfl⟩) (by decide +kernel)
theorem gs_67 : (Jvm.Cond.selects "GumBubbleModel" ({ cls := "GumBubbleModel", name := "blowsActs", desc := "(I)I" } : Jvm.MethodName) ({ cls := "GumBubbleModel", name := "blowsActs", desc := "(I)I" } : Jvm.MethodName)) ∈ gm_G := gm_inS (List.mem_map.mpr ⟨(⟨"GumBubbleModel", "blowsActs", "(I)I"⟩, 23), List.mem_of_getElem? (i := 67) (by decide +kernel), rfl⟩) (by decide +kernel)
theorem gs_68 : (Jvm.Cond.selects "GumBubbleModel" ({ cls := "GumBubbleModel", name := "plainBlows", desc := "(I)I" } : Jvm.MethodName) ({ cls := "GumBubbleModel", name := "plainBlows", desc := "(I)I" } : Jvm.MethodName)) ∈ gm_G := gm_inS (List.mem_map.mpr ⟨(⟨"GumBubbleModel", "plainBlows", "(I)I"⟩, 23), List.mem_of_getElem? (i := 68) (by decide +kernel), rfl⟩) (by decide +kernel)
theorem gs_69 : (Jvm.Cond.selects "GumBubbleModel" ({ cls := "GumBubbleModel", name := "tellsActs", desc := "(I)I" } : Jvm.MethodName) ({ cls := "GumBubbleModel", name := "tellsActs", desc := "(I)I" } : Jvm.MethodName)) ∈ gm_G := gm_inS (List.mem_map.mpr ⟨(⟨"GumBubbleModel", "tellsActs", "(I)I"⟩, 23), List.mem_of_getElem? (i := 69) (by decide +kernel), rfl⟩) (by decide +kernel)
theorem gs_70 : (Jvm.Cond.selects "GumBubbleModel" ({ cls := "GumBubbleModel", name := "plainTelling", desc := "(I)I" } : Jvm.MethodName) ({ cls := "GumBubbleModel", name := "plainTelling", desc := "(I)I" } : Jvm.MethodName)) ∈ gm_G := gm_inS (List.mem_map.mpr ⟨(⟨"GumBubbleModel", "plainTelling", "(I)I"⟩, 23), List.mem_of_getElem? (i := 70) (by decide +kernel), rfl⟩) (by decide +kernel)
end
section
/-! A small machine of our own over the kit's: memory is a list of (tag, length) of the cells made since the law began, what ints they hold, what references -/
abbrev gm_M : Type := List (Nat × Nat) × (Nat → Nat → Int32) × (Nat → Nat → Nat)
/-- slots, array classes by tag, special addresses, the heap at the law's start -/
abbrev gm_E : Type := va_G × (Nat → ClassId) × (Nat → Nat) × Heap
def gm_rv (o r : Nat) : Value := if r = 0 then .null else .ref (o + r)
/-- the formatter, one more than its address, 0 where it is null; a text or the script by its number -/
def gm_fm (a : Nat) : Value := match a with
  | 0 => .null
  | k + 1 => .ref k
def gm_tv (E : gm_E) (u : UInt32) : Value := if u.toNat = 13 then gm_fm (E.2.2.1 13) else .ref (E.2.2.1 u.toNat)
theorem gm_fm_cat (a : Nat) : (gm_fm a).category = 1 := by
  cases a with
  | zero => rfl
  | succ k => rfl
def gm_cv (E : gm_E) (o : Nat) (v : Value) : Value := match v with
  | .ref r => gm_rv o r
  | .float u => gm_tv E u
  | v => v
theorem gm_tv_of {E : gm_E} {u : UInt32} (h : u.toNat ≤ 12) : gm_tv E u = .ref (E.2.2.1 u.toNat) := by
  unfold gm_tv; rw [if_neg (by omega)]
theorem gm_tv_cases {E : gm_E} {u : UInt32} : gm_tv E u = .null ∨ ∃ a : Nat, gm_tv E u = .ref a := by
  unfold gm_tv
  by_cases h : u.toNat = 13
  · rw [if_pos h]
    cases E.2.2.1 13 with
    | zero => exact Or.inl rfl
    | succ k => exact Or.inr ⟨k, rfl⟩
  · rw [if_neg h]; exact Or.inr ⟨_, rfl⟩
theorem gm_mf {E : gm_E} {o : Nat} {u : UInt32} {st : List Value} (h : u.toNat ≤ 12) : (Value.float u :: st).map (gm_cv E o) = .ref (E.2.2.1 u.toNat) :: st.map (gm_cv E o) := by
  rw [List.map_cons]
  show gm_tv E u :: _ = _
  rw [gm_tv_of h]
theorem gm_mf13 {E : gm_E} {o : Nat} {st : List Value} : (Value.float 13 :: st).map (gm_cv E o) = gm_fm (E.2.2.1 13) :: st.map (gm_cv E o) := by
  rw [List.map_cons]
  show gm_tv E 13 :: _ = _
  unfold gm_tv; rw [if_pos (by decide)]
theorem gm_cv_cat (E : gm_E) (o : Nat) (v : Value) : (gm_cv E o v).category = v.category := by
  cases v with
  | ref r =>
    simp only [gm_cv, gm_rv]
    by_cases h : r = 0
    · rw [if_pos h]; rfl
    · rw [if_neg h]; rfl
  | float u =>
    show (gm_tv E u).category = 1
    unfold gm_tv
    by_cases h : u.toNat = 13
    · rw [if_pos h]; exact gm_fm_cat _
    · rw [if_neg h]; rfl
  | _ => rfl
def gm_isT (t : Option FieldType) : Bool := match t with
  | some (.object _) => true
  | some (.array _) => true
  | _ => false
def gm_isr (k j : Nat) : Bool := match gm_cls[k]? with
  | some q => gm_isT (parseFieldDescriptor (q.2.1 j).2.2.1)
  | none => false
def gm_fv (o : Nat) (μ : gm_M) (k r j : Nat) : Value := if gm_isr k j then gm_rv o (μ.2.2 r j) else .int (μ.2.1 r j)
def gm_cell (E : gm_E) (o : Nat) (μ : gm_M) (H : Heap) (r t n : Nat) : Prop := match t with
  | 0 => True
  | 1 => H[o + r]? = some (arrV (E.2.1 1) n (fun j => .int (μ.2.1 r j)))
  | 2 => H[o + r]? = some (arrV (E.2.1 2) n (fun j => .int (μ.2.1 r j)))
  | 3 => H[o + r]? = some (arrV (E.2.1 3) n (fun j => gm_rv o (μ.2.2 r j)))
  | 4 => H[o + r]? = some (arrV (E.2.1 4) n (fun j => gm_rv o (μ.2.2 r j)))
  | k + 5 => ∃ q : vw_C, gm_cls[k]? = some q ∧ n = q.2.2 ∧ t_OB (o + r) (E.1.1 k) q.2.2 (E.1.2 k) H (gm_fv o μ k r)
def gm_C (E : gm_E) (o : Nat) (μ : gm_M) (H : Heap) : Prop := H.size = o + μ.1.length ∧ μ.1[0]? = some (0, 0) ∧ (E.2.2.2.size = o + 1 ∧ ∀ q, q ≤ o → H[q]? = E.2.2.2[q]?) ∧ ∀ r t n, μ.1[r]? = some (t, n) → gm_cell E o μ H r t n
def gm_tys (E : gm_E) : List (ClassId × FieldType) := [(E.2.1 1, .int), (E.2.1 2, .boolean), (E.2.1 3, .object "GumBubble$Plain"), (E.2.1 4, .object "GumBubble$Child")]
def gm_As (a b : String) (U : State) : Prop := ∃ c t : ClassId, U.vm.findClass a = some c ∧ U.vm.findClass b = some t ∧ U.vm.assignable c t = true
theorem gm_As.moved {a b : String} {u U : State} (hvm : u.vm.Alike U.vm) (h : gm_As a b u) : gm_As a b U := by
  obtain ⟨c, t, h1, h2, h3⟩ := h
  exact ⟨c, t, by rw [hvm.findClass]; exact h1, by rw [hvm.findClass]; exact h2, by rw [hvm.assignable]; exact h3⟩
def gm_yes : List (String × String) := [("GumBubble$Plain", "GumBubble$Plain"), ("GumBubble$Child", "GumBubble$Child"), ("GumBubble$Quick", "GumBubble$Quick"), ("GumBubble$Slow", "GumBubble$Slow"), ("GumBubble$Cold", "GumBubble$Cold"), ("GumBubble$Greedy", "GumBubble$Greedy"), ("GumBubble$Careful", "GumBubble$Careful"), ("GumBubble$Told", "GumBubble$Told"), ("GumBubble$Quick", "GumBubble$Plain"), ("GumBubble$Slow", "GumBubble$Plain"), ("GumBubble$Cold", "GumBubble$Plain"), ("GumBubble$Greedy", "GumBubble$Plain"), ("GumBubble$Careful", "GumBubble$Plain"), ("GumBubble$Told", "GumBubble$Plain"), ("GumBubble$Greedy", "GumBubble$Quick"), ("GumBubble$Careful", "GumBubble$Slow"), ("GumBubble$Told", "GumBubble$Cold")]
def gm_no0 : List (String × String) := [("GumBubble$Plain", "GumBubble$Told"), ("GumBubble$Quick", "GumBubble$Told"), ("GumBubble$Slow", "GumBubble$Told"), ("GumBubble$Cold", "GumBubble$Told"), ("GumBubble$Greedy", "GumBubble$Told"), ("GumBubble$Careful", "GumBubble$Told"), ("GumBubble$Plain", "GumBubble$Quick"), ("GumBubble$Slow", "GumBubble$Quick"), ("GumBubble$Cold", "GumBubble$Quick"), ("GumBubble$Careful", "GumBubble$Quick"), ("GumBubble$Told", "GumBubble$Quick"), ("GumBubble$Plain", "GumBubble$Slow"), ("GumBubble$Quick", "GumBubble$Slow"), ("GumBubble$Cold", "GumBubble$Slow"), ("GumBubble$Greedy", "GumBubble$Slow"), ("GumBubble$Told", "GumBubble$Slow"), ("GumBubble$Plain", "GumBubble$Cold"), ("GumBubble$Quick", "GumBubble$Cold"), ("GumBubble$Slow", "GumBubble$Cold"), ("GumBubble$Greedy", "GumBubble$Cold"), ("GumBubble$Careful", "GumBubble$Cold"), ("GumBubble$Plain", "GumBubble$Greedy"), ("GumBubble$Quick", "GumBubble$Greedy"), ("GumBubble$Slow", "GumBubble$Greedy"), ("GumBubble$Cold", "GumBubble$Greedy"), ("GumBubble$Careful", "GumBubble$Greedy"), ("GumBubble$Told", "GumBubble$Greedy"), ("GumBubble$Plain", "GumBubble$Careful"), ("GumBubble$Quick", "GumBubble$Careful"), ("GumBubble$Slow", "GumBubble$Careful"), ("GumBubble$Cold", "GumBubble$Careful"), ("GumBubble$Greedy", "GumBubble$Careful"), ("GumBubble$Told", "GumBubble$Careful")]
def gm_N1 : Cond := .methodLinkNest "GumBubble$Scene" 23 ⟨"GumBubble$Afternoon", "<init>", "()V"⟩ "GumBubble"
def gm_N2 : Cond := .methodLinkNest "GumBubble" 92 ⟨"GumBubble$Afternoon", "<init>", "()V"⟩ "GumBubble"
/-! the six texts: read only, below the law's memory -/
def gm_txt : List (List Int32) := [[119, 105, 110, 100, 32], [119, 101, 101, 116, 32], [114, 101, 116, 99, 104, 32], [105, 102, 102, 32], [99, 107, 118, 112, 115, 109], [60, 61, 62]]
def gm_tls : List Nat := [5, 5, 6, 4, 6, 3]
def gm_sr : List (String × Nat × String × Nat) := [("GumBubble$Afternoon", 63, "wind ", 0), ("GumBubble$Afternoon", 69, "weet ", 1), ("GumBubble$Afternoon", 71, "retch ", 2), ("GumBubble$Afternoon", 73, "iff ", 3), ("GumBubble$Afternoon", 104, "ckvpsm", 4), ("GumBubble$Afternoon", 109, "<=>", 5), ("GumBubbleModel", 121, "wind ", 0), ("GumBubbleModel", 108, "weet ", 1), ("GumBubbleModel", 114, "retch ", 2), ("GumBubbleModel", 119, "iff ", 3), ("GumBubbleModel", 90, "ckvpsm", 4), ("GumBubbleModel", 96, "<=>", 5)]
def gm_never : Nat → Prop := fun _ => False
def gm_TS (E : gm_E) (U : State) (H : Heap) : Prop := vk_S 6 gm_tls gm_txt (fun i => E.2.2.1 (i + 1)) (fun i => E.2.2.1 (i + 7)) gm_never U H ∧ va_Z "java/lang/String" "COMPACT_STRINGS" "Z" (.int 1) gm_never U H ∧ va_Z "jdk/internal/util/Preconditions" "SIOOBE_FORMATTER" "Ljava/util/function/BiFunction;" (gm_fm (E.2.2.1 13)) gm_never U H
def gm_TX (E : gm_E) (U : State) : Prop := gm_TS E U E.2.2.2 ∧ ∀ q ∈ gm_sr, vk_R q.1 q.2.1 q.2.2.1 (E.2.2.1 (q.2.2.2 + 1)) U
theorem gm_TS.moved {E : gm_E} {u U : State} {H : Heap} (hvm : u.vm.Alike U.vm) (h : gm_TS E u H) : gm_TS E U H := ⟨vk_S.moved hvm h.1, va_Z.moved hvm h.2.1, va_Z.moved hvm h.2.2⟩
theorem gm_TS.kept {E : gm_E} {U : State} {H H1 : Heap} (h : gm_TS E U H) (hq : ∀ a : Nat, a < H.size → ¬ gm_never a → H1[a]? = H[a]?) : gm_TS E U H1 := ⟨vk_S.kept h.1 hq, va_Z.kept h.2.1 hq, va_Z.kept h.2.2 hq⟩
def gm_K (E : gm_E) (U : State) : Prop := va_K E.1 gm_cls (gm_tys E) U ∧ va_AO "GumBubble$Plain" U ∧ va_AO "GumBubble$Child" U ∧ (∀ q ∈ gm_yes, gm_As q.1 q.2 U) ∧ va_Nw gm_N1 U ∧ va_Nw gm_N2 U ∧ (∀ q ∈ gm_no0, va_Nc q.1 q.2 U) ∧ gm_TX E U
theorem gm_K.warm {E : gm_E} {s U : State} (hW : s.WarmedH U.vm) (h : gm_K E s) : gm_K E U := by
  obtain ⟨h1, h2, h3, h4, h5, h6, h7, h8⟩ := h
  exact ⟨h1.moved hW.alike, h2.moved hW.alike, h3.moved hW.alike, fun q hq => (h4 q hq).moved hW.alike, va_Nw.warmM hW h5, va_Nw.warmM hW h6, fun q hq => (h7 q hq).moved hW.alike, h8.1.moved hW.alike, fun q hq => vk_R.warm hW (h8.2 q hq)⟩
theorem gm_K.same {E : gm_E} {s U : State} (e : s.vm = U.vm) (h : gm_K E s) : gm_K E U := by
  obtain ⟨h1, h2, h3, h4, h5, h6, h7, h8⟩ := h
  have hA : s.vm.Alike U.vm := by rw [e]; exact Vm.Alike.refl U.vm
  exact ⟨h1.moved hA, h2.moved hA, h3.moved hA, fun q hq => (h4 q hq).moved hA, va_tabs rfl e h5, va_tabs rfl e h6, fun q hq => (h7 q hq).moved hA, h8.1.moved hA, fun q hq => vk_R.same e.symm (h8.2 q hq)⟩
/-- a method's name, and what is known where it began -/
abbrev gm_Nm : Type := String × (gm_E → State → Prop)
def gm_nm (s : String) : gm_Nm := (s, fun _ _ => True)
def gm_X (own : String) (nm : gm_Nm) (cc : ByteArray) (nL : Nat) (rt : Option FieldType) (E : gm_E) (p : Program) (s : State) (m : MethodId) (args : Array Value) (meth : Method) (c : Code) : Prop :=
  p.tables.exec = Jvm.exec ∧ c.code = cc ∧ c.maxLocals = nL ∧ meth.sig.returnType = rt ∧ s.vm.findClass own = some m.cls ∧ (∀ w ∈ gm_G, w.before args s = true) ∧ meth.locks = false ∧ gm_K E s ∧ meth.name = nm.1 ∧ nm.2 E s
def gm_Qc (E : gm_E) (o : Nat) (res : Option Value) (μ : gm_M) : Array Value → State → Outcome → State → Prop := fun _ _ oc t => oc = .returned (res.map (gm_cv E o)) ∧ gm_C E o μ t.heap
def gm_Goal (own : String) (nm : gm_Nm) (cc : ByteArray) (nL : Nat) (rt : Option FieldType) (R : Room) (res : Option Value) (μe : gm_M) (k n : Nat) (μ : gm_M) (pc : Nat) (L : List (Nat × Value)) (st : List Value) : Prop :=
  ∀ (p : Program) (l : Launch) (e : Env) (s : State) (m : MethodId) (args : Array Value) (below : List Frame) (meth : Method) (c : Code) (H : Heap) (locs : List Loc) (ls : Array Slot) (E : gm_E) (o : Nat),
    gm_X own nm cc nL rt E p s m args meth c → gm_C E o μ H → lv_has ls nL (L.map fun q => (q.1, gm_cv E o q.2)) → (∀ q ∈ locs, o < q.base) →
    W p l e R s m args below meth c H locs k n (MQ below (gm_Qc E o res μe) args s R.cells R.slots (fun q => o < q)) (F0 m pc ls (st.map (gm_cv E o)))
/-- whatever z gives, with what κ says of it, the machine goes there -/
def gm_A (own : String) (nm : gm_Nm) (cc : ByteArray) (nL : Nat) (rt : Option FieldType) (R : Room) (res : Option Value) (μe : gm_M) {β : Type} (k n : Nat) (μ : gm_M) (pc : Nat) (L : List (Nat × Value)) (st : List Value) (z : Option β) (κ : β → Prop) : Prop :=
  ∀ b : β, z = some b → κ b → gm_Goal own nm cc nL rt R res μe k n μ pc L st
def gm_up1 (L : List (Nat × Value)) (i : Nat) (v : Value) : List (Nat × Value) := (i, v) :: L.filter (fun q => !(q.1 == i) && !(q.1 + 1 == i && q.2.category == 2))
def gm_up2 (L : List (Nat × Value)) (i : Nat) (v : Value) : List (Nat × Value) := (i, v) :: L.filter (fun q => !(q.1 == i) && (!(q.1 == i + 1) && !(q.1 + 1 == i && q.2.category == 2)))
theorem gm_map {E : gm_E} {o q i : Nat} {L : List (Nat × Value)} {v : Value} (h : L[q]? = some (i, v)) : (L.map fun q => (q.1, gm_cv E o q.2))[q]? = some (i, gm_cv E o v) := by
  rw [List.getElem?_map, h]; rfl
theorem gm_up1_map {E : gm_E} {o i : Nat} {L L' : List (Nat × Value)} {v : Value} (h : gm_up1 L i v = L') : (i, gm_cv E o v) :: (L.map fun q => (q.1, gm_cv E o q.2)).filter (fun q => !(q.1 == i) && !(q.1 + 1 == i && q.2.category == 2)) = L'.map fun q => (q.1, gm_cv E o q.2) := by
  rw [← h, gm_up1, List.map_cons, List.filter_map]
  congr 3
  funext q
  simp only [Function.comp, gm_cv_cat]
theorem gm_up2_map {E : gm_E} {o i : Nat} {L L' : List (Nat × Value)} {v : Value} (h : gm_up2 L i v = L') : (i, gm_cv E o v) :: (L.map fun q => (q.1, gm_cv E o q.2)).filter (fun q => !(q.1 == i) && (!(q.1 == i + 1) && !(q.1 + 1 == i && q.2.category == 2))) = L'.map fun q => (q.1, gm_cv E o q.2) := by
  rw [← h, gm_up2, List.map_cons, List.filter_map]
  congr 3
  funext q
  simp only [Function.comp, gm_cv_cat]
section GX
variable {p : Program} {l : Launch} {e : Env} {R : Room} {s : State} {m : MethodId} {args : Array Value} {below : List Frame} {meth : Method} {c : Code} {H : Heap} {locs : List Loc} {cells slots : Nat} {Q : State → Prop} {cc : ByteArray} {pc : Nat} {ls : Array Slot} {rest : List Value}
theorem gm_xaload_n (hexec : p.tables.exec = Jvm.exec) (hb : c.code = cc) {k : Fin 4} {i o r : Nat} (hdg : decode cc pc = .ok (.aload_n k, 1)) (hi : (k : Nat) = i) (hl : ls[i]? = some (.val (gm_rv o r))) (kk : W p l e R s m args below meth c H locs cells slots Q (F0 m (pc + 1) ls (gm_rv o r :: rest))) : W p l e R s m args below meth c H locs cells slots Q (F0 m pc ls rest) := by
  unfold gm_rv at hl kk
  split at hl
  · rw [if_pos ‹_›] at kk
    exact lv_aload_nN hexec hb hdg hi hl kk
  · rw [if_neg ‹_›] at kk
    exact lv_aload_n hexec hb hdg hi hl kk
theorem gm_xaload (hexec : p.tables.exec = Jvm.exec) (hb : c.code = cc) {i o r : Nat} (hdg : decode cc pc = .ok (.aload i, 2)) (hl : ls[i]? = some (.val (gm_rv o r))) (kk : W p l e R s m args below meth c H locs cells slots Q (F0 m (pc + 2) ls (gm_rv o r :: rest))) : W p l e R s m args below meth c H locs cells slots Q (F0 m pc ls rest) := by
  unfold gm_rv at hl kk
  split at hl
  · rw [if_pos ‹_›] at kk
    exact lv_aloadN hexec hb hdg hl kk
  · rw [if_neg ‹_›] at kk
    exact lv_aload hexec hb hdg hl kk
theorem gm_xastore_n (hexec : p.tables.exec = Jvm.exec) (hb : c.code = cc) {k : Fin 4} {i nL o r : Nat} {lv lv' : List (Nat × Value)} (hdg : decode cc pc = .ok (.astore_n k, 1)) (hi : (k : Nat) = i) (h : lv_has ls nL lv) (hn : i < nL) (hl : (i, gm_rv o r) :: lv.filter (fun q => !(q.1 == i) && !(q.1 + 1 == i && q.2.category == 2)) = lv')
    (kk : ∀ ls' : Array Slot, lv_has ls' nL lv' → W p l e R s m args below meth c H locs cells slots Q (F0 m (pc + 1) ls' rest)) : W p l e R s m args below meth c H locs cells slots Q (F0 m pc ls (gm_rv o r :: rest)) := by
  unfold gm_rv at hl ⊢
  split at hl
  · rw [if_pos ‹_›]
    exact lv_astore_nN hexec hb hdg hi h hn hl kk
  · rw [if_neg ‹_›]
    exact lv_astore_n hexec hb hdg hi h hn hl kk
theorem gm_xastore (hexec : p.tables.exec = Jvm.exec) (hb : c.code = cc) {i nL o r : Nat} {lv lv' : List (Nat × Value)} (hdg : decode cc pc = .ok (.astore i, 2)) (h : lv_has ls nL lv) (hn : i < nL) (hl : (i, gm_rv o r) :: lv.filter (fun q => !(q.1 == i) && !(q.1 + 1 == i && q.2.category == 2)) = lv')
    (kk : ∀ ls' : Array Slot, lv_has ls' nL lv' → W p l e R s m args below meth c H locs cells slots Q (F0 m (pc + 2) ls' rest)) : W p l e R s m args below meth c H locs cells slots Q (F0 m pc ls (gm_rv o r :: rest)) := by
  unfold gm_rv at hl ⊢
  split at hl
  · rw [if_pos ‹_›]
    exact lv_astoreN hexec hb hdg h hn hl kk
  · rw [if_neg ‹_›]
    exact lv_astore hexec hb hdg h hn hl kk
end GX
section
variable {p : Program} {l : Launch} {e : Env} {R : Room} {s : State} {m : MethodId} {args : Array Value} {below : List Frame} {meth : Method} {c : Code}
theorem gm_cSU2 {T : State} {locs : List Loc} {cells slots : Nat} (X : Stand p l e R s m args below meth c T locs cells slots) (hexec : p.tables.exec = Jvm.exec) {own C1 : String} {index : Nat} {y : MethodName} {bytes : ByteArray} {maxL : Nat} {ret : Option FieldType}
    (hown : s.vm.findClass own = some m.cls) (hlink : (Cond.methodLink own index ⟨C1, y.name, y.desc⟩).before args s = true) (hsame : (Cond.sameMethod C1 y.cls y.name y.desc).before args s = true) (hsup : (Cond.superclass own C1).before args s = true) (hsup2 : (Cond.superclass C1 y.cls).before args s = true)
    (hinst : (Cond.instanceMethod y).before args s = true) (hcode : (Cond.code y bytes maxL ret).before args s = true) (hno : y.name ≠ "<init>")
    {W : Nat} {Pre : Pt → Array Value → Prop} {Post : Pt → Array Value → Option Value → Pt → Prop} (hK : Back l R p e below s args y 3 W Pre Post)
    {b : Addr} {cellB : Cell} {kB : Class} (hcell : T.heap[b]? = some cellB) (hobj : cellB.vm.isStatics = false) (hkB : s.vm.classes[cellB.cls]? = some kB)
    {g : JFrame} (hg : g.method = m) (hsize : g.locals.size = c.maxLocals) {argsL rest : List Value} (hlen : ∀ sig, parseMethodDescriptor y.desc = some sig → argsL.length = sig.parameters.length)
    (hstack : g.stack = argsL.reverse ++ .ref b :: rest) (hW : 2 * g.monitorRoom + (rest.map fun v => v.category).sum ≤ W) (hdg : decode c.code g.pc = .ok (.invokespecial index, 3))
    (hpre : ∀ vm₁, s.WarmedH vm₁ → Pre ⟨T.setVm vm₁, locs, cells, slots⟩ (Value.ref b :: argsL).toArray) :
    ∃ (v : Option Value) (vm₁ : Vm) (B : Pt), s.WarmedH vm₁ ∧ Stand p l e R s m args below meth c B.U B.locs B.cells B.slots ∧ Post ⟨T.setVm vm₁, locs, cells, slots⟩ (Value.ref b :: argsL).toArray v B ∧
      ∀ target, Steps p.tables e below (B.U.setTop { g with pc := g.pc + 3, stack := v.toList ++ rest }) target → Steps p.tables e below (T.setTop g) target := by
  obtain ⟨mk, methM, hnamed, hmethM, hstM, habM⟩ := Cond.instanceMethod_spec hinst
  obtain ⟨methM', cM, hmethM', -, -, -, -, -, -, hsigM⟩ := Cond.code_spec hnamed hcode
  cases hmethM.symm.trans hmethM'
  obtain ⟨ps, dk, kp, hps, hdk, hkp, hsuper, -, -, hnid⟩ := Cond.superclass_spec hown hsup
  obtain ⟨ps2, dk2, kp2, hps2, hdk2, hkp2, hsuper2, -, -, -⟩ := Cond.superclass_spec hps hsup2
  have hn : s.methodNamed? ⟨y.cls, y.name, y.desc⟩ = some mk := hnamed
  have hpm : ps2 = mk.cls := Option.some.inj (hps2.symm.trans (findClass_of_methodNamed hnamed))
  have hsz : ∃ n, s.vm.classes.size = n + 1 := by
    obtain ⟨hlt, -⟩ := Array.getElem?_eq_some_iff.mp hdk2
    exact ⟨s.vm.classes.size - 1, by omega⟩
  obtain ⟨n, hn1⟩ := hsz
  have hsub : s.vm.isSubclass ps mk.cls = true := by
    rw [← hpm]
    unfold Vm.isSubclass
    rw [hn1]
    simp [Vm.isSubclassAux, hdk2, hsuper2]
  obtain ⟨vm₁, X₁, hstep₁⟩ := X.invokespecialUp hexec (x := ⟨C1, y.name, y.desc⟩) hown hlink hsame hn hmethM hstM habM hno hdk hnid hps hsuper hsub (a := b) (cell := cellB) hcell
    (fun z h => by rw [h] at hobj; cases hobj) hkB (g := g) hg (argsL := argsL) (rest := rest) (hlen _ hsigM) hstack hdg
  obtain ⟨v, B, X', hpost, hsteps⟩ := hK m meth c ⟨T.setVm vm₁, locs, cells, slots⟩ { g with stack := rest } (.invokespecial index) mk (Value.ref b :: argsL).toArray X₁ hg hsize hdg hW (X₁.named hnamed) (hpre vm₁ X₁.warmed)
  exact ⟨v, vm₁, B, X₁.warmed, X', hpost, fun target h => hstep₁ _ (by rw [doInvoke_state]; exact hsteps.trans h)⟩
variable {H : Heap} {locs : List Loc} {cells slots : Nat}
theorem gm_runSU2 {y : MethodName} {bytes cc : ByteArray} {maxL nL mc ms n index : Nat} {ret : Option FieldType} {ws : List Cond} {rm : Room} {Pc : Array Value → State → Prop} {Qc : Array Value → State → Outcome → State → Prop} {free : Addr → Prop} {Ts : List Cond} {own C C1 : String} {cC : ClassId} {b : Addr} {As rest : List Value} {g : JFrame}
    (hat : ClassAt s C cC) (S : CallFix p m c cc nL s args Ts own) (hM : Met l y ws rm Pc Qc mc ms free)
    (hrc : rm.cells = mc) (hrs : rm.slots = ms) (hfr : rm.frames + 1 ≤ R.frames) (hlo : 8 + (maxL + 11) + rm.locals ≤ R.locals) (hws : ∀ w ∈ ws, ∀ (a' : Array Value) (U : State), s.WarmedH U.vm → w.before a' U = true) (hcw : Cond.code y bytes maxL ret ∈ ws)
    (hl1 : (Cond.methodLink own index ⟨C1, y.name, y.desc⟩).before args s = true) (hl2 : (Cond.sameMethod C1 y.cls y.name y.desc).before args s = true) (hl3 : (Cond.superclass own C1).before args s = true) (hl5 : (Cond.superclass C1 y.cls).before args s = true) (hl4 : (Cond.instanceMethod y).before args s = true) (hini : (Cond.initialized y.cls).before args s = true) (hcode : (Cond.code y bytes maxL ret).before args s = true) (hno : y.name ≠ "<init>") (hlen : ∀ sig, parseMethodDescriptor y.desc = some sig → n = sig.parameters.length)
    (hp : PreV s H C b Pc As)
    (hg : g.method = m) (hn : As.length = n) (hsize : g.locals.size = nL) (hstack : g.stack = As.reverse ++ .ref b :: rest) (hW : 2 * g.monitorRoom + (rest.map fun v => v.category).sum ≤ 8) (hdg : decode cc g.pc = .ok (.invokespecial index, 3)) (hf : cells + mc ≤ R.cells ∧ slots + ms ≤ R.slots) :
    va_Run p l e R s m args below meth c H locs cells slots mc ms g rest (Qc (Value.ref b :: As).toArray) (free) := by
  have hK : Back l R p e below s args y 3 8 (PreOf R mc ms Pc) (PostOf Qc mc ms free) := back_of (bytes := bytes) (maxL := maxL) (ret := ret) hM hp.1 hrc hrs hfr hlo hws hcw (fun a' U hW => word_at hW (Or.inl (by first | rfl | simp [Cond.onTables, Cond.keeps, Cond.steady])) hini)
  obtain ⟨hx, hb, hml, ho, -⟩ := S
  obtain ⟨-, ⟨cellB, hcB, hoB, hclB⟩, hPc⟩ := hp
  obtain ⟨hfc, kB, hkB, -⟩ := hat
  cases hfc.symm.trans hclB
  intro T hT X
  obtain ⟨v, vm₁, ⟨U', l2, c2, s2⟩, hW₁, X', ⟨g', mk, t, L, e1, e2, hq, h1, hL, h2, h3⟩, st⟩ := gm_cSU2 X hx (bytes := bytes) (maxL := maxL) (ret := ret) ho hl1 hl2 hl3 hl5 hl4 hcode hno hK (by rw [hT]; exact hcB) hoB hkB hg (hsize.trans hml.symm) (argsL := As) (rest := rest) (fun sig h => hn.trans (hlen sig h)) hstack hW (by rw [hb]; exact hdg)
    (fun vm₁ hW₁ => ⟨hf.1, hf.2, hPc (T.setVm vm₁) hT hW₁⟩)
  dsimp only [Pt.U, Pt.locs, Pt.cells, Pt.slots] at X' e1 e2 h1 h2 h3 st
  subst h1; subst h2; subst h3
  exact ⟨v, (T.setVm vm₁).calling g' mk (Value.ref b :: As).toArray, t, U', L, hT, X', hL, e1, e2, hq, st⟩
end
section GA
variable {own : String} {nm : gm_Nm} {cc : ByteArray} {nL : Nat} {rt : Option FieldType} {R : Room} {res : Option Value} {μe : gm_M} {β : Type} {k n : Nat} {μ : gm_M} {pc : Nat} {L : List (Nat × Value)} {st : List Value} {z : Option β} {κ : β → Prop}
theorem gm_iconst {i : Int} {v : Int32} (hd : decode cc pc = .ok (.iconst i, 1)) (hv : Int32.ofInt i = v) (kk : gm_A own nm cc nL rt R res μe k n μ (pc + 1) L (.int v :: st) z κ) : gm_A own nm cc nL rt R res μe k n μ pc L st z κ := by
  intro b hz hk p l e s m args below meth c H locs ls E o X C hl hf
  have kk := kk b hz hk p l e s m args below meth c H locs ls E o X C hl hf
  obtain ⟨hx, hb, hml, hr, hown, hts, hlk, hK, hnm⟩ := X
  exact lv_iconst hx hb hd hv kk
theorem gm_bipush {i : Int} {v : Int32} (hd : decode cc pc = .ok (.bipush i, 2)) (hv : (Int8.ofInt i).toInt32 = v) (kk : gm_A own nm cc nL rt R res μe k n μ (pc + 2) L (.int v :: st) z κ) : gm_A own nm cc nL rt R res μe k n μ pc L st z κ := by
  intro b hz hk p l e s m args below meth c H locs ls E o X C hl hf
  have kk := kk b hz hk p l e s m args below meth c H locs ls E o X C hl hf
  obtain ⟨hx, hb, hml, hr, hown, hts, hlk, hK, hnm⟩ := X
  exact lv_bipush hx hb hd hv kk
theorem gm_sipush {i : Int} {v : Int32} (hd : decode cc pc = .ok (.sipush i, 3)) (hv : (Int16.ofInt i).toInt32 = v) (kk : gm_A own nm cc nL rt R res μe k n μ (pc + 3) L (.int v :: st) z κ) : gm_A own nm cc nL rt R res μe k n μ pc L st z κ := by
  intro b hz hk p l e s m args below meth c H locs ls E o X C hl hf
  have kk := kk b hz hk p l e s m args below meth c H locs ls E o X C hl hf
  obtain ⟨hx, hb, hml, hr, hown, hts, hlk, hK, hnm⟩ := X
  exact lv_sipush hx hb hd hv kk
theorem gm_lconst {i : Fin 2} {v : Int64} (hd : decode cc pc = .ok (.lconst i, 1)) (hv : Int64.ofNat (i : Nat) = v) (kk : gm_A own nm cc nL rt R res μe k n μ (pc + 1) L (.long v :: st) z κ) : gm_A own nm cc nL rt R res μe k n μ pc L st z κ := by
  intro b hz hk p l e s m args below meth c H locs ls E o X C hl hf
  have kk := kk b hz hk p l e s m args below meth c H locs ls E o X C hl hf
  obtain ⟨hx, hb, hml, hr, hown, hts, hlk, hK, hnm⟩ := X
  exact lv_lconst hx hb hd hv kk
theorem gm_ldc {i : Nat} {v : Int32} (hw : Jvm.Cond.constant own i v ∈ gm_G) (hd : decode cc pc = .ok (.ldc i, 2)) (kk : gm_A own nm cc nL rt R res μe k n μ (pc + 2) L (.int v :: st) z κ) : gm_A own nm cc nL rt R res μe k n μ pc L st z κ := by
  intro b hz hk p l e s m args below meth c H locs ls E o X C hl hf
  have kk := kk b hz hk p l e s m args below meth c H locs ls E o X C hl hf
  obtain ⟨hx, hb, hml, hr, hown, hts, hlk, hK, hnm⟩ := X
  exact lv_ldc hx hb hown (hts _ hw) hd kk
theorem gm_ldc2 {i : Nat} {v : Int64} (hw : Jvm.Cond.constantLong own i v ∈ gm_G) (hd : decode cc pc = .ok (.ldc2_w i, 3)) (kk : gm_A own nm cc nL rt R res μe k n μ (pc + 3) L (.long v :: st) z κ) : gm_A own nm cc nL rt R res μe k n μ pc L st z κ := by
  intro b hz hk p l e s m args below meth c H locs ls E o X C hl hf
  have kk := kk b hz hk p l e s m args below meth c H locs ls E o X C hl hf
  obtain ⟨hx, hb, hml, hr, hown, hts, hlk, hK, hnm⟩ := X
  exact lv_ldc2 hx hb hown (hts _ hw) hd kk
theorem gm_iload_n {f : Fin 4} {i : Nat} {x : Int32} (hd : decode cc pc = .ok (.iload_n f, 1)) (hi : (f : Nat) = i) (q : Nat) (hq : L[q]? = some (i, .int x)) (kk : gm_A own nm cc nL rt R res μe k n μ (pc + 1) L (.int x :: st) z κ) : gm_A own nm cc nL rt R res μe k n μ pc L st z κ := by
  intro b hz hk p l e s m args below meth c H locs ls E o X C hl hf
  have kk := kk b hz hk p l e s m args below meth c H locs ls E o X C hl hf
  obtain ⟨hx, hb, hml, hr, hown, hts, hlk, hK, hnm⟩ := X
  exact lv_iload_n hx hb hd hi (lv_at hl q (gm_map hq)) kk
theorem gm_iload {i : Nat} {x : Int32} (hd : decode cc pc = .ok (.iload i, 2)) (q : Nat) (hq : L[q]? = some (i, .int x)) (kk : gm_A own nm cc nL rt R res μe k n μ (pc + 2) L (.int x :: st) z κ) : gm_A own nm cc nL rt R res μe k n μ pc L st z κ := by
  intro b hz hk p l e s m args below meth c H locs ls E o X C hl hf
  have kk := kk b hz hk p l e s m args below meth c H locs ls E o X C hl hf
  obtain ⟨hx, hb, hml, hr, hown, hts, hlk, hK, hnm⟩ := X
  exact lv_iload hx hb hd (lv_at hl q (gm_map hq)) kk
theorem gm_lload_n {f : Fin 4} {i : Nat} {x : Int64} (hd : decode cc pc = .ok (.lload_n f, 1)) (hi : (f : Nat) = i) (q : Nat) (hq : L[q]? = some (i, .long x)) (kk : gm_A own nm cc nL rt R res μe k n μ (pc + 1) L (.long x :: st) z κ) : gm_A own nm cc nL rt R res μe k n μ pc L st z κ := by
  intro b hz hk p l e s m args below meth c H locs ls E o X C hl hf
  have kk := kk b hz hk p l e s m args below meth c H locs ls E o X C hl hf
  obtain ⟨hx, hb, hml, hr, hown, hts, hlk, hK, hnm⟩ := X
  exact lv_lload_n hx hb hd hi (lv_at hl q (gm_map hq)) kk
theorem gm_lload {i : Nat} {x : Int64} (hd : decode cc pc = .ok (.lload i, 2)) (q : Nat) (hq : L[q]? = some (i, .long x)) (kk : gm_A own nm cc nL rt R res μe k n μ (pc + 2) L (.long x :: st) z κ) : gm_A own nm cc nL rt R res μe k n μ pc L st z κ := by
  intro b hz hk p l e s m args below meth c H locs ls E o X C hl hf
  have kk := kk b hz hk p l e s m args below meth c H locs ls E o X C hl hf
  obtain ⟨hx, hb, hml, hr, hown, hts, hlk, hK, hnm⟩ := X
  exact lv_lload hx hb hd (lv_at hl q (gm_map hq)) kk
theorem gm_aload_n {f : Fin 4} {i : Nat} {x : Nat} (hd : decode cc pc = .ok (.aload_n f, 1)) (hi : (f : Nat) = i) (q : Nat) (hq : L[q]? = some (i, .ref x)) (kk : gm_A own nm cc nL rt R res μe k n μ (pc + 1) L (.ref x :: st) z κ) : gm_A own nm cc nL rt R res μe k n μ pc L st z κ := by
  intro b hz hk p l e s m args below meth c H locs ls E o X C hl hf
  have kk := kk b hz hk p l e s m args below meth c H locs ls E o X C hl hf
  obtain ⟨hx, hb, hml, hr, hown, hts, hlk, hK, hnm⟩ := X
  exact gm_xaload_n hx hb hd hi (lv_at hl q (gm_map hq)) kk
theorem gm_aload {i : Nat} {x : Nat} (hd : decode cc pc = .ok (.aload i, 2)) (q : Nat) (hq : L[q]? = some (i, .ref x)) (kk : gm_A own nm cc nL rt R res μe k n μ (pc + 2) L (.ref x :: st) z κ) : gm_A own nm cc nL rt R res μe k n μ pc L st z κ := by
  intro b hz hk p l e s m args below meth c H locs ls E o X C hl hf
  have kk := kk b hz hk p l e s m args below meth c H locs ls E o X C hl hf
  obtain ⟨hx, hb, hml, hr, hown, hts, hlk, hK, hnm⟩ := X
  exact gm_xaload hx hb hd (lv_at hl q (gm_map hq)) kk
theorem gm_istore_n {f : Fin 4} {i : Nat} {x : Int32} {L' : List (Nat × Value)} (hd : decode cc pc = .ok (.istore_n f, 1)) (hi : (f : Nat) = i) (hn : i < nL) (hL : gm_up1 L i (.int x) = L') (kk : gm_A own nm cc nL rt R res μe k n μ (pc + 1) L' st z κ) : gm_A own nm cc nL rt R res μe k n μ pc L (.int x :: st) z κ := by
  intro b hz hk p l e s m args below meth c H locs ls E o X C hl hf
  obtain ⟨hx, hb, hml, hr, hown, hts, hlk, hK, hnm⟩ := id X
  exact lv_istore_n hx hb hd hi hl hn (gm_up1_map hL) (fun ls hl => kk b hz hk p l e s m args below meth c H locs ls E o X C hl hf)
theorem gm_istore {i : Nat} {x : Int32} {L' : List (Nat × Value)} (hd : decode cc pc = .ok (.istore i, 2)) (hn : i < nL) (hL : gm_up1 L i (.int x) = L') (kk : gm_A own nm cc nL rt R res μe k n μ (pc + 2) L' st z κ) : gm_A own nm cc nL rt R res μe k n μ pc L (.int x :: st) z κ := by
  intro b hz hk p l e s m args below meth c H locs ls E o X C hl hf
  obtain ⟨hx, hb, hml, hr, hown, hts, hlk, hK, hnm⟩ := id X
  exact lv_istore hx hb hd hl hn (gm_up1_map hL) (fun ls hl => kk b hz hk p l e s m args below meth c H locs ls E o X C hl hf)
theorem gm_lstore_n {f : Fin 4} {i : Nat} {x : Int64} {L' : List (Nat × Value)} (hd : decode cc pc = .ok (.lstore_n f, 1)) (hi : (f : Nat) = i) (hn : i + 1 < nL) (hL : gm_up2 L i (.long x) = L') (kk : gm_A own nm cc nL rt R res μe k n μ (pc + 1) L' st z κ) : gm_A own nm cc nL rt R res μe k n μ pc L (.long x :: st) z κ := by
  intro b hz hk p l e s m args below meth c H locs ls E o X C hl hf
  obtain ⟨hx, hb, hml, hr, hown, hts, hlk, hK, hnm⟩ := id X
  exact lv_lstore_n hx hb hd hi hl hn (gm_up2_map hL) (fun ls hl => kk b hz hk p l e s m args below meth c H locs ls E o X C hl hf)
theorem gm_lstore {i : Nat} {x : Int64} {L' : List (Nat × Value)} (hd : decode cc pc = .ok (.lstore i, 2)) (hn : i + 1 < nL) (hL : gm_up2 L i (.long x) = L') (kk : gm_A own nm cc nL rt R res μe k n μ (pc + 2) L' st z κ) : gm_A own nm cc nL rt R res μe k n μ pc L (.long x :: st) z κ := by
  intro b hz hk p l e s m args below meth c H locs ls E o X C hl hf
  obtain ⟨hx, hb, hml, hr, hown, hts, hlk, hK, hnm⟩ := id X
  exact lv_lstore hx hb hd hl hn (gm_up2_map hL) (fun ls hl => kk b hz hk p l e s m args below meth c H locs ls E o X C hl hf)
theorem gm_astore_n {f : Fin 4} {i : Nat} {x : Nat} {L' : List (Nat × Value)} (hd : decode cc pc = .ok (.astore_n f, 1)) (hi : (f : Nat) = i) (hn : i < nL) (hL : gm_up1 L i (.ref x) = L') (kk : gm_A own nm cc nL rt R res μe k n μ (pc + 1) L' st z κ) : gm_A own nm cc nL rt R res μe k n μ pc L (.ref x :: st) z κ := by
  intro b hz hk p l e s m args below meth c H locs ls E o X C hl hf
  obtain ⟨hx, hb, hml, hr, hown, hts, hlk, hK, hnm⟩ := id X
  exact gm_xastore_n hx hb hd hi hl hn (gm_up1_map hL) (fun ls hl => kk b hz hk p l e s m args below meth c H locs ls E o X C hl hf)
theorem gm_astore {i : Nat} {x : Nat} {L' : List (Nat × Value)} (hd : decode cc pc = .ok (.astore i, 2)) (hn : i < nL) (hL : gm_up1 L i (.ref x) = L') (kk : gm_A own nm cc nL rt R res μe k n μ (pc + 2) L' st z κ) : gm_A own nm cc nL rt R res μe k n μ pc L (.ref x :: st) z κ := by
  intro b hz hk p l e s m args below meth c H locs ls E o X C hl hf
  obtain ⟨hx, hb, hml, hr, hown, hts, hlk, hK, hnm⟩ := id X
  exact gm_xastore hx hb hd hl hn (gm_up1_map hL) (fun ls hl => kk b hz hk p l e s m args below meth c H locs ls E o X C hl hf)
theorem gm_iinc {i : Nat} {a : Int} {x v : Int32} {L' : List (Nat × Value)} (hd : decode cc pc = .ok (.iinc i a, 3)) (q : Nat) (hq : L[q]? = some (i, .int x)) (hv : x + Int32.ofInt a = v) (hn : i < nL) (hL : gm_up1 L i (.int v) = L') (kk : gm_A own nm cc nL rt R res μe k n μ (pc + 3) L' st z κ) : gm_A own nm cc nL rt R res μe k n μ pc L st z κ := by
  intro b hz hk p l e s m args below meth c H locs ls E o X C hl hf
  obtain ⟨hx, hb, hml, hr, hown, hts, hlk, hK, hnm⟩ := id X
  exact lv_iinc (k := q) hx hb hd hl (gm_map hq) hv hn (gm_up1_map hL) (fun ls hl => kk b hz hk p l e s m args below meth c H locs ls E o X C hl hf)
theorem gm_iadd {x y : Int32} (hd : decode cc pc = .ok (.iadd, 1)) (kk : gm_A own nm cc nL rt R res μe k n μ (pc + 1) L (.int (x + y) :: st) z κ) : gm_A own nm cc nL rt R res μe k n μ pc L (.int y :: .int x :: st) z κ := by
  intro b hz hk p l e s m args below meth c H locs ls E o X C hl hf
  have kk := kk b hz hk p l e s m args below meth c H locs ls E o X C hl hf
  obtain ⟨hx, hb, hml, hr, hown, hts, hlk, hK, hnm⟩ := X
  exact lv_iadd hx hb hd kk
theorem gm_isub {x y : Int32} (hd : decode cc pc = .ok (.isub, 1)) (kk : gm_A own nm cc nL rt R res μe k n μ (pc + 1) L (.int (x - y) :: st) z κ) : gm_A own nm cc nL rt R res μe k n μ pc L (.int y :: .int x :: st) z κ := by
  intro b hz hk p l e s m args below meth c H locs ls E o X C hl hf
  have kk := kk b hz hk p l e s m args below meth c H locs ls E o X C hl hf
  obtain ⟨hx, hb, hml, hr, hown, hts, hlk, hK, hnm⟩ := X
  exact lv_isub hx hb hd kk
theorem gm_imul {x y : Int32} (hd : decode cc pc = .ok (.imul, 1)) (kk : gm_A own nm cc nL rt R res μe k n μ (pc + 1) L (.int (x * y) :: st) z κ) : gm_A own nm cc nL rt R res μe k n μ pc L (.int y :: .int x :: st) z κ := by
  intro b hz hk p l e s m args below meth c H locs ls E o X C hl hf
  have kk := kk b hz hk p l e s m args below meth c H locs ls E o X C hl hf
  obtain ⟨hx, hb, hml, hr, hown, hts, hlk, hK, hnm⟩ := X
  exact lv_imul hx hb hd kk
theorem gm_iand {x y : Int32} (hd : decode cc pc = .ok (.iand, 1)) (kk : gm_A own nm cc nL rt R res μe k n μ (pc + 1) L (.int (x &&& y) :: st) z κ) : gm_A own nm cc nL rt R res μe k n μ pc L (.int y :: .int x :: st) z κ := by
  intro b hz hk p l e s m args below meth c H locs ls E o X C hl hf
  have kk := kk b hz hk p l e s m args below meth c H locs ls E o X C hl hf
  obtain ⟨hx, hb, hml, hr, hown, hts, hlk, hK, hnm⟩ := X
  exact lv_iand hx hb hd kk
theorem gm_ior {x y : Int32} (hd : decode cc pc = .ok (.ior, 1)) (kk : gm_A own nm cc nL rt R res μe k n μ (pc + 1) L (.int (x ||| y) :: st) z κ) : gm_A own nm cc nL rt R res μe k n μ pc L (.int y :: .int x :: st) z κ := by
  intro b hz hk p l e s m args below meth c H locs ls E o X C hl hf
  have kk := kk b hz hk p l e s m args below meth c H locs ls E o X C hl hf
  obtain ⟨hx, hb, hml, hr, hown, hts, hlk, hK, hnm⟩ := X
  exact lv_ior hx hb hd kk
theorem gm_ixor {x y : Int32} (hd : decode cc pc = .ok (.ixor, 1)) (kk : gm_A own nm cc nL rt R res μe k n μ (pc + 1) L (.int (x ^^^ y) :: st) z κ) : gm_A own nm cc nL rt R res μe k n μ pc L (.int y :: .int x :: st) z κ := by
  intro b hz hk p l e s m args below meth c H locs ls E o X C hl hf
  have kk := kk b hz hk p l e s m args below meth c H locs ls E o X C hl hf
  obtain ⟨hx, hb, hml, hr, hown, hts, hlk, hK, hnm⟩ := X
  exact lv_ixor hx hb hd kk
theorem gm_ishl {x y : Int32} (hd : decode cc pc = .ok (.ishl, 1)) (kk : gm_A own nm cc nL rt R res μe k n μ (pc + 1) L (.int (x <<< (y &&& 31)) :: st) z κ) : gm_A own nm cc nL rt R res μe k n μ pc L (.int y :: .int x :: st) z κ := by
  intro b hz hk p l e s m args below meth c H locs ls E o X C hl hf
  have kk := kk b hz hk p l e s m args below meth c H locs ls E o X C hl hf
  obtain ⟨hx, hb, hml, hr, hown, hts, hlk, hK, hnm⟩ := X
  exact lv_ishl hx hb hd kk
theorem gm_ishr {x y : Int32} (hd : decode cc pc = .ok (.ishr, 1)) (kk : gm_A own nm cc nL rt R res μe k n μ (pc + 1) L (.int (x >>> (y &&& 31)) :: st) z κ) : gm_A own nm cc nL rt R res μe k n μ pc L (.int y :: .int x :: st) z κ := by
  intro b hz hk p l e s m args below meth c H locs ls E o X C hl hf
  have kk := kk b hz hk p l e s m args below meth c H locs ls E o X C hl hf
  obtain ⟨hx, hb, hml, hr, hown, hts, hlk, hK, hnm⟩ := X
  exact lv_ishr hx hb hd kk
theorem gm_ladd {x y : Int64} (hd : decode cc pc = .ok (.ladd, 1)) (kk : gm_A own nm cc nL rt R res μe k n μ (pc + 1) L (.long (x + y) :: st) z κ) : gm_A own nm cc nL rt R res μe k n μ pc L (.long y :: .long x :: st) z κ := by
  intro b hz hk p l e s m args below meth c H locs ls E o X C hl hf
  have kk := kk b hz hk p l e s m args below meth c H locs ls E o X C hl hf
  obtain ⟨hx, hb, hml, hr, hown, hts, hlk, hK, hnm⟩ := X
  exact lv_ladd hx hb hd kk
theorem gm_ineg {x : Int32} (hd : decode cc pc = .ok (.ineg, 1)) (kk : gm_A own nm cc nL rt R res μe k n μ (pc + 1) L (.int (-x) :: st) z κ) : gm_A own nm cc nL rt R res μe k n μ pc L (.int x :: st) z κ := by
  intro b hz hk p l e s m args below meth c H locs ls E o X C hl hf
  have kk := kk b hz hk p l e s m args below meth c H locs ls E o X C hl hf
  obtain ⟨hx, hb, hml, hr, hown, hts, hlk, hK, hnm⟩ := X
  exact lv_ineg hx hb hd kk
theorem gm_i2l {x : Int32} (hd : decode cc pc = .ok (.i2l, 1)) (kk : gm_A own nm cc nL rt R res μe k n μ (pc + 1) L (.long x.toInt64 :: st) z κ) : gm_A own nm cc nL rt R res μe k n μ pc L (.int x :: st) z κ := by
  intro b hz hk p l e s m args below meth c H locs ls E o X C hl hf
  have kk := kk b hz hk p l e s m args below meth c H locs ls E o X C hl hf
  obtain ⟨hx, hb, hml, hr, hown, hts, hlk, hK, hnm⟩ := X
  exact lv_i2l hx hb hd rfl kk
theorem gm_i2c {x : Int32} (hd : decode cc pc = .ok (.i2c, 1)) (kk : gm_A own nm cc nL rt R res μe k n μ (pc + 1) L (.int (x.toUInt32 % 65536).toInt32 :: st) z κ) : gm_A own nm cc nL rt R res μe k n μ pc L (.int x :: st) z κ := by
  intro b hz hk p l e s m args below meth c H locs ls E o X C hl hf
  have kk := kk b hz hk p l e s m args below meth c H locs ls E o X C hl hf
  obtain ⟨hx, hb, hml, hr, hown, hts, hlk, hK, hnm⟩ := X
  exact lv_i2c hx hb hd rfl kk
theorem gm_lcmp {x y : Int64} (hd : decode cc pc = .ok (.lcmp, 1)) (kk : gm_A own nm cc nL rt R res μe k n μ (pc + 1) L (.int (lg_cmp x y) :: st) z κ) : gm_A own nm cc nL rt R res μe k n μ pc L (.long y :: .long x :: st) z κ := by
  intro b hz hk p l e s m args below meth c H locs ls E o X C hl hf
  have kk := kk b hz hk p l e s m args below meth c H locs ls E o X C hl hf
  obtain ⟨hx, hb, hml, hr, hown, hts, hlk, hK, hnm⟩ := X
  exact W.lcmp hx hb hd kk
theorem gm_pop {v : Value} (hd : decode cc pc = .ok (.pop, 1)) (hc : v.category = 1) (kk : gm_A own nm cc nL rt R res μe k n μ (pc + 1) L st z κ) : gm_A own nm cc nL rt R res μe k n μ pc L (v :: st) z κ := by
  intro b hz hk p l e s m args below meth c H locs ls E o X C hl hf
  have kk := kk b hz hk p l e s m args below meth c H locs ls E o X C hl hf
  obtain ⟨hx, hb, hml, hr, hown, hts, hlk, hK, hnm⟩ := X
  exact lv_pop hx hb hd (by rw [gm_cv_cat]; exact hc) kk
theorem gm_pop2 {v : Value} (hd : decode cc pc = .ok (.pop2, 1)) (hc : v.category = 2) (kk : gm_A own nm cc nL rt R res μe k n μ (pc + 1) L st z κ) : gm_A own nm cc nL rt R res μe k n μ pc L (v :: st) z κ := by
  intro b hz hk p l e s m args below meth c H locs ls E o X C hl hf
  have kk := kk b hz hk p l e s m args below meth c H locs ls E o X C hl hf
  obtain ⟨hx, hb, hml, hr, hown, hts, hlk, hK, hnm⟩ := X
  exact lv_pop2_2 hx hb hd (by rw [gm_cv_cat]; exact hc) kk
theorem gm_dup {v : Value} (hd : decode cc pc = .ok (.dup, 1)) (hc : v.category = 1) (kk : gm_A own nm cc nL rt R res μe k n μ (pc + 1) L (v :: v :: st) z κ) : gm_A own nm cc nL rt R res μe k n μ pc L (v :: st) z κ := by
  intro b hz hk p l e s m args below meth c H locs ls E o X C hl hf
  have kk := kk b hz hk p l e s m args below meth c H locs ls E o X C hl hf
  obtain ⟨hx, hb, hml, hr, hown, hts, hlk, hK, hnm⟩ := X
  exact lv_dup hx hb hd (by rw [gm_cv_cat]; exact hc) kk
theorem gm_dup2 {v w : Value} (hd : decode cc pc = .ok (.dup2, 1)) (hc : v.category = 1) (hw : w.category = 1) (kk : gm_A own nm cc nL rt R res μe k n μ (pc + 1) L (v :: w :: v :: w :: st) z κ) : gm_A own nm cc nL rt R res μe k n μ pc L (v :: w :: st) z κ := by
  intro b hz hk p l e s m args below meth c H locs ls E o X C hl hf
  have kk := kk b hz hk p l e s m args below meth c H locs ls E o X C hl hf
  obtain ⟨hx, hb, hml, hr, hown, hts, hlk, hK, hnm⟩ := X
  exact lv_dup2_11 hx hb hd (by rw [gm_cv_cat]; exact hc) (by rw [gm_cv_cat]; exact hw) kk
theorem gm_goto {off : Int} {tgt : Nat} (hd : decode cc pc = .ok (.goto off, 3)) (ht : (pc : Int) + off = (tgt : Int)) (kk : gm_A own nm cc nL rt R res μe k n μ tgt L st z κ) : gm_A own nm cc nL rt R res μe k n μ pc L st z κ := by
  intro b hz hk p l e s m args below meth c H locs ls E o X C hl hf
  have kk := kk b hz hk p l e s m args below meth c H locs ls E o X C hl hf
  obtain ⟨hx, hb, hml, hr, hown, hts, hlk, hK, hnm⟩ := X
  exact lv_goto hx hb hd ht kk
theorem gm_idiv {x y : Int32} {z : Option β} (hd : decode cc pc = .ok (.idiv, 1)) (kk : gm_A own nm cc nL rt R res μe k n μ (pc + 1) L (.int (x / y) :: st) z κ) : gm_A own nm cc nL rt R res μe k n μ pc L (.int y :: .int x :: st) (if y = 0 then none else z) κ := by
  intro b hz hk p l e s m args below meth c H locs ls E o X C hl hf
  by_cases hy : y = 0
  · rw [if_pos hy] at hz; cases hz
  rw [if_neg hy] at hz
  have kk := kk b hz hk p l e s m args below meth c H locs ls E o X C hl hf
  exact lv_idiv X.1 X.2.1 hd hy kk
theorem gm_irem {x y : Int32} {z : Option β} (hd : decode cc pc = .ok (.irem, 1)) (kk : gm_A own nm cc nL rt R res μe k n μ (pc + 1) L (.int (x - x / y * y) :: st) z κ) : gm_A own nm cc nL rt R res μe k n μ pc L (.int y :: .int x :: st) (if y = 0 then none else z) κ := by
  intro b hz hk p l e s m args below meth c H locs ls E o X C hl hf
  by_cases hy : y = 0
  · rw [if_pos hy] at hz; cases hz
  rw [if_neg hy] at hz
  have kk := kk b hz hk p l e s m args below meth c H locs ls E o X C hl hf
  exact lv_irem X.1 X.2.1 hd hy kk
theorem gm_ldiv {x y : Int64} {z : Option β} (hd : decode cc pc = .ok (.ldiv, 1)) (kk : gm_A own nm cc nL rt R res μe k n μ (pc + 1) L (.long (x / y) :: st) z κ) : gm_A own nm cc nL rt R res μe k n μ pc L (.long y :: .long x :: st) (if y = 0 then none else z) κ := by
  intro b hz hk p l e s m args below meth c H locs ls E o X C hl hf
  by_cases hy : y = 0
  · rw [if_pos hy] at hz; cases hz
  rw [if_neg hy] at hz
  have kk := kk b hz hk p l e s m args below meth c H locs ls E o X C hl hf
  exact lv_ldiv X.1 X.2.1 hd hy kk
theorem gm_lrem {x y : Int64} {z : Option β} (hd : decode cc pc = .ok (.lrem, 1)) (kk : gm_A own nm cc nL rt R res μe k n μ (pc + 1) L (.long (x - x / y * y) :: st) z κ) : gm_A own nm cc nL rt R res μe k n μ pc L (.long y :: .long x :: st) (if y = 0 then none else z) κ := by
  intro b hz hk p l e s m args below meth c H locs ls E o X C hl hf
  by_cases hy : y = 0
  · rw [if_pos hy] at hz; cases hz
  rw [if_neg hy] at hz
  have kk := kk b hz hk p l e s m args below meth c H locs ls E o X C hl hf
  exact lv_lrem X.1 X.2.1 hd hy kk
theorem gm_icmp_eq {x y : Int32} {off : Int} {tgt : Nat} {z1 z2 : Option β} (hd : decode cc pc = .ok (.if_icmp .eq off, 3)) (ht : (pc : Int) + off = (tgt : Int)) (k1 : x = y → gm_A own nm cc nL rt R res μe k n μ tgt L st z1 κ) (k2 : ¬ (x = y) → gm_A own nm cc nL rt R res μe k n μ (pc + 3) L st z2 κ) : gm_A own nm cc nL rt R res μe k n μ pc L (.int y :: .int x :: st) (if x = y then z1 else z2) κ := by
  intro b hz hk p l e s m args below meth c H locs ls E o X C hl hf
  refine lv_icmp_eq X.1 X.2.1 hd ht (fun h => ?_) (fun h => ?_)
  · have h : x = y := h
    rw [if_pos h] at hz
    exact k1 h b hz hk p l e s m args below meth c H locs ls E o X C hl hf
  · have h : ¬ (x = y) := h
    rw [if_neg h] at hz
    exact k2 h b hz hk p l e s m args below meth c H locs ls E o X C hl hf
theorem gm_if_eq {x : Int32} {off : Int} {tgt : Nat} {z1 z2 : Option β} (hd : decode cc pc = .ok (.ifCond .eq off, 3)) (ht : (pc : Int) + off = (tgt : Int)) (k1 : x = 0 → gm_A own nm cc nL rt R res μe k n μ tgt L st z1 κ) (k2 : ¬ (x = 0) → gm_A own nm cc nL rt R res μe k n μ (pc + 3) L st z2 κ) : gm_A own nm cc nL rt R res μe k n μ pc L (.int x :: st) (if x = 0 then z1 else z2) κ := by
  intro b hz hk p l e s m args below meth c H locs ls E o X C hl hf
  refine lv_if_eq X.1 X.2.1 hd ht (fun h => ?_) (fun h => ?_)
  · have h : x = 0 := h
    rw [if_pos h] at hz
    exact k1 h b hz hk p l e s m args below meth c H locs ls E o X C hl hf
  · have h : ¬ (x = 0) := h
    rw [if_neg h] at hz
    exact k2 h b hz hk p l e s m args below meth c H locs ls E o X C hl hf
theorem gm_icmp_ne {x y : Int32} {off : Int} {tgt : Nat} {z1 z2 : Option β} (hd : decode cc pc = .ok (.if_icmp .ne off, 3)) (ht : (pc : Int) + off = (tgt : Int)) (k1 : x ≠ y → gm_A own nm cc nL rt R res μe k n μ tgt L st z1 κ) (k2 : ¬ (x ≠ y) → gm_A own nm cc nL rt R res μe k n μ (pc + 3) L st z2 κ) : gm_A own nm cc nL rt R res μe k n μ pc L (.int y :: .int x :: st) (if x ≠ y then z1 else z2) κ := by
  intro b hz hk p l e s m args below meth c H locs ls E o X C hl hf
  refine lv_icmp_ne X.1 X.2.1 hd ht (fun h => ?_) (fun h => ?_)
  · have h : x ≠ y := h
    rw [if_pos h] at hz
    exact k1 h b hz hk p l e s m args below meth c H locs ls E o X C hl hf
  · have h : ¬ (x ≠ y) := fun q => q h
    rw [if_neg h] at hz
    exact k2 h b hz hk p l e s m args below meth c H locs ls E o X C hl hf
theorem gm_if_ne {x : Int32} {off : Int} {tgt : Nat} {z1 z2 : Option β} (hd : decode cc pc = .ok (.ifCond .ne off, 3)) (ht : (pc : Int) + off = (tgt : Int)) (k1 : x ≠ 0 → gm_A own nm cc nL rt R res μe k n μ tgt L st z1 κ) (k2 : ¬ (x ≠ 0) → gm_A own nm cc nL rt R res μe k n μ (pc + 3) L st z2 κ) : gm_A own nm cc nL rt R res μe k n μ pc L (.int x :: st) (if x ≠ 0 then z1 else z2) κ := by
  intro b hz hk p l e s m args below meth c H locs ls E o X C hl hf
  refine lv_if_ne X.1 X.2.1 hd ht (fun h => ?_) (fun h => ?_)
  · have h : x ≠ 0 := h
    rw [if_pos h] at hz
    exact k1 h b hz hk p l e s m args below meth c H locs ls E o X C hl hf
  · have h : ¬ (x ≠ 0) := fun q => q h
    rw [if_neg h] at hz
    exact k2 h b hz hk p l e s m args below meth c H locs ls E o X C hl hf
theorem gm_icmp_lt {x y : Int32} {off : Int} {tgt : Nat} {z1 z2 : Option β} (hd : decode cc pc = .ok (.if_icmp .lt off, 3)) (ht : (pc : Int) + off = (tgt : Int)) (k1 : x < y → gm_A own nm cc nL rt R res μe k n μ tgt L st z1 κ) (k2 : ¬ (x < y) → gm_A own nm cc nL rt R res μe k n μ (pc + 3) L st z2 κ) : gm_A own nm cc nL rt R res μe k n μ pc L (.int y :: .int x :: st) (if x < y then z1 else z2) κ := by
  intro b hz hk p l e s m args below meth c H locs ls E o X C hl hf
  refine lv_icmp_lt X.1 X.2.1 hd ht (fun h => ?_) (fun h => ?_)
  · have h : x < y := h
    rw [if_pos h] at hz
    exact k1 h b hz hk p l e s m args below meth c H locs ls E o X C hl hf
  · have h : ¬ (x < y) := h
    rw [if_neg h] at hz
    exact k2 h b hz hk p l e s m args below meth c H locs ls E o X C hl hf
theorem gm_if_lt {x : Int32} {off : Int} {tgt : Nat} {z1 z2 : Option β} (hd : decode cc pc = .ok (.ifCond .lt off, 3)) (ht : (pc : Int) + off = (tgt : Int)) (k1 : x < 0 → gm_A own nm cc nL rt R res μe k n μ tgt L st z1 κ) (k2 : ¬ (x < 0) → gm_A own nm cc nL rt R res μe k n μ (pc + 3) L st z2 κ) : gm_A own nm cc nL rt R res μe k n μ pc L (.int x :: st) (if x < 0 then z1 else z2) κ := by
  intro b hz hk p l e s m args below meth c H locs ls E o X C hl hf
  refine lv_if_lt X.1 X.2.1 hd ht (fun h => ?_) (fun h => ?_)
  · have h : x < 0 := h
    rw [if_pos h] at hz
    exact k1 h b hz hk p l e s m args below meth c H locs ls E o X C hl hf
  · have h : ¬ (x < 0) := h
    rw [if_neg h] at hz
    exact k2 h b hz hk p l e s m args below meth c H locs ls E o X C hl hf
theorem gm_icmp_ge {x y : Int32} {off : Int} {tgt : Nat} {z1 z2 : Option β} (hd : decode cc pc = .ok (.if_icmp .ge off, 3)) (ht : (pc : Int) + off = (tgt : Int)) (k1 : y ≤ x → gm_A own nm cc nL rt R res μe k n μ tgt L st z1 κ) (k2 : ¬ (y ≤ x) → gm_A own nm cc nL rt R res μe k n μ (pc + 3) L st z2 κ) : gm_A own nm cc nL rt R res μe k n μ pc L (.int y :: .int x :: st) (if y ≤ x then z1 else z2) κ := by
  intro b hz hk p l e s m args below meth c H locs ls E o X C hl hf
  refine lv_icmp_ge X.1 X.2.1 hd ht (fun h => ?_) (fun h => ?_)
  · have h : y ≤ x := h
    rw [if_pos h] at hz
    exact k1 h b hz hk p l e s m args below meth c H locs ls E o X C hl hf
  · have h : ¬ (y ≤ x) := h
    rw [if_neg h] at hz
    exact k2 h b hz hk p l e s m args below meth c H locs ls E o X C hl hf
theorem gm_if_ge {x : Int32} {off : Int} {tgt : Nat} {z1 z2 : Option β} (hd : decode cc pc = .ok (.ifCond .ge off, 3)) (ht : (pc : Int) + off = (tgt : Int)) (k1 : 0 ≤ x → gm_A own nm cc nL rt R res μe k n μ tgt L st z1 κ) (k2 : ¬ (0 ≤ x) → gm_A own nm cc nL rt R res μe k n μ (pc + 3) L st z2 κ) : gm_A own nm cc nL rt R res μe k n μ pc L (.int x :: st) (if 0 ≤ x then z1 else z2) κ := by
  intro b hz hk p l e s m args below meth c H locs ls E o X C hl hf
  refine lv_if_ge X.1 X.2.1 hd ht (fun h => ?_) (fun h => ?_)
  · have h : 0 ≤ x := h
    rw [if_pos h] at hz
    exact k1 h b hz hk p l e s m args below meth c H locs ls E o X C hl hf
  · have h : ¬ (0 ≤ x) := h
    rw [if_neg h] at hz
    exact k2 h b hz hk p l e s m args below meth c H locs ls E o X C hl hf
theorem gm_icmp_gt {x y : Int32} {off : Int} {tgt : Nat} {z1 z2 : Option β} (hd : decode cc pc = .ok (.if_icmp .gt off, 3)) (ht : (pc : Int) + off = (tgt : Int)) (k1 : y < x → gm_A own nm cc nL rt R res μe k n μ tgt L st z1 κ) (k2 : ¬ (y < x) → gm_A own nm cc nL rt R res μe k n μ (pc + 3) L st z2 κ) : gm_A own nm cc nL rt R res μe k n μ pc L (.int y :: .int x :: st) (if y < x then z1 else z2) κ := by
  intro b hz hk p l e s m args below meth c H locs ls E o X C hl hf
  refine lv_icmp_gt X.1 X.2.1 hd ht (fun h => ?_) (fun h => ?_)
  · have h : y < x := h
    rw [if_pos h] at hz
    exact k1 h b hz hk p l e s m args below meth c H locs ls E o X C hl hf
  · have h : ¬ (y < x) := h
    rw [if_neg h] at hz
    exact k2 h b hz hk p l e s m args below meth c H locs ls E o X C hl hf
theorem gm_if_gt {x : Int32} {off : Int} {tgt : Nat} {z1 z2 : Option β} (hd : decode cc pc = .ok (.ifCond .gt off, 3)) (ht : (pc : Int) + off = (tgt : Int)) (k1 : 0 < x → gm_A own nm cc nL rt R res μe k n μ tgt L st z1 κ) (k2 : ¬ (0 < x) → gm_A own nm cc nL rt R res μe k n μ (pc + 3) L st z2 κ) : gm_A own nm cc nL rt R res μe k n μ pc L (.int x :: st) (if 0 < x then z1 else z2) κ := by
  intro b hz hk p l e s m args below meth c H locs ls E o X C hl hf
  refine lv_if_gt X.1 X.2.1 hd ht (fun h => ?_) (fun h => ?_)
  · have h : 0 < x := h
    rw [if_pos h] at hz
    exact k1 h b hz hk p l e s m args below meth c H locs ls E o X C hl hf
  · have h : ¬ (0 < x) := h
    rw [if_neg h] at hz
    exact k2 h b hz hk p l e s m args below meth c H locs ls E o X C hl hf
theorem gm_icmp_le {x y : Int32} {off : Int} {tgt : Nat} {z1 z2 : Option β} (hd : decode cc pc = .ok (.if_icmp .le off, 3)) (ht : (pc : Int) + off = (tgt : Int)) (k1 : x ≤ y → gm_A own nm cc nL rt R res μe k n μ tgt L st z1 κ) (k2 : ¬ (x ≤ y) → gm_A own nm cc nL rt R res μe k n μ (pc + 3) L st z2 κ) : gm_A own nm cc nL rt R res μe k n μ pc L (.int y :: .int x :: st) (if x ≤ y then z1 else z2) κ := by
  intro b hz hk p l e s m args below meth c H locs ls E o X C hl hf
  refine lv_icmp_le X.1 X.2.1 hd ht (fun h => ?_) (fun h => ?_)
  · have h : x ≤ y := h
    rw [if_pos h] at hz
    exact k1 h b hz hk p l e s m args below meth c H locs ls E o X C hl hf
  · have h : ¬ (x ≤ y) := h
    rw [if_neg h] at hz
    exact k2 h b hz hk p l e s m args below meth c H locs ls E o X C hl hf
theorem gm_if_le {x : Int32} {off : Int} {tgt : Nat} {z1 z2 : Option β} (hd : decode cc pc = .ok (.ifCond .le off, 3)) (ht : (pc : Int) + off = (tgt : Int)) (k1 : x ≤ 0 → gm_A own nm cc nL rt R res μe k n μ tgt L st z1 κ) (k2 : ¬ (x ≤ 0) → gm_A own nm cc nL rt R res μe k n μ (pc + 3) L st z2 κ) : gm_A own nm cc nL rt R res μe k n μ pc L (.int x :: st) (if x ≤ 0 then z1 else z2) κ := by
  intro b hz hk p l e s m args below meth c H locs ls E o X C hl hf
  refine lv_if_le X.1 X.2.1 hd ht (fun h => ?_) (fun h => ?_)
  · have h : x ≤ 0 := h
    rw [if_pos h] at hz
    exact k1 h b hz hk p l e s m args below meth c H locs ls E o X C hl hf
  · have h : ¬ (x ≤ 0) := h
    rw [if_neg h] at hz
    exact k2 h b hz hk p l e s m args below meth c H locs ls E o X C hl hf
/-! what memory is read and written; the guards stand in the answer -/
def gm_u {α : Type} (f : Nat → Nat → α) (r j : Nat) (x : α) : Nat → Nat → α := fun a k => if a = r then (if k = j then x else f a k) else f a k
def gm_z {α : Type} (f : Nat → Nat → α) (r : Nat) (x : α) : Nat → Nat → α := fun a k => if a = r then x else f a k
def gm_tag (μ : gm_M) (r : Nat) : Nat := match μ.1[r]? with
  | some q => q.1
  | none => 0
def gm_len (μ : gm_M) (r : Nat) : Nat := match μ.1[r]? with
  | some q => q.2
  | none => 0
theorem gm_at {μ : gm_M} {r t : Nat} (h : gm_tag μ r = t + 1) : μ.1[r]? = some (t + 1, gm_len μ r) := by
  unfold gm_tag at h
  unfold gm_len
  cases e : μ.1[r]? with
  | none => rw [e] at h; cases h
  | some q =>
    rw [e] at h
    obtain ⟨a, b⟩ := q
    cases h
    rfl
/-- a field: in which classes (by tag), its place, its words -/
def gm_F (ks : List Nat) (j : Nat) (C name desc : String) (fin isr : Bool) : Prop := ∀ t ∈ ks, ∃ (k : Nat) (q : vw_C), t = k + 5 ∧ gm_cls[k]? = some q ∧ j < q.2.2 ∧ q.2.1 j = (C, name, desc, fin) ∧ gm_isr k j = isr
theorem gm_lays : ∀ (k : Nat) (q : vw_C), gm_cls[k]? = some q → ∀ w ∈ u_ws q.1 q.2.1 q.2.2, w ∈ gm_G := by
  intro k q h
  match k, h with
  | 0, h => cases h; exact gm_ly0
  | 1, h => cases h; exact gm_ly1
  | 2, h => cases h; exact gm_ly2
  | 3, h => cases h; exact gm_ly3
  | 4, h => cases h; exact gm_ly4
  | 5, h => cases h; exact gm_ly5
  | 6, h => cases h; exact gm_ly6
  | 7, h => cases h; exact gm_ly7
  | 8, h => cases h; exact gm_ly8
  | 9, h => cases h; exact gm_ly9
  | 10, h => cases h; exact gm_ly10
  | 11, h => cases h; exact gm_ly11
  | 12, h => cases h; exact gm_ly12
  | k + 13, h => simp [gm_cls] at h
theorem gm_names : ∀ (k : Nat) (q : vw_C), gm_cls[k]? = some q → ∀ a, a < q.2.2 → ∀ b, b < q.2.2 → a ≠ b → (q.2.1 a).2.1 ≠ (q.2.1 b).2.1 := by
  intro k q h
  match k, h with
  | 0, h => cases h; exact (by decide +kernel)
  | 1, h => cases h; exact (by decide +kernel)
  | 2, h => cases h; exact (by decide +kernel)
  | 3, h => cases h; exact (by decide +kernel)
  | 4, h => cases h; exact (by decide +kernel)
  | 5, h => cases h; exact (by decide +kernel)
  | 6, h => cases h; exact (by decide +kernel)
  | 7, h => cases h; exact (by decide +kernel)
  | 8, h => cases h; exact (by decide +kernel)
  | 9, h => cases h; exact (by decide +kernel)
  | 10, h => cases h; exact (by decide +kernel)
  | 11, h => cases h; exact (by decide +kernel)
  | 12, h => cases h; exact (by decide +kernel)
  | k + 13, h => simp [gm_cls] at h
def gm_ty (T : u_T) (k : Nat) : FieldType := (parseFieldDescriptor (T k).2.2.1).getD .int
theorem gm_types : ∀ (k : Nat) (q : vw_C), gm_cls[k]? = some q → ∀ a, a < q.2.2 → parseFieldDescriptor (q.2.1 a).2.2.1 = some (gm_ty q.2.1 a) := by
  intro k q h
  match k, h with
  | 0, h => cases h; exact (by decide +kernel)
  | 1, h => cases h; exact (by decide +kernel)
  | 2, h => cases h; exact (by decide +kernel)
  | 3, h => cases h; exact (by decide +kernel)
  | 4, h => cases h; exact (by decide +kernel)
  | 5, h => cases h; exact (by decide +kernel)
  | 6, h => cases h; exact (by decide +kernel)
  | 7, h => cases h; exact (by decide +kernel)
  | 8, h => cases h; exact (by decide +kernel)
  | 9, h => cases h; exact (by decide +kernel)
  | 10, h => cases h; exact (by decide +kernel)
  | 11, h => cases h; exact (by decide +kernel)
  | 12, h => cases h; exact (by decide +kernel)
  | k + 13, h => simp [gm_cls] at h
theorem gm_apart {E : gm_E} {args : Array Value} {s : State} (hts : ∀ w ∈ gm_G, w.before args s = true) (hK : gm_K E s) {k : Nat} {q : vw_C} (hc : gm_cls[k]? = some q) : ∀ x y, x < q.2.2 → y < q.2.2 → x ≠ y → (E.1.2 k) x ≠ (E.1.2 k) y :=
  va_apart (own := "") (D := E.1) (cl := gm_cls) (tys := gm_tys E) (C := q.1) (T := q.2.1) (N := q.2.2) hts (gm_lays k q hc) (gm_ty q.2.1) (gm_types k q hc) (gm_names k q hc) hK.1 hc
/-- a cell stays: what it holds is the same, the heap at its place is the same -/
theorem gm_cell.kept {E : gm_E} {o : Nat} {μ μ' : gm_M} {H H' : Heap} {r t n : Nat} (h : gm_cell E o μ H r t n) (hi : μ'.2.1 r = μ.2.1 r) (hr : μ'.2.2 r = μ.2.2 r) (hH : H'[o + r]? = H[o + r]?) : gm_cell E o μ' H' r t n := by
  unfold gm_cell at h ⊢
  split at h
  · trivial
  · rw [hi, hH]; exact h
  · rw [hi, hH]; exact h
  · rw [hr, hH]; exact h
  · rw [hr, hH]; exact h
  · obtain ⟨q, h1, h2, h3⟩ := h
    refine ⟨q, h1, h2, ?_⟩
    have e : ∀ k', gm_fv o μ' k' r = gm_fv o μ k' r := by
      intro k'
      funext j
      unfold gm_fv
      rw [hi, hr]
    rw [e]
    exact h3.kept hH
/-- one cell written, its shape kept -/
theorem gm_C.put {E : gm_E} {o : Nat} {μ μ' : gm_M} {H H' : Heap} {r t n : Nat} (h : gm_C E o μ H) (hr0 : μ.1[r]? = some (t + 1, n)) (hsh : μ'.1 = μ.1) (hi : ∀ a, a ≠ r → μ'.2.1 a = μ.2.1 a) (hr : ∀ a, a ≠ r → μ'.2.2 a = μ.2.2 a) (hz : H'.size = H.size) (oq : ∀ q, q ≠ o + r → H'[q]? = H[q]?) (hc : gm_cell E o μ' H' r (t + 1) n) : gm_C E o μ' H' := by
  obtain ⟨h1, h2, h3, h4⟩ := h
  have hrne : r ≠ 0 := by
    intro e
    subst e
    rw [h2] at hr0
    cases hr0
  refine ⟨by rw [hz, hsh]; exact h1, by rw [hsh]; exact h2, ⟨h3.1, fun q hq => by rw [oq q (by omega)]; exact h3.2 q hq⟩, fun a t' n' ha => ?_⟩
  rw [hsh] at ha
  by_cases e : a = r
  · subst e
    rw [hr0] at ha
    cases ha
    exact hc
  · exact (h4 a t' n' ha).kept (hi a e) (hr a e) (oq (o + a) (by omega))
theorem gm_fits_ref {t : FieldType} (h : gm_isT (some t) = true) (o r : Nat) : narrow t (gm_rv o r) = gm_rv o r ∧ fits t (gm_rv o r) = true := by
  unfold gm_rv
  cases t <;> first | (simp [gm_isT] at h; done) | (split <;> exact ⟨rfl, rfl⟩)
/-- int fields -/
def gm_gI {β : Type} (μ : gm_M) (ks : List Nat) (r j : Nat) (f : Int32 → Option β) : Option β := if ks.contains (gm_tag μ r) then f (μ.2.1 r j) else none
def gm_gR {β : Type} (μ : gm_M) (ks : List Nat) (r j : Nat) (f : Nat → Option β) : Option β := if ks.contains (gm_tag μ r) then f (μ.2.2 r j) else none
def gm_pI {β : Type} (μ : gm_M) (ks : List Nat) (r j : Nat) (x : Int32) (f : gm_M → Option β) : Option β := if ks.contains (gm_tag μ r) then f (μ.1, gm_u μ.2.1 r j x, μ.2.2) else none
def gm_pZ {β : Type} (μ : gm_M) (ks : List Nat) (r j : Nat) (x : Int32) (f : gm_M → Option β) : Option β := if ks.contains (gm_tag μ r) then (if x = 0 ∨ x = 1 then f (μ.1, gm_u μ.2.1 r j x, μ.2.2) else none) else none
def gm_pR {β : Type} (μ : gm_M) (ks : List Nat) (r j : Nat) (x : Nat) (f : gm_M → Option β) : Option β := if ks.contains (gm_tag μ r) then f (μ.1, μ.2.1, gm_u μ.2.2 r j x) else none
theorem gm_tagF {μ : gm_M} {ks : List Nat} {r j : Nat} {C name desc : String} {fin isr : Bool} (hF : gm_F ks j C name desc fin isr) (h : ks.contains (gm_tag μ r) = true) : ∃ (k : Nat) (q : vw_C), μ.1[r]? = some (k + 5, gm_len μ r) ∧ gm_cls[k]? = some q ∧ j < q.2.2 ∧ q.2.1 j = (C, name, desc, fin) ∧ gm_isr k j = isr := by
  obtain ⟨k, q, h1, h2⟩ := hF _ (List.contains_iff_mem.mp h)
  exact ⟨k, q, gm_at h1, h2⟩
theorem gm_Cobj {E : gm_E} {o : Nat} {μ : gm_M} {H : Heap} {r k n : Nat} {q : vw_C} (h : gm_C E o μ H) (hr : μ.1[r]? = some (k + 5, n)) (hc : gm_cls[k]? = some q) : r ≠ 0 ∧ t_OB (o + r) (E.1.1 k) q.2.2 (E.1.2 k) H (gm_fv o μ k r) := by
  have h1 := h.2.2.2 r _ _ hr
  obtain ⟨q', h2, -, h3⟩ := h1
  cases h2.symm.trans hc
  refine ⟨fun e => ?_, h3⟩
  subst e
  rw [h.2.1] at hr
  cases hr
theorem gm_getW {p : Program} {l : Launch} {e : Env} {R : Room} {s : State} {m : MethodId} {args : Array Value} {below : List Frame} {meth : Method} {c : Code} {H : Heap} {locs : List Loc} {cells slots : Nat} {Q : State → Prop} {cc : ByteArray} {pc : Nat} {ls : Array Slot} {rest : List Value} {own C name desc : String} {index : Nat} {E : gm_E} {o r j k : Nat} {μ : gm_M} {q : vw_C} {fin : Bool} {n : Nat}
    (hx : p.tables.exec = Jvm.exec) (hb : c.code = cc) (hown : s.vm.findClass own = some m.cls) (hts : ∀ w ∈ gm_G, w.before args s = true) (hK : gm_K E s) (hC : gm_C E o μ H) (hr : μ.1[r]? = some (k + 5, n)) (hc : gm_cls[k]? = some q) (hj : j < q.2.2) (hf : q.2.1 j = (C, name, desc, fin)) (hw : Jvm.Cond.fieldLink own index C name desc ∈ gm_G) (hd : decode cc pc = .ok (.getfield index, 3))
    (kk : W p l e R s m args below meth c H locs cells slots Q (F0 m (pc + 3) ls (gm_fv o μ k r j :: rest))) : W p l e R s m args below meth c H locs cells slots Q (F0 m pc ls (gm_rv o r :: rest)) := by
  obtain ⟨hr0, cell, q1, q2, q3, q4⟩ := gm_Cobj hC hr hc
  obtain ⟨C', T, N⟩ := q
  obtain ⟨hS, hfc, kC, hkC, hkind⟩ := hK.1.1 k _ hc
  obtain ⟨cf, kf, fi, f, hi, hsl⟩ := hS j hj
  have hfac := (u_facts hfc hkC (u_lays hts (gm_lays k _ hc) hj) hi).1
  dsimp only at hf hi
  rw [hf] at hi
  have e : gm_rv o r = .ref (o + r) := if_neg hr0
  rw [e]
  refine W.getf hx hb hown (hts _ hw) hi hfac q1 (by rw [q3]; exact fun h => by cases h) (v := gm_fv o μ k r j) ?_ rfl rfl hd kk
  rw [hsl]
  exact q4 j hj
theorem gm_getI {ks : List Nat} {j : Nat} {C name desc : String} {fin : Bool} {index r : Nat} {f : Int32 → Option β} (hF : gm_F ks j C name desc fin false) (hw : Jvm.Cond.fieldLink own index C name desc ∈ gm_G) (hd : decode cc pc = .ok (.getfield index, 3))
    (kk : ∀ v : Int32, v = μ.2.1 r j → gm_A own nm cc nL rt R res μe k n μ (pc + 3) L (.int v :: st) (f v) κ) : gm_A own nm cc nL rt R res μe k n μ pc L (.ref r :: st) (gm_gI μ ks r j f) κ := by
  intro b hz hk p l e s m args below meth c H locs ls E o X C hl hf
  unfold gm_gI at hz
  by_cases hc : ks.contains (gm_tag μ r) = true
  · rw [if_pos hc] at hz
    obtain ⟨k', q, h1, h2, h3, h4, h5⟩ := gm_tagF hF hc
    have kk := kk _ rfl b hz hk p l e s m args below meth c H locs ls E o X C hl hf
    obtain ⟨hx, hb, hml, hr, hown, hts, hlk, hK, hnm⟩ := X
    refine gm_getW hx hb hown hts hK C h1 h2 h3 h4 hw hd ?_
    have e : gm_fv o μ k' r j = .int (μ.2.1 r j) := by unfold gm_fv; rw [h5]; rfl
    rw [e]
    exact kk
  · rw [if_neg hc] at hz
    cases hz
theorem gm_getR {ks : List Nat} {j : Nat} {C name desc : String} {fin : Bool} {index r : Nat} {f : Nat → Option β} (hF : gm_F ks j C name desc fin true) (hw : Jvm.Cond.fieldLink own index C name desc ∈ gm_G) (hd : decode cc pc = .ok (.getfield index, 3))
    (kk : ∀ v : Nat, v = μ.2.2 r j → gm_A own nm cc nL rt R res μe k n μ (pc + 3) L (.ref v :: st) (f v) κ) : gm_A own nm cc nL rt R res μe k n μ pc L (.ref r :: st) (gm_gR μ ks r j f) κ := by
  intro b hz hk p l e s m args below meth c H locs ls E o X C hl hf
  unfold gm_gR at hz
  by_cases hc : ks.contains (gm_tag μ r) = true
  · rw [if_pos hc] at hz
    obtain ⟨k', q, h1, h2, h3, h4, h5⟩ := gm_tagF hF hc
    have kk := kk _ rfl b hz hk p l e s m args below meth c H locs ls E o X C hl hf
    obtain ⟨hx, hb, hml, hr, hown, hts, hlk, hK, hnm⟩ := X
    refine gm_getW hx hb hown hts hK C h1 h2 h3 h4 hw hd ?_
    have e : gm_fv o μ k' r j = gm_rv o (μ.2.2 r j) := by unfold gm_fv; rw [h5]; rfl
    rw [e]
    exact kk
  · rw [if_neg hc] at hz
    cases hz
theorem gm_putW {p : Program} {l : Launch} {e : Env} {R : Room} {s : State} {m : MethodId} {args : Array Value} {below : List Frame} {meth : Method} {c : Code} {H : Heap} {locs : List Loc} {cells slots : Nat} {Q : State → Prop} {cc : ByteArray} {pc : Nat} {ls : Array Slot} {rest : List Value} {own C name desc nm : String} {index : Nat} {E : gm_E} {o r j k : Nat} {μ μ' : gm_M} {q : vw_C} {fin : Bool} {n : Nat} {v : Value}
    (hx : p.tables.exec = Jvm.exec) (hb : c.code = cc) (hown : s.vm.findClass own = some m.cls) (hts : ∀ w ∈ gm_G, w.before args s = true) (hK : gm_K E s) (hC : gm_C E o μ H) (hr : μ.1[r]? = some (k + 5, n)) (hc : gm_cls[k]? = some q) (hj : j < q.2.2) (hf : q.2.1 j = (C, name, desc, fin)) (hw : Jvm.Cond.fieldLink own index C name desc ∈ gm_G) (hd : decode cc pc = .ok (.putfield index, 3))
    (hnm : meth.name = nm) (hfin : fin = false ∨ (nm = "<init>" ∧ C = own)) (hsh : μ'.1 = μ.1) (hi : ∀ a, a ≠ r → μ'.2.1 a = μ.2.1 a) (hr' : ∀ a, a ≠ r → μ'.2.2 a = μ.2.2 a) (hv : ∀ x, x < q.2.2 → gm_fv o μ' k r x = updV (gm_fv o μ k r) j v x) (hn : narrow (gm_ty q.2.1 j) v = v) (hfit : fits (gm_ty q.2.1 j) v = true) (hlo : ∀ q ∈ locs, o < q.base)
    (kk : ∀ (H1 : Heap) (locs1 : List Loc), gm_C E o μ' H1 → (∀ q ∈ locs1, o < q.base) → W p l e R s m args below meth c H1 locs1 cells slots Q (F0 m (pc + 3) ls rest)) : W p l e R s m args below meth c H locs cells slots Q (F0 m pc ls (v :: gm_rv o r :: rest)) := by
  obtain ⟨hr0, cell, q1, q2, q3, q4⟩ := gm_Cobj hC hr hc
  have hap := gm_apart hts hK hc
  have hns := hC.2.2.2 r _ _ hr
  obtain ⟨q', g1, g2, -⟩ := hns
  cases g1.symm.trans hc
  have hty := gm_types k _ hc
  obtain ⟨C', T, N⟩ := q
  obtain ⟨hS, hfc, kC, hkC, hkind⟩ := hK.1.1 k _ hc
  obtain ⟨cf, kf, fi, f, hi0, hsl⟩ := hS j hj
  have hlay := hts _ (gm_lays k _ hc _ (u_in_lay hj))
  have hd1 : parseFieldDescriptor (T j).2.2.1 = some (gm_ty T j) := hty j hj
  dsimp only at hf hi0
  simp only [u_lay, hf] at hlay
  rw [hf] at hi0 hd1
  dsimp only at hi0 hd1
  have hlay2 : (Cond.lays C' C name desc).before args s = true ∨ (Cond.laysFinal C' C name desc).before args s = true := by
    split at hlay
    · exact Or.inr hlay
    · exact Or.inl hlay
  have hst := (u_facts hfc hkC hlay2 hi0).1
  have h6 := u_fits hfc hkC hkind hlay2 hi0 hd1 hn hfit
  have er : gm_rv o r = .ref (o + r) := if_neg hr0
  rw [er]
  have fin2 : ∀ (H' : Heap), H'[o + r]? = some (cell.setSlot f.slot v) → H'.size = H.size → (∀ q, q ≠ o + r → H'[q]? = H[q]?) → gm_C E o μ' H' := by
    intro H' e1 e2 e3
    refine hC.put hr hsh hi hr' e2 e3 ⟨(C', T, N), hc, g2, ?_⟩
    rw [hsl] at e1
    exact t_OB.to (V := updV (gm_fv o μ k r) j v) ⟨_, e1, q2, q3, t_set q4 hap hj v⟩ (fun x hx => (hv x hx).symm)
  have lo2 : ∀ q ∈ locs ++ [(⟨o + r, f.slot⟩ : Loc)], o < q.base := by
    intro q hq
    rcases List.mem_append.mp hq with h | h
    · exact hlo q h
    · rw [List.mem_singleton.mp h]
      show o < o + r
      omega
  have hlink := hts _ hw
  have nofin : fin = false → W p l e R s m args below meth c H locs cells slots Q (F0 m pc ls (v :: .ref (o + r) :: rest)) := by
    intro h0
    rw [if_neg (by rw [h0]; exact Bool.false_ne_true)] at hlay
    have h7 := u_store hfc hkC hkind hlay hi0 hd1 hn hfit
    exact W.putK hx hb (f := f) ⟨hown, hlink, ⟨_, _, _, hi0⟩, hst⟩ (by rw [q2]; exact h7) q1 q3 (by rw [hsl]; exact k2_hasslot (q4 j hj)) rfl rfl hd fun H' e1 e2 e3 => kk H' _ (fin2 H' e1 e2 e3) lo2
  cases hfin with
  | inl h0 => exact nofin h0
  | inr h0 =>
    cases fin with
    | false => exact nofin rfl
    | true =>
      rw [if_pos rfl] at hlay
      have hcf : m.cls = cf := by
        obtain ⟨_, _, c', _, _, _, -, -, hf', -, -, -, hown2, -⟩ := Cond.laysFinal_spec hlay
        have e1 : c' = cf := by have := hi0.symm.trans hf'; simp at this; exact this.1.symm
        rw [h0.2] at hown2
        rw [← e1]; exact Option.some.inj (hown.symm.trans hown2)
      exact W.putFinK hx hb hown hlink hi0 hst hcf (hnm.trans h0.1) (by rw [q2]; exact h6) q1 q3 (by rw [hsl]; exact k2_hasslot (q4 j hj)) rfl rfl hd fun H' e1 e2 e3 => kk H' _ (fin2 H' e1 e2 e3) lo2
theorem gm_tyd {k j : Nat} {q : vw_C} {C name desc : String} {fin : Bool} (hc : gm_cls[k]? = some q) (hf : q.2.1 j = (C, name, desc, fin)) {t : FieldType} (hd : parseFieldDescriptor desc = some t) : gm_ty q.2.1 j = t := by
  unfold gm_ty
  rw [hf]
  dsimp only
  rw [hd]
  rfl
theorem gm_updI {o : Nat} {μ : gm_M} {k r j : Nat} {x : Int32} (h : gm_isr k j = false) : ∀ y, gm_fv o (μ.1, gm_u μ.2.1 r j x, μ.2.2) k r y = updV (gm_fv o μ k r) j (.int x) y := by
  intro y
  unfold gm_fv updV gm_u
  dsimp only
  by_cases hy : y = j
  · subst hy
    simp [h]
  · simp [hy]
theorem gm_updR {E : gm_E} {o : Nat} {μ : gm_M} {k r j : Nat} {x : Nat} (h : gm_isr k j = true) : ∀ y, gm_fv o (μ.1, μ.2.1, gm_u μ.2.2 r j x) k r y = updV (gm_fv o μ k r) j (gm_rv o x) y := by
  intro y
  unfold gm_fv updV gm_u
  dsimp only
  by_cases hy : y = j
  · subst hy
    simp [h]
  · simp [hy]
theorem gm_u_ne {α : Type} (f : Nat → Nat → α) (r j : Nat) (x : α) (a : Nat) (h : a ≠ r) : gm_u f r j x a = f a := by
  funext k
  exact if_neg h
theorem gm_putI {ks : List Nat} {j : Nat} {C name : String} {fin : Bool} {index r : Nat} {x : Int32} {f : gm_M → Option β} (hF : gm_F ks j C name "I" fin false) (hfin : fin = false ∨ (nm.1 = "<init>" ∧ C = own)) (hw : Jvm.Cond.fieldLink own index C name "I" ∈ gm_G) (hd : decode cc pc = .ok (.putfield index, 3))
    (kk : ∀ μ' : gm_M, μ' = (μ.1, gm_u μ.2.1 r j x, μ.2.2) → gm_A own nm cc nL rt R res μe k n μ' (pc + 3) L st (f μ') κ) : gm_A own nm cc nL rt R res μe k n μ pc L (.int x :: .ref r :: st) (gm_pI μ ks r j x f) κ := by
  intro b hz hk p l e s m args below meth c H locs ls E o X C hl hf
  unfold gm_pI at hz
  by_cases hc : ks.contains (gm_tag μ r) = true
  · rw [if_pos hc] at hz
    obtain ⟨k', q, h1, h2, h3, h4, h5⟩ := gm_tagF hF hc
    obtain ⟨hx, hb, hml, hr, hown, hts, hlk, hK, hnm⟩ := id X
    have ht := gm_tyd h2 h4 (t := .int) (by decide +kernel)
    exact gm_putW (μ' := (μ.1, gm_u μ.2.1 r j x, μ.2.2)) hx hb hown hts hK C h1 h2 h3 h4 hw hd hnm.1 hfin rfl (fun a ha => gm_u_ne _ _ _ _ _ ha) (fun _ _ => rfl) (fun y _ => gm_updI h5 y) (by rw [ht]; rfl) (by rw [ht]; rfl) hf
      (fun H1 locs1 C1 hf1 => kk _ rfl b hz hk p l e s m args below meth c H1 locs1 ls E o X C1 hl hf1)
  · rw [if_neg hc] at hz
    cases hz
theorem gm_putZ {ks : List Nat} {j : Nat} {C name : String} {fin : Bool} {index r : Nat} {x : Int32} {f : gm_M → Option β} (hF : gm_F ks j C name "Z" fin false) (hfin : fin = false ∨ (nm.1 = "<init>" ∧ C = own)) (hw : Jvm.Cond.fieldLink own index C name "Z" ∈ gm_G) (hd : decode cc pc = .ok (.putfield index, 3))
    (kk : ∀ μ' : gm_M, μ' = (μ.1, gm_u μ.2.1 r j x, μ.2.2) → gm_A own nm cc nL rt R res μe k n μ' (pc + 3) L st (f μ') κ) : gm_A own nm cc nL rt R res μe k n μ pc L (.int x :: .ref r :: st) (gm_pZ μ ks r j x f) κ := by
  intro b hz hk p l e s m args below meth c H locs ls E o X C hl hf
  unfold gm_pZ at hz
  by_cases hc : ks.contains (gm_tag μ r) = true
  · rw [if_pos hc] at hz
    by_cases hx01 : x = 0 ∨ x = 1
    · rw [if_pos hx01] at hz
      obtain ⟨k', q, h1, h2, h3, h4, h5⟩ := gm_tagF hF hc
      obtain ⟨hx, hb, hml, hr, hown, hts, hlk, hK, hnm⟩ := id X
      have ht := gm_tyd h2 h4 (t := .boolean) (by decide +kernel)
      exact gm_putW (μ' := (μ.1, gm_u μ.2.1 r j x, μ.2.2)) hx hb hown hts hK C h1 h2 h3 h4 hw hd hnm.1 hfin rfl (fun a ha => gm_u_ne _ _ _ _ _ ha) (fun _ _ => rfl) (fun y _ => gm_updI h5 y) (by rw [ht]; rcases hx01 with e | e <;> subst e <;> rfl) (by rw [ht]; rcases hx01 with e | e <;> subst e <;> rfl) hf
        (fun H1 locs1 C1 hf1 => kk _ rfl b hz hk p l e s m args below meth c H1 locs1 ls E o X C1 hl hf1)
    · rw [if_neg hx01] at hz
      cases hz
  · rw [if_neg hc] at hz
    cases hz
theorem gm_putR {ks : List Nat} {j : Nat} {C name desc : String} {fin : Bool} {index r x : Nat} {f : gm_M → Option β} (hF : gm_F ks j C name desc fin true) (hfin : fin = false ∨ (nm.1 = "<init>" ∧ C = own)) (hw : Jvm.Cond.fieldLink own index C name desc ∈ gm_G) (hd : decode cc pc = .ok (.putfield index, 3))
    (kk : ∀ μ' : gm_M, μ' = (μ.1, μ.2.1, gm_u μ.2.2 r j x) → gm_A own nm cc nL rt R res μe k n μ' (pc + 3) L st (f μ') κ) : gm_A own nm cc nL rt R res μe k n μ pc L (.ref x :: .ref r :: st) (gm_pR μ ks r j x f) κ := by
  intro b hz hk p l e s m args below meth c H locs ls E o X C hl hf
  unfold gm_pR at hz
  by_cases hc : ks.contains (gm_tag μ r) = true
  · rw [if_pos hc] at hz
    obtain ⟨k', q, h1, h2, h3, h4, h5⟩ := gm_tagF hF hc
    obtain ⟨hx, hb, hml, hr, hown, hts, hlk, hK, hnm⟩ := id X
    have ht : gm_isT (some (gm_ty q.2.1 j)) = true := by
      have h6 := h5
      unfold gm_isr at h6
      rw [h2] at h6
      dsimp only at h6
      rw [gm_types k' q h2 j h3] at h6
      exact h6
    exact gm_putW (μ' := (μ.1, μ.2.1, gm_u μ.2.2 r j x)) hx hb hown hts hK C h1 h2 h3 h4 hw hd hnm.1 hfin rfl (fun _ _ => rfl) (fun a ha => gm_u_ne _ _ _ _ _ ha) (fun y _ => gm_updR (E := E) h5 y) (gm_fits_ref ht o x).1 (gm_fits_ref ht o x).2 hf
      (fun H1 locs1 C1 hf1 => kk _ rfl b hz hk p l e s m args below meth c H1 locs1 ls E o X C1 hl hf1)
  · rw [if_neg hc] at hz
    cases hz

/-! arrays -/
def gm_aI {β : Type} (μ : gm_M) (r : Nat) (i : Int32) (f : Int32 → Option β) : Option β := if gm_tag μ r = 1 ∧ ¬ i < 0 ∧ i.toNatClampNeg < gm_len μ r then f (μ.2.1 r i.toNatClampNeg) else none
def gm_aZ {β : Type} (μ : gm_M) (r : Nat) (i : Int32) (f : Int32 → Option β) : Option β := if gm_tag μ r = 2 ∧ ¬ i < 0 ∧ i.toNatClampNeg < gm_len μ r then f (μ.2.1 r i.toNatClampNeg) else none
def gm_aR {β : Type} (μ : gm_M) (t r : Nat) (i : Int32) (f : Nat → Option β) : Option β := if gm_tag μ r = t ∧ ¬ i < 0 ∧ i.toNatClampNeg < gm_len μ r then f (μ.2.2 r i.toNatClampNeg) else none
def gm_sI {β : Type} (μ : gm_M) (r : Nat) (i x : Int32) (f : gm_M → Option β) : Option β := if gm_tag μ r = 1 ∧ ¬ i < 0 ∧ i.toNatClampNeg < gm_len μ r then f (μ.1, gm_u μ.2.1 r i.toNatClampNeg x, μ.2.2) else none
def gm_sZ {β : Type} (μ : gm_M) (r : Nat) (i x : Int32) (f : gm_M → Option β) : Option β := if gm_tag μ r = 2 ∧ ¬ i < 0 ∧ i.toNatClampNeg < gm_len μ r then f (μ.1, gm_u μ.2.1 r i.toNatClampNeg (x &&& 1), μ.2.2) else none
def gm_sR {β : Type} (μ : gm_M) (t : Nat) (ks : List Nat) (r : Nat) (i : Int32) (v : Nat) (f : gm_M → Option β) : Option β := if gm_tag μ r = t ∧ ks.contains (gm_tag μ v) = true ∧ ¬ i < 0 ∧ i.toNatClampNeg < gm_len μ r then f (μ.1, μ.2.1, gm_u μ.2.2 r i.toNatClampNeg v) else none
def gm_al {β : Type} (μ : gm_M) (t r : Nat) (f : Int32 → Option β) : Option β := if gm_tag μ r = t then f (Int32.ofNat (gm_len μ r)) else none
theorem gm_ne0 {E : gm_E} {o : Nat} {μ : gm_M} {H : Heap} {r t n : Nat} (h : gm_C E o μ H) (hr : μ.1[r]? = some (t + 1, n)) : r ≠ 0 := by
  intro e
  subst e
  rw [h.2.1] at hr
  cases hr
theorem gm_ne0' {E : gm_E} {o : Nat} {μ : gm_M} {H : Heap} {r : Nat} (h : gm_C E o μ H) (hr : gm_tag μ r ≠ 0) : r ≠ 0 := by
  intro e
  subst e
  unfold gm_tag at hr
  rw [h.2.1] at hr
  exact hr rfl
theorem gm_arrI {E : gm_E} {s : State} (hK : gm_K E s) : ArrOfT s (E.2.1 1) .int := (hK.1.2 0 (E.2.1 1, .int) rfl).1
theorem gm_arrZ {E : gm_E} {s : State} (hK : gm_K E s) : ArrOfT s (E.2.1 2) .boolean := (hK.1.2 1 (E.2.1 2, .boolean) rfl).1
theorem gm_arrP {E : gm_E} {s : State} (hK : gm_K E s) : ArrOfT s (E.2.1 3) (.object "GumBubble$Plain") := (hK.1.2 2 (E.2.1 3, .object "GumBubble$Plain") rfl).1
theorem gm_arrC {E : gm_E} {s : State} (hK : gm_K E s) : ArrOfT s (E.2.1 4) (.object "GumBubble$Child") := (hK.1.2 3 (E.2.1 4, .object "GumBubble$Child") rfl).1
theorem gm_iald {r : Nat} {i : Int32} {f : Int32 → Option β} (hd : decode cc pc = .ok (.iaload, 1)) (kk : ∀ v : Int32, v = μ.2.1 r i.toNatClampNeg → gm_A own nm cc nL rt R res μe k n μ (pc + 1) L (.int v :: st) (f v) κ) : gm_A own nm cc nL rt R res μe k n μ pc L (.int i :: .ref r :: st) (gm_aI μ r i f) κ := by
  intro b hz hk p l e s m args below meth c H locs ls E o X C hl hf
  unfold gm_aI at hz
  by_cases hc : gm_tag μ r = 1 ∧ ¬ i < 0 ∧ i.toNatClampNeg < gm_len μ r
  · rw [if_pos hc] at hz
    have hr := gm_at (t := 0) hc.1
    have h1 := C.2.2.2 r _ _ hr
    have e0 : gm_rv o r = .ref (o + r) := if_neg (gm_ne0 C hr)
    have kk := kk _ rfl b hz hk p l e s m args below meth c H locs ls E o X C hl hf
    obtain ⟨hx, hb, hml, hr, hown, hts, hlk, hK, hnm⟩ := X
    show W p l e R s m args below meth c H locs k n _ (F0 m pc ls (.int i :: gm_rv o r :: st.map (gm_cv E o)))
    rw [e0]
    exact W.iald (v := .int (μ.2.1 r i.toNatClampNeg)) hx hb h1 (gm_arrI hK _ _) (fun q => by cases q) (by rw [arrV_size]; rintro (q | q); exact hc.2.1 q; exact absurd q (Nat.not_le.mpr hc.2.2)) (by rw [arrV_read _ _ hc.2.2]) rfl rfl hd kk
  · rw [if_neg hc] at hz
    cases hz
theorem gm_zald {r : Nat} {i : Int32} {f : Int32 → Option β} (hd : decode cc pc = .ok (.baload, 1)) (kk : ∀ v : Int32, v = μ.2.1 r i.toNatClampNeg → gm_A own nm cc nL rt R res μe k n μ (pc + 1) L (.int v :: st) (f v) κ) : gm_A own nm cc nL rt R res μe k n μ pc L (.int i :: .ref r :: st) (gm_aZ μ r i f) κ := by
  intro b hz hk p l e s m args below meth c H locs ls E o X C hl hf
  unfold gm_aZ at hz
  by_cases hc : gm_tag μ r = 2 ∧ ¬ i < 0 ∧ i.toNatClampNeg < gm_len μ r
  · rw [if_pos hc] at hz
    have hr := gm_at (t := 1) hc.1
    have h1 := C.2.2.2 r _ _ hr
    have e0 : gm_rv o r = .ref (o + r) := if_neg (gm_ne0 C hr)
    have kk := kk _ rfl b hz hk p l e s m args below meth c H locs ls E o X C hl hf
    obtain ⟨hx, hb, hml, hr, hown, hts, hlk, hK, hnm⟩ := X
    show W p l e R s m args below meth c H locs k n _ (F0 m pc ls (.int i :: gm_rv o r :: st.map (gm_cv E o)))
    rw [e0]
    exact W.zald (v := .int (μ.2.1 r i.toNatClampNeg)) hx hb h1 (gm_arrZ hK _ _) (fun q => by cases q) (by rw [arrV_size]; rintro (q | q); exact hc.2.1 q; exact absurd q (Nat.not_le.mpr hc.2.2)) (by rw [arrV_read _ _ hc.2.2]) rfl rfl hd kk
  · rw [if_neg hc] at hz
    cases hz
theorem gm_aald {t r : Nat} {i : Int32} {f : Nat → Option β} (ht : t = 3 ∨ t = 4) (hd : decode cc pc = .ok (.aaload, 1)) (kk : ∀ v : Nat, v = μ.2.2 r i.toNatClampNeg → gm_A own nm cc nL rt R res μe k n μ (pc + 1) L (.ref v :: st) (f v) κ) : gm_A own nm cc nL rt R res μe k n μ pc L (.int i :: .ref r :: st) (gm_aR μ t r i f) κ := by
  intro b hz hk p l e s m args below meth c H locs ls E o X C hl hf
  unfold gm_aR at hz
  by_cases hc : gm_tag μ r = t ∧ ¬ i < 0 ∧ i.toNatClampNeg < gm_len μ r
  · rw [if_pos hc] at hz
    have kk := kk _ rfl b hz hk p l e s m args below meth c H locs ls E o X C hl hf
    obtain ⟨hx, hb, hml, hr, hown, hts, hlk, hK, hnm⟩ := X
    show W p l e R s m args below meth c H locs k n _ (F0 m pc ls (.int i :: gm_rv o r :: st.map (gm_cv E o)))
    have hin : ¬ (i < 0 ∨ gm_len μ r ≤ i.toNatClampNeg) := by
      rintro (q | q)
      · exact hc.2.1 q
      · exact absurd q (Nat.not_le.mpr hc.2.2)
    rcases ht with e | e
    · subst e
      have hr := gm_at (t := 2) hc.1
      have h1 := C.2.2.2 r _ _ hr
      have e0 : gm_rv o r = .ref (o + r) := if_neg (gm_ne0 C hr)
      rw [e0]
      exact W.aald (v := gm_rv o (μ.2.2 r i.toNatClampNeg)) (ty := .object "GumBubble$Plain") hx hb h1 (gm_arrP hK _ _) rfl (fun q => by cases q) (by rw [arrV_size]; exact hin) (by rw [arrV_read _ _ hc.2.2]) rfl rfl hd kk
    · subst e
      have hr := gm_at (t := 3) hc.1
      have h1 := C.2.2.2 r _ _ hr
      have e0 : gm_rv o r = .ref (o + r) := if_neg (gm_ne0 C hr)
      rw [e0]
      exact W.aald (v := gm_rv o (μ.2.2 r i.toNatClampNeg)) (ty := .object "GumBubble$Child") hx hb h1 (gm_arrC hK _ _) rfl (fun q => by cases q) (by rw [arrV_size]; exact hin) (by rw [arrV_read _ _ hc.2.2]) rfl rfl hd kk
  · rw [if_neg hc] at hz
    cases hz
theorem gm_alen {t r : Nat} {f : Int32 → Option β} (ht : t = 1 ∨ t = 2) (hd : decode cc pc = .ok (.arraylength, 1)) (kk : ∀ v : Int32, v = Int32.ofNat (gm_len μ r) → gm_A own nm cc nL rt R res μe k n μ (pc + 1) L (.int v :: st) (f v) κ) : gm_A own nm cc nL rt R res μe k n μ pc L (.ref r :: st) (gm_al μ t r f) κ := by
  intro b hz hk p l e s m args below meth c H locs ls E o X C hl hf
  unfold gm_al at hz
  by_cases hc : gm_tag μ r = t
  · rw [if_pos hc] at hz
    have kk := kk _ rfl b hz hk p l e s m args below meth c H locs ls E o X C hl hf
    obtain ⟨hx, hb, hml, hr, hown, hts, hlk, hK, hnm⟩ := X
    show W p l e R s m args below meth c H locs k n _ (F0 m pc ls (gm_rv o r :: st.map (gm_cv E o)))
    rcases ht with e | e
    · subst e
      have hr := gm_at (t := 0) hc
      have h1 := C.2.2.2 r _ _ hr
      have e0 : gm_rv o r = .ref (o + r) := if_neg (gm_ne0 C hr)
      rw [e0]
      exact W.alen (n := Int32.ofNat (gm_len μ r)) hx hb h1 (gm_arrI hK _ _) (by rw [arrV_size] <;> rfl) rfl rfl hd kk
    · subst e
      have hr := gm_at (t := 1) hc
      have h1 := C.2.2.2 r _ _ hr
      have e0 : gm_rv o r = .ref (o + r) := if_neg (gm_ne0 C hr)
      rw [e0]
      exact W.alen (n := Int32.ofNat (gm_len μ r)) hx hb h1 (gm_arrZ hK _ _) (by rw [arrV_size] <;> rfl) rfl rfl hd kk
  · rw [if_neg hc] at hz
    cases hz
theorem gm_lo2 {o a j : Nat} {locs : List Loc} (h : ∀ q ∈ locs, o < q.base) (ha : o < a) : ∀ q ∈ locs ++ [(⟨a, j⟩ : Loc)], o < q.base := by
  intro q hq
  rcases List.mem_append.mp hq with h1 | h1
  · exact h q h1
  · rw [List.mem_singleton.mp h1]
    exact ha
theorem gm_updA (f : Nat → Nat → Int32) (r i : Nat) (x : Int32) : updV (fun j => Value.int (f r j)) i (.int x) = fun j => Value.int (gm_u f r i x r j) := by
  funext j
  unfold updV gm_u
  rw [if_pos rfl]
  by_cases h : j = i
  · rw [if_pos h, if_pos h]
  · rw [if_neg h, if_neg h]
theorem gm_updB (o : Nat) (f : Nat → Nat → Nat) (r i x : Nat) : updV (fun j => gm_rv o (f r j)) i (gm_rv o x) = fun j => gm_rv o (gm_u f r i x r j) := by
  funext j
  unfold updV gm_u
  rw [if_pos rfl]
  by_cases h : j = i
  · rw [if_pos h, if_pos h]
  · rw [if_neg h, if_neg h]
theorem gm_iast {r : Nat} {i x : Int32} {f : gm_M → Option β} (hd : decode cc pc = .ok (.iastore, 1)) (kk : ∀ μ' : gm_M, μ' = (μ.1, gm_u μ.2.1 r i.toNatClampNeg x, μ.2.2) → gm_A own nm cc nL rt R res μe k n μ' (pc + 1) L st (f μ') κ) : gm_A own nm cc nL rt R res μe k n μ pc L (.int x :: .int i :: .ref r :: st) (gm_sI μ r i x f) κ := by
  intro b hz hk p l e s m args below meth c H locs ls E o X C hl hf
  unfold gm_sI at hz
  by_cases hc : gm_tag μ r = 1 ∧ ¬ i < 0 ∧ i.toNatClampNeg < gm_len μ r
  · rw [if_pos hc] at hz
    have hr := gm_at (t := 0) hc.1
    have h1 := C.2.2.2 r _ _ hr
    have hr0 := gm_ne0 C hr
    have e0 : gm_rv o r = .ref (o + r) := if_neg hr0
    have kk := fun H1 locs1 C1 hf1 => kk _ rfl b hz hk p l e s m args below meth c H1 locs1 ls E o X C1 hl hf1
    obtain ⟨hx, hb, hml, -, hown, hts, hlk, hK, hnm⟩ := X
    show W p l e R s m args below meth c H locs k n _ (F0 m pc ls (.int x :: .int i :: gm_rv o r :: st.map (gm_cv E o)))
    rw [e0]
    refine W.iast hx hb h1 (gm_arrI hK _ _) (fun q => by cases q) (by rw [arrV_size]; rintro (q | q); exact hc.2.1 q; exact absurd q (Nat.not_le.mpr hc.2.2)) rfl rfl hd fun H1 e1 z1 oq => ?_
    refine kk H1 _ (C.put hr rfl (fun a ha => gm_u_ne _ _ _ _ _ ha) (fun _ _ => rfl) z1 oq ?_) (gm_lo2 hf (by omega))
    show H1[o + r]? = some (arrV _ _ _)
    rw [e1, arrV_store, gm_updA]
  · rw [if_neg hc] at hz
    cases hz
theorem gm_zast {r : Nat} {i x : Int32} {f : gm_M → Option β} (hd : decode cc pc = .ok (.bastore, 1)) (kk : ∀ μ' : gm_M, μ' = (μ.1, gm_u μ.2.1 r i.toNatClampNeg (x &&& 1), μ.2.2) → gm_A own nm cc nL rt R res μe k n μ' (pc + 1) L st (f μ') κ) : gm_A own nm cc nL rt R res μe k n μ pc L (.int x :: .int i :: .ref r :: st) (gm_sZ μ r i x f) κ := by
  intro b hz hk p l e s m args below meth c H locs ls E o X C hl hf
  unfold gm_sZ at hz
  by_cases hc : gm_tag μ r = 2 ∧ ¬ i < 0 ∧ i.toNatClampNeg < gm_len μ r
  · rw [if_pos hc] at hz
    have hr := gm_at (t := 1) hc.1
    have h1 := C.2.2.2 r _ _ hr
    have hr0 := gm_ne0 C hr
    have e0 : gm_rv o r = .ref (o + r) := if_neg hr0
    have kk := fun H1 locs1 C1 hf1 => kk _ rfl b hz hk p l e s m args below meth c H1 locs1 ls E o X C1 hl hf1
    obtain ⟨hx, hb, hml, -, hown, hts, hlk, hK, hnm⟩ := X
    show W p l e R s m args below meth c H locs k n _ (F0 m pc ls (.int x :: .int i :: gm_rv o r :: st.map (gm_cv E o)))
    rw [e0]
    refine W.zast hx hb h1 (gm_arrZ hK _ _) (fun q => by cases q) (by rw [arrV_size]; rintro (q | q); exact hc.2.1 q; exact absurd q (Nat.not_le.mpr hc.2.2)) rfl rfl hd fun H1 e1 z1 oq => ?_
    refine kk H1 _ (C.put hr rfl (fun a ha => gm_u_ne _ _ _ _ _ ha) (fun _ _ => rfl) z1 oq ?_) (gm_lo2 hf (by omega))
    show H1[o + r]? = some (arrV _ _ _)
    rw [e1, arrV_store]
    show some (arrV _ _ (updV _ _ (.int (x &&& 1)))) = _
    rw [gm_updA]
  · rw [if_neg hc] at hz
    cases hz
/-- an element's class may stand in the row of references -/
def gm_Sub (ks : List Nat) (C : String) : Prop := ∀ t ∈ ks, ∃ (k : Nat) (q : vw_C), t = k + 5 ∧ gm_cls[k]? = some q ∧ (q.1, C) ∈ gm_yes
theorem gm_astW {p : Program} {l : Launch} {e : Env} {R : Room} {s : State} {m : MethodId} {args : Array Value} {below : List Frame} {meth : Method} {c : Code} {H : Heap} {locs : List Loc} {cells slots : Nat} {Q : State → Prop} {cc : ByteArray} {pc : Nat} {ls : Array Slot} {rest : List Value} {E : gm_E} {o r v nn : Nat} {C : String} {ks : List Nat} {i : Int32} {μ : gm_M} {cA : ClassId} {ff : Nat → Value}
    (hx : p.tables.exec = Jvm.exec) (hb : c.code = cc) (hK : gm_K E s) (hC : gm_C E o μ H) (hS : gm_Sub ks C) (hks : ks.contains (gm_tag μ v) = true) (h1 : H[o + r]? = some (arrV cA nn ff)) (hRA : va_RA s cA (.object C)) (h0 : ¬ i < 0) (hlt : i.toNatClampNeg < nn) (hd : decode cc pc = .ok (.aastore, 1))
    (kk : ∀ H1 : Heap, H1[o + r]? = some ((arrV cA nn ff).setSlot i.toNatClampNeg (gm_rv o v)) → H1.size = H.size → (∀ q, q ≠ o + r → H1[q]? = H[q]?) → W p l e R s m args below meth c H1 (locs ++ [⟨o + r, i.toNatClampNeg⟩]) cells slots Q (F0 m (pc + 1) ls rest)) : W p l e R s m args below meth c H locs cells slots Q (F0 m pc ls (gm_rv o v :: .int i :: .ref (o + r) :: rest)) := by
  obtain ⟨k', q, e1, e2, e3⟩ := hS _ (List.contains_iff_mem.mp hks)
  have hv := gm_at (t := k' + 4) e1
  obtain ⟨hv0, cell, q1, q2, q3, q4⟩ := gm_Cobj hC hv e2
  have ev : gm_rv o v = .ref (o + v) := if_neg hv0
  rw [ev] at kk ⊢
  obtain ⟨kA, comp, k1, k2, k3, -⟩ := hRA
  obtain ⟨ca, ct, a1, a2, a3⟩ := hK.2.2.2.1 _ e3
  obtain ⟨hfc, kC, hkC, hkind⟩ := (hK.1.1 k' _ e2).2
  dsimp only at a1 a2 a3
  cases a1.symm.trans hfc
  cases a2.symm.trans k3
  obtain ⟨kP, hkP, -⟩ := Vm.findClass_spec k3
  exact W.aast hx hb h1 (fun q h => by cases h) (fun h => by cases h) k1 k2 rfl hkP ⟨h0, by rw [arrV_size]; exact hlt⟩ q1 (fun q h => by rw [q3] at h; cases h) (by rw [q2]; exact hkC) (by rw [q2]; exact a3) rfl rfl hd kk
theorem gm_aast {t : Nat} {ks : List Nat} {C : String} {r v : Nat} {i : Int32} {f : gm_M → Option β} (ht : (t = 3 ∧ C = "GumBubble$Plain") ∨ (t = 4 ∧ C = "GumBubble$Child")) (hS : gm_Sub ks C) (hd : decode cc pc = .ok (.aastore, 1)) (kk : ∀ μ' : gm_M, μ' = (μ.1, μ.2.1, gm_u μ.2.2 r i.toNatClampNeg v) → gm_A own nm cc nL rt R res μe k n μ' (pc + 1) L st (f μ') κ) : gm_A own nm cc nL rt R res μe k n μ pc L (.ref v :: .int i :: .ref r :: st) (gm_sR μ t ks r i v f) κ := by
  intro b hz hk p l e s m args below meth c H locs ls E o X C0 hl hf
  unfold gm_sR at hz
  by_cases hc : gm_tag μ r = t ∧ ks.contains (gm_tag μ v) = true ∧ ¬ i < 0 ∧ i.toNatClampNeg < gm_len μ r
  · rw [if_pos hc] at hz
    have kk := fun H1 locs1 C1 hf1 => kk _ rfl b hz hk p l e s m args below meth c H1 locs1 ls E o X C1 hl hf1
    obtain ⟨hx, hb, hml, -, hown, hts, hlk, hK, hnm⟩ := X
    show W p l e R s m args below meth c H locs k n _ (F0 m pc ls (gm_rv o v :: .int i :: gm_rv o r :: st.map (gm_cv E o)))
    rcases ht with ⟨e1, e2⟩ | ⟨e1, e2⟩
    · subst e1
      subst e2
      have hr := gm_at (t := 2) hc.1
      have h1 := C0.2.2.2 r _ _ hr
      have hr0 := gm_ne0 C0 hr
      have e0 : gm_rv o r = .ref (o + r) := if_neg hr0
      rw [e0]
      refine gm_astW hx hb hK C0 hS hc.2.1 h1 (hK.1.2 2 (E.2.1 3, .object "GumBubble$Plain") rfl).2 hc.2.2.1 hc.2.2.2 hd fun H1 e1 z1 oq => ?_
      refine kk H1 _ (C0.put hr rfl (fun _ _ => rfl) (fun a ha => gm_u_ne _ _ _ _ _ ha) z1 oq ?_) (gm_lo2 hf (by omega))
      show H1[o + r]? = some (arrV _ _ _)
      rw [e1, arrV_store, gm_updB]
    · subst e1
      subst e2
      have hr := gm_at (t := 3) hc.1
      have h1 := C0.2.2.2 r _ _ hr
      have hr0 := gm_ne0 C0 hr
      have e0 : gm_rv o r = .ref (o + r) := if_neg hr0
      rw [e0]
      refine gm_astW hx hb hK C0 hS hc.2.1 h1 (hK.1.2 3 (E.2.1 4, .object "GumBubble$Child") rfl).2 hc.2.2.1 hc.2.2.2 hd fun H1 e1 z1 oq => ?_
      refine kk H1 _ (C0.put hr rfl (fun _ _ => rfl) (fun a ha => gm_u_ne _ _ _ _ _ ha) z1 oq ?_) (gm_lo2 hf (by omega))
      show H1[o + r]? = some (arrV _ _ _)
      rw [e1, arrV_store, gm_updB]
  · rw [if_neg hc] at hz
    cases hz

/-! what is made -/
def gm_nw (μ : gm_M) (t n : Nat) : gm_M := (μ.1 ++ [(t, n)], gm_z μ.2.1 μ.1.length 0, gm_z μ.2.2 μ.1.length 0)
theorem gm_z_ne {α : Type} (f : Nat → Nat → α) (r : Nat) (x : α) (a : Nat) (h : a ≠ r) : gm_z f r x a = f a := by
  funext k
  exact if_neg h
theorem gm_z_eq {α : Type} (f : Nat → Nat → α) (r : Nat) (x : α) : gm_z f r x r = fun _ => x := by
  funext k
  exact if_pos rfl
theorem gm_C.push {E : gm_E} {o : Nat} {μ : gm_M} {H H' : Heap} {t n : Nat} (h : gm_C E o μ H) (hz : H'.size = H.size + 1) (oq : ∀ q, q < H.size → H'[q]? = H[q]?) (hc : gm_cell E o (gm_nw μ t n) H' μ.1.length t n) : gm_C E o (gm_nw μ t n) H' := by
  obtain ⟨h1, h2, h3, h4⟩ := h
  have hl : 0 < μ.1.length := by
    rcases Nat.eq_zero_or_pos μ.1.length with e | e
    · rw [List.length_eq_zero_iff.mp e] at h2
      cases h2
    · exact e
  refine ⟨?_, ?_, ⟨h3.1, fun q hq => ?_⟩, fun r t' n' hr => ?_⟩
  · show H'.size = o + (μ.1 ++ [(t, n)]).length
    rw [hz, h1, List.length_append]
    rfl
  · show (μ.1 ++ [(t, n)])[0]? = _
    rw [List.getElem?_append_left hl]
    exact h2
  · rw [oq q (by omega)]
    exact h3.2 q hq
  · have hr : (μ.1 ++ [(t, n)])[r]? = some (t', n') := hr
    by_cases hlt : r < μ.1.length
    · rw [List.getElem?_append_left hlt] at hr
      exact (h4 r t' n' hr).kept (gm_z_ne _ _ _ _ (Nat.ne_of_lt hlt)) (gm_z_ne _ _ _ _ (Nat.ne_of_lt hlt)) (oq (o + r) (by omega))
    · rw [List.getElem?_append_right (by omega)] at hr
      have hz : r - μ.1.length < 1 := (List.getElem?_eq_some_iff.mp hr).1
      have e : r = μ.1.length := by omega
      subst e
      rw [Nat.sub_self] at hr
      cases hr
      exact hc
theorem gm_Cpos {E : gm_E} {o : Nat} {μ : gm_M} {H : Heap} (h : gm_C E o μ H) : gm_rv o μ.1.length = .ref H.size := by
  have h2 := h.2.1
  unfold gm_rv
  rw [if_neg]
  · rw [h.1]
  · intro e
    rw [List.length_eq_zero_iff.mp e] at h2
    cases h2
theorem gm_dflt {k0 : Nat} {q : vw_C} (hc : gm_cls[k0]? = some q) {j : Nat} (hj : j < q.2.2) (o : Nat) : defaultValue (gm_ty q.2.1 j) = if gm_isr k0 j = true then gm_rv o 0 else .int 0 := by
  have h : ∀ (k : Nat) (q : vw_C), gm_cls[k]? = some q → ∀ j, j < q.2.2 → defaultValue (gm_ty q.2.1 j) = if gm_isr k j = true then .null else .int 0 := by
    intro k q h
    match k, h with
    | 0, h => cases h; exact (by decide +kernel)
    | 1, h => cases h; exact (by decide +kernel)
    | 2, h => cases h; exact (by decide +kernel)
    | 3, h => cases h; exact (by decide +kernel)
    | 4, h => cases h; exact (by decide +kernel)
    | 5, h => cases h; exact (by decide +kernel)
    | 6, h => cases h; exact (by decide +kernel)
    | 7, h => cases h; exact (by decide +kernel)
    | 8, h => cases h; exact (by decide +kernel)
    | 9, h => cases h; exact (by decide +kernel)
    | 10, h => cases h; exact (by decide +kernel)
    | 11, h => cases h; exact (by decide +kernel)
    | 12, h => cases h; exact (by decide +kernel)
    | k + 13, h => simp [gm_cls] at h
  exact h k0 q hc j hj
def gm_mk {β : Type} (μ : gm_M) (t n : Nat) (f : Nat → gm_M → Option β) : Option β := f μ.1.length (gm_nw μ t n)
theorem gm_new {k0 N index : Nat} {C : String} {T : u_T} (hc : gm_cls[k0]? = some (C, T, N)) (hw1 : Jvm.Cond.classLink own index C ∈ gm_G) (hw2 : Jvm.Cond.instantiable C N ∈ gm_G) (hw3 : Jvm.Cond.initialized C ∈ gm_G) (hk1 : k + 1 ≤ R.cells) (hn1 : n + N ≤ R.slots) (hd : decode cc pc = .ok (.new index, 3))
    {f : Nat → gm_M → Option β} (kk : ∀ (q : Nat) (μ' : gm_M), q = μ.1.length → μ' = gm_nw μ (k0 + 5) N → gm_A own nm cc nL rt R res μe (k + 1) (n + N) μ' (pc + 3) L (.ref q :: st) (f q μ') κ) : gm_A own nm cc nL rt R res μe k n μ pc L st (gm_mk μ (k0 + 5) N f) κ := by
  intro b hz hk p l e s m args below meth c H locs ls E o X Cc hl hf
  unfold gm_mk at hz
  have kk := fun H1 C1 => kk _ _ rfl rfl b hz hk p l e s m args below meth c H1 locs ls E o X C1 hl hf
  obtain ⟨hx, hb, hml, hr, hown, hts, hlk, hK, hnm⟩ := X
  have hKn := hK.1.1 k0 _ hc
  have hty := gm_types k0 _ hc
  refine W.newcK hx hb hown (hts _ hw1) (hts _ hw2) (hts _ hw3) rfl hd hk1 hn1 hKn.2.1 rfl fun H1 kC hkC e1 z1 o1 => ?_
  have e0 := gm_Cpos Cc
  have C1 : gm_C E o (gm_nw μ (k0 + 5) N) H1 := by
    refine Cc.push z1 o1 ⟨(C, T, N), hc, rfl, ?_⟩
    have e2 := u_born (gm_ty T) hts (gm_lays k0 _ hc) hKn hkC e1 hty
    rw [Cc.1] at e2
    refine e2.to fun j hj => ?_
    unfold gm_fv
    show defaultValue (gm_ty T j) = if gm_isr k0 j = true then gm_rv o (gm_z μ.2.2 μ.1.length 0 μ.1.length j) else .int (gm_z μ.2.1 μ.1.length 0 μ.1.length j)
    rw [gm_z_eq, gm_z_eq]
    exact gm_dflt hc hj o
  have kk := kk H1 C1
  rw [List.map_cons] at kk
  have e3 : gm_cv E o (.ref μ.1.length) = .ref H.size := e0
  rw [e3] at kk
  exact kk
def gm_nA {β : Type} (μ : gm_M) (t : Nat) (i : Int32) (B : Nat) (f : Nat → gm_M → Option β) : Option β := if ¬ i < 0 ∧ i.toNatClampNeg ≤ B then f μ.1.length (gm_nw μ t i.toNatClampNeg) else none
theorem gm_newaI {i : Int32} {B : Nat} {f : Nat → gm_M → Option β} (hB : B * 4 ≤ 536870912) (hw : Jvm.Cond.arrayClass .int ∈ gm_G) (hk1 : k + 1 ≤ R.cells) (hn1 : n + B ≤ R.slots) (hd : decode cc pc = .ok (.newarray .int, 2))
    (kk : ∀ (q : Nat) (μ' : gm_M), q = μ.1.length → μ' = gm_nw μ 1 i.toNatClampNeg → gm_A own nm cc nL rt R res μe (k + 1) (n + B) μ' (pc + 2) L (.ref q :: st) (f q μ') κ) : gm_A own nm cc nL rt R res μe k n μ pc L (.int i :: st) (gm_nA μ 1 i B f) κ := by
  intro b hz hk p l e s m args below meth c H locs ls E o X Cc hl hf
  unfold gm_nA at hz
  by_cases hc : ¬ i < 0 ∧ i.toNatClampNeg ≤ B
  · rw [if_pos hc] at hz
    have kk := fun H1 C1 => kk _ _ rfl rfl b hz hk p l e s m args below meth c H1 locs ls E o X C1 hl hf
    obtain ⟨hx, hb, hml, hr, hown, hts, hlk, hK, hnm⟩ := X
    refine va_newaK (atype := .int) hx hb (hts _ hw) rfl hd rfl hc.1 rfl (Nat.le_trans (Nat.mul_le_mul_right 4 hc.2) hB) hk1 (Nat.le_trans (Nat.add_le_add_left hc.2 n) hn1) rfl fun H1 cA e1 z1 o1 hAr hNm => ?_
    have e4 : cA = E.2.1 1 := Option.some.inj (hNm.symm.trans (hK.1.2 0 (E.2.1 1, .int) rfl).2)
    subst e4
    have C1 : gm_C E o (gm_nw μ 1 i.toNatClampNeg) H1 := by
      refine Cc.push z1 o1 ?_
      show H1[o + μ.1.length]? = some (arrV _ _ (fun j => .int (gm_z μ.2.1 μ.1.length 0 μ.1.length j)))
      rw [gm_z_eq, ← Cc.1]
      exact e1
    have kk := kk H1 C1
    rw [List.map_cons] at kk
    have e3 : gm_cv E o (.ref μ.1.length) = .ref H.size := gm_Cpos Cc
    rw [e3] at kk
    exact W.widen (k := k + 1) (n := n + B) (Nat.le_refl _) (Nat.add_le_add_left hc.2 n) kk
  · rw [if_neg hc] at hz
    cases hz
theorem gm_newaZ {i : Int32} {B : Nat} {f : Nat → gm_M → Option β} (hB : B * 4 ≤ 536870912) (hw : Jvm.Cond.arrayClass .boolean ∈ gm_G) (hk1 : k + 1 ≤ R.cells) (hn1 : n + B ≤ R.slots) (hd : decode cc pc = .ok (.newarray .boolean, 2))
    (kk : ∀ (q : Nat) (μ' : gm_M), q = μ.1.length → μ' = gm_nw μ 2 i.toNatClampNeg → gm_A own nm cc nL rt R res μe (k + 1) (n + B) μ' (pc + 2) L (.ref q :: st) (f q μ') κ) : gm_A own nm cc nL rt R res μe k n μ pc L (.int i :: st) (gm_nA μ 2 i B f) κ := by
  intro b hz hk p l e s m args below meth c H locs ls E o X Cc hl hf
  unfold gm_nA at hz
  by_cases hc : ¬ i < 0 ∧ i.toNatClampNeg ≤ B
  · rw [if_pos hc] at hz
    have kk := fun H1 C1 => kk _ _ rfl rfl b hz hk p l e s m args below meth c H1 locs ls E o X C1 hl hf
    obtain ⟨hx, hb, hml, hr, hown, hts, hlk, hK, hnm⟩ := X
    have h5 : componentBytes (newarray.typeOf .boolean) ≤ 4 := by decide
    have h6 : i.toNatClampNeg * componentBytes (newarray.typeOf .boolean) ≤ 536870912 := Nat.le_trans (Nat.mul_le_mul hc.2 h5) hB
    refine va_newaK (atype := .boolean) hx hb (hts _ hw) rfl hd rfl hc.1 rfl h6 hk1 (Nat.le_trans (Nat.add_le_add_left hc.2 n) hn1) rfl fun H1 cA e1 z1 o1 hAr hNm => ?_
    have e4 : cA = E.2.1 2 := Option.some.inj (hNm.symm.trans (hK.1.2 1 (E.2.1 2, .boolean) rfl).2)
    subst e4
    have C1 : gm_C E o (gm_nw μ 2 i.toNatClampNeg) H1 := by
      refine Cc.push z1 o1 ?_
      show H1[o + μ.1.length]? = some (arrV _ _ (fun j => .int (gm_z μ.2.1 μ.1.length 0 μ.1.length j)))
      rw [gm_z_eq, ← Cc.1]
      exact e1
    have kk := kk H1 C1
    rw [List.map_cons] at kk
    have e3 : gm_cv E o (.ref μ.1.length) = .ref H.size := gm_Cpos Cc
    rw [e3] at kk
    exact W.widen (k := k + 1) (n := n + B) (Nat.le_refl _) (Nat.add_le_add_left hc.2 n) kk
  · rw [if_neg hc] at hz
    cases hz
theorem gm_anewA {t index : Nat} {C : String} {i : Int32} {B : Nat} {f : Nat → gm_M → Option β} (ht : (t = 3 ∧ C = "GumBubble$Plain") ∨ (t = 4 ∧ C = "GumBubble$Child")) (hB : B * 4 ≤ 536870912) (hw : Jvm.Cond.classLink own index C ∈ gm_G) (hk1 : k + 1 ≤ R.cells) (hn1 : n + B ≤ R.slots) (hd : decode cc pc = .ok (.anewarray index, 3))
    (kk : ∀ (q : Nat) (μ' : gm_M), q = μ.1.length → μ' = gm_nw μ t i.toNatClampNeg → gm_A own nm cc nL rt R res μe (k + 1) (n + B) μ' (pc + 3) L (.ref q :: st) (f q μ') κ) : gm_A own nm cc nL rt R res μe k n μ pc L (.int i :: st) (gm_nA μ t i B f) κ := by
  intro b hz hk p l e s m args below meth c H locs ls E o X Cc hl hf
  unfold gm_nA at hz
  by_cases hc : ¬ i < 0 ∧ i.toNatClampNeg ≤ B
  · rw [if_pos hc] at hz
    have kk := fun H1 C1 => kk _ _ rfl rfl b hz hk p l e s m args below meth c H1 locs ls E o X C1 hl hf
    obtain ⟨hx, hb, hml, hr, hown, hts, hlk, hK, hnm⟩ := X
    have hover : va_AO C s := by
      rcases ht with ⟨-, e⟩ | ⟨-, e⟩ <;> subst e
      · exact hK.2.1
      · exact hK.2.2.1
    refine W.anew hx hb hown (hts _ hw) (va_AO.use hover) rfl hd rfl hc.1 (Nat.le_trans (Nat.mul_le_mul_right 4 hc.2) hB) hk1 (Nat.le_trans (Nat.add_le_add_left hc.2 n) hn1) fun cA kA comp f1 f2 f3 f4 => ?_
    have fin : ∀ H1 : Heap, H1 = H.push ({ cls := cA, slots := Array.replicate i.toNatClampNeg .null, vm := .none } : Cell) → gm_C E o (gm_nw μ t i.toNatClampNeg) H1 := by
      intro H1 hH1
      have z1 : H1.size = H.size + 1 := by rw [hH1, Array.size_push]
      have e1 : H1[H.size]? = some (arrV cA i.toNatClampNeg (fun _ => .null)) := by rw [hH1, Array.getElem?_push_size, ← arrV_new]
      have o1 : ∀ q : Nat, q < H.size → H1[q]? = H[q]? := fun q hq => by rw [hH1, Array.getElem?_push, if_neg (Nat.ne_of_lt hq)]
      refine Cc.push z1 o1 ?_
      rw [Cc.1] at e1
      rcases ht with ⟨g1, g2⟩ | ⟨g1, g2⟩ <;> subst g1 <;> subst g2
      · show H1[o + μ.1.length]? = some (arrV _ _ (fun j => gm_rv o (gm_z μ.2.2 μ.1.length 0 μ.1.length j)))
        rw [gm_z_eq]
        obtain ⟨_, _, -, -, -, g4⟩ := (hK.1.2 2 (E.2.1 3, .object "GumBubble$Plain") rfl).2
        cases f1.symm.trans g4
        exact e1
      · show H1[o + μ.1.length]? = some (arrV _ _ (fun j => gm_rv o (gm_z μ.2.2 μ.1.length 0 μ.1.length j)))
        rw [gm_z_eq]
        obtain ⟨_, _, -, -, -, g4⟩ := (hK.1.2 3 (E.2.1 4, .object "GumBubble$Child") rfl).2
        cases f1.symm.trans g4
        exact e1
    have kk := kk _ (fin _ rfl)
    rw [List.map_cons] at kk
    have e3 : gm_cv E o (.ref μ.1.length) = .ref H.size := gm_Cpos Cc
    rw [e3] at kk
    exact W.widen (k := k + 1) (n := n + B) (Nat.le_refl _) (Nat.add_le_add_left hc.2 n) kk
  · rw [if_neg hc] at hz
    cases hz
/-! the ends -/
theorem gm_iret {x : Int32} {zz : β} (hrt : rt = some .int) (hd : decode cc pc = .ok (.ireturn, 1)) (hk1 : k ≤ R.cells) (hn1 : n ≤ R.slots) (hκ : κ zz → (some (.int x), μ) = (res, μe)) : gm_A own nm cc nL rt R res μe k n μ pc L [.int x] (some zz) κ := by
  intro b hz hk p l e s m args below meth c H locs ls E o X C hl hf
  cases hz
  cases hκ hk
  obtain ⟨hx, hb, hml, hr, hown, hts, hlk, hK, hnm⟩ := X
  refine W.widen hk1 hn1 ?_
  exact W.iret hx hb (hr.trans hrt) (fun t ht hW => ⟨rfl, by rw [ht]; exact C⟩) hf hd hlk
theorem gm_zret {x : Int32} {zz : β} (hrt : rt = some .boolean) (hd : decode cc pc = .ok (.ireturn, 1)) (hk1 : k ≤ R.cells) (hn1 : n ≤ R.slots) (hκ : κ zz → (some (.int x), μ) = (res, μe)) : gm_A own nm cc nL rt R res μe k n μ pc L [.int x] (if x = 0 ∨ x = 1 then some zz else none) κ := by
  intro b hz hk p l e s m args below meth c H locs ls E o X C hl hf
  by_cases h01 : x = 0 ∨ x = 1
  · rw [if_pos h01] at hz
    cases hz
    cases hκ hk
    obtain ⟨hx, hb, hml, hr, hown, hts, hlk, hK, hnm⟩ := X
    refine W.widen hk1 hn1 ?_
    exact W.zret hx hb (hr.trans hrt) (by rcases h01 with e | e <;> subst e <;> rfl) (fun t ht hW => ⟨rfl, by rw [ht]; exact C⟩) hf hd hlk
  · rw [if_neg h01] at hz
    cases hz
theorem gm_lret {x : Int64} {zz : β} (hrt : rt = some .long) (hd : decode cc pc = .ok (.lreturn, 1)) (hk1 : k ≤ R.cells) (hn1 : n ≤ R.slots) (hκ : κ zz → (some (.long x), μ) = (res, μe)) : gm_A own nm cc nL rt R res μe k n μ pc L [.long x] (some zz) κ := by
  intro b hz hk p l e s m args below meth c H locs ls E o X C hl hf
  cases hz
  cases hκ hk
  obtain ⟨hx, hb, hml, hr, hown, hts, hlk, hK, hnm⟩ := X
  refine W.widen hk1 hn1 ?_
  exact W.lret hx hb (hr.trans hrt) (fun t ht hW => ⟨rfl, by rw [ht]; exact C⟩) hf hd hlk
theorem gm_vret {zz : β} (hrt : rt = none) (hd : decode cc pc = .ok (.return_, 1)) (hk1 : k ≤ R.cells) (hn1 : n ≤ R.slots) (hκ : κ zz → (none, μ) = (res, μe)) : gm_A own nm cc nL rt R res μe k n μ pc L [] (some zz) κ := by
  intro b hz hk p l e s m args below meth c H locs ls E o X C hl hf
  cases hz
  cases hκ hk
  obtain ⟨hx, hb, hml, hr, hown, hts, hlk, hK, hnm⟩ := X
  refine W.widen hk1 hn1 ?_
  exact W.vret hx hb (hr.trans hrt) (fun t ht hW => ⟨rfl, by rw [ht]; exact C⟩) hf hd hlk
theorem gm_no : gm_A own nm cc nL rt R res μe k n μ pc L st (none : Option β) κ := by
  intro b hz
  cases hz
/-- a jump back to a loop's head: the state there is the new one -/
theorem gm_back {zz : β} (h : κ zz → gm_Goal own nm cc nL rt R res μe k n μ pc L st) : gm_A own nm cc nL rt R res μe k n μ pc L st (some zz) κ := by
  intro b hz hk
  cases hz
  exact h hk
def gm_loop {S β : Type} (step : S → Option (S ⊕ β)) : Nat → S → Option β
  | 0, _ => none
  | i + 1, s => match step s with
    | none => none
    | some (.inl s') => gm_loop step i s'
    | some (.inr b) => some b
def gm_kl {S β : Type} (G : S → Prop) (κ : β → Prop) : S ⊕ β → Prop
  | .inl s => G s
  | .inr b => κ b
theorem gm_lp {S : Type} {step : S → Option (S ⊕ β)} (fk fn : S → Nat) (fμ : S → gm_M) (fL : S → List (Nat × Value)) (fs : S → List Value) (h : ∀ s : S, gm_A own nm cc nL rt R res μe (fk s) (fn s) (fμ s) pc (fL s) (fs s) (step s) (gm_kl (fun s' => gm_Goal own nm cc nL rt R res μe (fk s') (fn s') (fμ s') pc (fL s') (fs s')) κ)) : ∀ (i : Nat) (s : S), gm_A own nm cc nL rt R res μe (fk s) (fn s) (fμ s) pc (fL s) (fs s) (gm_loop step i s) κ := by
  intro i
  induction i with
  | zero => intro s b hz; cases hz
  | succ i ih =>
    intro s b hz hk
    have hs := h s
    unfold gm_loop at hz
    cases e : step s with
    | none => rw [e] at hz; cases hz
    | some v =>
      rw [e] at hz
      cases v with
      | inl s' => exact hs _ e (ih s' b hz hk)
      | inr b' => cases hz; exact hs _ e hk
/-- other locals listed -/
theorem gm_sub {L' : List (Nat × Value)} (ks : List Nat) (h : lv_pick L ks = L') (kk : gm_A own nm cc nL rt R res μe k n μ pc L' st z κ) : gm_A own nm cc nL rt R res μe k n μ pc L st z κ := by
  intro b hz hk p l e s m args below meth c H locs ls E o X C hl hf
  refine kk b hz hk p l e s m args below meth c H locs ls E o X C (lv_sub hl ks ?_) hf
  rw [← h]
  unfold lv_pick
  rw [List.map_filterMap]
  congr 1
  funext j
  rw [List.getElem?_map]

/-! calls -/
def gm_rm (d mc ms : Nat) : Room := { frames := d, cells := mc, slots := ms, locals := 64 * d }
def gm_Pc (E : gm_E) (o : Nat) (As : List Value) (μ : gm_M) : Array Value → State → Prop := va_Pc (As.map (gm_cv E o)) (fun U => gm_C E o μ U.heap ∧ gm_K E U)
/-- a method's contract: what z answers is what it answers, at most d frames deep -/
def gm_Call (y : MethodName) (cc : ByteArray) (nL : Nat) (rt : Option FieldType) (d mc ms : Nat) (As : List Value) (μ : gm_M) (z : Option (Option Value × gm_M)) : Prop :=
  ∀ (res : Option Value) (μe : gm_M), z = some (res, μe) → ∀ (l : Launch) (E : gm_E) (o : Nat), Met l y (.code y cc nL rt :: gm_G) (gm_rm d mc ms) (gm_Pc E o As μ) (gm_Qc E o res μe) mc ms (fun q => o < q)
theorem gm_args (E : gm_E) (o : Nat) : ∀ (As : List Value) (i : Nat), lv_args i (As.map (gm_cv E o)) = (lv_args i As).map fun q => (q.1, gm_cv E o q.2)
  | [], i => rfl
  | a :: As, i => by
    simp only [List.map_cons, lv_args, gm_cv_cat]
    rw [gm_args E o As]
theorem gm_sl (E : gm_E) (o : Nat) (As : List Value) : (lg_sl (As.map (gm_cv E o))).length = (lg_sl As).length := by
  induction As with
  | nil => rfl
  | cons a As ih =>
    have e : ∀ (b : Value) (l : List Value), lg_sl (b :: l) = (if b.category = 2 then [.val b, .second] else [.val b]) ++ lg_sl l := fun _ _ => rfl
    rw [List.map_cons, e, e, List.length_append, List.length_append, ih, gm_cv_cat]
    split <;> rfl
theorem gm_start {y : MethodName} {d mc ms : Nat} {As : List Value} {z : Option (Option Value × gm_M)} (hy : plainName y.cls = true) (hlen : (lg_sl As).length ≤ nL)
    (h : ∀ (res : Option Value) (μe : gm_M), gm_A y.cls (gm_nm y.name) cc nL rt (gm_rm d mc ms) res μe 0 0 μ 0 (lv_args 0 As) [] z (fun b => b = (res, μe))) : gm_Call y cc nL rt d mc ms As μ z := by
  intro res μe hz l E o
  refine Met.ofW (cc := cc) (maxL := nL) (ret := rt) hy rfl ?_
  intro p e s m args below meth c s₁ B hml hv
  obtain ⟨rfl, hC, hK⟩ := hv
  have hts : ∀ w ∈ gm_G, w.before (As.map (gm_cv E o)).toArray s = true := fun w hw => atoms_spec (ws := .code y cc nL rt :: gm_G) B.pre w (List.mem_cons_of_mem _ hw)
  have hl := lv_entry (As.map (gm_cv E o)) (n := nL) (by rw [gm_sl]; exact hlen)
  rw [gm_args] at hl
  rw [lg_entry_eq]
  exact h res μe _ hz rfl p l e s m _ below meth c s.heap [] _ E o ⟨B.exec, B.bytes, hml, B.returns, findClass_of_methodNamed B.named, hts, B.notSynchronized, hK, (name_of_methodNamed B.named B.method).1, trivial⟩ hC hl (fun q hq => by cases hq)
theorem gm_GG : ∀ w ∈ gm_G, (w.onTables && w.keeps) = true ∨ ∃ ty, w = .arrayClass ty := fun w h => good_of_word (List.mem_filter.mp h).2
theorem gm_pay {y : MethodName} {cc' : ByteArray} {nL' : Nat} {rt' : Option FieldType} {args : Array Value} {s : State} (hts : ∀ w ∈ gm_G, w.before args s = true) (hc : Jvm.Cond.code y cc' nL' rt' ∈ gm_G) : ∀ w ∈ (.code y cc' nL' rt' :: gm_G : List Cond), ∀ (a' : Array Value) (U : State), s.WarmedH U.vm → w.before a' U = true := by
  intro w hw a' U hW
  have h : w ∈ gm_G := by
    rcases List.mem_cons.mp hw with e | e
    · rw [e]; exact hc
    · exact e
  exact word_at hW (gm_GG w h) (hts w h)
theorem gm_blind (E : gm_E) (o : Nat) (As : List Value) (μ : gm_M) : FrameBlind (gm_Pc E o As μ) := by
  intro a U g mk q
  obtain ⟨q0, q1, q2⟩ := q
  exact ⟨q0, q1, q2.same rfl⟩
/-- behind a call -/
theorem gm_after {p : Program} {l : Launch} {e : Env} {R : Room} {s : State} {m : MethodId} {args : Array Value} {below : List Frame} {meth : Method} {c : Code} {H : Heap} {locs : List Loc} {cells slots mc ms : Nat} {Q : State → Prop} {pc : Nat} {ls : Array Slot} {rest st0 : List Value} {E : gm_E} {o : Nat} {v : Option Value} {μ1 : gm_M} {a : Array Value}
    (hr : va_Run p l e R s m args below meth c H locs cells slots mc ms (F0 m pc ls st0) rest (gm_Qc E o v μ1 a) (fun q => o < q)) (hf : ∀ q ∈ locs, o < q.base)
    (kk : ∀ (H1 : Heap) (locs1 : List Loc), gm_C E o μ1 H1 → (∀ q ∈ locs1, o < q.base) → W p l e R s m args below meth c H1 locs1 (cells + mc) (slots + ms) Q (F0 m (pc + 3) ls ((v.map (gm_cv E o)).toList ++ rest))) : W p l e R s m args below meth c H locs cells slots Q (F0 m pc ls st0) := by
  intro T hT X
  obtain ⟨v', st₀, t, T', L, h0, X', hL, e1, e2, ⟨hv, hC⟩, st⟩ := hr T hT X
  cases hv
  obtain ⟨t2, a1, b1⟩ := kk T'.heap (locs ++ L) (by rw [e1]; exact hC) (fun q hq => by
    rcases List.mem_append.mp hq with h | h
    · exact hf q h
    · exact hL q h) T' rfl X'
  exact ⟨t2, st t2 a1, b1⟩
def gm_bI {β : Type} (z : Option (Option Value × gm_M)) (f : Int32 → gm_M → Option β) : Option β := match z with
  | some (some (.int x), μ) => f x μ
  | _ => none
def gm_bL {β : Type} (z : Option (Option Value × gm_M)) (f : Int64 → gm_M → Option β) : Option β := match z with
  | some (some (.long x), μ) => f x μ
  | _ => none
def gm_bV {β : Type} (z : Option (Option Value × gm_M)) (f : gm_M → Option β) : Option β := match z with
  | some (none, μ) => f μ
  | _ => none
/-- what comes behind a call: z from the callee's zc -/
def gm_K2 (own : String) (nm : gm_Nm) (cc : ByteArray) (nL : Nat) (rt : Option FieldType) (R : Room) (res : Option Value) (μe : gm_M) {β : Type} (k n : Nat) (pc : Nat) (L : List (Nat × Value)) (st : List Value) (zc : Option (Option Value × gm_M)) (z : Option β) (κ : β → Prop) : Prop :=
  (zc = none → z = none) ∧ ∀ v μ1, zc = some (v, μ1) → gm_A own nm cc nL rt R res μe k n μ1 pc L (v.toList ++ st) z κ
theorem gm_kI {zc : Option (Option Value × gm_M)} {f : Int32 → gm_M → Option β} (h : ∀ (x : Int32) (μ1 : gm_M), gm_A own nm cc nL rt R res μe k n μ1 pc L (.int x :: st) (f x μ1) κ) : gm_K2 own nm cc nL rt R res μe k n pc L st zc (gm_bI zc f) κ := by
  refine ⟨fun e => by rw [e]; rfl, fun v μ1 e => ?_⟩
  subst e
  cases v with
  | none => exact gm_no
  | some v => cases v <;> first | exact gm_no | exact h _ _
theorem gm_kL {zc : Option (Option Value × gm_M)} {f : Int64 → gm_M → Option β} (h : ∀ (x : Int64) (μ1 : gm_M), gm_A own nm cc nL rt R res μe k n μ1 pc L (.long x :: st) (f x μ1) κ) : gm_K2 own nm cc nL rt R res μe k n pc L st zc (gm_bL zc f) κ := by
  refine ⟨fun e => by rw [e]; rfl, fun v μ1 e => ?_⟩
  subst e
  cases v with
  | none => exact gm_no
  | some v => cases v <;> first | exact gm_no | exact h _ _
theorem gm_kV {zc : Option (Option Value × gm_M)} {f : gm_M → Option β} (h : ∀ (μ1 : gm_M), gm_A own nm cc nL rt R res μe k n μ1 pc L st (f μ1) κ) : gm_K2 own nm cc nL rt R res μe k n pc L st zc (gm_bV zc f) κ := by
  refine ⟨fun e => by rw [e]; rfl, fun v μ1 e => ?_⟩
  subst e
  cases v with
  | none => exact h _
  | some v => exact gm_no
theorem gm_ores (E : gm_E) (o : Nat) (v : Option Value) (st : List Value) : (v.map (gm_cv E o)).toList ++ st.map (gm_cv E o) = (v.toList ++ st).map (gm_cv E o) := by
  cases v <;> rfl
abbrev gm_nP (y : MethodName) (i : Nat) : Prop := (parseMethodDescriptor y.desc).map (fun d => d.parameters.length) = some i
theorem gm_len' {y : MethodName} {i : Nat} (h : gm_nP y i) : ∀ sig, parseMethodDescriptor y.desc = some sig → i = sig.parameters.length := by
  intro sig e
  unfold gm_nP at h
  rw [e] at h
  exact (Option.some.inj h).symm
theorem gm_st {E : gm_E} {o : Nat} (As st : List Value) : (As.reverse ++ st).map (gm_cv E o) = (As.map (gm_cv E o)).reverse ++ st.map (gm_cv E o) := by
  rw [List.map_append, List.map_reverse]
theorem gm_roomst {m : MethodId} {pc : Nat} {ls : Array Slot} {a st : List Value} {E : gm_E} {o : Nat} (h : (st.map fun v => v.category).sum ≤ 8) : 2 * (F0 m pc ls a).monitorRoom + ((st.map (gm_cv E o)).map fun v => v.category).sum ≤ 8 := by
  refine lv_room ?_
  rw [List.map_map]
  have e : ((fun v : Value => v.category) ∘ gm_cv E o) = fun v => v.category := by
    funext v
    exact gm_cv_cat E o v
  rw [e]
  exact h
theorem gm_cal {y : MethodName} {cc' : ByteArray} {nL' : Nat} {rt' : Option FieldType} {d' mc' ms' : Nat} {As' st : List Value} {zc : Option (Option Value × gm_M)} {index : Nat} {st0 : List Value} (hc : gm_Call y cc' nL' rt' d' mc' ms' As' μ zc)
    (hrun : ∀ (v : Option Value) (μ1 : gm_M) (p : Program) (l : Launch) (e : Env) (s : State) (m : MethodId) (args : Array Value) (below : List Frame) (meth : Method) (c : Code) (H : Heap) (locs : List Loc) (ls : Array Slot) (E : gm_E) (o : Nat), Met l y (.code y cc' nL' rt' :: gm_G) (gm_rm d' mc' ms') (gm_Pc E o As' μ) (gm_Qc E o v μ1) mc' ms' (fun q => o < q) → gm_X own nm cc nL rt E p s m args meth c → gm_C E o μ H → ls.size = nL → ∃ a : Array Value, va_Run p l e R s m args below meth c H locs k n mc' ms' (F0 m pc ls (st0.map (gm_cv E o))) (st.map (gm_cv E o)) (gm_Qc E o v μ1 a) (fun q => o < q))
    (kk : gm_K2 own nm cc nL rt R res μe (k + mc') (n + ms') (pc + 3) L st zc z κ) : gm_A own nm cc nL rt R res μe k n μ pc L st0 z κ := by
  intro b hz hk p l e s m args below meth c H locs ls E o X C hl hf
  obtain ⟨k0, k1⟩ := kk
  cases hzc : zc with
  | none => rw [k0 hzc] at hz; cases hz
  | some q =>
    obtain ⟨v, μ1⟩ := q
    have M := hc v μ1 hzc l E o
    obtain ⟨a, hr⟩ := hrun v μ1 p l e s m args below meth c H locs ls E o M X C hl.1
    refine gm_after hr hf fun H1 locs1 C1 hf1 => ?_
    rw [gm_ores]
    exact k1 v μ1 hzc b hz hk p l e s m args below meth c H1 locs1 ls E o X C1 hl hf1
/-- what the tables say of a method -/
def gm_BS (y : MethodName) (cc' : ByteArray) (nL' : Nat) (rt' : Option FieldType) (i : Nat) : Prop := (y.cls ≠ "java/lang/invoke/MethodHandle" ∧ y.cls ≠ "java/lang/invoke/VarHandle") ∧ gm_nP y i ∧ Jvm.Cond.static y ∈ gm_G ∧ Jvm.Cond.initialized y.cls ∈ gm_G ∧ Jvm.Cond.code y cc' nL' rt' ∈ gm_G
def gm_BI (y : MethodName) (cc' : ByteArray) (nL' : Nat) (rt' : Option FieldType) (i : Nat) : Prop := (y.cls ≠ "java/lang/invoke/MethodHandle" ∧ y.cls ≠ "java/lang/invoke/VarHandle") ∧ gm_nP y i ∧ Jvm.Cond.instanceMethod y ∈ gm_G ∧ Jvm.Cond.initialized y.cls ∈ gm_G ∧ Jvm.Cond.code y cc' nL' rt' ∈ gm_G
def gm_fit (R : Room) (k n mc' ms' d' nL' : Nat) : Bool := Nat.ble (d' + 1) R.frames && Nat.ble (8 + (nL' + 11) + 64 * d') R.locals && Nat.ble (k + mc') R.cells && Nat.ble (n + ms') R.slots
theorem gm_fits {R : Room} {k n mc' ms' d' nL' : Nat} (h : gm_fit R k n mc' ms' d' nL' = true) : d' + 1 ≤ R.frames ∧ 8 + (nL' + 11) + 64 * d' ≤ R.locals ∧ k + mc' ≤ R.cells ∧ n + ms' ≤ R.slots := by
  simp only [gm_fit, Bool.and_eq_true, Nat.ble_eq] at h
  exact ⟨h.1.1.1, h.1.1.2, h.1.2, h.2⟩
def gm_sum (st : List Value) : Bool := Nat.ble (st.map fun v => v.category).sum 8
theorem gm_sum8 {st : List Value} (h : gm_sum st = true) : (st.map fun v => v.category).sum ≤ 8 := Nat.ble_eq ▸ h
/-- a static method -/
theorem gm_callS {y : MethodName} {cc' : ByteArray} {nL' : Nat} {rt' : Option FieldType} {d' mc' ms' index : Nat} (As : List Value) {st st0 : List Value} {zc : Option (Option Value × gm_M)} (hc : gm_Call y cc' nL' rt' d' mc' ms' As μ zc) (hB : gm_BS y cc' nL' rt' As.length)
    (hw1 : Jvm.Cond.methodLink own index y ∈ gm_G) (hfit : gm_fit R k n mc' ms' d' nL' = true) (hst : st0 = As.reverse ++ st) (hsm : gm_sum st = true) (hd : decode cc pc = .ok (.invokestatic index, 3))
    (kk : gm_K2 own nm cc nL rt R res μe (k + mc') (n + ms') (pc + 3) L st zc z κ) : gm_A own nm cc nL rt R res μe k n μ pc L st0 z κ := by
  obtain ⟨hmh, hnp, hw2, hw3, hw4⟩ := hB
  obtain ⟨hR1, hR2, hk1, hn1⟩ := gm_fits hfit
  have hsum := gm_sum8 hsm
  refine gm_cal (index := index) hc (fun v μ1 p l e s m args below meth c H locs ls E o M X C hls => ?_) kk
  obtain ⟨hx, hb, hml, hr, hown, hts, hlk, hK, hnm⟩ := X
  subst hst
  rw [gm_st]
  have cb : CallB R s args own index y cc' nL' rt' (.code y cc' nL' rt' :: gm_G) (gm_rm d' mc' ms') mc' ms' As.length := ⟨rfl, rfl, hR1, hR2, gm_pay hts hw4, List.mem_cons_self, hts _ hw4, hts _ hw3, hmh, gm_len' hnp, hts _ hw1⟩
  exact ⟨_, va_runS ⟨hx, hb, hml, hown, hts⟩ M ⟨cb, hts _ hw2⟩ ⟨gm_blind E o As μ, fun U hU hW => ⟨rfl, by rw [hU]; exact C, hK.warm hW⟩⟩ rfl (by rw [List.length_map]) hls rfl (gm_roomst hsum) hd ⟨hk1, hn1⟩⟩
theorem gm_recv {E : gm_E} {s : State} {o r k0 : Nat} {μ : gm_M} {H : Heap} {q : vw_C} (hK : gm_K E s) (C : gm_C E o μ H) (ht : gm_tag μ r = k0 + 5) (hc : gm_cls[k0]? = some q) : gm_rv o r = .ref (o + r) ∧ ∃ cell : Cell, H[o + r]? = some cell ∧ cell.vm.isStatics = false ∧ s.vm.findClass q.1 = some cell.cls := by
  obtain ⟨h0, cell, g1, g2, g3, -⟩ := gm_Cobj C (gm_at (t := k0 + 4) ht) hc
  exact ⟨if_neg h0, cell, g1, by rw [g3]; rfl, by rw [g2]; exact (hK.1.1 k0 q hc).2.1⟩
/-- a method of the receiver's own class -/
theorem gm_callV {y : MethodName} {cc' : ByteArray} {nL' : Nat} {rt' : Option FieldType} {d' mc' ms' index k0 r : Nat} {q : vw_C} (As : List Value) {st st0 : List Value} {zc : Option (Option Value × gm_M)} (hc : gm_Call y cc' nL' rt' d' mc' ms' (.ref r :: As) μ zc) (ht : gm_tag μ r = k0 + 5) (hcl : gm_cls[k0]? = some q) (hB : gm_BI y cc' nL' rt' As.length)
    (hw1 : Jvm.Cond.methodLink own index y ∈ gm_G) (hw5 : Jvm.Cond.selects q.1 y y ∈ gm_G) (hfit : gm_fit R k n mc' ms' d' nL' = true) (hst : st0 = As.reverse ++ .ref r :: st) (hsm : gm_sum st = true) (hd : decode cc pc = .ok (.invokevirtual index, 3))
    (kk : gm_K2 own nm cc nL rt R res μe (k + mc') (n + ms') (pc + 3) L st zc z κ) : gm_A own nm cc nL rt R res μe k n μ pc L st0 z κ := by
  obtain ⟨hmh, hnp, hw2, hw3, hw4⟩ := hB
  obtain ⟨hR1, hR2, hk1, hn1⟩ := gm_fits hfit
  have hsum := gm_sum8 hsm
  refine gm_cal (index := index) hc (fun v μ1 p l e s m args below meth c H locs ls E o M X C hls => ?_) kk
  obtain ⟨hx, hb, hml, hr, hown, hts, hlk, hK, hnm⟩ := X
  subst hst
  obtain ⟨er, hrc⟩ := gm_recv hK C ht hcl
  rw [gm_st]
  have cb : CallB R s args own index y cc' nL' rt' (.code y cc' nL' rt' :: gm_G) (gm_rm d' mc' ms') mc' ms' As.length := ⟨rfl, rfl, hR1, hR2, gm_pay hts hw4, List.mem_cons_self, hts _ hw4, hts _ hw3, hmh, gm_len' hnp, hts _ hw1⟩
  refine ⟨_, va_runV (b := o + r) (As := As.map (gm_cv E o)) ⟨hx, hb, hml, hown, hts⟩ M ⟨cb, hts _ hw2, hts _ hw5⟩ ⟨gm_blind E o _ μ, hrc, fun U hU hW => ⟨?_, by rw [hU]; exact C, hK.warm hW⟩⟩ rfl (by rw [List.length_map]) hls ?_ (gm_roomst hsum) hd ⟨hk1, hn1⟩⟩
  · show (Value.ref (o + r) :: As.map (gm_cv E o)).toArray = (gm_rv o r :: As.map (gm_cv E o)).toArray
    rw [er]
  · show (As.map (gm_cv E o)).reverse ++ (gm_rv o r :: st.map (gm_cv E o)) = _
    rw [er]
/-- an inherited or overriding method -/
theorem gm_callU {x y : MethodName} {owner : String} {cc' b0 : ByteArray} {nL' m0 : Nat} {rt' r0 : Option FieldType} {d' mc' ms' index k0 r : Nat} {q : vw_C} (As : List Value) {st st0 : List Value} {zc : Option (Option Value × gm_M)} (hc : gm_Call y cc' nL' rt' d' mc' ms' (.ref r :: As) μ zc) (ht : gm_tag μ r = k0 + 5) (hcl : gm_cls[k0]? = some q) (hmh : owner ≠ "java/lang/invoke/MethodHandle" ∧ owner ≠ "java/lang/invoke/VarHandle") (hnx : gm_nP x As.length) (hB : gm_BI y cc' nL' rt' As.length)
    (hw1 : Jvm.Cond.methodLink own index x ∈ gm_G) (hw6 : Jvm.Cond.sameMethod x.cls owner x.name x.desc ∈ gm_G) (hw7 : Jvm.Cond.instanceMethod ⟨owner, x.name, x.desc⟩ ∈ gm_G) (hw8 : Jvm.Cond.code ⟨owner, x.name, x.desc⟩ b0 m0 r0 ∈ gm_G) (hw5 : Jvm.Cond.selects q.1 x y ∈ gm_G) (hfit : gm_fit R k n mc' ms' d' nL' = true) (hst : st0 = As.reverse ++ .ref r :: st) (hsm : gm_sum st = true) (hd : decode cc pc = .ok (.invokevirtual index, 3))
    (kk : gm_K2 own nm cc nL rt R res μe (k + mc') (n + ms') (pc + 3) L st zc z κ) : gm_A own nm cc nL rt R res μe k n μ pc L st0 z κ := by
  obtain ⟨-, hnp, hw2, hw3, hw4⟩ := hB
  obtain ⟨hR1, hR2, hk1, hn1⟩ := gm_fits hfit
  have hsum := gm_sum8 hsm
  refine gm_cal (index := index) hc (fun v μ1 p l e s m args below meth c H locs ls E o M X C hls => ?_) kk
  obtain ⟨hx, hb, hml, hr, hown, hts, hlk, hK, hnm⟩ := X
  subst hst
  obtain ⟨er, hrc⟩ := gm_recv hK C ht hcl
  rw [gm_st]
  have cu : va_CU R s args own q.1 owner index x y cc' nL' rt' (.code y cc' nL' rt' :: gm_G) (gm_rm d' mc' ms') mc' ms' As.length := ⟨⟨rfl, rfl, hR1, hR2, gm_pay hts hw4, List.mem_cons_self⟩, hts _ hw4, hts _ hw3, hmh, gm_len' hnx, hts _ hw1, hts _ hw6, va_Decl.of (hts _ hw7) (hts _ hw8), hts _ hw5, hts _ hw2⟩
  refine ⟨_, va_runU (b := o + r) (As := As.map (gm_cv E o)) ⟨hx, hb, hml, hown, hts⟩ M cu ⟨gm_blind E o _ μ, hrc, fun U hU hW => ⟨?_, by rw [hU]; exact C, hK.warm hW⟩⟩ rfl (by rw [List.length_map]) hls ?_ (gm_roomst hsum) hd ⟨hk1, hn1⟩⟩
  · show (Value.ref (o + r) :: As.map (gm_cv E o)).toArray = (gm_rv o r :: As.map (gm_cv E o)).toArray
    rw [er]
  · show (As.map (gm_cv E o)).reverse ++ (gm_rv o r :: st.map (gm_cv E o)) = _
    rw [er]
def gm_Any (ks : List Nat) : Prop := ∀ t ∈ ks, ∃ (k : Nat) (q : vw_C), t = k + 5 ∧ gm_cls[k]? = some q
/-- super's method -/
theorem gm_callSU {y : MethodName} {cc' : ByteArray} {nL' : Nat} {rt' : Option FieldType} {d' mc' ms' index r : Nat} {ks : List Nat} (As : List Value) {st st0 : List Value} {zc : Option (Option Value × gm_M)} (hc : gm_Call y cc' nL' rt' d' mc' ms' (.ref r :: As) μ zc) (hks : ks.contains (gm_tag μ r) = true) (hall : gm_Any ks) (hni : y.name ≠ "<init>") (hB : gm_BI y cc' nL' rt' As.length)
    (hw1 : Jvm.Cond.methodLink own index y ∈ gm_G) (hw6 : Jvm.Cond.sameMethod y.cls y.cls y.name y.desc ∈ gm_G) (hw7 : Jvm.Cond.superclass own y.cls ∈ gm_G) (hfit : gm_fit R k n mc' ms' d' nL' = true) (hst : st0 = As.reverse ++ .ref r :: st) (hsm : gm_sum st = true) (hd : decode cc pc = .ok (.invokespecial index, 3))
    (kk : gm_K2 own nm cc nL rt R res μe (k + mc') (n + ms') (pc + 3) L st zc z κ) : gm_A own nm cc nL rt R res μe k n μ pc L st0 z κ := by
  obtain ⟨hmh, hnp, hw2, hw3, hw4⟩ := hB
  obtain ⟨hR1, hR2, hk1, hn1⟩ := gm_fits hfit
  have hsum := gm_sum8 hsm
  obtain ⟨k0, q, ht, hcl⟩ := hall _ (List.contains_iff_mem.mp hks)
  refine gm_cal (index := index) hc (fun v μ1 p l e s m args below meth c H locs ls E o M X C hls => ?_) kk
  obtain ⟨hx, hb, hml, hr, hown, hts, hlk, hK, hnm⟩ := X
  subst hst
  obtain ⟨er, hrc⟩ := gm_recv hK C ht hcl
  rw [gm_st]
  have cs : va_CS R s args own index y cc' nL' rt' (.code y cc' nL' rt' :: gm_G) (gm_rm d' mc' ms') mc' ms' As.length := ⟨⟨rfl, rfl, hR1, hR2, gm_pay hts hw4, List.mem_cons_self⟩, hts _ hw1, hts _ hw6, hts _ hw7, hts _ hw2, hts _ hw3, hts _ hw4, hni, gm_len' hnp⟩
  refine ⟨_, va_runSU (b := o + r) (As := As.map (gm_cv E o)) (hK.1.1 k0 q hcl).2 ⟨hx, hb, hml, hown, hts⟩ M cs ⟨gm_blind E o _ μ, hrc, fun U hU hW => ⟨?_, by rw [hU]; exact C, hK.warm hW⟩⟩ rfl (by rw [List.length_map]) hls ?_ (gm_roomst hsum) hd ⟨hk1, hn1⟩⟩
  · show (Value.ref (o + r) :: As.map (gm_cv E o)).toArray = (gm_rv o r :: As.map (gm_cv E o)).toArray
    rw [er]
  · show (As.map (gm_cv E o)).reverse ++ (gm_rv o r :: st.map (gm_cv E o)) = _
    rw [er]
/-- super's inherited method -/
theorem gm_callSU2 {y : MethodName} {C1 : String} {cc' : ByteArray} {nL' : Nat} {rt' : Option FieldType} {d' mc' ms' index r : Nat} {ks : List Nat} (As : List Value) {st st0 : List Value} {zc : Option (Option Value × gm_M)} (hc : gm_Call y cc' nL' rt' d' mc' ms' (.ref r :: As) μ zc) (hks : ks.contains (gm_tag μ r) = true) (hall : gm_Any ks) (hni : y.name ≠ "<init>") (hB : gm_BI y cc' nL' rt' As.length)
    (hw1 : Jvm.Cond.methodLink own index ⟨C1, y.name, y.desc⟩ ∈ gm_G) (hw6 : Jvm.Cond.sameMethod C1 y.cls y.name y.desc ∈ gm_G) (hw7 : Jvm.Cond.superclass own C1 ∈ gm_G) (hw8 : Jvm.Cond.superclass C1 y.cls ∈ gm_G) (hfit : gm_fit R k n mc' ms' d' nL' = true) (hst : st0 = As.reverse ++ .ref r :: st) (hsm : gm_sum st = true) (hd : decode cc pc = .ok (.invokespecial index, 3))
    (kk : gm_K2 own nm cc nL rt R res μe (k + mc') (n + ms') (pc + 3) L st zc z κ) : gm_A own nm cc nL rt R res μe k n μ pc L st0 z κ := by
  obtain ⟨hmh, hnp, hw2, hw3, hw4⟩ := hB
  obtain ⟨hR1, hR2, hk1, hn1⟩ := gm_fits hfit
  have hsum := gm_sum8 hsm
  obtain ⟨k0, q, ht, hcl⟩ := hall _ (List.contains_iff_mem.mp hks)
  refine gm_cal (index := index) hc (fun v μ1 p l e s m args below meth c H locs ls E o M X C hls => ?_) kk
  obtain ⟨hx, hb, hml, hr, hown, hts, hlk, hK, hnm⟩ := X
  subst hst
  obtain ⟨er, hrc⟩ := gm_recv hK C ht hcl
  rw [gm_st]
  refine ⟨_, gm_runSU2 (b := o + r) (As := As.map (gm_cv E o)) (ws := .code y cc' nL' rt' :: gm_G) (rm := gm_rm d' mc' ms') (n := As.length) (hK.1.1 k0 q hcl).2 ⟨hx, hb, hml, hown, hts⟩ M rfl rfl hR1 hR2 (gm_pay hts hw4) List.mem_cons_self (hts _ hw1) (hts _ hw6) (hts _ hw7) (hts _ hw8) (hts _ hw2) (hts _ hw3) (hts _ hw4) hni (gm_len' hnp) ⟨gm_blind E o _ μ, hrc, fun U hU hW => ⟨?_, by rw [hU]; exact C, hK.warm hW⟩⟩ rfl (by rw [List.length_map]) hls ?_ (gm_roomst hsum) hd ⟨hk1, hn1⟩⟩
  · show (Value.ref (o + r) :: As.map (gm_cv E o)).toArray = (gm_rv o r :: As.map (gm_cv E o)).toArray
    rw [er]
  · show (As.map (gm_cv E o)).reverse ++ (gm_rv o r :: st.map (gm_cv E o)) = _
    rw [er]
/-- a constructor -/
theorem gm_callI {y : MethodName} {cc' : ByteArray} {nL' d' mc' ms' index r : Nat} (As : List Value) {st st0 : List Value} {zc : Option (Option Value × gm_M)} (hc : gm_Call y cc' nL' none d' mc' ms' (.ref r :: As) μ zc) (ht0 : gm_tag μ r ≠ 0) (hni : y.name = "<init>") (hB : gm_BI y cc' nL' none As.length)
    (hw1 : Jvm.Cond.methodLink own index y ∈ gm_G) (hfit : gm_fit R k n mc' ms' d' nL' = true) (hst : st0 = As.reverse ++ .ref r :: st) (hsm : gm_sum st = true) (hd : decode cc pc = .ok (.invokespecial index, 3))
    (kk : gm_K2 own nm cc nL rt R res μe (k + mc') (n + ms') (pc + 3) L st zc z κ) : gm_A own nm cc nL rt R res μe k n μ pc L st0 z κ := by
  obtain ⟨hmh, hnp, hw2, hw3, hw4⟩ := hB
  obtain ⟨hR1, hR2, hk1, hn1⟩ := gm_fits hfit
  have hsum := gm_sum8 hsm
  refine gm_cal (index := index) hc (fun v μ1 p l e s m args below meth c H locs ls E o M X C hls => ?_) kk
  obtain ⟨hx, hb, hml, hr, hown, hts, hlk, hK, hnm⟩ := X
  subst hst
  have hr0 := gm_ne0' C ht0
  have er : gm_rv o r = .ref (o + r) := if_neg hr0
  rw [gm_st]
  have cb : CallB R s args own index y cc' nL' none (.code y cc' nL' none :: gm_G) (gm_rm d' mc' ms') mc' ms' As.length := ⟨rfl, rfl, hR1, hR2, gm_pay hts hw4, List.mem_cons_self, hts _ hw4, hts _ hw3, hmh, gm_len' hnp, hts _ hw1⟩
  refine ⟨_, va_runI (b := o + r) (As := As.map (gm_cv E o)) ⟨hx, hb, hml, hown, hts⟩ M ⟨cb, hni, hts _ hw2⟩ ⟨gm_blind E o _ μ, fun U hU hW => ⟨?_, by rw [hU]; exact C, hK.warm hW⟩⟩ rfl (by rw [List.length_map]) hls ?_ (gm_roomst hsum) hd ⟨hk1, hn1⟩⟩
  · show (Value.ref (o + r) :: As.map (gm_cv E o)).toArray = (gm_rv o r :: As.map (gm_cv E o)).toArray
    rw [er]
  · show (As.map (gm_cv E o)).reverse ++ (gm_rv o r :: st.map (gm_cv E o)) = _
    rw [er]
/-- a nest mate's private constructor -/
theorem gm_callIN {y : MethodName} {host : String} {cc' : ByteArray} {nL' d' mc' ms' index r : Nat} (As : List Value) {st st0 : List Value} {zc : Option (Option Value × gm_M)} (hc : gm_Call y cc' nL' none d' mc' ms' (.ref r :: As) μ zc) (ht0 : gm_tag μ r ≠ 0) (hni : y.name = "<init>") (hB : gm_BI y cc' nL' none As.length)
    (hw1 : Jvm.Cond.methodLinkNest own index y host = gm_N1 ∨ Jvm.Cond.methodLinkNest own index y host = gm_N2) (hfit : gm_fit R k n mc' ms' d' nL' = true) (hst : st0 = As.reverse ++ .ref r :: st) (hsm : gm_sum st = true) (hd : decode cc pc = .ok (.invokespecial index, 3))
    (kk : gm_K2 own nm cc nL rt R res μe (k + mc') (n + ms') (pc + 3) L st zc z κ) : gm_A own nm cc nL rt R res μe k n μ pc L st0 z κ := by
  obtain ⟨hmh, hnp, hw2, hw3, hw4⟩ := hB
  obtain ⟨hR1, hR2, hk1, hn1⟩ := gm_fits hfit
  have hsum := gm_sum8 hsm
  refine gm_cal (index := index) hc (fun v μ1 p l e s m args below meth c H locs ls E o M X C hls => ?_) kk
  obtain ⟨hx, hb, hml, hr, hown, hts, hlk, hK, hnm⟩ := X
  subst hst
  have hr0 := gm_ne0' C ht0
  have er : gm_rv o r = .ref (o + r) := if_neg hr0
  have hlink : va_Nw (.methodLinkNest own index y host) s := by
    rcases hw1 with e | e <;> rw [e]
    · exact hK.2.2.2.2.1
    · exact hK.2.2.2.2.2.1
  rw [gm_st]
  have cn : va_CN R s args own index y host cc' nL' none (.code y cc' nL' none :: gm_G) (gm_rm d' mc' ms') mc' ms' As.length := ⟨⟨rfl, rfl, hR1, hR2, gm_pay hts hw4, List.mem_cons_self⟩, hts _ hw4, hts _ hw3, hmh, gm_len' hnp, va_Nw.use rfl hlink⟩
  refine ⟨_, va_runIN (b := o + r) (As := As.map (gm_cv E o)) ⟨hx, hb, hml, hown, hts⟩ M ⟨cn, hni, hts _ hw2⟩ ⟨gm_blind E o _ μ, fun U hU hW => ⟨?_, by rw [hU]; exact C, hK.warm hW⟩⟩ rfl (by rw [List.length_map]) hls ?_ (gm_roomst hsum) hd ⟨hk1, hn1⟩⟩
  · show (Value.ref (o + r) :: As.map (gm_cv E o)).toArray = (gm_rv o r :: As.map (gm_cv E o)).toArray
    rw [er]
  · show (As.map (gm_cv E o)).reverse ++ (gm_rv o r :: st.map (gm_cv E o)) = _
    rw [er]
/-- Object's constructor -/
theorem gm_obj {idx r : Nat} (ht0 : gm_tag μ r ≠ 0) (hw1 : Jvm.Cond.methodLink own idx Lib.objectInit ∈ gm_G) (hw2 : Jvm.Cond.instanceMethod Lib.objectInit ∈ gm_G) (hw3 : Jvm.Cond.code Lib.objectInit ⟨#[0xb1]⟩ 1 none ∈ gm_G) (hR1 : 1 ≤ R.frames) (hR2 : 64 ≤ R.locals) (hsm : gm_sum st = true) (hd : decode cc pc = .ok (.invokespecial idx, 3))
    (kk : gm_A own nm cc nL rt R res μe k n μ (pc + 3) L st z κ) : gm_A own nm cc nL rt R res μe k n μ pc L (.ref r :: st) z κ := by
  have hsum := gm_sum8 hsm
  intro b hz hk p l e s m args below meth c H locs ls E o X C hl hf
  have kk := kk b hz hk p l e s m args below meth c H locs ls E o X C hl hf
  obtain ⟨hx, hb, hml, hr, hown, hts, hlk, hK, hnm⟩ := X
  have hr0 := gm_ne0' C ht0
  have er : gm_rv o r = .ref (o + r) := if_neg hr0
  show W p l e R s m args below meth c H locs k n _ (F0 m pc ls (gm_rv o r :: st.map (gm_cv E o)))
  rw [er]
  refine W.objInit hx hb hown (hts _ hw1) (hts _ hw2) (hts _ hw3) rfl (by rw [hml]; exact hl.1) rfl hd hR1 ?_ ?_
  · have h := gm_roomst (m := m) (pc := pc) (ls := ls) (a := []) (E := E) (o := o) hsum
    have h2 : 2 * (F0 m pc ls []).monitorRoom = 0 := rfl
    show 2 * 0 + _ + 12 ≤ _
    omega
  · exact kk
/-- Math.max, Math.min -/
theorem gm_max {idx : Nat} {x y : Int32} (hw1 : Jvm.Cond.methodLink own idx Lib.Math.max.name ∈ gm_G) (hw2 : Jvm.Cond.static Lib.Math.max.name ∈ gm_G) (hw3 : Jvm.Cond.initialized "java/lang/Math" ∈ gm_G) (hw4 : Jvm.Cond.code Lib.Math.max.name Lib.Math.max.code 2 (some .int) ∈ gm_G) (hR1 : 1 ≤ R.frames) (hR2 : 64 ≤ R.locals) (hk1 : k ≤ R.cells) (hn1 : n ≤ R.slots) (hsm : gm_sum st = true) (hd : decode cc pc = .ok (.invokestatic idx, 3))
    (kk : gm_A own nm cc nL rt R res μe k n μ (pc + 3) L (.int (if x < y then y else x) :: st) z κ) : gm_A own nm cc nL rt R res μe k n μ pc L (.int y :: .int x :: st) z κ := by
  have hsum := gm_sum8 hsm
  intro b hz hk p l e s m args below meth c H locs ls E o X C hl hf
  have kk := kk b hz hk p l e s m args below meth c H locs ls E o X C hl hf
  obtain ⟨hx, hb, hml, hr, hown, hts, hlk, hK, hnm⟩ := X
  have h := gm_roomst (m := m) (pc := pc) (ls := ls) (a := []) (E := E) (o := o) hsum
  have h2 : 2 * (F0 m pc ls []).monitorRoom = 0 := rfl
  exact va_mmax hx hb (hml.trans hl.1.symm) hown (hts _ hw1) (hts _ hw2) (hts _ hw3) (hts _ hw4) hR1 (by omega) hk1 hn1 hd kk
theorem gm_min {idx : Nat} {x y : Int32} (hw1 : Jvm.Cond.methodLink own idx Lib.Math.min.name ∈ gm_G) (hw2 : Jvm.Cond.static Lib.Math.min.name ∈ gm_G) (hw3 : Jvm.Cond.initialized "java/lang/Math" ∈ gm_G) (hw4 : Jvm.Cond.code Lib.Math.min.name Lib.Math.min.code 2 (some .int) ∈ gm_G) (hR1 : 1 ≤ R.frames) (hR2 : 64 ≤ R.locals) (hk1 : k ≤ R.cells) (hn1 : n ≤ R.slots) (hsm : gm_sum st = true) (hd : decode cc pc = .ok (.invokestatic idx, 3))
    (kk : gm_A own nm cc nL rt R res μe k n μ (pc + 3) L (.int (if y < x then y else x) :: st) z κ) : gm_A own nm cc nL rt R res μe k n μ pc L (.int y :: .int x :: st) z κ := by
  have hsum := gm_sum8 hsm
  intro b hz hk p l e s m args below meth c H locs ls E o X C hl hf
  have kk := kk b hz hk p l e s m args below meth c H locs ls E o X C hl hf
  obtain ⟨hx, hb, hml, hr, hown, hts, hlk, hK, hnm⟩ := X
  have h := gm_roomst (m := m) (pc := pc) (ls := ls) (a := []) (E := E) (o := o) hsum
  have h2 : 2 * (F0 m pc ls []).monitorRoom = 0 := rfl
  exact va_mmin hx hb (hml.trans hl.1.symm) hown (hts _ hw1) (hts _ hw2) (hts _ hw3) (hts _ hw4) hR1 (by omega) hk1 hn1 hd kk

/-- System.arraycopy over rows of ints -/
def gm_cp {β : Type} (μ : gm_M) (src : Nat) (sp : Int32) (dst : Nat) (dp i : Int32) (f : gm_M → Option β) : Option β :=
  if src ≠ dst ∧ gm_tag μ src = 1 ∧ gm_tag μ dst = 1 ∧ ¬ sp < 0 ∧ ¬ dp < 0 ∧ ¬ i < 0 ∧ sp.toNatClampNeg + i.toNatClampNeg ≤ gm_len μ src ∧ dp.toNatClampNeg + i.toNatClampNeg ≤ gm_len μ dst
  then f (μ.1, (fun a k => if a = dst then va_cpy (μ.2.1 src) (μ.2.1 dst) sp.toNatClampNeg dp.toNatClampNeg i.toNatClampNeg k else μ.2.1 a k), μ.2.2) else none
theorem gm_copy {idx src dst : Nat} {sp dp i : Int32} {f : gm_M → Option β} (hw1 : Jvm.Cond.methodLink own idx arraycopyName ∈ gm_G) (hw2 : Jvm.Cond.native arraycopyName ∈ gm_G) (hw3 : Jvm.Cond.static arraycopyName ∈ gm_G) (hw4 : Jvm.Cond.initialized "java/lang/System" ∈ gm_G) (hR1 : 1 ≤ R.frames) (hR2 : 64 ≤ R.locals) (hsm : gm_sum st = true) (hd : decode cc pc = .ok (.invokestatic idx, 3))
    (kk : ∀ μ' : gm_M, μ' = (μ.1, (fun a k => if a = dst then va_cpy (μ.2.1 src) (μ.2.1 dst) sp.toNatClampNeg dp.toNatClampNeg i.toNatClampNeg k else μ.2.1 a k), μ.2.2) → gm_A own nm cc nL rt R res μe k n μ' (pc + 3) L st (f μ') κ) : gm_A own nm cc nL rt R res μe k n μ pc L (.int i :: .int dp :: .ref dst :: .int sp :: .ref src :: st) (gm_cp μ src sp dst dp i f) κ := by
  have hsum := gm_sum8 hsm
  intro b hz hk p l e s m args below meth c H locs ls E o X C hl hf
  unfold gm_cp at hz
  by_cases hc : src ≠ dst ∧ gm_tag μ src = 1 ∧ gm_tag μ dst = 1 ∧ ¬ sp < 0 ∧ ¬ dp < 0 ∧ ¬ i < 0 ∧ sp.toNatClampNeg + i.toNatClampNeg ≤ gm_len μ src ∧ dp.toNatClampNeg + i.toNatClampNeg ≤ gm_len μ dst
  · rw [if_pos hc] at hz
    obtain ⟨hne, ht0, ht1, h1, h2, h3, h4, h5⟩ := hc
    have kk := fun H1 locs1 C1 hf1 => kk _ rfl b hz hk p l e s m args below meth c H1 locs1 ls E o X C1 hl hf1
    obtain ⟨hx, hb, hml, -, hown, hts, hlk, hK, hnm⟩ := X
    have hr0 := gm_at (t := 0) ht0
    have hr1 := gm_at (t := 0) ht1
    have c0 : H[o + src]? = some (vp_cell (E.2.1 1) (gm_len μ src, .inl (μ.2.1 src))) := C.2.2.2 src _ _ hr0
    have c1 : H[o + dst]? = some (vp_cell (E.2.1 1) (gm_len μ dst, .inl (μ.2.1 dst))) := C.2.2.2 dst _ _ hr1
    have z1 := gm_ne0 C hr1
    have e0 : gm_rv o src = .ref (o + src) := if_neg (gm_ne0 C hr0)
    have e1 : gm_rv o dst = .ref (o + dst) := if_neg z1
    show W p l e R s m args below meth c H locs k n _ (F0 m pc ls (.int i :: .int dp :: gm_rv o dst :: .int sp :: gm_rv o src :: st.map (gm_cv E o)))
    rw [e0, e1]
    have nn : ∀ z : Int32, ¬ z < 0 → z.toInt = (z.toNatClampNeg : Int) := by
      intro z hz
      have hz0 : (0 : Int) ≤ z.toInt := by
        have := Int32.not_lt.mp hz
        simpa using Int32.le_iff_toInt_le.mp this
      show z.toInt = ((z.toInt.toNat : Nat) : Int)
      omega
    have hst := gm_roomst (m := m) (pc := pc) (ls := ls) (a := []) (E := E) (o := o) hsum
    have hst2 : 2 * (F0 m pc ls []).monitorRoom = 0 := rfl
    have hnw : nativeFrameWords "java/lang/System" "arraycopy" 5 + 11 ≤ 40 := by decide +kernel
    intro T hT X
    obtain ⟨-, k0, hk0, cm0, hkk0⟩ := gm_arrI hK (gm_len μ src) (fun j => .int (μ.2.1 src j))
    obtain ⟨-, k1, hk1, cm1, hkk1⟩ := gm_arrI hK (gm_len μ dst) (fun j => .int (μ.2.1 dst j))
    obtain ⟨vm', X', step⟩ := X.arraycopy hx hown (hts _ hw1) (hts _ hw2) (hts _ hw3) (hts _ hw4) (src := o + src) (dst := o + dst) (cs := vp_cell (E.2.1 1) (gm_len μ src, .inl (μ.2.1 src))) (cd := vp_cell (E.2.1 1) (gm_len μ dst, .inl (μ.2.1 dst))) (srcPos := sp) (destPos := dp) (n := i) (by rw [hT]; exact c0) (by rw [hT]; exact c1)
      (fun _ h => by cases h) (fun _ h => by cases h) (fun h => by cases h) (fun h => by cases h) hk0 hk1 hkk0 hkk1 (by simp [refKind]) h1 h2 h3
      (by rw [nn sp h1, nn i h3]; show ¬ _ > ((arrV (E.2.1 1) (gm_len μ src) (fun j => .int (μ.2.1 src j))).slots.size : Int); rw [arrV_size]; omega)
      (by rw [nn dp h2, nn i h3]; show ¬ _ > ((arrV (E.2.1 1) (gm_len μ dst) (fun j => .int (μ.2.1 dst j))).slots.size : Int); rw [arrV_size]; omega)
      (fun vm₁ _ j hj => by
        have ee : (vp_cell (E.2.1 1) (gm_len μ src, .inl (μ.2.1 src))).slots.getD (sp.toNatClampNeg + j) .null = .int (μ.2.1 src (sp.toNatClampNeg + j)) := by
          show (arrV (E.2.1 1) (gm_len μ src) (fun j => .int (μ.2.1 src j))).slots.getD _ _ = _
          rw [Array.getD_eq_getD_getElem?, arrV_read _ _ (by omega)]
          rfl
        refine ⟨?_, ?_⟩
        · rw [ee]
          rfl
        · rw [ee]
          exact trivial)
      (g := F0 m pc ls (.int i :: .int dp :: .ref (o + dst) :: .int sp :: .ref (o + src) :: st.map (gm_cv E o))) rfl (by rw [hml]; exact hl.1) (rest := st.map (gm_cv E o)) rfl (by rw [hb]; exact hd) hR1 (by show 2 * 0 + _ + _ ≤ _; omega)
    have ec : copied (vp_cell (E.2.1 1) (gm_len μ src, .inl (μ.2.1 src))) (vp_cell (E.2.1 1) (gm_len μ dst, .inl (μ.2.1 dst))) sp dp i = vp_cell (E.2.1 1) (gm_len μ dst, .inl (va_cpy (μ.2.1 src) (μ.2.1 dst) sp.toNatClampNeg dp.toNatClampNeg i.toNatClampNeg)) := va_copied (fun z => .int z) _ _ (μ.2.1 src) (μ.2.1 dst) h4
    rw [ec] at X' step
    have hlt : o + dst < H.size := (Array.getElem?_eq_some_iff.mp c1).1
    generalize hN : vp_cell (E.2.1 1) (gm_len μ dst, .inl (va_cpy (μ.2.1 src) (μ.2.1 dst) sp.toNatClampNeg dp.toNatClampNeg i.toNatClampNeg)) = newc at X' step
    have hheap : ((T.setVm vm').setCell (o + dst) newc).heap = H.setIfInBounds (o + dst) newc := by rw [← hT]; rfl
    have C1 : gm_C E o (μ.1, (fun a k => if a = dst then va_cpy (μ.2.1 src) (μ.2.1 dst) sp.toNatClampNeg dp.toNatClampNeg i.toNatClampNeg k else μ.2.1 a k), μ.2.2) (H.setIfInBounds (o + dst) newc) := by
      refine C.put hr1 rfl (fun a ha => ?_) (fun _ _ => rfl) (by simp) (fun q hq => by simp [Array.getElem?_setIfInBounds, Ne.symm hq]) ?_
      · funext x
        exact if_neg ha
      · show (H.setIfInBounds (o + dst) newc)[o + dst]? = some (arrV (E.2.1 1) (gm_len μ dst) (fun j => .int (if dst = dst then va_cpy (μ.2.1 src) (μ.2.1 dst) sp.toNatClampNeg dp.toNatClampNeg i.toNatClampNeg j else μ.2.1 dst j)))
        simp only [if_true]
        rw [← hN]
        simp [Array.getElem?_setIfInBounds, hlt, vp_cell]
    obtain ⟨t, a1, b1⟩ := kk (H.setIfInBounds (o + dst) newc) _ C1 (fun q hq => by
      rcases List.mem_append.mp hq with h | h
      · exact hf q h
      · obtain ⟨z, -, hz⟩ := List.mem_map.mp h
        rw [← hz]
        show o < o + dst
        omega) _ hheap X'
    exact ⟨t, step t a1, b1⟩
  · rw [if_neg hc] at hz
    cases hz

/-- instanceof -/
def gm_io {β : Type} (μ : gm_M) (ys ns : List Nat) (r : Nat) (f : Int32 → Option β) : Option β := if ys.contains (gm_tag μ r) then f 1 else if ns.contains (gm_tag μ r) then f 0 else none
def gm_Yes (ks : List Nat) (C : String) : Prop := ∀ t ∈ ks, ∃ (k : Nat) (q : vw_C), t = k + 5 ∧ gm_cls[k]? = some q ∧ (q.1, C) ∈ gm_yes
def gm_No (ks : List Nat) (C : String) : Prop := ∀ t ∈ ks, ∃ (k : Nat) (q : vw_C), t = k + 5 ∧ gm_cls[k]? = some q ∧ (q.1, C) ∈ gm_no0
theorem gm_inst {index r : Nat} {C : String} {ys ns : List Nat} {f : Int32 → Option β} (hY : gm_Yes ys C) (hN : gm_No ns C) (hw : Jvm.Cond.classLink own index C ∈ gm_G) (hd : decode cc pc = .ok (.instanceof index, 3)) (kk : ∀ x : Int32, gm_A own nm cc nL rt R res μe k n μ (pc + 3) L (.int x :: st) (f x) κ) : gm_A own nm cc nL rt R res μe k n μ pc L (.ref r :: st) (gm_io μ ys ns r f) κ := by
  intro b hz hk p l e s m args below meth c H locs ls E o X Cc hl hf
  unfold gm_io at hz
  have kk := fun x hz => kk x b hz hk p l e s m args below meth c H locs ls E o X Cc hl hf
  obtain ⟨hx, hb, hml, hr, hown, hts, hlk, hK, hnm⟩ := X
  show W p l e R s m args below meth c H locs k n _ (F0 m pc ls (gm_rv o r :: st.map (gm_cv E o)))
  by_cases hy : ys.contains (gm_tag μ r) = true
  · rw [if_pos hy] at hz
    obtain ⟨k0, q, h1, h2, h3⟩ := hY _ (List.contains_iff_mem.mp hy)
    obtain ⟨er, cell, g1, g2, g3⟩ := gm_recv hK Cc h1 h2
    obtain ⟨c0, t0, f1, f2, f3⟩ := hK.2.2.2.1 _ h3
    dsimp only at f1 f2 f3
    rw [er]
    have kk := kk 1 hz
    intro T hT X
    cases g3.symm.trans f1
    obtain ⟨vm', X', st'⟩ := X.instanceofYes hx hown (hts _ hw) (by rw [hT]; exact g1) g2 f2 f3 (g := F0 m pc ls (.ref (o + r) :: st.map (gm_cv E o))) rfl rfl (by rw [hb]; exact hd)
    obtain ⟨t, a1, b1⟩ := kk (T.setVm vm') hT X'
    exact ⟨t, st' t a1, b1⟩
  · rw [if_neg hy] at hz
    by_cases hn : ns.contains (gm_tag μ r) = true
    · rw [if_pos hn] at hz
      obtain ⟨k0, q, h1, h2, h3⟩ := hN _ (List.contains_iff_mem.mp hn)
      obtain ⟨er, hrc⟩ := gm_recv hK Cc h1 h2
      rw [er]
      exact va_instNo hx hb hown (hts _ hw) (hK.2.2.2.2.2.2.1 _ h3) hrc hd (kk 0 hz)
    · rw [if_neg hn] at hz
      cases hz
/-! branches of the answer alone, joins, switches -/
theorem gm_ite {P : Prop} {dc : Decidable P} {z1 z2 : Option β} (k1 : P → gm_A own nm cc nL rt R res μe k n μ pc L st z1 κ) (k2 : ¬ P → gm_A own nm cc nL rt R res μe k n μ pc L st z2 κ) : gm_A own nm cc nL rt R res μe k n μ pc L st (@ite _ P dc z1 z2) κ := by
  by_cases h : P
  · rw [if_pos h]
    exact k1 h
  · rw [if_neg h]
    exact k2 h
theorem gm_grd {P : Prop} {dc : Decidable P} {z1 : Option β} (k1 : P → gm_A own nm cc nL rt R res μe k n μ pc L st z1 κ) : gm_A own nm cc nL rt R res μe k n μ pc L st (@ite _ P dc z1 none) κ := gm_ite k1 (fun _ => gm_no)
def gm_j {S β : Type} (rest : S → Option β) (body : (S → Option β) → Option β) : Option β := body rest
theorem gm_join {S : Type} {rest : S → Option β} {body : (S → Option β) → Option β} {pj kj nj : Nat} (fμ : S → gm_M) (fL : S → List (Nat × Value)) (fs : S → List Value) (h1 : ∀ s : S, gm_A own nm cc nL rt R res μe kj nj (fμ s) pj (fL s) (fs s) (rest s) κ) (h2 : ∀ j : S → Option β, (∀ s : S, gm_A own nm cc nL rt R res μe kj nj (fμ s) pj (fL s) (fs s) (j s) κ) → gm_A own nm cc nL rt R res μe k n μ pc L st (body j) κ) : gm_A own nm cc nL rt R res μe k n μ pc L st (gm_j rest body) κ := h2 rest h1
theorem gm_swOut {x : Int32} {dflt lo hi : Int} {offs : Array Int} {len tgt : Nat} (hd : decode cc pc = .ok (.tableswitch dflt lo hi offs, len)) (h : x.toInt < lo ∨ hi < x.toInt) (ht : (pc : Int) + dflt = (tgt : Int)) (kk : gm_A own nm cc nL rt R res μe k n μ tgt L st z κ) : gm_A own nm cc nL rt R res μe k n μ pc L (.int x :: st) z κ := by
  intro b hz hk p l e s m args below meth c H locs ls E o X C hl hf
  exact lv_tableOut X.1 X.2.1 hd h ht (kk b hz hk p l e s m args below meth c H locs ls E o X C hl hf)
theorem gm_swIn {x : Int32} {dflt lo hi v off : Int} {offs : Array Int} {len tgt : Nat} (hd : decode cc pc = .ok (.tableswitch dflt lo hi offs, len)) (h : x.toInt = v) (h1 : lo ≤ v) (h2 : v ≤ hi) (ho : offs[(v - lo).toNat]? = some off) (ht : (pc : Int) + off = (tgt : Int)) (kk : gm_A own nm cc nL rt R res μe k n μ tgt L st z κ) : gm_A own nm cc nL rt R res μe k n μ pc L (.int x :: st) z κ := by
  intro b hz hk p l e s m args below meth c H locs ls E o X C hl hf
  exact lv_tableIn X.1 X.2.1 hd (by omega) (by omega) (by rw [h]; exact ho) ht (kk b hz hk p l e s m args below meth c H locs ls E o X C hl hf)
theorem gm_lkp {x : Int32} {dflt off : Int} {ps : Array (Int × Int)} {len tgt : Nat} (hd : decode cc pc = .ok (.lookupswitch dflt ps, len)) (hp : (ps.toList.zip (ps.toList.drop 1)).all (fun (a, next) => a.1 < next.1) = true) (ho : Op.lookupswitch.offset ps.toList dflt x.toInt = off) (ht : (pc : Int) + off = (tgt : Int)) (kk : gm_A own nm cc nL rt R res μe k n μ tgt L st z κ) : gm_A own nm cc nL rt R res μe k n μ pc L (.int x :: st) z κ := by
  intro b hz hk p l e s m args below meth c H locs ls E o X C hl hf
  exact lv_lookup X.1 X.2.1 hd hp ho ht (kk b hz hk p l e s m args below meth c H locs ls E o X C hl hf)

theorem gm_widen {k' n' : Nat} (h1 : k ≤ k') (h2 : n ≤ n') (kk : gm_A own nm cc nL rt R res μe k' n' μ pc L st z κ) : gm_A own nm cc nL rt R res μe k n μ pc L st z κ := by
  intro b hz hk p l e s m args below meth c H locs ls E o X C hl hf
  exact W.widen h1 h2 (kk b hz hk p l e s m args below meth c H locs ls E o X C hl hf)
/-! the script -/
def gm_sx (a : Nat) (N : Nat) (xs : Nat → Int32) : gm_E → State → Prop := fun E s => E.2.2.1 0 = a ∧ a < E.2.2.2.size ∧ va_X a N xs s E.2.2.2
theorem gm_aloadS {f : Fin 4} {i : Nat} (hd : decode cc pc = .ok (.aload_n f, 1)) (hi : (f : Nat) = i) (q : Nat) (hq : L[q]? = some (i, .float 0)) (kk : gm_A own nm cc nL rt R res μe k n μ (pc + 1) L (.float 0 :: st) z κ) : gm_A own nm cc nL rt R res μe k n μ pc L st z κ := by
  intro b hz hk p l e s m args below meth c H locs ls E o X C hl hf
  exact lv_aload_n X.1 X.2.1 hd hi (lv_at hl q (gm_map hq)) (kk b hz hk p l e s m args below meth c H locs ls E o X C hl hf)
theorem gm_slen {a N : Nat} {xs : Nat → Int32} (hd : decode cc pc = .ok (.arraylength, 1)) (hnm0 : nm.2 = gm_sx a N xs) (kk : gm_A own nm cc nL rt R res μe k n μ (pc + 1) L (.int (Int32.ofNat N) :: st) z κ) : gm_A own nm cc nL rt R res μe k n μ pc L (.float 0 :: st) z κ := by
  intro b hz hk p l e s m args below meth c H locs ls E o X C hl hf
  have kk := kk b hz hk p l e s m args below meth c H locs ls E o X C hl hf
  obtain ⟨hx, hb, hml, hr, hown, hts, hlk, hK, hnm⟩ := X
  have hs := hnm.2
  rw [hnm0] at hs
  obtain ⟨e1, e2, scr, g1, g2, g3, g4, g5⟩ := hs
  rw [gm_mf (u := 0) (by decide)]
  show W p l e R s m args below meth c H locs k n _ (F0 m pc ls (.ref (E.2.2.1 0) :: st.map (gm_cv E o)))
  rw [e1]
  exact W.alen (n := Int32.ofNat N) hx hb (by rw [C.2.2.1.2 a (by have := C.2.2.1.1; omega)]; exact g1) g2 (by rw [g4] <;> rfl) rfl rfl hd kk
theorem gm_sld {a N : Nat} {xs : Nat → Int32} {i : Int32} {f : Int32 → Option β} (hd : decode cc pc = .ok (.iaload, 1)) (hnm0 : nm.2 = gm_sx a N xs) (kk : gm_A own nm cc nL rt R res μe k n μ (pc + 1) L (.int (xs i.toNatClampNeg) :: st) (f (xs i.toNatClampNeg)) κ) : gm_A own nm cc nL rt R res μe k n μ pc L (.int i :: .float 0 :: st) (if ¬ i < 0 ∧ i.toNatClampNeg < N then f (xs i.toNatClampNeg) else none) κ := by
  intro b hz hk p l e s m args below meth c H locs ls E o X C hl hf
  by_cases hc : ¬ i < 0 ∧ i.toNatClampNeg < N
  · rw [if_pos hc] at hz
    have kk := kk b hz hk p l e s m args below meth c H locs ls E o X C hl hf
    obtain ⟨hx, hb, hml, hr, hown, hts, hlk, hK, hnm⟩ := X
    have hs := hnm.2
    rw [hnm0] at hs
    obtain ⟨e1, e2, scr, g1, g2, g3, g4, g5⟩ := hs
    rw [List.map_cons, gm_mf (u := 0) (by decide)]
    show W p l e R s m args below meth c H locs k n _ (F0 m pc ls (.int i :: .ref (E.2.2.1 0) :: st.map (gm_cv E o)))
    rw [e1]
    exact W.iald (v := .int (xs i.toNatClampNeg)) hx hb (by rw [C.2.2.1.2 a (by have := C.2.2.1.1; omega)]; exact g1) g2 g3 (by rw [g4]; rintro (q | q); exact hc.1 q; exact absurd q (Nat.not_le.mpr hc.2)) (g5 _ hc.2) rfl rfl hd kk
  · rw [if_neg hc] at hz
    cases hz
def gm_xl {β : Type} (xs : Nat → Int32) (N : Nat) (i : Int32) (f : Int32 → Option β) : Option β := if ¬ i < 0 ∧ i.toNatClampNeg < N then f (xs i.toNatClampNeg) else none
theorem gm_sldN {a N : Nat} {xs : Nat → Int32} {i : Int32} {f : Int32 → Option β} (hd : decode cc pc = .ok (.iaload, 1)) (hnm0 : nm.2 = gm_sx a N xs) (kk : ∀ v : Int32, v = xs i.toNatClampNeg → gm_A own nm cc nL rt R res μe k n μ (pc + 1) L (.int v :: st) (f v) κ) : gm_A own nm cc nL rt R res μe k n μ pc L (.int i :: .float 0 :: st) (gm_xl xs N i f) κ := gm_sld hd hnm0 (kk _ rfl)
/-! texts -/
abbrev gm_isS (u : UInt32) : Prop := 1 ≤ u.toNat ∧ u.toNat ≤ 6
abbrev gm_isB (u : UInt32) : Prop := 7 ≤ u.toNat ∧ u.toNat ≤ 12
def gm_bn (u : UInt32) : Nat := gm_tls.getD (u.toNat - 7) 0
def gm_bb (u : UInt32) (j : Nat) : Int32 := (gm_txt.getD (u.toNat - 7) []).getD j 0
def gm_bl {β : Type} (u : UInt32) (i : Int32) (f : Int32 → Option β) : Option β := if gm_isB u ∧ ¬ i < 0 ∧ i.toNatClampNeg < gm_bn u then f (gm_bb u i.toNatClampNeg) else none
theorem gm_txH {E : gm_E} {s : State} {o : Nat} {H : Heap} (hK : gm_K E s) (C : gm_C E o μ H) : gm_TS E s H := hK.2.2.2.2.2.2.2.1.kept (fun a ha _ => C.2.2.1.2 a (by have := C.2.2.1.1; omega))
theorem gm_tS {E : gm_E} {s : State} {o : Nat} {H : Heap} (hK : gm_K E s) (C : gm_C E o μ H) {u : UInt32} (hu : gm_isS u) : va_O "java/lang/String" (E.2.2.1 u.toNat) gm_never s H ∧ va_OF "java/lang/String" "coder" "B" (.int 0) (E.2.2.1 u.toNat) gm_never s H ∧ va_OF "java/lang/String" "value" "[B" (.ref (E.2.2.1 (u + 6).toNat)) (E.2.2.1 u.toNat) gm_never s H := by
  obtain ⟨a1, a2⟩ := hu
  have h := (gm_txH hK C).1.1 (u.toNat - 1) (by omega)
  have e1 : u.toNat - 1 + 1 = u.toNat := by omega
  have e2 : u.toNat - 1 + 7 = (u + 6).toNat := by
    rw [UInt32.toNat_add, show (6 : UInt32).toNat = 6 from rfl]
    omega
  dsimp only at h
  rw [e1, e2] at h
  exact ⟨h.1, h.2.1, h.2.2.1⟩
theorem gm_tB {E : gm_E} {s : State} {o : Nat} {H : Heap} (hK : gm_K E s) (C : gm_C E o μ H) {u : UInt32} (hu : gm_isB u) : va_T .byte (E.2.2.1 u.toNat) (gm_bn u) (fun j => .int (gm_bb u j)) gm_never s H := by
  obtain ⟨a1, a2⟩ := hu
  have h := ((gm_txH hK C).1.1 (u.toNat - 7) (by omega)).2.2.2
  have e1 : u.toNat - 7 + 7 = u.toNat := by omega
  dsimp only at h
  rw [e1] at h
  exact h
theorem gm_ldcS {i t : Nat} {u : UInt32} {tx : String} (hq : (own, i, tx, t) ∈ gm_sr) (hu : u.toNat = t + 1) (hd : decode cc pc = .ok (.ldc i, 2)) (kk : gm_A own nm cc nL rt R res μe k n μ (pc + 2) L (.float u :: st) z κ) : gm_A own nm cc nL rt R res μe k n μ pc L st z κ := by
  intro b hz hk p l e s m args below meth c H locs ls E o X C hl hf
  have kk := kk b hz hk p l e s m args below meth c H locs ls E o X C hl hf
  obtain ⟨hx, hb, hml, hr, hown, hts, hlk, hK, hnm⟩ := X
  have h := hK.2.2.2.2.2.2.2.2 _ hq
  dsimp only at h
  rw [← hu] at h
  have ht : t ≤ 5 := (show ∀ q ∈ gm_sr, q.2.2.2 ≤ 5 by decide) _ hq
  rw [gm_mf (by omega)] at kk
  exact va_ldcS hx hb hown h hd kk
theorem gm_aloadF {f : Fin 4} {i : Nat} {u : UInt32} (hd : decode cc pc = .ok (.aload_n f, 1)) (hi : (f : Nat) = i) (q : Nat) (hq : L[q]? = some (i, .float u)) (kk : gm_A own nm cc nL rt R res μe k n μ (pc + 1) L (.float u :: st) z κ) : gm_A own nm cc nL rt R res μe k n μ pc L st z κ := by
  intro b hz hk p l e s m args below meth c H locs ls E o X C hl hf
  have kk := kk b hz hk p l e s m args below meth c H locs ls E o X C hl hf
  have hv := lv_at hl q (gm_map hq)
  rw [List.map_cons] at kk
  rcases gm_tv_cases (E := E) (u := u) with h | ⟨a, h⟩
  · rw [show gm_cv E o (.float u) = .null from h] at kk hv
    exact lv_aload_nN X.1 X.2.1 hd hi hv kk
  · rw [show gm_cv E o (.float u) = .ref a from h] at kk hv
    exact lv_aload_n X.1 X.2.1 hd hi hv kk
theorem gm_i2b {x : Int32} (hd : decode cc pc = .ok (.i2b, 1)) (kk : gm_A own nm cc nL rt R res μe k n μ (pc + 1) L (.int x.toInt8.toInt32 :: st) z κ) : gm_A own nm cc nL rt R res μe k n μ pc L (.int x :: st) z κ := by
  intro b hz hk p l e s m args below meth c H locs ls E o X C hl hf
  exact lv_i2b X.1 X.2.1 hd rfl (kk b hz hk p l e s m args below meth c H locs ls E o X C hl hf)
theorem gm_callT {y : MethodName} {cc' : ByteArray} {nL' : Nat} {rt' : Option FieldType} {d' mc' ms' index : Nat} {u : UInt32} (As : List Value) {st st0 : List Value} {zc : Option (Option Value × gm_M)} (hc : gm_Call y cc' nL' rt' d' mc' ms' (.float u :: As) μ zc) (hu : gm_isS u) (hB : gm_BI y cc' nL' rt' As.length)
    (hw1 : Jvm.Cond.methodLink own index y ∈ gm_G) (hw5 : Jvm.Cond.selects "java/lang/String" y y ∈ gm_G) (hfit : gm_fit R k n mc' ms' d' nL' = true) (hst : st0 = As.reverse ++ .float u :: st) (hsm : gm_sum st = true) (hd : decode cc pc = .ok (.invokevirtual index, 3))
    (kk : gm_K2 own nm cc nL rt R res μe (k + mc') (n + ms') (pc + 3) L st zc z κ) : gm_A own nm cc nL rt R res μe k n μ pc L st0 z κ := by
  obtain ⟨hmh, hnp, hw2, hw3, hw4⟩ := hB
  obtain ⟨hR1, hR2, hk1, hn1⟩ := gm_fits hfit
  have hsum := gm_sum8 hsm
  refine gm_cal (index := index) hc (fun v μ1 p l e s m args below meth c H locs ls E o M X C hls => ?_) kk
  obtain ⟨hx, hb, hml, hr, hown, hts, hlk, hK, hnm⟩ := X
  subst hst
  obtain ⟨⟨cell, q1, q2, q3, -⟩, -, -⟩ := gm_tS hK C hu
  rw [gm_st, gm_mf (by omega)]
  have cb : CallB R s args own index y cc' nL' rt' (.code y cc' nL' rt' :: gm_G) (gm_rm d' mc' ms') mc' ms' As.length := ⟨rfl, rfl, hR1, hR2, gm_pay hts hw4, List.mem_cons_self, hts _ hw4, hts _ hw3, hmh, gm_len' hnp, hts _ hw1⟩
  exact ⟨_, va_runV (b := E.2.2.1 u.toNat) (As := As.map (gm_cv E o)) ⟨hx, hb, hml, hown, hts⟩ M ⟨cb, hts _ hw2, hts _ hw5⟩ ⟨gm_blind E o _ μ, ⟨cell, q1, q2, q3⟩, fun U hU hW => ⟨by rw [gm_mf (by omega)], by rw [hU]; exact C, hK.warm hW⟩⟩ rfl (by rw [List.length_map]) hls rfl (gm_roomst hsum) hd ⟨hk1, hn1⟩⟩
theorem gm_getC {u : UInt32} {i : Nat} (hw : Jvm.Cond.fieldLink own i "java/lang/String" "coder" "B" ∈ gm_G) (hd : decode cc pc = .ok (.getfield i, 3)) (kk : gm_A own nm cc nL rt R res μe k n μ (pc + 3) L (.int 0 :: st) z κ) : gm_A own nm cc nL rt R res μe k n μ pc L (.float u :: st) (if gm_isS u then z else none) κ := by
  intro b hz hk p l e s m args below meth c H locs ls E o X C hl hf
  by_cases h : gm_isS u
  · rw [if_pos h] at hz
    have kk := kk b hz hk p l e s m args below meth c H locs ls E o X C hl hf
    obtain ⟨hx, hb, hml, hr, hown, hts, hlk, hK, hnm⟩ := X
    obtain ⟨-, ⟨cf, k', i', f, cell, h1, h2, h3, h4, h5, h6⟩, -⟩ := gm_tS hK C h
    rw [gm_mf (by have := h.2; omega)]
    exact W.getf hx hb hown (hts _ hw) h1 h2 h3 h4 (v := .int 0) h5 rfl rfl hd kk
  · rw [if_neg h] at hz; cases hz
theorem gm_getV {u : UInt32} {i : Nat} (hw : Jvm.Cond.fieldLink own i "java/lang/String" "value" "[B" ∈ gm_G) (hd : decode cc pc = .ok (.getfield i, 3)) (kk : gm_A own nm cc nL rt R res μe k n μ (pc + 3) L (.float (u + 6) :: st) z κ) : gm_A own nm cc nL rt R res μe k n μ pc L (.float u :: st) (if gm_isS u then z else none) κ := by
  intro b hz hk p l e s m args below meth c H locs ls E o X C hl hf
  by_cases h : gm_isS u
  · rw [if_pos h] at hz
    have kk := kk b hz hk p l e s m args below meth c H locs ls E o X C hl hf
    obtain ⟨hx, hb, hml, hr, hown, hts, hlk, hK, hnm⟩ := X
    obtain ⟨-, -, ⟨cf, k', i', f, cell, h1, h2, h3, h4, h5, h6⟩⟩ := gm_tS hK C h
    have e6 : (u + 6).toNat ≤ 12 := by
      have := h.2
      rw [UInt32.toNat_add, show (6 : UInt32).toNat = 6 from rfl]
      omega
    rw [gm_mf e6] at kk
    rw [gm_mf (by have := h.2; omega)]
    exact W.getf hx hb hown (hts _ hw) h1 h2 h3 h4 (v := .ref (E.2.2.1 (u + 6).toNat)) h5 rfl rfl hd kk
  · rw [if_neg h] at hz; cases hz
theorem gm_alenB {u : UInt32} (hd : decode cc pc = .ok (.arraylength, 1)) (kk : gm_A own nm cc nL rt R res μe k n μ (pc + 1) L (.int (Int32.ofNat (gm_bn u)) :: st) z κ) : gm_A own nm cc nL rt R res μe k n μ pc L (.float u :: st) (if gm_isB u then z else none) κ := by
  intro b hz hk p l e s m args below meth c H locs ls E o X C hl hf
  by_cases h : gm_isB u
  · rw [if_pos h] at hz
    have kk := kk b hz hk p l e s m args below meth c H locs ls E o X C hl hf
    obtain ⟨hx, hb, hml, hr, hown, hts, hlk, hK, hnm⟩ := X
    obtain ⟨cell, h1, h2, h3, h4, h5, h6, h7⟩ := gm_tB hK C h
    rw [gm_mf h.2]
    exact W.alen (n := Int32.ofNat (gm_bn u)) hx hb h1 h2 h5 rfl rfl hd kk
  · rw [if_neg h] at hz; cases hz
theorem gm_baldB {u : UInt32} {i : Int32} {f : Int32 → Option β} (hd : decode cc pc = .ok (.baload, 1)) (kk : ∀ v : Int32, v = gm_bb u i.toNatClampNeg → gm_A own nm cc nL rt R res μe k n μ (pc + 1) L (.int v :: st) (f v) κ) : gm_A own nm cc nL rt R res μe k n μ pc L (.int i :: .float u :: st) (gm_bl u i f) κ := by
  intro b hz hk p l e s m args below meth c H locs ls E o X C hl hf
  unfold gm_bl at hz
  by_cases h : gm_isB u ∧ ¬ i < 0 ∧ i.toNatClampNeg < gm_bn u
  · rw [if_pos h] at hz
    have kk := kk _ rfl b hz hk p l e s m args below meth c H locs ls E o X C hl hf
    obtain ⟨hx, hb, hml, hr, hown, hts, hlk, hK, hnm⟩ := X
    obtain ⟨cell, h1, h2, h3, h4, h5, h6, h7⟩ := gm_tB hK C h.1
    rw [List.map_cons, gm_mf h.1.2]
    exact W.bald (v := .int (gm_bb u i.toNatClampNeg)) hx hb h1 h2 h3 (by rintro (q | q); exact h.2.1 q; have := h.2.2; omega) (h6 _ h.2.2) rfl rfl hd kk
  · rw [if_neg h] at hz; cases hz
theorem gm_gsC {i : Nat} (hw : Jvm.Cond.fieldLink own i "java/lang/String" "COMPACT_STRINGS" "Z" ∈ gm_G) (hd : decode cc pc = .ok (.getstatic i, 3)) (kk : gm_A own nm cc nL rt R res μe k n μ (pc + 3) L (.int 1 :: st) z κ) : gm_A own nm cc nL rt R res μe k n μ pc L st z κ := by
  intro b hz hk p l e s m args below meth c H locs ls E o X C hl hf
  have kk := kk b hz hk p l e s m args below meth c H locs ls E o X C hl hf
  obtain ⟨hx, hb, hml, hr, hown, hts, hlk, hK, hnm⟩ := X
  obtain ⟨cf, kf, fi, f, a, cell, h1, h2, h3, h4, h5, h6, h7, h8⟩ := (gm_txH hK C).2.1
  exact W.gets hx hb hown (hts _ hw) h1 h2 h3 h4 h5 (fun e => by rw [e] at h6; cases h6) h7 rfl hd kk
theorem gm_gsF {i : Nat} (hw : Jvm.Cond.fieldLink own i "jdk/internal/util/Preconditions" "SIOOBE_FORMATTER" "Ljava/util/function/BiFunction;" ∈ gm_G) (hd : decode cc pc = .ok (.getstatic i, 3)) (kk : gm_A own nm cc nL rt R res μe k n μ (pc + 3) L (.float 13 :: st) z κ) : gm_A own nm cc nL rt R res μe k n μ pc L st z κ := by
  intro b hz hk p l e s m args below meth c H locs ls E o X C hl hf
  have kk := kk b hz hk p l e s m args below meth c H locs ls E o X C hl hf
  obtain ⟨hx, hb, hml, hr, hown, hts, hlk, hK, hnm⟩ := X
  obtain ⟨cf, kf, fi, f, a, cell, h1, h2, h3, h4, h5, h6, h7, h8⟩ := (gm_txH hK C).2.2
  rw [gm_mf13] at kk
  exact W.gets hx hb hown (hts _ hw) h1 h2 h3 h4 h5 (fun e => by rw [e] at h6; cases h6) h7 rfl hd kk
theorem gm_cret {x : Int32} {zz : β} (hrt : rt = some .char) (hd : decode cc pc = .ok (.ireturn, 1)) (hk1 : k ≤ R.cells) (hn1 : n ≤ R.slots) (hκ : κ zz → (some (.int x), μ) = (res, μe)) : gm_A own nm cc nL rt R res μe k n μ pc L [.int x] (if (x.toUInt32 % 65536).toInt32 = x then some zz else none) κ := by
  intro b hz hk p l e s m args below meth c H locs ls E o X C hl hf
  by_cases h01 : (x.toUInt32 % 65536).toInt32 = x
  · rw [if_pos h01] at hz
    cases hz
    cases hκ hk
    obtain ⟨hx, hb, hml, hr, hown, hts, hlk, hK, hnm⟩ := X
    refine W.widen hk1 hn1 ?_
    exact W.zret hx hb (hr.trans hrt) (by show Value.int (x.toUInt32 % 65536).toInt32 = _; rw [h01]) (fun t ht hW => ⟨rfl, by rw [ht]; exact C⟩) hf hd hlk
  · rw [if_neg h01] at hz
    cases hz
theorem gm_bret {x : Int32} {zz : β} (hrt : rt = some .byte) (hd : decode cc pc = .ok (.ireturn, 1)) (hk1 : k ≤ R.cells) (hn1 : n ≤ R.slots) (hκ : κ zz → (some (.int x), μ) = (res, μe)) : gm_A own nm cc nL rt R res μe k n μ pc L [.int x] (if x.toInt8.toInt32 = x then some zz else none) κ := by
  intro b hz hk p l e s m args below meth c H locs ls E o X C hl hf
  by_cases h01 : x.toInt8.toInt32 = x
  · rw [if_pos h01] at hz
    cases hz
    cases hκ hk
    obtain ⟨hx, hb, hml, hr, hown, hts, hlk, hK, hnm⟩ := X
    refine W.widen hk1 hn1 ?_
    exact W.zret hx hb (hr.trans hrt) (by show Value.int x.toInt8.toInt32 = _; rw [h01]) (fun t ht hW => ⟨rfl, by rw [ht]; exact C⟩) hf hd hlk
  · rw [if_neg h01] at hz
    cases hz
end GA
end
section
theorem gm_inst0 : ∀ (k : Nat) (q : vw_C), gm_cls[k]? = some q → Jvm.Cond.instantiable q.1 q.2.2 ∈ gm_G := by
  intro k q h
  match k, h with
  | 0, h => cases h; exact gw_120
  | 1, h => cases h; exact gw_96
  | 2, h => cases h; exact gw_161
  | 3, h => cases h; exact gw_80
  | 4, h => cases h; exact gw_88
  | 5, h => cases h; exact gw_52
  | 6, h => cases h; exact gw_64
  | 7, h => cases h; exact gw_32
  | 8, h => cases h; exact gw_112
  | 9, h => cases h; exact gw_72
  | 10, h => cases h; exact gw_104
  | 11, h => cases h; exact gw_22
  | 12, h => cases h; exact gw_885
  | k + 13, h => simp [gm_cls] at h
theorem gm_drop {s s' : State} {L : List Loc} {k n : Nat} (h : s.sameButNew s' L k n) (hL : ∀ q ∈ L, s.heap.size ≤ q.base) : s.sameButNew s' [] k n := by
  obtain ⟨h1, h2, h3, h4, h5, h6⟩ := h
  refine ⟨h1, h2, h3, h4, h5, fun a c hc => ?_⟩
  obtain ⟨c', g1, g2, g3, g4⟩ := h6 a c hc
  refine ⟨c', g1, g2, g3, fun i _ => g4 i (fun hi => ?_)⟩
  have := hL _ hi
  have h7 : a < s.heap.size := (Array.getElem?_eq_some_iff.mp hc).1
  have h8 : s.heap.size ≤ a := this
  exact absurd h7 (Nat.not_lt.mpr h8)
theorem gm_arrP0 {args : Array Value} {s : State} {ty : FieldType} (h : (Jvm.Cond.arrayClass ty).before args s = true) : ∃ cA : ClassId, ArrOfT s cA ty ∧ s.vm.findClass ("[" ++ ty.toString) = some cA := by
  obtain ⟨cA, kA, comp, h1, h2, h3⟩ := Cond.arrayClass_spec h
  exact ⟨cA, fun n z => ⟨fun k h => (by cases h), kA, h2, comp, h3⟩, h1⟩
theorem gm_arrO0 {args : Array Value} {s : State} {C : String} (h : (Jvm.Cond.arrayOver (.object C)).before args s = true) : ∃ cA : ClassId, ArrOfT s cA (.object C) ∧ va_RA s cA (.object C) := by
  obtain ⟨comp, cA, kA, h1, -, h3, h4, h5⟩ := Cond.arrayOver_spec h
  exact ⟨cA, fun n z => ⟨fun k h => (by cases h), kA, h3, comp, h4⟩, kA, comp, h3, h4, h1, h5⟩

set_option maxHeartbeats 4000000 in
set_option maxRecDepth 20000 in
/-- the words at the start are the machine's -/
theorem gm_K0 {s : State} {b : Nat} (sa : Nat → Nat) (H0 : Heap) (htx : ∀ (D : va_G) (ca : Nat → ClassId), gm_TX (D, ca, sa, H0) s) (hts : ∀ w ∈ lw_tbl, w.before #[Value.ref b] s = true) (hgv : (Jvm.Cond.and given_1 narrow_1).before #[Value.ref b] s = true) : ∃ (D : va_G) (ca : Nat → ClassId), gm_K (D, ca, sa, H0) s := by
  have hG : ∀ w ∈ gm_G, w.before #[Value.ref b] s = true := fun w h => hts w (List.mem_filter.mp h).1
  have hk : ∀ k : Nat, ∃ (cC : ClassId) (iS : Nat → Nat), ∀ q : vw_C, gm_cls[k]? = some q → u_Kn s q.1 q.2.1 q.2.2 cC iS := by
    intro k
    cases e : gm_cls[k]? with
    | none => exact ⟨0, fun _ => 0, fun q h => by cases h⟩
    | some q0 =>
      obtain ⟨cC, iS, h⟩ := u_known (C := q0.1) (T := q0.2.1) (N := q0.2.2) (n := q0.2.2) hG (gm_lays k q0 e) (hG _ (gm_inst0 k q0 e))
      exact ⟨cC, iS, fun q hq => by cases hq; exact h⟩
  obtain ⟨cI, aI, fI⟩ := gm_arrP0 (ty := .int) (hts _ (List.mem_append_right _ (List.mem_of_getElem? (i := 51) (by decide +kernel))))
  obtain ⟨cZ, aZ, fZ⟩ := gm_arrP0 (ty := .boolean) (hts _ (List.mem_append_right _ (List.mem_of_getElem? (i := 959) (by decide +kernel))))
  obtain ⟨cP, aP, rP⟩ := gm_arrO0 (C := "GumBubble$Plain") (hts _ (List.mem_append_right _ (List.mem_of_getElem? (i := 30) (by decide +kernel))))
  obtain ⟨cC, aC, rC⟩ := gm_arrO0 (C := "GumBubble$Child") (hts _ (List.mem_append_right _ (List.mem_of_getElem? (i := 118) (by decide +kernel))))
  have hcls : ∀ (k : Nat) (q : vw_C), gm_cls[k]? = some q → u_Kn s q.1 q.2.1 q.2.2 (Classical.choose (hk k)) (Classical.choose (Classical.choose_spec (hk k))) := fun k q hq => Classical.choose_spec (Classical.choose_spec (hk k)) q hq
  have hself : ∀ (k : Nat) (q : vw_C), gm_cls[k]? = some q → gm_As q.1 q.1 s := fun k q hq => by
    have h := (hcls k q hq).2
    exact ⟨_, _, h.1, h.1, va_assign h⟩
  have hcast : ∀ {a z : String}, (Jvm.Cond.castable a z).before #[Value.ref b] s = true → gm_As a z s := fun h => Cond.castable_spec h
  have hs := flat_of_before _ hgv
  have hno : ∀ {a z : String}, Jvm.Cond.not (.castable a z) ∈ flatC (Jvm.Cond.and given_1 narrow_1) → va_Nc a z s := fun h => va_Nc.of (hs _ h)
  refine ⟨(fun k => Classical.choose (hk k), fun k => Classical.choose (Classical.choose_spec (hk k))), (fun t => if t = 1 then cI else if t = 2 then cZ else if t = 3 then cP else cC), ⟨hcls, ?_⟩, va_AO.of (hts _ (List.mem_append_right _ (List.mem_of_getElem? (i := 30) (by decide +kernel)))), va_AO.of (hts _ (List.mem_append_right _ (List.mem_of_getElem? (i := 118) (by decide +kernel)))), ?_, va_any rfl (hts _ (List.mem_append_right _ (List.mem_of_getElem? (i := 121) (by decide +kernel)))), va_any rfl (hts _ (List.mem_append_right _ (List.mem_of_getElem? (i := 304) (by decide +kernel)))), ?_, htx _ _⟩
  · intro k q hq
    match k, hq with
    | 0, hq => cases hq; exact ⟨aI, fI⟩
    | 1, hq => cases hq; exact ⟨aZ, fZ⟩
    | 2, hq => cases hq; exact ⟨aP, rP⟩
    | 3, hq => cases hq; exact ⟨aC, rC⟩
    | k + 4, hq => simp [gm_tys] at hq
  · intro q hq
    simp only [gm_yes, List.mem_cons, List.not_mem_nil, or_false] at hq
    rcases hq with rfl | rfl | rfl | rfl | rfl | rfl | rfl | rfl | rfl | rfl | rfl | rfl | rfl | rfl | rfl | rfl | rfl
    · exact hself 5 _ rfl
    · exact hself 2 _ rfl
    · exact hself 6 _ rfl
    · exact hself 9 _ rfl
    · exact hself 3 _ rfl
    · exact hself 4 _ rfl
    · exact hself 1 _ rfl
    · exact hself 10 _ rfl
    · exact hcast (hts _ (List.mem_append_right _ (List.mem_of_getElem? (i := 1331) (by decide +kernel))))
    · exact hcast (hts _ (List.mem_append_right _ (List.mem_of_getElem? (i := 1332) (by decide +kernel))))
    · exact hcast (hts _ (List.mem_append_right _ (List.mem_of_getElem? (i := 1333) (by decide +kernel))))
    · exact hcast (hts _ (List.mem_append_right _ (List.mem_of_getElem? (i := 1334) (by decide +kernel))))
    · exact hcast (hts _ (List.mem_append_right _ (List.mem_of_getElem? (i := 1335) (by decide +kernel))))
    · exact hcast (hts _ (List.mem_append_right _ (List.mem_of_getElem? (i := 1336) (by decide +kernel))))
    · exact hcast (hts _ (List.mem_append_right _ (List.mem_of_getElem? (i := 1328) (by decide +kernel))))
    · exact hcast (hts _ (List.mem_append_right _ (List.mem_of_getElem? (i := 1329) (by decide +kernel))))
    · exact hcast (hts _ (List.mem_append_right _ (List.mem_of_getElem? (i := 1330) (by decide +kernel))))
  · intro q hq
    simp only [gm_no0, List.mem_cons, List.not_mem_nil, or_false] at hq
    rcases hq with rfl | rfl | rfl | rfl | rfl | rfl | rfl | rfl | rfl | rfl | rfl | rfl | rfl | rfl | rfl | rfl | rfl | rfl | rfl | rfl | rfl | rfl | rfl | rfl | rfl | rfl | rfl | rfl | rfl | rfl | rfl | rfl | rfl
    · exact hno (by decide +kernel)
    · exact hno (by decide +kernel)
    · exact hno (by decide +kernel)
    · exact hno (by decide +kernel)
    · exact hno (by decide +kernel)
    · exact hno (by decide +kernel)
    · exact hno (by decide +kernel)
    · exact hno (by decide +kernel)
    · exact hno (by decide +kernel)
    · exact hno (by decide +kernel)
    · exact hno (by decide +kernel)
    · exact hno (by decide +kernel)
    · exact hno (by decide +kernel)
    · exact hno (by decide +kernel)
    · exact hno (by decide +kernel)
    · exact hno (by decide +kernel)
    · exact hno (by decide +kernel)
    · exact hno (by decide +kernel)
    · exact hno (by decide +kernel)
    · exact hno (by decide +kernel)
    · exact hno (by decide +kernel)
    · exact hno (by decide +kernel)
    · exact hno (by decide +kernel)
    · exact hno (by decide +kernel)
    · exact hno (by decide +kernel)
    · exact hno (by decide +kernel)
    · exact hno (by decide +kernel)
    · exact hno (by decide +kernel)
    · exact hno (by decide +kernel)
    · exact hno (by decide +kernel)
    · exact hno (by decide +kernel)
    · exact hno (by decide +kernel)
    · exact hno (by decide +kernel)
def gm_tm (i : Nat) : Term := match i with
  | 0 => .string "GumBubble$Afternoon" 63
  | 1 => .string "GumBubble$Afternoon" 69
  | 2 => .string "GumBubble$Afternoon" 71
  | 3 => .string "GumBubble$Afternoon" 73
  | 4 => .string "GumBubble$Afternoon" 104
  | _ => .string "GumBubble$Afternoon" 109
set_option maxHeartbeats 8000000 in
set_option maxRecDepth 20000 in
theorem gm_TX0 {s : State} {b : Nat} (hts : ∀ w ∈ lw_tbl, w.before #[Value.ref b] s = true) (hgv : (Jvm.Cond.and given_1 narrow_1).before #[Value.ref b] s = true) : ∃ sa : Nat → Nat, sa 0 = b ∧ ∀ (D : va_G) (ca : Nat → ClassId), gm_TX (D, ca, sa, s.heap) s := by
  have hs := flat_of_before _ hgv
  have hA : ∀ a : Nat, a < s.heap.size → ¬ gm_never a := fun _ _ h => h
  have hne : ∀ i j : Nat, i < 6 → j < 6 → i ≠ j → (Cond.not (Cond.eq (gm_tm i) (gm_tm j))).before #[Value.ref b] s = true ∨ (Cond.not (Cond.eq (gm_tm j) (gm_tm i))).before #[Value.ref b] s = true := by
    intro i j hi hj
    match i, j, hi, hj with
    | 0, 0, _, _ => exact fun h => absurd rfl h
    | 0, 1, _, _ => exact fun _ => Or.inl (hs _ (by decide +kernel))
    | 0, 2, _, _ => exact fun _ => Or.inl (hs _ (by decide +kernel))
    | 0, 3, _, _ => exact fun _ => Or.inl (hs _ (by decide +kernel))
    | 0, 4, _, _ => exact fun _ => Or.inl (hs _ (by decide +kernel))
    | 0, 5, _, _ => exact fun _ => Or.inl (hs _ (by decide +kernel))
    | 1, 0, _, _ => exact fun _ => Or.inr (hs _ (by decide +kernel))
    | 1, 1, _, _ => exact fun h => absurd rfl h
    | 1, 2, _, _ => exact fun _ => Or.inl (hs _ (by decide +kernel))
    | 1, 3, _, _ => exact fun _ => Or.inl (hs _ (by decide +kernel))
    | 1, 4, _, _ => exact fun _ => Or.inl (hs _ (by decide +kernel))
    | 1, 5, _, _ => exact fun _ => Or.inl (hs _ (by decide +kernel))
    | 2, 0, _, _ => exact fun _ => Or.inr (hs _ (by decide +kernel))
    | 2, 1, _, _ => exact fun _ => Or.inr (hs _ (by decide +kernel))
    | 2, 2, _, _ => exact fun h => absurd rfl h
    | 2, 3, _, _ => exact fun _ => Or.inl (hs _ (by decide +kernel))
    | 2, 4, _, _ => exact fun _ => Or.inl (hs _ (by decide +kernel))
    | 2, 5, _, _ => exact fun _ => Or.inl (hs _ (by decide +kernel))
    | 3, 0, _, _ => exact fun _ => Or.inr (hs _ (by decide +kernel))
    | 3, 1, _, _ => exact fun _ => Or.inr (hs _ (by decide +kernel))
    | 3, 2, _, _ => exact fun _ => Or.inr (hs _ (by decide +kernel))
    | 3, 3, _, _ => exact fun h => absurd rfl h
    | 3, 4, _, _ => exact fun _ => Or.inl (hs _ (by decide +kernel))
    | 3, 5, _, _ => exact fun _ => Or.inl (hs _ (by decide +kernel))
    | 4, 0, _, _ => exact fun _ => Or.inr (hs _ (by decide +kernel))
    | 4, 1, _, _ => exact fun _ => Or.inr (hs _ (by decide +kernel))
    | 4, 2, _, _ => exact fun _ => Or.inr (hs _ (by decide +kernel))
    | 4, 3, _, _ => exact fun _ => Or.inr (hs _ (by decide +kernel))
    | 4, 4, _, _ => exact fun h => absurd rfl h
    | 4, 5, _, _ => exact fun _ => Or.inl (hs _ (by decide +kernel))
    | 5, 0, _, _ => exact fun _ => Or.inr (hs _ (by decide +kernel))
    | 5, 1, _, _ => exact fun _ => Or.inr (hs _ (by decide +kernel))
    | 5, 2, _, _ => exact fun _ => Or.inr (hs _ (by decide +kernel))
    | 5, 3, _, _ => exact fun _ => Or.inr (hs _ (by decide +kernel))
    | 5, 4, _, _ => exact fun _ => Or.inr (hs _ (by decide +kernel))
    | 5, 5, _, _ => exact fun h => absurd rfl h
    | i + 6, j, hi, _ => exact absurd hi (by omega)
    | 0, j + 6, _, hj => exact absurd hj (by omega)
    | 1, j + 6, _, hj => exact absurd hj (by omega)
    | 2, j + 6, _, hj => exact absurd hj (by omega)
    | 3, j + 6, _, hj => exact absurd hj (by omega)
    | 4, j + 6, _, hj => exact absurd hj (by omega)
    | 5, j + 6, _, hj => exact absurd hj (by omega)
  obtain ⟨adK, adV, hS, hev⟩ := vk_Sof (args := #[Value.ref b]) (s := s) (N := 6) (tm := gm_tm) (len := gm_tls) (byt := gm_txt) (A := gm_never) (fun i hi => by revert i hi; decide)
    (fun i hi => match i, hi with | 0, _ => hs _ (by decide +kernel) | 1, _ => hs _ (by decide +kernel) | 2, _ => hs _ (by decide +kernel) | 3, _ => hs _ (by decide +kernel) | 4, _ => hs _ (by decide +kernel) | 5, _ => hs _ (by decide +kernel) | k + 6, h => absurd h (by omega))
    (fun i hi => match i, hi with | 0, _ => hs _ (by decide +kernel) | 1, _ => hs _ (by decide +kernel) | 2, _ => hs _ (by decide +kernel) | 3, _ => hs _ (by decide +kernel) | 4, _ => hs _ (by decide +kernel) | 5, _ => hs _ (by decide +kernel) | k + 6, h => absurd h (by omega))
    (fun i hi => match i, hi with | 0, _ => hs _ (by decide +kernel) | 1, _ => hs _ (by decide +kernel) | 2, _ => hs _ (by decide +kernel) | 3, _ => hs _ (by decide +kernel) | 4, _ => hs _ (by decide +kernel) | 5, _ => hs _ (by decide +kernel) | k + 6, h => absurd h (by omega))
    (fun i hi => match i, hi with | 0, _ => hs _ (by decide +kernel) | 1, _ => hs _ (by decide +kernel) | 2, _ => hs _ (by decide +kernel) | 3, _ => hs _ (by decide +kernel) | 4, _ => hs _ (by decide +kernel) | 5, _ => hs _ (by decide +kernel) | k + 6, h => absurd h (by omega))
    (fun i hi => match i, hi with | 0, _ => (fun j hj => match j, hj with | 0, _ => hs _ (by decide +kernel) | 1, _ => hs _ (by decide +kernel) | 2, _ => hs _ (by decide +kernel) | 3, _ => hs _ (by decide +kernel) | 4, _ => hs _ (by decide +kernel) | j + 5, h => absurd h (by show ¬ (j + 5 < 5); omega)) | 1, _ => (fun j hj => match j, hj with | 0, _ => hs _ (by decide +kernel) | 1, _ => hs _ (by decide +kernel) | 2, _ => hs _ (by decide +kernel) | 3, _ => hs _ (by decide +kernel) | 4, _ => hs _ (by decide +kernel) | j + 5, h => absurd h (by show ¬ (j + 5 < 5); omega)) | 2, _ => (fun j hj => match j, hj with | 0, _ => hs _ (by decide +kernel) | 1, _ => hs _ (by decide +kernel) | 2, _ => hs _ (by decide +kernel) | 3, _ => hs _ (by decide +kernel) | 4, _ => hs _ (by decide +kernel) | 5, _ => hs _ (by decide +kernel) | j + 6, h => absurd h (by show ¬ (j + 6 < 6); omega)) | 3, _ => (fun j hj => match j, hj with | 0, _ => hs _ (by decide +kernel) | 1, _ => hs _ (by decide +kernel) | 2, _ => hs _ (by decide +kernel) | 3, _ => hs _ (by decide +kernel) | j + 4, h => absurd h (by show ¬ (j + 4 < 4); omega)) | 4, _ => (fun j hj => match j, hj with | 0, _ => hs _ (by decide +kernel) | 1, _ => hs _ (by decide +kernel) | 2, _ => hs _ (by decide +kernel) | 3, _ => hs _ (by decide +kernel) | 4, _ => hs _ (by decide +kernel) | 5, _ => hs _ (by decide +kernel) | j + 6, h => absurd h (by show ¬ (j + 6 < 6); omega)) | 5, _ => (fun j hj => match j, hj with | 0, _ => hs _ (by decide +kernel) | 1, _ => hs _ (by decide +kernel) | 2, _ => hs _ (by decide +kernel) | j + 3, h => absurd h (by show ¬ (j + 3 < 3); omega)) | k + 6, h => absurd h (by omega))
    hne hA
  have hC : va_Z "java/lang/String" "COMPACT_STRINGS" "Z" (.int 1) gm_never s s.heap := va_Zof (args := #[Value.ref b]) (hts _ (List.mem_append_right _ (List.mem_of_getElem? (i := 338) (by decide +kernel)))) (hts _ (List.mem_append_right _ (List.mem_of_getElem? (i := 15) (by decide +kernel)))) (va_eqt (hs _ (by decide +kernel))) hA
  have hF : va_Zq "jdk/internal/util/Preconditions" "SIOOBE_FORMATTER" "Ljava/util/function/BiFunction;" gm_never s s.heap := va_Zqof (args := #[Value.ref b]) (hts _ (List.mem_append_right _ (List.mem_of_getElem? (i := 354) (by decide +kernel)))) (hts _ (List.mem_append_right _ (List.mem_of_getElem? (i := 17) (by decide +kernel)))) (hs _ (by decide +kernel)) hA
  obtain ⟨fm, hfm⟩ : ∃ fm : Nat, va_Z "jdk/internal/util/Preconditions" "SIOOBE_FORMATTER" "Ljava/util/function/BiFunction;" (gm_fm fm) gm_never s s.heap := by
    rcases hF with h | ⟨t, h⟩
    · exact ⟨0, h⟩
    · exact ⟨t + 1, h⟩
  have hr : ∀ q ∈ gm_sr, vk_R q.1 q.2.1 q.2.2.1 (adK q.2.2.2) s := by
    intro q hq
    simp only [gm_sr, List.mem_cons, List.not_mem_nil, or_false] at hq
    rcases hq with rfl | rfl | rfl | rfl | rfl | rfl | rfl | rfl | rfl | rfl | rfl | rfl
    · exact vk_R.of (hts _ (List.mem_append_right _ (List.mem_of_getElem? (i := 324) (by decide +kernel)))) (hev 0 (by decide))
    · exact vk_R.of (hts _ (List.mem_append_right _ (List.mem_of_getElem? (i := 381) (by decide +kernel)))) (hev 1 (by decide))
    · exact vk_R.of (hts _ (List.mem_append_right _ (List.mem_of_getElem? (i := 382) (by decide +kernel)))) (hev 2 (by decide))
    · exact vk_R.of (hts _ (List.mem_append_right _ (List.mem_of_getElem? (i := 383) (by decide +kernel)))) (hev 3 (by decide))
    · exact vk_R.of (hts _ (List.mem_append_right _ (List.mem_of_getElem? (i := 396) (by decide +kernel)))) (hev 4 (by decide))
    · exact vk_R.of (hts _ (List.mem_append_right _ (List.mem_of_getElem? (i := 456) (by decide +kernel)))) (hev 5 (by decide))
    · exact vk_R.of (hts _ (List.mem_append_right _ (List.mem_of_getElem? (i := 979) (by decide +kernel)))) (va_eqR (t := .string "GumBubble$Afternoon" 63) (u := .string "GumBubbleModel" 121) (hs _ (by decide +kernel)) (hev 0 (by decide)))
    · exact vk_R.of (hts _ (List.mem_append_right _ (List.mem_of_getElem? (i := 1002) (by decide +kernel)))) (va_eqR (t := .string "GumBubble$Afternoon" 69) (u := .string "GumBubbleModel" 108) (hs _ (by decide +kernel)) (hev 1 (by decide)))
    · exact vk_R.of (hts _ (List.mem_append_right _ (List.mem_of_getElem? (i := 1003) (by decide +kernel)))) (va_eqR (t := .string "GumBubble$Afternoon" 71) (u := .string "GumBubbleModel" 114) (hs _ (by decide +kernel)) (hev 2 (by decide)))
    · exact vk_R.of (hts _ (List.mem_append_right _ (List.mem_of_getElem? (i := 1030) (by decide +kernel)))) (va_eqR (t := .string "GumBubble$Afternoon" 73) (u := .string "GumBubbleModel" 119) (hs _ (by decide +kernel)) (hev 3 (by decide)))
    · exact vk_R.of (hts _ (List.mem_append_right _ (List.mem_of_getElem? (i := 1024) (by decide +kernel)))) (va_eqR (t := .string "GumBubble$Afternoon" 104) (u := .string "GumBubbleModel" 90) (hs _ (by decide +kernel)) (hev 4 (by decide)))
    · exact vk_R.of (hts _ (List.mem_append_right _ (List.mem_of_getElem? (i := 1029) (by decide +kernel)))) (va_eqR (t := .string "GumBubble$Afternoon" 109) (u := .string "GumBubbleModel" 96) (hs _ (by decide +kernel)) (hev 5 (by decide)))
  obtain ⟨sa, h0, h1, h2, h3⟩ : ∃ sa : Nat → Nat, sa 0 = b ∧ (∀ i : Nat, i < 6 → sa (i + 1) = adK i) ∧ (∀ i : Nat, i < 6 → sa (i + 7) = adV i) ∧ sa 13 = fm := by
    refine ⟨fun n => if n = 0 then b else if n ≤ 6 then adK (n - 1) else if n ≤ 12 then adV (n - 7) else fm, rfl, fun i hi => ?_, fun i hi => ?_, rfl⟩
    · rcases (show i = 0 ∨ i = 1 ∨ i = 2 ∨ i = 3 ∨ i = 4 ∨ i = 5 by omega) with e | e | e | e | e | e <;> subst e <;> rfl
    · rcases (show i = 0 ∨ i = 1 ∨ i = 2 ∨ i = 3 ∨ i = 4 ∨ i = 5 by omega) with e | e | e | e | e | e <;> subst e <;> rfl
  refine ⟨sa, h0, fun D ca => ⟨⟨⟨fun i hi => ?_, fun i j hi hj e => ?_⟩, hC, ?_⟩, fun q hq => ?_⟩⟩
  · have h := hS.1 i hi
    rw [← h1 i hi, ← h2 i hi] at h
    exact h
  · have e2 : sa (i + 1) = sa (j + 1) := e
    rw [h1 i hi, h1 j hj] at e2
    exact hS.2 i j hi hj e2
  · rw [← h3] at hfm
    exact hfm
  · have h := hr q hq
    have hq5 : q.2.2.2 ≤ 5 := (show ∀ q ∈ gm_sr, q.2.2.2 ≤ 5 by decide) _ hq
    rw [← h1 _ (by omega)] at h
    exact h
end
