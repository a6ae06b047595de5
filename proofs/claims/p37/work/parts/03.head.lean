theorem F_11_behind : gm_F [16] 6 "GumBubble" "behind" "[I" true true := by
  intro t ht
  simp only [List.mem_cons, List.not_mem_nil, or_false] at ht
  rcases ht with rfl
  · exact ⟨11, ("GumBubble", gm_T11, 10), rfl, rfl, by decide, rfl, by decide +kernel⟩
theorem F_11_best : gm_F [16] 8 "GumBubble" "best" "[I" true true := by
  intro t ht
  simp only [List.mem_cons, List.not_mem_nil, or_false] at ht
  rcases ht with rfl
  · exact ⟨11, ("GumBubble", gm_T11, 10), rfl, rfl, by decide, rfl, by decide +kernel⟩
theorem F_11_bestSum : gm_F [16] 9 "GumBubble" "bestSum" "I" false false := by
  intro t ht
  simp only [List.mem_cons, List.not_mem_nil, or_false] at ht
  rcases ht with rfl
  · exact ⟨11, ("GumBubble", gm_T11, 10), rfl, rfl, by decide, rfl, by decide +kernel⟩
theorem F_11_hasImage : gm_F [16] 3 "GumBubble" "hasImage" "Z" false false := by
  intro t ht
  simp only [List.mem_cons, List.not_mem_nil, or_false] at ht
  rcases ht with rfl
  · exact ⟨11, ("GumBubble", gm_T11, 10), rfl, rfl, by decide, rfl, by decide +kernel⟩
theorem F_11_kept : gm_F [16] 2 "GumBubble" "kept" "LGumBubble$Scene;" true true := by
  intro t ht
  simp only [List.mem_cons, List.not_mem_nil, or_false] at ht
  rcases ht with rfl
  · exact ⟨11, ("GumBubble", gm_T11, 10), rfl, rfl, by decide, rfl, by decide +kernel⟩
theorem F_11_kinds : gm_F [16] 0 "GumBubble" "kinds" "[LGumBubble$Plain;" true true := by
  intro t ht
  simp only [List.mem_cons, List.not_mem_nil, or_false] at ht
  rcases ht with rfl
  · exact ⟨11, ("GumBubble", gm_T11, 10), rfl, rfl, by decide, rfl, by decide +kernel⟩
theorem F_11_now : gm_F [16] 1 "GumBubble" "now" "LGumBubble$Scene;" true true := by
  intro t ht
  simp only [List.mem_cons, List.not_mem_nil, or_false] at ht
  rcases ht with rfl
  · exact ⟨11, ("GumBubble", gm_T11, 10), rfl, rfl, by decide, rfl, by decide +kernel⟩
theorem F_11_trace : gm_F [16] 4 "GumBubble" "trace" "LGumBubble$Rows;" true true := by
  intro t ht
  simp only [List.mem_cons, List.not_mem_nil, or_false] at ht
  rcases ht with rfl
  · exact ⟨11, ("GumBubble", gm_T11, 10), rfl, rfl, by decide, rfl, by decide +kernel⟩
theorem F_11_trial : gm_F [16] 5 "GumBubble" "trial" "LGumBubble$Child;" true true := by
  intro t ht
  simp only [List.mem_cons, List.not_mem_nil, or_false] at ht
  rcases ht with rfl
  · exact ⟨11, ("GumBubble", gm_T11, 10), rfl, rfl, by decide, rfl, by decide +kernel⟩
theorem F_11_tried : gm_F [16] 7 "GumBubble" "tried" "[I" true true := by
  intro t ht
  simp only [List.mem_cons, List.not_mem_nil, or_false] at ht
  rcases ht with rfl
  · exact ⟨11, ("GumBubble", gm_T11, 10), rfl, rfl, by decide, rfl, by decide +kernel⟩
theorem F_0_amounts : gm_F [5] 3 "GumBubble$Afternoon" "amounts" "[I" true true := by
  intro t ht
  simp only [List.mem_cons, List.not_mem_nil, or_false] at ht
  rcases ht with rfl
  · exact ⟨0, ("GumBubble$Afternoon", gm_T0, 10), rfl, rfl, by decide, rfl, by decide +kernel⟩
theorem F_0_at : gm_F [5] 9 "GumBubble$Afternoon" "at" "I" false false := by
  intro t ht
  simp only [List.mem_cons, List.not_mem_nil, or_false] at ht
  rcases ht with rfl
  · exact ⟨0, ("GumBubble$Afternoon", gm_T0, 10), rfl, rfl, by decide, rfl, by decide +kernel⟩
theorem F_0_changes : gm_F [5] 2 "GumBubble$Afternoon" "changes" "I" false false := by
  intro t ht
  simp only [List.mem_cons, List.not_mem_nil, or_false] at ht
  rcases ht with rfl
  · exact ⟨0, ("GumBubble$Afternoon", gm_T0, 10), rfl, rfl, by decide, rfl, by decide +kernel⟩
theorem F_0_code : gm_F [5] 5 "GumBubble$Afternoon" "code" "[I" true true := by
  intro t ht
  simp only [List.mem_cons, List.not_mem_nil, or_false] at ht
  rcases ht with rfl
  · exact ⟨0, ("GumBubble$Afternoon", gm_T0, 10), rfl, rfl, by decide, rfl, by decide +kernel⟩
theorem F_0_codeSize : gm_F [5] 6 "GumBubble$Afternoon" "codeSize" "I" false false := by
  intro t ht
  simp only [List.mem_cons, List.not_mem_nil, or_false] at ht
  rcases ht with rfl
  · exact ⟨0, ("GumBubble$Afternoon", gm_T0, 10), rfl, rfl, by decide, rfl, by decide +kernel⟩
theorem F_0_ends : gm_F [5] 4 "GumBubble$Afternoon" "ends" "[I" true true := by
  intro t ht
  simp only [List.mem_cons, List.not_mem_nil, or_false] at ht
  rcases ht with rfl
  · exact ⟨0, ("GumBubble$Afternoon", gm_T0, 10), rfl, rfl, by decide, rfl, by decide +kernel⟩
theorem F_0_size : gm_F [5] 8 "GumBubble$Afternoon" "size" "I" false false := by
  intro t ht
  simp only [List.mem_cons, List.not_mem_nil, or_false] at ht
  rcases ht with rfl
  · exact ⟨0, ("GumBubble$Afternoon", gm_T0, 10), rfl, rfl, by decide, rfl, by decide +kernel⟩
theorem F_0_sweet : gm_F [5] 1 "GumBubble$Afternoon" "sweet" "I" false false := by
  intro t ht
  simp only [List.mem_cons, List.not_mem_nil, or_false] at ht
  rcases ht with rfl
  · exact ⟨0, ("GumBubble$Afternoon", gm_T0, 10), rfl, rfl, by decide, rfl, by decide +kernel⟩
theorem F_0_tape : gm_F [5] 7 "GumBubble$Afternoon" "tape" "[I" false true := by
  intro t ht
  simp only [List.mem_cons, List.not_mem_nil, or_false] at ht
  rcases ht with rfl
  · exact ⟨0, ("GumBubble$Afternoon", gm_T0, 10), rfl, rfl, by decide, rfl, by decide +kernel⟩
theorem F_0_wind : gm_F [5] 0 "GumBubble$Afternoon" "wind" "I" false false := by
  intro t ht
  simp only [List.mem_cons, List.not_mem_nil, or_false] at ht
  rcases ht with rfl
  · exact ⟨0, ("GumBubble$Afternoon", gm_T0, 10), rfl, rfl, by decide, rfl, by decide +kernel⟩
theorem F_2_bubble : gm_F [7] 6 "GumBubble$Child" "bubble" "I" false false := by
  intro t ht
  simp only [List.mem_cons, List.not_mem_nil, or_false] at ht
  rcases ht with rfl
  · exact ⟨2, ("GumBubble$Child", gm_T2, 9), rfl, rfl, by decide, rfl, by decide +kernel⟩
theorem F_2_hair : gm_F [7] 7 "GumBubble$Child" "hair" "I" false false := by
  intro t ht
  simp only [List.mem_cons, List.not_mem_nil, or_false] at ht
  rcases ht with rfl
  · exact ⟨2, ("GumBubble$Child", gm_T2, 9), rfl, rfl, by decide, rfl, by decide +kernel⟩
theorem F_2_jaw : gm_F [7] 5 "GumBubble$Child" "jaw" "I" false false := by
  intro t ht
  simp only [List.mem_cons, List.not_mem_nil, or_false] at ht
  rcases ht with rfl
  · exact ⟨2, ("GumBubble$Child", gm_T2, 9), rfl, rfl, by decide, rfl, by decide +kernel⟩
theorem F_2_kind : gm_F [7] 1 "GumBubble$Child" "kind" "LGumBubble$Plain;" false true := by
  intro t ht
  simp only [List.mem_cons, List.not_mem_nil, or_false] at ht
  rcases ht with rfl
  · exact ⟨2, ("GumBubble$Child", gm_T2, 9), rfl, rfl, by decide, rfl, by decide +kernel⟩
theorem F_2_number : gm_F [7] 0 "GumBubble$Child" "number" "I" false false := by
  intro t ht
  simp only [List.mem_cons, List.not_mem_nil, or_false] at ht
  rcases ht with rfl
  · exact ⟨2, ("GumBubble$Child", gm_T2, 9), rfl, rfl, by decide, rfl, by decide +kernel⟩
theorem F_2_pieces : gm_F [7] 3 "GumBubble$Child" "pieces" "I" false false := by
  intro t ht
  simp only [List.mem_cons, List.not_mem_nil, or_false] at ht
  rcases ht with rfl
  · exact ⟨2, ("GumBubble$Child", gm_T2, 9), rfl, rfl, by decide, rfl, by decide +kernel⟩
theorem F_2_row : gm_F [7] 8 "GumBubble$Child" "row" "[I" true true := by
  intro t ht
  simp only [List.mem_cons, List.not_mem_nil, or_false] at ht
  rcases ht with rfl
  · exact ⟨2, ("GumBubble$Child", gm_T2, 9), rfl, rfl, by decide, rfl, by decide +kernel⟩
theorem F_2_sugar : gm_F [7] 4 "GumBubble$Child" "sugar" "I" false false := by
  intro t ht
  simp only [List.mem_cons, List.not_mem_nil, or_false] at ht
  rcases ht with rfl
  · exact ⟨2, ("GumBubble$Child", gm_T2, 9), rfl, rfl, by decide, rfl, by decide +kernel⟩
theorem F_2_v : gm_F [7] 2 "GumBubble$Child" "v" "I" false false := by
  intro t ht
  simp only [List.mem_cons, List.not_mem_nil, or_false] at ht
  rcases ht with rfl
  · exact ⟨2, ("GumBubble$Child", gm_T2, 9), rfl, rfl, by decide, rfl, by decide +kernel⟩
theorem F_5_number : gm_F [6, 8, 9, 10, 11, 14, 15] 0 "GumBubble$Plain" "number" "I" true false := by
  intro t ht
  simp only [List.mem_cons, List.not_mem_nil, or_false] at ht
  rcases ht with rfl | rfl | rfl | rfl | rfl | rfl | rfl
  · exact ⟨1, ("GumBubble$Careful", gm_T1, 1), rfl, rfl, by decide, rfl, by decide +kernel⟩
  · exact ⟨3, ("GumBubble$Cold", gm_T3, 1), rfl, rfl, by decide, rfl, by decide +kernel⟩
  · exact ⟨4, ("GumBubble$Greedy", gm_T4, 1), rfl, rfl, by decide, rfl, by decide +kernel⟩
  · exact ⟨5, ("GumBubble$Plain", gm_T5, 1), rfl, rfl, by decide, rfl, by decide +kernel⟩
  · exact ⟨6, ("GumBubble$Quick", gm_T6, 1), rfl, rfl, by decide, rfl, by decide +kernel⟩
  · exact ⟨9, ("GumBubble$Slow", gm_T9, 1), rfl, rfl, by decide, rfl, by decide +kernel⟩
  · exact ⟨10, ("GumBubble$Told", gm_T10, 1), rfl, rfl, by decide, rfl, by decide +kernel⟩
theorem F_7_cells : gm_F [12] 1 "GumBubble$Rows" "cells" "[I" true true := by
  intro t ht
  simp only [List.mem_cons, List.not_mem_nil, or_false] at ht
  rcases ht with rfl
  · exact ⟨7, ("GumBubble$Rows", gm_T7, 3), rfl, rfl, by decide, rfl, by decide +kernel⟩
theorem F_7_count : gm_F [12] 2 "GumBubble$Rows" "count" "I" false false := by
  intro t ht
  simp only [List.mem_cons, List.not_mem_nil, or_false] at ht
  rcases ht with rfl
  · exact ⟨7, ("GumBubble$Rows", gm_T7, 3), rfl, rfl, by decide, rfl, by decide +kernel⟩
theorem F_7_limit : gm_F [12] 0 "GumBubble$Rows" "limit" "I" true false := by
  intro t ht
  simp only [List.mem_cons, List.not_mem_nil, or_false] at ht
  rcases ht with rfl
  · exact ⟨7, ("GumBubble$Rows", gm_T7, 3), rfl, rfl, by decide, rfl, by decide +kernel⟩
theorem F_8_afternoon : gm_F [13] 6 "GumBubble$Scene" "afternoon" "LGumBubble$Afternoon;" false true := by
  intro t ht
  simp only [List.mem_cons, List.not_mem_nil, or_false] at ht
  rcases ht with rfl
  · exact ⟨8, ("GumBubble$Scene", gm_T8, 10), rfl, rfl, by decide, rfl, by decide +kernel⟩
theorem F_8_afternoons : gm_F [13] 5 "GumBubble$Scene" "afternoons" "I" false false := by
  intro t ht
  simp only [List.mem_cons, List.not_mem_nil, or_false] at ht
  rcases ht with rfl
  · exact ⟨8, ("GumBubble$Scene", gm_T8, 10), rfl, rfl, by decide, rfl, by decide +kernel⟩
theorem F_8_book : gm_F [13] 9 "GumBubble$Scene" "book" "LGumBubble$Rows;" true true := by
  intro t ht
  simp only [List.mem_cons, List.not_mem_nil, or_false] at ht
  rcases ht with rfl
  · exact ⟨8, ("GumBubble$Scene", gm_T8, 10), rfl, rfl, by decide, rfl, by decide +kernel⟩
theorem F_8_children : gm_F [13] 2 "GumBubble$Scene" "children" "[LGumBubble$Child;" true true := by
  intro t ht
  simp only [List.mem_cons, List.not_mem_nil, or_false] at ht
  rcases ht with rfl
  · exact ⟨8, ("GumBubble$Scene", gm_T8, 10), rfl, rfl, by decide, rfl, by decide +kernel⟩
theorem F_8_minute : gm_F [13] 0 "GumBubble$Scene" "minute" "I" false false := by
  intro t ht
  simp only [List.mem_cons, List.not_mem_nil, or_false] at ht
  rcases ht with rfl
  · exact ⟨8, ("GumBubble$Scene", gm_T8, 10), rfl, rfl, by decide, rfl, by decide +kernel⟩
theorem F_8_plan : gm_F [13] 8 "GumBubble$Scene" "plan" "LGumBubble$Rows;" true true := by
  intro t ht
  simp only [List.mem_cons, List.not_mem_nil, or_false] at ht
  rcases ht with rfl
  · exact ⟨8, ("GumBubble$Scene", gm_T8, 10), rfl, rfl, by decide, rfl, by decide +kernel⟩
theorem F_8_seen : gm_F [13] 7 "GumBubble$Scene" "seen" "LGumBubble$Rows;" true true := by
  intro t ht
  simp only [List.mem_cons, List.not_mem_nil, or_false] at ht
  rcases ht with rfl
  · exact ⟨8, ("GumBubble$Scene", gm_T8, 10), rfl, rfl, by decide, rfl, by decide +kernel⟩
theorem F_8_size : gm_F [13] 1 "GumBubble$Scene" "size" "I" false false := by
  intro t ht
  simp only [List.mem_cons, List.not_mem_nil, or_false] at ht
  rcases ht with rfl
  · exact ⟨8, ("GumBubble$Scene", gm_T8, 10), rfl, rfl, by decide, rfl, by decide +kernel⟩
theorem F_8_tape : gm_F [13] 3 "GumBubble$Scene" "tape" "[I" true true := by
  intro t ht
  simp only [List.mem_cons, List.not_mem_nil, or_false] at ht
  rcases ht with rfl
  · exact ⟨8, ("GumBubble$Scene", gm_T8, 10), rfl, rfl, by decide, rfl, by decide +kernel⟩
theorem F_8_tapeSize : gm_F [13] 4 "GumBubble$Scene" "tapeSize" "I" false false := by
  intro t ht
  simp only [List.mem_cons, List.not_mem_nil, or_false] at ht
  rcases ht with rfl
  · exact ⟨8, ("GumBubble$Scene", gm_T8, 10), rfl, rfl, by decide, rfl, by decide +kernel⟩
theorem F_12_act : gm_F [17] 5 "GumBubbleModel" "act" "I" false false := by
  intro t ht
  simp only [List.mem_cons, List.not_mem_nil, or_false] at ht
  rcases ht with rfl
  · exact ⟨12, ("GumBubbleModel", gm_T12, 23), rfl, rfl, by decide, rfl, by decide +kernel⟩
theorem F_12_bestLine : gm_F [17] 16 "GumBubbleModel" "bestLine" "[I" true true := by
  intro t ht
  simp only [List.mem_cons, List.not_mem_nil, or_false] at ht
  rcases ht with rfl
  · exact ⟨12, ("GumBubbleModel", gm_T12, 23), rfl, rfl, by decide, rfl, by decide +kernel⟩
theorem F_12_bestWhen : gm_F [17] 12 "GumBubbleModel" "bestWhen" "I" false false := by
  intro t ht
  simp only [List.mem_cons, List.not_mem_nil, or_false] at ht
  rcases ht with rfl
  · exact ⟨12, ("GumBubbleModel", gm_T12, 23), rfl, rfl, by decide, rfl, by decide +kernel⟩
theorem F_12_bodies : gm_F [17] 18 "GumBubbleModel" "bodies" "[I" true true := by
  intro t ht
  simp only [List.mem_cons, List.not_mem_nil, or_false] at ht
  rcases ht with rfl
  · exact ⟨12, ("GumBubbleModel", gm_T12, 23), rfl, rfl, by decide, rfl, by decide +kernel⟩
theorem F_12_by : gm_F [17] 10 "GumBubbleModel" "by" "[I" true true := by
  intro t ht
  simp only [List.mem_cons, List.not_mem_nil, or_false] at ht
  rcases ht with rfl
  · exact ⟨12, ("GumBubbleModel", gm_T12, 23), rfl, rfl, by decide, rfl, by decide +kernel⟩
theorem F_12_end : gm_F [17] 7 "GumBubbleModel" "end" "I" false false := by
  intro t ht
  simp only [List.mem_cons, List.not_mem_nil, or_false] at ht
  rcases ht with rfl
  · exact ⟨12, ("GumBubbleModel", gm_T12, 23), rfl, rfl, by decide, rfl, by decide +kernel⟩
theorem F_12_frame : gm_F [17] 3 "GumBubbleModel" "frame" "[I" true true := by
  intro t ht
  simp only [List.mem_cons, List.not_mem_nil, or_false] at ht
  rcases ht with rfl
  · exact ⟨12, ("GumBubbleModel", gm_T12, 23), rfl, rfl, by decide, rfl, by decide +kernel⟩
theorem F_12_hasImage : gm_F [17] 4 "GumBubbleModel" "hasImage" "Z" false false := by
  intro t ht
  simp only [List.mem_cons, List.not_mem_nil, or_false] at ht
  rcases ht with rfl
  · exact ⟨12, ("GumBubbleModel", gm_T12, 23), rfl, rfl, by decide, rfl, by decide +kernel⟩
theorem F_12_held : gm_F [17] 14 "GumBubbleModel" "held" "[I" true true := by
  intro t ht
  simp only [List.mem_cons, List.not_mem_nil, or_false] at ht
  rcases ht with rfl
  · exact ⟨12, ("GumBubbleModel", gm_T12, 23), rfl, rfl, by decide, rfl, by decide +kernel⟩
theorem F_12_image : gm_F [17] 2 "GumBubbleModel" "image" "[I" true true := by
  intro t ht
  simp only [List.mem_cons, List.not_mem_nil, or_false] at ht
  rcases ht with rfl
  · exact ⟨12, ("GumBubbleModel", gm_T12, 23), rfl, rfl, by decide, rfl, by decide +kernel⟩
theorem F_12_isWrong : gm_F [17] 8 "GumBubbleModel" "isWrong" "Z" false false := by
  intro t ht
  simp only [List.mem_cons, List.not_mem_nil, or_false] at ht
  rcases ht with rfl
  · exact ⟨12, ("GumBubbleModel", gm_T12, 23), rfl, rfl, by decide, rfl, by decide +kernel⟩
theorem F_12_kind : gm_F [17] 20 "GumBubbleModel" "kind" "I" false false := by
  intro t ht
  simp only [List.mem_cons, List.not_mem_nil, or_false] at ht
  rcases ht with rfl
  · exact ⟨12, ("GumBubbleModel", gm_T12, 23), rfl, rfl, by decide, rfl, by decide +kernel⟩
theorem F_12_line : gm_F [17] 15 "GumBubbleModel" "line" "[I" true true := by
  intro t ht
  simp only [List.mem_cons, List.not_mem_nil, or_false] at ht
  rcases ht with rfl
  · exact ⟨12, ("GumBubbleModel", gm_T12, 23), rfl, rfl, by decide, rfl, by decide +kernel⟩
theorem F_12_mostHeld : gm_F [17] 13 "GumBubbleModel" "mostHeld" "I" false false := by
  intro t ht
  simp only [List.mem_cons, List.not_mem_nil, or_false] at ht
  rcases ht with rfl
  · exact ⟨12, ("GumBubbleModel", gm_T12, 23), rfl, rfl, by decide, rfl, by decide +kernel⟩
theorem F_12_mostInAll : gm_F [17] 17 "GumBubbleModel" "mostInAll" "I" false false := by
  intro t ht
  simp only [List.mem_cons, List.not_mem_nil, or_false] at ht
  rcases ht with rfl
  · exact ⟨12, ("GumBubbleModel", gm_T12, 23), rfl, rfl, by decide, rfl, by decide +kernel⟩
theorem F_12_number : gm_F [17] 21 "GumBubbleModel" "number" "I" false false := by
  intro t ht
  simp only [List.mem_cons, List.not_mem_nil, or_false] at ht
  rcases ht with rfl
  · exact ⟨12, ("GumBubbleModel", gm_T12, 23), rfl, rfl, by decide, rfl, by decide +kernel⟩
theorem F_12_open : gm_F [17] 9 "GumBubbleModel" "open" "I" false false := by
  intro t ht
  simp only [List.mem_cons, List.not_mem_nil, or_false] at ht
  rcases ht with rfl
  · exact ⟨12, ("GumBubbleModel", gm_T12, 23), rfl, rfl, by decide, rfl, by decide +kernel⟩
theorem F_12_ran : gm_F [17] 19 "GumBubbleModel" "ran" "I" false false := by
  intro t ht
  simp only [List.mem_cons, List.not_mem_nil, or_false] at ht
  rcases ht with rfl
  · exact ⟨12, ("GumBubbleModel", gm_T12, 23), rfl, rfl, by decide, rfl, by decide +kernel⟩
theorem F_12_s : gm_F [17] 1 "GumBubbleModel" "s" "[I" true true := by
  intro t ht
  simp only [List.mem_cons, List.not_mem_nil, or_false] at ht
  rcases ht with rfl
  · exact ⟨12, ("GumBubbleModel", gm_T12, 23), rfl, rfl, by decide, rfl, by decide +kernel⟩
theorem F_12_spot : gm_F [17] 6 "GumBubbleModel" "spot" "I" false false := by
  intro t ht
  simp only [List.mem_cons, List.not_mem_nil, or_false] at ht
  rcases ht with rfl
  · exact ⟨12, ("GumBubbleModel", gm_T12, 23), rfl, rfl, by decide, rfl, by decide +kernel⟩
theorem F_12_tellsV : gm_F [17] 22 "GumBubbleModel" "tellsV" "I" false false := by
  intro t ht
  simp only [List.mem_cons, List.not_mem_nil, or_false] at ht
  rcases ht with rfl
  · exact ⟨12, ("GumBubbleModel", gm_T12, 23), rfl, rfl, by decide, rfl, by decide +kernel⟩
theorem F_12_truths : gm_F [17] 11 "GumBubbleModel" "truths" "[Z" true true := by
  intro t ht
  simp only [List.mem_cons, List.not_mem_nil, or_false] at ht
  rcases ht with rfl
  · exact ⟨12, ("GumBubbleModel", gm_T12, 23), rfl, rfl, by decide, rfl, by decide +kernel⟩
theorem Sub_3 : gm_Sub [10, 11, 14, 8, 9, 6, 15] "GumBubble$Plain" := by
  intro t ht
  simp only [List.mem_cons, List.not_mem_nil, or_false] at ht
  rcases ht with rfl | rfl | rfl | rfl | rfl | rfl | rfl
  · exact ⟨5, ("GumBubble$Plain", gm_T5, 1), rfl, rfl, by decide +kernel⟩
  · exact ⟨6, ("GumBubble$Quick", gm_T6, 1), rfl, rfl, by decide +kernel⟩
  · exact ⟨9, ("GumBubble$Slow", gm_T9, 1), rfl, rfl, by decide +kernel⟩
  · exact ⟨3, ("GumBubble$Cold", gm_T3, 1), rfl, rfl, by decide +kernel⟩
  · exact ⟨4, ("GumBubble$Greedy", gm_T4, 1), rfl, rfl, by decide +kernel⟩
  · exact ⟨1, ("GumBubble$Careful", gm_T1, 1), rfl, rfl, by decide +kernel⟩
  · exact ⟨10, ("GumBubble$Told", gm_T10, 1), rfl, rfl, by decide +kernel⟩
theorem Sub_4 : gm_Sub [7] "GumBubble$Child" := by
  intro t ht
  simp only [List.mem_cons, List.not_mem_nil, or_false] at ht
  rcases ht with rfl
  · exact ⟨2, ("GumBubble$Child", gm_T2, 9), rfl, rfl, by decide +kernel⟩
theorem Any_5 : gm_Any [10, 6, 8, 9, 11, 14, 15] := by
  intro t ht
  simp only [List.mem_cons, List.not_mem_nil, or_false] at ht
  rcases ht with rfl | rfl | rfl | rfl | rfl | rfl | rfl
  · exact ⟨5, ("GumBubble$Plain", gm_T5, 1), rfl, rfl⟩
  · exact ⟨1, ("GumBubble$Careful", gm_T1, 1), rfl, rfl⟩
  · exact ⟨3, ("GumBubble$Cold", gm_T3, 1), rfl, rfl⟩
  · exact ⟨4, ("GumBubble$Greedy", gm_T4, 1), rfl, rfl⟩
  · exact ⟨6, ("GumBubble$Quick", gm_T6, 1), rfl, rfl⟩
  · exact ⟨9, ("GumBubble$Slow", gm_T9, 1), rfl, rfl⟩
  · exact ⟨10, ("GumBubble$Told", gm_T10, 1), rfl, rfl⟩
theorem Any_1 : gm_Any [6] := by
  intro t ht
  simp only [List.mem_cons, List.not_mem_nil, or_false] at ht
  rcases ht with rfl
  · exact ⟨1, ("GumBubble$Careful", gm_T1, 1), rfl, rfl⟩
theorem IY_1 : gm_Yes [6] "GumBubble$Careful" := by
  intro t ht
  simp only [List.mem_cons, List.not_mem_nil, or_false] at ht
  rcases ht with rfl
  · exact ⟨1, ("GumBubble$Careful", gm_T1, 1), rfl, rfl, by decide +kernel⟩
theorem IN_1 : gm_No [10, 8, 9, 11, 14, 15] "GumBubble$Careful" := by
  intro t ht
  simp only [List.mem_cons, List.not_mem_nil, or_false] at ht
  rcases ht with rfl | rfl | rfl | rfl | rfl | rfl
  · exact ⟨5, ("GumBubble$Plain", gm_T5, 1), rfl, rfl, by decide +kernel⟩
  · exact ⟨3, ("GumBubble$Cold", gm_T3, 1), rfl, rfl, by decide +kernel⟩
  · exact ⟨4, ("GumBubble$Greedy", gm_T4, 1), rfl, rfl, by decide +kernel⟩
  · exact ⟨6, ("GumBubble$Quick", gm_T6, 1), rfl, rfl, by decide +kernel⟩
  · exact ⟨9, ("GumBubble$Slow", gm_T9, 1), rfl, rfl, by decide +kernel⟩
  · exact ⟨10, ("GumBubble$Told", gm_T10, 1), rfl, rfl, by decide +kernel⟩
theorem Any_3 : gm_Any [8, 15] := by
  intro t ht
  simp only [List.mem_cons, List.not_mem_nil, or_false] at ht
  rcases ht with rfl | rfl
  · exact ⟨3, ("GumBubble$Cold", gm_T3, 1), rfl, rfl⟩
  · exact ⟨10, ("GumBubble$Told", gm_T10, 1), rfl, rfl⟩
theorem IY_3 : gm_Yes [8, 15] "GumBubble$Cold" := by
  intro t ht
  simp only [List.mem_cons, List.not_mem_nil, or_false] at ht
  rcases ht with rfl | rfl
  · exact ⟨3, ("GumBubble$Cold", gm_T3, 1), rfl, rfl, by decide +kernel⟩
  · exact ⟨10, ("GumBubble$Told", gm_T10, 1), rfl, rfl, by decide +kernel⟩
theorem IN_3 : gm_No [10, 6, 9, 11, 14] "GumBubble$Cold" := by
  intro t ht
  simp only [List.mem_cons, List.not_mem_nil, or_false] at ht
  rcases ht with rfl | rfl | rfl | rfl | rfl
  · exact ⟨5, ("GumBubble$Plain", gm_T5, 1), rfl, rfl, by decide +kernel⟩
  · exact ⟨1, ("GumBubble$Careful", gm_T1, 1), rfl, rfl, by decide +kernel⟩
  · exact ⟨4, ("GumBubble$Greedy", gm_T4, 1), rfl, rfl, by decide +kernel⟩
  · exact ⟨6, ("GumBubble$Quick", gm_T6, 1), rfl, rfl, by decide +kernel⟩
  · exact ⟨9, ("GumBubble$Slow", gm_T9, 1), rfl, rfl, by decide +kernel⟩
theorem Any_4 : gm_Any [9] := by
  intro t ht
  simp only [List.mem_cons, List.not_mem_nil, or_false] at ht
  rcases ht with rfl
  · exact ⟨4, ("GumBubble$Greedy", gm_T4, 1), rfl, rfl⟩
theorem IY_4 : gm_Yes [9] "GumBubble$Greedy" := by
  intro t ht
  simp only [List.mem_cons, List.not_mem_nil, or_false] at ht
  rcases ht with rfl
  · exact ⟨4, ("GumBubble$Greedy", gm_T4, 1), rfl, rfl, by decide +kernel⟩
theorem IN_4 : gm_No [10, 6, 8, 11, 14, 15] "GumBubble$Greedy" := by
  intro t ht
  simp only [List.mem_cons, List.not_mem_nil, or_false] at ht
  rcases ht with rfl | rfl | rfl | rfl | rfl | rfl
  · exact ⟨5, ("GumBubble$Plain", gm_T5, 1), rfl, rfl, by decide +kernel⟩
  · exact ⟨1, ("GumBubble$Careful", gm_T1, 1), rfl, rfl, by decide +kernel⟩
  · exact ⟨3, ("GumBubble$Cold", gm_T3, 1), rfl, rfl, by decide +kernel⟩
  · exact ⟨6, ("GumBubble$Quick", gm_T6, 1), rfl, rfl, by decide +kernel⟩
  · exact ⟨9, ("GumBubble$Slow", gm_T9, 1), rfl, rfl, by decide +kernel⟩
  · exact ⟨10, ("GumBubble$Told", gm_T10, 1), rfl, rfl, by decide +kernel⟩
theorem Any_6 : gm_Any [9, 11] := by
  intro t ht
  simp only [List.mem_cons, List.not_mem_nil, or_false] at ht
  rcases ht with rfl | rfl
  · exact ⟨4, ("GumBubble$Greedy", gm_T4, 1), rfl, rfl⟩
  · exact ⟨6, ("GumBubble$Quick", gm_T6, 1), rfl, rfl⟩
theorem IY_6 : gm_Yes [9, 11] "GumBubble$Quick" := by
  intro t ht
  simp only [List.mem_cons, List.not_mem_nil, or_false] at ht
  rcases ht with rfl | rfl
  · exact ⟨4, ("GumBubble$Greedy", gm_T4, 1), rfl, rfl, by decide +kernel⟩
  · exact ⟨6, ("GumBubble$Quick", gm_T6, 1), rfl, rfl, by decide +kernel⟩
theorem IN_6 : gm_No [10, 6, 8, 14, 15] "GumBubble$Quick" := by
  intro t ht
  simp only [List.mem_cons, List.not_mem_nil, or_false] at ht
  rcases ht with rfl | rfl | rfl | rfl | rfl
  · exact ⟨5, ("GumBubble$Plain", gm_T5, 1), rfl, rfl, by decide +kernel⟩
  · exact ⟨1, ("GumBubble$Careful", gm_T1, 1), rfl, rfl, by decide +kernel⟩
  · exact ⟨3, ("GumBubble$Cold", gm_T3, 1), rfl, rfl, by decide +kernel⟩
  · exact ⟨9, ("GumBubble$Slow", gm_T9, 1), rfl, rfl, by decide +kernel⟩
  · exact ⟨10, ("GumBubble$Told", gm_T10, 1), rfl, rfl, by decide +kernel⟩
theorem Any_9 : gm_Any [6, 14] := by
  intro t ht
  simp only [List.mem_cons, List.not_mem_nil, or_false] at ht
  rcases ht with rfl | rfl
  · exact ⟨1, ("GumBubble$Careful", gm_T1, 1), rfl, rfl⟩
  · exact ⟨9, ("GumBubble$Slow", gm_T9, 1), rfl, rfl⟩
theorem IY_9 : gm_Yes [6, 14] "GumBubble$Slow" := by
  intro t ht
  simp only [List.mem_cons, List.not_mem_nil, or_false] at ht
  rcases ht with rfl | rfl
  · exact ⟨1, ("GumBubble$Careful", gm_T1, 1), rfl, rfl, by decide +kernel⟩
  · exact ⟨9, ("GumBubble$Slow", gm_T9, 1), rfl, rfl, by decide +kernel⟩
theorem IN_9 : gm_No [10, 8, 9, 11, 15] "GumBubble$Slow" := by
  intro t ht
  simp only [List.mem_cons, List.not_mem_nil, or_false] at ht
  rcases ht with rfl | rfl | rfl | rfl | rfl
  · exact ⟨5, ("GumBubble$Plain", gm_T5, 1), rfl, rfl, by decide +kernel⟩
  · exact ⟨3, ("GumBubble$Cold", gm_T3, 1), rfl, rfl, by decide +kernel⟩
  · exact ⟨4, ("GumBubble$Greedy", gm_T4, 1), rfl, rfl, by decide +kernel⟩
  · exact ⟨6, ("GumBubble$Quick", gm_T6, 1), rfl, rfl, by decide +kernel⟩
  · exact ⟨10, ("GumBubble$Told", gm_T10, 1), rfl, rfl, by decide +kernel⟩
theorem Any_10 : gm_Any [15] := by
  intro t ht
  simp only [List.mem_cons, List.not_mem_nil, or_false] at ht
  rcases ht with rfl
  · exact ⟨10, ("GumBubble$Told", gm_T10, 1), rfl, rfl⟩
theorem IY_10 : gm_Yes [15] "GumBubble$Told" := by
  intro t ht
  simp only [List.mem_cons, List.not_mem_nil, or_false] at ht
  rcases ht with rfl
  · exact ⟨10, ("GumBubble$Told", gm_T10, 1), rfl, rfl, by decide +kernel⟩
theorem IN_10 : gm_No [10, 6, 8, 9, 11, 14] "GumBubble$Told" := by
  intro t ht
  simp only [List.mem_cons, List.not_mem_nil, or_false] at ht
  rcases ht with rfl | rfl | rfl | rfl | rfl | rfl
  · exact ⟨5, ("GumBubble$Plain", gm_T5, 1), rfl, rfl, by decide +kernel⟩
  · exact ⟨1, ("GumBubble$Careful", gm_T1, 1), rfl, rfl, by decide +kernel⟩
  · exact ⟨3, ("GumBubble$Cold", gm_T3, 1), rfl, rfl, by decide +kernel⟩
  · exact ⟨4, ("GumBubble$Greedy", gm_T4, 1), rfl, rfl, by decide +kernel⟩
  · exact ⟨6, ("GumBubble$Quick", gm_T6, 1), rfl, rfl, by decide +kernel⟩
  · exact ⟨9, ("GumBubble$Slow", gm_T9, 1), rfl, rfl, by decide +kernel⟩
theorem MH_J0 : ("java/lang/String" : String) ≠ "java/lang/invoke/MethodHandle" ∧ ("java/lang/String" : String) ≠ "java/lang/invoke/VarHandle" := by decide +kernel
theorem PN_J0 : plainName "java/lang/String" = true := by decide +kernel
theorem MH_J1 : ("java/lang/StringLatin1" : String) ≠ "java/lang/invoke/MethodHandle" ∧ ("java/lang/StringLatin1" : String) ≠ "java/lang/invoke/VarHandle" := by decide +kernel
theorem PN_J1 : plainName "java/lang/StringLatin1" = true := by decide +kernel
theorem MH_J3 : ("jdk/internal/util/Preconditions" : String) ≠ "java/lang/invoke/MethodHandle" ∧ ("jdk/internal/util/Preconditions" : String) ≠ "java/lang/invoke/VarHandle" := by decide +kernel
theorem PN_J3 : plainName "jdk/internal/util/Preconditions" = true := by decide +kernel
theorem MH_0 : ("GumBubble$Afternoon" : String) ≠ "java/lang/invoke/MethodHandle" ∧ ("GumBubble$Afternoon" : String) ≠ "java/lang/invoke/VarHandle" := by decide +kernel
theorem PN_0 : plainName "GumBubble$Afternoon" = true := by decide +kernel
theorem MH_1 : ("GumBubble$Careful" : String) ≠ "java/lang/invoke/MethodHandle" ∧ ("GumBubble$Careful" : String) ≠ "java/lang/invoke/VarHandle" := by decide +kernel
theorem PN_1 : plainName "GumBubble$Careful" = true := by decide +kernel
theorem MH_2 : ("GumBubble$Child" : String) ≠ "java/lang/invoke/MethodHandle" ∧ ("GumBubble$Child" : String) ≠ "java/lang/invoke/VarHandle" := by decide +kernel
theorem PN_2 : plainName "GumBubble$Child" = true := by decide +kernel
theorem MH_3 : ("GumBubble$Cold" : String) ≠ "java/lang/invoke/MethodHandle" ∧ ("GumBubble$Cold" : String) ≠ "java/lang/invoke/VarHandle" := by decide +kernel
theorem PN_3 : plainName "GumBubble$Cold" = true := by decide +kernel
theorem MH_4 : ("GumBubble$Greedy" : String) ≠ "java/lang/invoke/MethodHandle" ∧ ("GumBubble$Greedy" : String) ≠ "java/lang/invoke/VarHandle" := by decide +kernel
theorem PN_4 : plainName "GumBubble$Greedy" = true := by decide +kernel
theorem MH_5 : ("GumBubble$Plain" : String) ≠ "java/lang/invoke/MethodHandle" ∧ ("GumBubble$Plain" : String) ≠ "java/lang/invoke/VarHandle" := by decide +kernel
theorem PN_5 : plainName "GumBubble$Plain" = true := by decide +kernel
theorem MH_6 : ("GumBubble$Quick" : String) ≠ "java/lang/invoke/MethodHandle" ∧ ("GumBubble$Quick" : String) ≠ "java/lang/invoke/VarHandle" := by decide +kernel
theorem PN_6 : plainName "GumBubble$Quick" = true := by decide +kernel
theorem MH_7 : ("GumBubble$Rows" : String) ≠ "java/lang/invoke/MethodHandle" ∧ ("GumBubble$Rows" : String) ≠ "java/lang/invoke/VarHandle" := by decide +kernel
theorem PN_7 : plainName "GumBubble$Rows" = true := by decide +kernel
theorem MH_8 : ("GumBubble$Scene" : String) ≠ "java/lang/invoke/MethodHandle" ∧ ("GumBubble$Scene" : String) ≠ "java/lang/invoke/VarHandle" := by decide +kernel
theorem PN_8 : plainName "GumBubble$Scene" = true := by decide +kernel
theorem MH_9 : ("GumBubble$Slow" : String) ≠ "java/lang/invoke/MethodHandle" ∧ ("GumBubble$Slow" : String) ≠ "java/lang/invoke/VarHandle" := by decide +kernel
theorem PN_9 : plainName "GumBubble$Slow" = true := by decide +kernel
theorem MH_10 : ("GumBubble$Told" : String) ≠ "java/lang/invoke/MethodHandle" ∧ ("GumBubble$Told" : String) ≠ "java/lang/invoke/VarHandle" := by decide +kernel
theorem PN_10 : plainName "GumBubble$Told" = true := by decide +kernel
theorem MH_11 : ("GumBubble" : String) ≠ "java/lang/invoke/MethodHandle" ∧ ("GumBubble" : String) ≠ "java/lang/invoke/VarHandle" := by decide +kernel
theorem PN_11 : plainName "GumBubble" = true := by decide +kernel
theorem MH_12 : ("GumBubbleModel" : String) ≠ "java/lang/invoke/MethodHandle" ∧ ("GumBubbleModel" : String) ≠ "java/lang/invoke/VarHandle" := by decide +kernel
theorem PN_12 : plainName "GumBubbleModel" = true := by decide +kernel
theorem gm_hit2 {R : Room} {k n mc' ms' d' nL' : Nat} (h1 : d' + 1 ≤ R.frames) (h2 : 8 + (nL' + 11) + 64 * d' ≤ R.locals) (h3 : k + mc' ≤ R.cells) (h4 : n + ms' ≤ R.slots) : gm_fit R k n mc' ms' d' nL' = true := by
  simp only [gm_fit, Bool.and_eq_true, Nat.ble_eq]
  exact ⟨⟨⟨h1, h2⟩, h3⟩, h4⟩
theorem gm_fit_le {R : Room} {k n mc' ms' d1 d2 n1 n2 : Nat} (h : gm_fit R k n mc' ms' d2 n2 = true) (hd : d1 ≤ d2) (hn : n1 ≤ n2) : gm_fit R k n mc' ms' d1 n1 = true := by
  obtain ⟨h1, h2, h3, h4⟩ := gm_fits h
  exact gm_hit2 (by omega) (by omega) h3 h4
theorem NP_X0_init : gm_nP ({ cls := "GumBubble$Afternoon", name := "<init>", desc := "()V" } : Jvm.MethodName) 0 := by decide +kernel
theorem B_X0_init : gm_BI ({ cls := "GumBubble$Afternoon", name := "<init>", desc := "()V" } : Jvm.MethodName) prog_2_method_1_code 1 none 0 := ⟨MH_0, NP_X0_init, gw_122, gw_12, gw_123⟩
theorem NP_X0_read : gm_nP ({ cls := "GumBubble$Afternoon", name := "read", desc := "([II)I" } : Jvm.MethodName) 2 := by decide +kernel
theorem B_X0_read : gm_BI ({ cls := "GumBubble$Afternoon", name := "read", desc := "([II)I" } : Jvm.MethodName) prog_2_method_2_code 4 (some .int) 2 := ⟨MH_0, NP_X0_read, gw_306, gw_12, gw_308⟩
theorem NP_X0_stretchOf : gm_nP ({ cls := "GumBubble$Afternoon", name := "stretchOf", desc := "(LGumBubble$Child;I)I" } : Jvm.MethodName) 2 := by decide +kernel
theorem B_X0_stretchOf : gm_BI ({ cls := "GumBubble$Afternoon", name := "stretchOf", desc := "(LGumBubble$Child;I)I" } : Jvm.MethodName) prog_2_method_3_code 6 (some .int) 2 := ⟨MH_0, NP_X0_stretchOf, gw_483, gw_12, gw_485⟩
theorem NP_X0_readClause : gm_nP ({ cls := "GumBubble$Afternoon", name := "readClause", desc := "()Z" } : Jvm.MethodName) 0 := by decide +kernel
theorem B_X0_readClause : gm_BI ({ cls := "GumBubble$Afternoon", name := "readClause", desc := "()Z" } : Jvm.MethodName) prog_2_method_4_code 3 (some .boolean) 0 := ⟨MH_0, NP_X0_readClause, gw_322, gw_12, gw_323⟩
theorem NP_X0_readWordAndNumber : gm_nP ({ cls := "GumBubble$Afternoon", name := "readWordAndNumber", desc := "(Ljava/lang/String;)I" } : Jvm.MethodName) 1 := by decide +kernel
theorem B_X0_readWordAndNumber : gm_BI ({ cls := "GumBubble$Afternoon", name := "readWordAndNumber", desc := "(Ljava/lang/String;)I" } : Jvm.MethodName) prog_2_method_5_code 3 (some .int) 1 := ⟨MH_0, NP_X0_readWordAndNumber, gw_327, gw_12, gw_328⟩
theorem NP_X0_readNumber : gm_nP ({ cls := "GumBubble$Afternoon", name := "readNumber", desc := "()I" } : Jvm.MethodName) 0 := by decide +kernel
theorem B_X0_readNumber : gm_BI ({ cls := "GumBubble$Afternoon", name := "readNumber", desc := "()I" } : Jvm.MethodName) prog_2_method_6_code 3 (some .int) 0 := ⟨MH_0, NP_X0_readNumber, gw_379, gw_12, gw_380⟩
theorem NP_X0_readEither : gm_nP ({ cls := "GumBubble$Afternoon", name := "readEither", desc := "(I)Z" } : Jvm.MethodName) 1 := by decide +kernel
theorem B_X0_readEither : gm_BI ({ cls := "GumBubble$Afternoon", name := "readEither", desc := "(I)Z" } : Jvm.MethodName) prog_2_method_7_code 4 (some .boolean) 1 := ⟨MH_0, NP_X0_readEither, gw_386, gw_12, gw_387⟩
theorem NP_X0_readFactor : gm_nP ({ cls := "GumBubble$Afternoon", name := "readFactor", desc := "(I)Z" } : Jvm.MethodName) 1 := by decide +kernel
theorem B_X0_readFactor : gm_BI ({ cls := "GumBubble$Afternoon", name := "readFactor", desc := "(I)Z" } : Jvm.MethodName) prog_2_method_8_code 3 (some .boolean) 1 := ⟨MH_0, NP_X0_readFactor, gw_390, gw_12, gw_391⟩
theorem NP_X0_readTest : gm_nP ({ cls := "GumBubble$Afternoon", name := "readTest", desc := "()Z" } : Jvm.MethodName) 0 := by decide +kernel
theorem B_X0_readTest : gm_BI ({ cls := "GumBubble$Afternoon", name := "readTest", desc := "()Z" } : Jvm.MethodName) prog_2_method_9_code 4 (some .boolean) 0 := ⟨MH_0, NP_X0_readTest, gw_394, gw_12, gw_395⟩
theorem NP_X0_readOneOf : gm_nP ({ cls := "GumBubble$Afternoon", name := "readOneOf", desc := "(Ljava/lang/String;)I" } : Jvm.MethodName) 1 := by decide +kernel
theorem B_X0_readOneOf : gm_BI ({ cls := "GumBubble$Afternoon", name := "readOneOf", desc := "(Ljava/lang/String;)I" } : Jvm.MethodName) prog_2_method_10_code 3 (some .int) 1 := ⟨MH_0, NP_X0_readOneOf, gw_399, gw_12, gw_400⟩
theorem NP_X0_take : gm_nP ({ cls := "GumBubble$Afternoon", name := "take", desc := "(C)Z" } : Jvm.MethodName) 1 := by decide +kernel
theorem B_X0_take : gm_BI ({ cls := "GumBubble$Afternoon", name := "take", desc := "(C)Z" } : Jvm.MethodName) prog_2_method_11_code 2 (some .boolean) 1 := ⟨MH_0, NP_X0_take, gw_314, gw_12, gw_315⟩
theorem NP_X0_next : gm_nP ({ cls := "GumBubble$Afternoon", name := "next", desc := "()I" } : Jvm.MethodName) 0 := by decide +kernel
theorem B_X0_next : gm_BI ({ cls := "GumBubble$Afternoon", name := "next", desc := "()I" } : Jvm.MethodName) prog_2_method_12_code 1 (some .int) 0 := ⟨MH_0, NP_X0_next, gw_318, gw_12, gw_319⟩
theorem NP_X0_put : gm_nP ({ cls := "GumBubble$Afternoon", name := "put", desc := "(I)V" } : Jvm.MethodName) 1 := by decide +kernel
theorem B_X0_put : gm_BI ({ cls := "GumBubble$Afternoon", name := "put", desc := "(I)V" } : Jvm.MethodName) prog_2_method_13_code 2 none 1 := ⟨MH_0, NP_X0_put, gw_459, gw_12, gw_460⟩
theorem NP_X0_addChange : gm_nP ({ cls := "GumBubble$Afternoon", name := "addChange", desc := "(I)V" } : Jvm.MethodName) 1 := by decide +kernel
theorem B_X0_addChange : gm_BI ({ cls := "GumBubble$Afternoon", name := "addChange", desc := "(I)V" } : Jvm.MethodName) prog_2_method_14_code 2 none 1 := ⟨MH_0, NP_X0_addChange, gw_463, gw_12, gw_464⟩
theorem NP_X0_isSo : gm_nP ({ cls := "GumBubble$Afternoon", name := "isSo", desc := "(IILGumBubble$Child;I)Z" } : Jvm.MethodName) 4 := by decide +kernel
theorem B_X0_isSo : gm_BI ({ cls := "GumBubble$Afternoon", name := "isSo", desc := "(IILGumBubble$Child;I)Z" } : Jvm.MethodName) prog_2_method_15_code 8 (some .boolean) 4 := ⟨MH_0, NP_X0_isSo, gw_488, gw_12, gw_489⟩
theorem NP_X0_passes : gm_nP ({ cls := "GumBubble$Afternoon", name := "passes", desc := "(ILGumBubble$Child;I)Z" } : Jvm.MethodName) 3 := by decide +kernel
theorem B_X0_passes : gm_BS ({ cls := "GumBubble$Afternoon", name := "passes", desc := "(ILGumBubble$Child;I)Z" } : Jvm.MethodName) prog_2_method_16_code 5 (some .boolean) 3 := ⟨MH_0, NP_X0_passes, gw_491, gw_12, gw_492⟩
theorem NP_X1_init : gm_nP ({ cls := "GumBubble$Careful", name := "<init>", desc := "(I)V" } : Jvm.MethodName) 1 := by decide +kernel
theorem B_X1_init : gm_BI ({ cls := "GumBubble$Careful", name := "<init>", desc := "(I)V" } : Jvm.MethodName) prog_3_method_1_code 2 none 1 := ⟨MH_1, NP_X1_init, gw_98, gw_9, gw_99⟩
theorem NP_X1_sugarChewed : gm_nP ({ cls := "GumBubble$Careful", name := "sugarChewed", desc := "(LGumBubble$Child;I)I" } : Jvm.MethodName) 2 := by decide +kernel
theorem B_X1_sugarChewed : gm_BI ({ cls := "GumBubble$Careful", name := "sugarChewed", desc := "(LGumBubble$Child;I)I" } : Jvm.MethodName) prog_3_method_2_code 3 (some .int) 2 := ⟨MH_1, NP_X1_sugarChewed, gw_499, gw_9, gw_500⟩
theorem NP_X1_jawTired : gm_nP ({ cls := "GumBubble$Careful", name := "jawTired", desc := "(LGumBubble$Child;)I" } : Jvm.MethodName) 1 := by decide +kernel
theorem B_X1_jawTired : gm_BI ({ cls := "GumBubble$Careful", name := "jawTired", desc := "(LGumBubble$Child;)I" } : Jvm.MethodName) prog_3_method_3_code 2 (some .int) 1 := ⟨MH_1, NP_X1_jawTired, gw_529, gw_9, gw_530⟩
theorem NP_X1_dares : gm_nP ({ cls := "GumBubble$Careful", name := "dares", desc := "(I)I" } : Jvm.MethodName) 1 := by decide +kernel
theorem B_X1_dares : gm_BI ({ cls := "GumBubble$Careful", name := "dares", desc := "(I)I" } : Jvm.MethodName) prog_3_method_4_code 2 (some .int) 1 := ⟨MH_1, NP_X1_dares, gw_556, gw_9, gw_557⟩
theorem NP_X1_chews : gm_nP ({ cls := "GumBubble$Careful", name := "chews", desc := "(LGumBubble$Rows;LGumBubble$Child;I)I" } : Jvm.MethodName) 3 := by decide +kernel
theorem B_X1_chews : gm_BI ({ cls := "GumBubble$Careful", name := "chews", desc := "(LGumBubble$Rows;LGumBubble$Child;I)I" } : Jvm.MethodName) prog_3_method_5_code 4 (some .int) 3 := ⟨MH_1, NP_X1_chews, gw_783, gw_9, gw_784⟩
theorem NP_X2_init : gm_nP ({ cls := "GumBubble$Child", name := "<init>", desc := "(ILGumBubble$Plain;)V" } : Jvm.MethodName) 2 := by decide +kernel
theorem B_X2_init : gm_BI ({ cls := "GumBubble$Child", name := "<init>", desc := "(ILGumBubble$Plain;)V" } : Jvm.MethodName) prog_4_method_1_code 3 none 2 := ⟨MH_2, NP_X2_init, gw_163, gw_13, gw_164⟩
theorem NP_X2_begin : gm_nP ({ cls := "GumBubble$Child", name := "begin", desc := "(LGumBubble$Plain;II)V" } : Jvm.MethodName) 3 := by decide +kernel
theorem B_X2_begin : gm_BI ({ cls := "GumBubble$Child", name := "begin", desc := "(LGumBubble$Plain;II)V" } : Jvm.MethodName) prog_4_method_2_code 5 none 3 := ⟨MH_2, NP_X2_begin, gw_471, gw_13, gw_473⟩
theorem NP_X2_copy : gm_nP ({ cls := "GumBubble$Child", name := "copy", desc := "(LGumBubble$Child;)V" } : Jvm.MethodName) 1 := by decide +kernel
theorem B_X2_copy : gm_BI ({ cls := "GumBubble$Child", name := "copy", desc := "(LGumBubble$Child;)V" } : Jvm.MethodName) prog_4_method_3_code 2 none 1 := ⟨MH_2, NP_X2_copy, gw_586, gw_13, gw_588⟩
theorem NP_X2_holds : gm_nP ({ cls := "GumBubble$Child", name := "holds", desc := "(LGumBubble$Afternoon;I)I" } : Jvm.MethodName) 2 := by decide +kernel
theorem B_X2_holds : gm_BI ({ cls := "GumBubble$Child", name := "holds", desc := "(LGumBubble$Afternoon;I)I" } : Jvm.MethodName) prog_4_method_4_code 5 (some .int) 2 := ⟨MH_2, NP_X2_holds, gw_546, gw_13, gw_548⟩
theorem NP_X2_passMinute : gm_nP ({ cls := "GumBubble$Child", name := "passMinute", desc := "(I)V" } : Jvm.MethodName) 1 := by decide +kernel
theorem B_X2_passMinute : gm_BI ({ cls := "GumBubble$Child", name := "passMinute", desc := "(I)V" } : Jvm.MethodName) prog_4_method_5_code 2 none 1 := ⟨MH_2, NP_X2_passMinute, gw_597, gw_13, gw_599⟩
theorem NP_X2_breathe : gm_nP ({ cls := "GumBubble$Child", name := "breathe", desc := "(II)Z" } : Jvm.MethodName) 2 := by decide +kernel
theorem B_X2_breathe : gm_BI ({ cls := "GumBubble$Child", name := "breathe", desc := "(II)Z" } : Jvm.MethodName) prog_4_method_6_code 3 (some .boolean) 2 := ⟨MH_2, NP_X2_breathe, gw_612, gw_13, gw_614⟩
theorem NP_X3_init : gm_nP ({ cls := "GumBubble$Cold", name := "<init>", desc := "(I)V" } : Jvm.MethodName) 1 := by decide +kernel
theorem B_X3_init : gm_BI ({ cls := "GumBubble$Cold", name := "<init>", desc := "(I)V" } : Jvm.MethodName) prog_5_method_1_code 2 none 1 := ⟨MH_3, NP_X3_init, gw_82, gw_7, gw_83⟩
theorem NP_X3_sugarChewed : gm_nP ({ cls := "GumBubble$Cold", name := "sugarChewed", desc := "(LGumBubble$Child;I)I" } : Jvm.MethodName) 2 := by decide +kernel
theorem B_X3_sugarChewed : gm_BI ({ cls := "GumBubble$Cold", name := "sugarChewed", desc := "(LGumBubble$Child;I)I" } : Jvm.MethodName) prog_5_method_2_code 3 (some .int) 2 := ⟨MH_3, NP_X3_sugarChewed, gw_506, gw_7, gw_507⟩
theorem NP_X3_jawTired : gm_nP ({ cls := "GumBubble$Cold", name := "jawTired", desc := "(LGumBubble$Child;)I" } : Jvm.MethodName) 1 := by decide +kernel
theorem B_X3_jawTired : gm_BI ({ cls := "GumBubble$Cold", name := "jawTired", desc := "(LGumBubble$Child;)I" } : Jvm.MethodName) prog_5_method_3_code 2 (some .int) 1 := ⟨MH_3, NP_X3_jawTired, gw_532, gw_7, gw_533⟩
theorem NP_X3_tells : gm_nP ({ cls := "GumBubble$Cold", name := "tells", desc := "(LGumBubble$Rows;LGumBubble$Child;I)I" } : Jvm.MethodName) 3 := by decide +kernel
theorem B_X3_tells : gm_BI ({ cls := "GumBubble$Cold", name := "tells", desc := "(LGumBubble$Rows;LGumBubble$Child;I)I" } : Jvm.MethodName) prog_5_method_4_code 4 (some .int) 3 := ⟨MH_3, NP_X3_tells, gw_828, gw_7, gw_829⟩
theorem NP_X4_init : gm_nP ({ cls := "GumBubble$Greedy", name := "<init>", desc := "(I)V" } : Jvm.MethodName) 1 := by decide +kernel
theorem B_X4_init : gm_BI ({ cls := "GumBubble$Greedy", name := "<init>", desc := "(I)V" } : Jvm.MethodName) prog_6_method_1_code 2 none 1 := ⟨MH_4, NP_X4_init, gw_90, gw_8, gw_91⟩
theorem NP_X4_sugarChewed : gm_nP ({ cls := "GumBubble$Greedy", name := "sugarChewed", desc := "(LGumBubble$Child;I)I" } : Jvm.MethodName) 2 := by decide +kernel
theorem B_X4_sugarChewed : gm_BI ({ cls := "GumBubble$Greedy", name := "sugarChewed", desc := "(LGumBubble$Child;I)I" } : Jvm.MethodName) prog_6_method_2_code 3 (some .int) 2 := ⟨MH_4, NP_X4_sugarChewed, gw_511, gw_8, gw_512⟩
theorem NP_X4_tells : gm_nP ({ cls := "GumBubble$Greedy", name := "tells", desc := "(LGumBubble$Rows;LGumBubble$Child;I)I" } : Jvm.MethodName) 3 := by decide +kernel
theorem B_X4_tells : gm_BI ({ cls := "GumBubble$Greedy", name := "tells", desc := "(LGumBubble$Rows;LGumBubble$Child;I)I" } : Jvm.MethodName) prog_6_method_3_code 4 (some .int) 3 := ⟨MH_4, NP_X4_tells, gw_833, gw_8, gw_834⟩
theorem NP_X5_init : gm_nP ({ cls := "GumBubble$Plain", name := "<init>", desc := "(I)V" } : Jvm.MethodName) 1 := by decide +kernel
theorem B_X5_init : gm_BI ({ cls := "GumBubble$Plain", name := "<init>", desc := "(I)V" } : Jvm.MethodName) prog_7_method_1_code 2 none 1 := ⟨MH_5, NP_X5_init, gw_54, gw_4, gw_55⟩
theorem NP_X5_sugarChewed : gm_nP ({ cls := "GumBubble$Plain", name := "sugarChewed", desc := "(LGumBubble$Child;I)I" } : Jvm.MethodName) 2 := by decide +kernel
theorem B_X5_sugarChewed : gm_BI ({ cls := "GumBubble$Plain", name := "sugarChewed", desc := "(LGumBubble$Child;I)I" } : Jvm.MethodName) prog_7_method_2_code 3 (some .int) 2 := ⟨MH_5, NP_X5_sugarChewed, gw_495, gw_4, gw_523⟩
theorem NP_X5_jawTired : gm_nP ({ cls := "GumBubble$Plain", name := "jawTired", desc := "(LGumBubble$Child;)I" } : Jvm.MethodName) 1 := by decide +kernel
theorem B_X5_jawTired : gm_BI ({ cls := "GumBubble$Plain", name := "jawTired", desc := "(LGumBubble$Child;)I" } : Jvm.MethodName) prog_7_method_3_code 2 (some .int) 1 := ⟨MH_5, NP_X5_jawTired, gw_525, gw_4, gw_540⟩
theorem NP_X5_dares : gm_nP ({ cls := "GumBubble$Plain", name := "dares", desc := "(I)I" } : Jvm.MethodName) 1 := by decide +kernel
theorem B_X5_dares : gm_BI ({ cls := "GumBubble$Plain", name := "dares", desc := "(I)I" } : Jvm.MethodName) prog_7_method_4_code 2 (some .int) 1 := ⟨MH_5, NP_X5_dares, gw_552, gw_4, gw_564⟩
theorem NP_X5_chews : gm_nP ({ cls := "GumBubble$Plain", name := "chews", desc := "(LGumBubble$Rows;LGumBubble$Child;I)I" } : Jvm.MethodName) 3 := by decide +kernel
theorem B_X5_chews : gm_BI ({ cls := "GumBubble$Plain", name := "chews", desc := "(LGumBubble$Rows;LGumBubble$Child;I)I" } : Jvm.MethodName) prog_7_method_5_code 4 (some .int) 3 := ⟨MH_5, NP_X5_chews, gw_779, gw_4, gw_798⟩
theorem NP_X5_blows : gm_nP ({ cls := "GumBubble$Plain", name := "blows", desc := "(LGumBubble$Rows;LGumBubble$Child;I)I" } : Jvm.MethodName) 3 := by decide +kernel
theorem B_X5_blows : gm_BI ({ cls := "GumBubble$Plain", name := "blows", desc := "(LGumBubble$Rows;LGumBubble$Child;I)I" } : Jvm.MethodName) prog_7_method_6_code 4 (some .int) 3 := ⟨MH_5, NP_X5_blows, gw_801, gw_4, gw_820⟩
theorem NP_X5_tells : gm_nP ({ cls := "GumBubble$Plain", name := "tells", desc := "(LGumBubble$Rows;LGumBubble$Child;I)I" } : Jvm.MethodName) 3 := by decide +kernel
theorem B_X5_tells : gm_BI ({ cls := "GumBubble$Plain", name := "tells", desc := "(LGumBubble$Rows;LGumBubble$Child;I)I" } : Jvm.MethodName) prog_7_method_7_code 4 (some .int) 3 := ⟨MH_5, NP_X5_tells, gw_823, gw_4, gw_846⟩
theorem NP_X6_init : gm_nP ({ cls := "GumBubble$Quick", name := "<init>", desc := "(I)V" } : Jvm.MethodName) 1 := by decide +kernel
theorem B_X6_init : gm_BI ({ cls := "GumBubble$Quick", name := "<init>", desc := "(I)V" } : Jvm.MethodName) prog_8_method_1_code 2 none 1 := ⟨MH_6, NP_X6_init, gw_66, gw_5, gw_67⟩
theorem NP_X6_sugarChewed : gm_nP ({ cls := "GumBubble$Quick", name := "sugarChewed", desc := "(LGumBubble$Child;I)I" } : Jvm.MethodName) 2 := by decide +kernel
theorem B_X6_sugarChewed : gm_BI ({ cls := "GumBubble$Quick", name := "sugarChewed", desc := "(LGumBubble$Child;I)I" } : Jvm.MethodName) prog_8_method_2_code 3 (some .int) 2 := ⟨MH_6, NP_X6_sugarChewed, gw_514, gw_5, gw_515⟩
theorem NP_X6_jawTired : gm_nP ({ cls := "GumBubble$Quick", name := "jawTired", desc := "(LGumBubble$Child;)I" } : Jvm.MethodName) 1 := by decide +kernel
theorem B_X6_jawTired : gm_BI ({ cls := "GumBubble$Quick", name := "jawTired", desc := "(LGumBubble$Child;)I" } : Jvm.MethodName) prog_8_method_3_code 2 (some .int) 1 := ⟨MH_6, NP_X6_jawTired, gw_535, gw_5, gw_536⟩
theorem NP_X6_chews : gm_nP ({ cls := "GumBubble$Quick", name := "chews", desc := "(LGumBubble$Rows;LGumBubble$Child;I)I" } : Jvm.MethodName) 3 := by decide +kernel
theorem B_X6_chews : gm_BI ({ cls := "GumBubble$Quick", name := "chews", desc := "(LGumBubble$Rows;LGumBubble$Child;I)I" } : Jvm.MethodName) prog_8_method_4_code 4 (some .int) 3 := ⟨MH_6, NP_X6_chews, gw_791, gw_5, gw_792⟩
theorem NP_X7_init : gm_nP ({ cls := "GumBubble$Rows", name := "<init>", desc := "(I)V" } : Jvm.MethodName) 1 := by decide +kernel
theorem B_X7_init : gm_BI ({ cls := "GumBubble$Rows", name := "<init>", desc := "(I)V" } : Jvm.MethodName) prog_9_method_1_code 2 none 1 := ⟨MH_7, NP_X7_init, gw_34, gw_2, gw_35⟩
theorem NP_X7_isFull : gm_nP ({ cls := "GumBubble$Rows", name := "isFull", desc := "()Z" } : Jvm.MethodName) 0 := by decide +kernel
theorem B_X7_isFull : gm_BI ({ cls := "GumBubble$Rows", name := "isFull", desc := "()Z" } : Jvm.MethodName) prog_9_method_2_code 1 (some .boolean) 0 := ⟨MH_7, NP_X7_isFull, gw_715, gw_2, gw_717⟩
theorem NP_X7_isKept : gm_nP ({ cls := "GumBubble$Rows", name := "isKept", desc := "(I)Z" } : Jvm.MethodName) 1 := by decide +kernel
theorem B_X7_isKept : gm_BI ({ cls := "GumBubble$Rows", name := "isKept", desc := "(I)Z" } : Jvm.MethodName) prog_9_method_3_code 2 (some .boolean) 1 := ⟨MH_7, NP_X7_isKept, gw_739, gw_2, gw_741⟩
theorem NP_X7_cell : gm_nP ({ cls := "GumBubble$Rows", name := "cell", desc := "(II)I" } : Jvm.MethodName) 2 := by decide +kernel
theorem B_X7_cell : gm_BI ({ cls := "GumBubble$Rows", name := "cell", desc := "(II)I" } : Jvm.MethodName) prog_9_method_4_code 3 (some .int) 2 := ⟨MH_7, NP_X7_cell, gw_735, gw_2, gw_737⟩
theorem NP_X7_add : gm_nP ({ cls := "GumBubble$Rows", name := "add", desc := "(III)I" } : Jvm.MethodName) 3 := by decide +kernel
theorem B_X7_add : gm_BI ({ cls := "GumBubble$Rows", name := "add", desc := "(III)I" } : Jvm.MethodName) prog_9_method_5_code 4 (some .int) 3 := ⟨MH_7, NP_X7_add, gw_719, gw_2, gw_721⟩
theorem NP_X7_clear : gm_nP ({ cls := "GumBubble$Rows", name := "clear", desc := "()I" } : Jvm.MethodName) 0 := by decide +kernel
theorem B_X7_clear : gm_BI ({ cls := "GumBubble$Rows", name := "clear", desc := "()I" } : Jvm.MethodName) prog_9_method_6_code 1 (some .int) 0 := ⟨MH_7, NP_X7_clear, gw_711, gw_2, gw_713⟩
theorem NP_X7_copy : gm_nP ({ cls := "GumBubble$Rows", name := "copy", desc := "(LGumBubble$Rows;)V" } : Jvm.MethodName) 1 := by decide +kernel
theorem B_X7_copy : gm_BI ({ cls := "GumBubble$Rows", name := "copy", desc := "(LGumBubble$Rows;)V" } : Jvm.MethodName) prog_9_method_7_code 2 none 1 := ⟨MH_7, NP_X7_copy, gw_871, gw_2, gw_873⟩
theorem NP_X8_init : gm_nP ({ cls := "GumBubble$Scene", name := "<init>", desc := "(LGumBubble$Plain;)V" } : Jvm.MethodName) 1 := by decide +kernel
theorem B_X8_init : gm_BI ({ cls := "GumBubble$Scene", name := "<init>", desc := "(LGumBubble$Plain;)V" } : Jvm.MethodName) prog_10_method_1_code 3 none 1 := ⟨MH_8, NP_X8_init, gw_114, gw_11, gw_115⟩
theorem NP_X8_copy : gm_nP ({ cls := "GumBubble$Scene", name := "copy", desc := "(LGumBubble$Scene;)V" } : Jvm.MethodName) 1 := by decide +kernel
theorem B_X8_copy : gm_BI ({ cls := "GumBubble$Scene", name := "copy", desc := "(LGumBubble$Scene;)V" } : Jvm.MethodName) prog_10_method_2_code 3 none 1 := ⟨MH_8, NP_X8_copy, gw_865, gw_11, gw_867⟩
theorem NP_X9_init : gm_nP ({ cls := "GumBubble$Slow", name := "<init>", desc := "(I)V" } : Jvm.MethodName) 1 := by decide +kernel
theorem B_X9_init : gm_BI ({ cls := "GumBubble$Slow", name := "<init>", desc := "(I)V" } : Jvm.MethodName) prog_11_method_1_code 2 none 1 := ⟨MH_9, NP_X9_init, gw_74, gw_6, gw_75⟩
theorem NP_X9_sugarChewed : gm_nP ({ cls := "GumBubble$Slow", name := "sugarChewed", desc := "(LGumBubble$Child;I)I" } : Jvm.MethodName) 2 := by decide +kernel
theorem B_X9_sugarChewed : gm_BI ({ cls := "GumBubble$Slow", name := "sugarChewed", desc := "(LGumBubble$Child;I)I" } : Jvm.MethodName) prog_11_method_2_code 3 (some .int) 2 := ⟨MH_9, NP_X9_sugarChewed, gw_502, gw_6, gw_503⟩
theorem NP_X9_blows : gm_nP ({ cls := "GumBubble$Slow", name := "blows", desc := "(LGumBubble$Rows;LGumBubble$Child;I)I" } : Jvm.MethodName) 3 := by decide +kernel
theorem B_X9_blows : gm_BI ({ cls := "GumBubble$Slow", name := "blows", desc := "(LGumBubble$Rows;LGumBubble$Child;I)I" } : Jvm.MethodName) prog_11_method_3_code 4 (some .int) 3 := ⟨MH_9, NP_X9_blows, gw_805, gw_6, gw_806⟩
theorem NP_X10_init : gm_nP ({ cls := "GumBubble$Told", name := "<init>", desc := "(I)V" } : Jvm.MethodName) 1 := by decide +kernel
theorem B_X10_init : gm_BI ({ cls := "GumBubble$Told", name := "<init>", desc := "(I)V" } : Jvm.MethodName) prog_12_method_1_code 2 none 1 := ⟨MH_10, NP_X10_init, gw_106, gw_10, gw_107⟩
theorem NP_X10_sugarChewed : gm_nP ({ cls := "GumBubble$Told", name := "sugarChewed", desc := "(LGumBubble$Child;I)I" } : Jvm.MethodName) 2 := by decide +kernel
theorem B_X10_sugarChewed : gm_BI ({ cls := "GumBubble$Told", name := "sugarChewed", desc := "(LGumBubble$Child;I)I" } : Jvm.MethodName) prog_12_method_2_code 3 (some .int) 2 := ⟨MH_10, NP_X10_sugarChewed, gw_520, gw_10, gw_521⟩
theorem NP_X10_blows : gm_nP ({ cls := "GumBubble$Told", name := "blows", desc := "(LGumBubble$Rows;LGumBubble$Child;I)I" } : Jvm.MethodName) 3 := by decide +kernel
theorem B_X10_blows : gm_BI ({ cls := "GumBubble$Told", name := "blows", desc := "(LGumBubble$Rows;LGumBubble$Child;I)I" } : Jvm.MethodName) prog_12_method_3_code 4 (some .int) 3 := ⟨MH_10, NP_X10_blows, gw_814, gw_10, gw_815⟩
theorem NP_X11_init : gm_nP ({ cls := "GumBubble", name := "<init>", desc := "()V" } : Jvm.MethodName) 0 := by decide +kernel
theorem B_X11_init : gm_BI ({ cls := "GumBubble", name := "<init>", desc := "()V" } : Jvm.MethodName) prog_1_method_1_code 2 none 0 := ⟨MH_11, NP_X11_init, gw_24, gw_1, gw_25⟩
theorem NP_X11_feed : gm_nP ({ cls := "GumBubble", name := "feed", desc := "(I)I" } : Jvm.MethodName) 1 := by decide +kernel
theorem B_X11_feed : gm_BI ({ cls := "GumBubble", name := "feed", desc := "(I)I" } : Jvm.MethodName) prog_1_method_2_code 2 (some .int) 1 := ⟨MH_11, NP_X11_feed, gw_293, gw_1, gw_295⟩
theorem NP_X11_afternoon : gm_nP ({ cls := "GumBubble", name := "afternoon", desc := "()I" } : Jvm.MethodName) 0 := by decide +kernel
theorem B_X11_afternoon : gm_BI ({ cls := "GumBubble", name := "afternoon", desc := "()I" } : Jvm.MethodName) prog_1_method_3_code 3 (some .int) 0 := ⟨MH_11, NP_X11_afternoon, gw_300, gw_1, gw_302⟩
theorem NP_X11_child : gm_nP ({ cls := "GumBubble", name := "child", desc := "(II)I" } : Jvm.MethodName) 2 := by decide +kernel
theorem B_X11_child : gm_BI ({ cls := "GumBubble", name := "child", desc := "(II)I" } : Jvm.MethodName) prog_1_method_4_code 3 (some .int) 2 := ⟨MH_11, NP_X11_child, gw_467, gw_1, gw_469⟩
theorem NP_X11_of : gm_nP ({ cls := "GumBubble", name := "of", desc := "(II)I" } : Jvm.MethodName) 2 := by decide +kernel
theorem B_X11_of : gm_BI ({ cls := "GumBubble", name := "of", desc := "(II)I" } : Jvm.MethodName) prog_1_method_5_code 4 (some .int) 2 := ⟨MH_11, NP_X11_of, gw_475, gw_1, gw_477⟩
theorem NP_X11_row : gm_nP ({ cls := "GumBubble", name := "row", desc := "(III)I" } : Jvm.MethodName) 3 := by decide +kernel
theorem B_X11_row : gm_BI ({ cls := "GumBubble", name := "row", desc := "(III)I" } : Jvm.MethodName) prog_1_method_6_code 6 (some .int) 3 := ⟨MH_11, NP_X11_row, gw_566, gw_1, gw_568⟩
theorem NP_X11_set : gm_nP ({ cls := "GumBubble", name := "set", desc := "(III)I" } : Jvm.MethodName) 3 := by decide +kernel
theorem B_X11_set : gm_BI ({ cls := "GumBubble", name := "set", desc := "(III)I" } : Jvm.MethodName) prog_1_method_7_code 7 (some .int) 3 := ⟨MH_11, NP_X11_set, gw_570, gw_1, gw_572⟩
theorem NP_X11_told : gm_nP ({ cls := "GumBubble", name := "told", desc := "(I)I" } : Jvm.MethodName) 1 := by decide +kernel
theorem B_X11_told : gm_BI ({ cls := "GumBubble", name := "told", desc := "(I)I" } : Jvm.MethodName) prog_1_method_8_code 2 (some .int) 1 := ⟨MH_11, NP_X11_told, gw_574, gw_1, gw_576⟩
theorem NP_X11_blow : gm_nP ({ cls := "GumBubble", name := "blow", desc := "(II)I" } : Jvm.MethodName) 2 := by decide +kernel
theorem B_X11_blow : gm_BI ({ cls := "GumBubble", name := "blow", desc := "(II)I" } : Jvm.MethodName) prog_1_method_9_code 5 (some .int) 2 := ⟨MH_11, NP_X11_blow, gw_608, gw_1, gw_610⟩
theorem NP_X11_pass : gm_nP ({ cls := "GumBubble", name := "pass", desc := "(I)I" } : Jvm.MethodName) 1 := by decide +kernel
theorem B_X11_pass : gm_BI ({ cls := "GumBubble", name := "pass", desc := "(I)I" } : Jvm.MethodName) prog_1_method_10_code 4 (some .int) 1 := ⟨MH_11, NP_X11_pass, gw_616, gw_1, gw_618⟩
theorem NP_X11_on : gm_nP ({ cls := "GumBubble", name := "on", desc := "(II)I" } : Jvm.MethodName) 2 := by decide +kernel
theorem B_X11_on : gm_BI ({ cls := "GumBubble", name := "on", desc := "(II)I" } : Jvm.MethodName) prog_1_method_11_code 5 (some .int) 2 := ⟨MH_11, NP_X11_on, gw_620, gw_1, gw_622⟩
theorem NP_X11_when : gm_nP ({ cls := "GumBubble", name := "when", desc := "(II)I" } : Jvm.MethodName) 2 := by decide +kernel
theorem B_X11_when : gm_BI ({ cls := "GumBubble", name := "when", desc := "(II)I" } : Jvm.MethodName) prog_1_method_12_code 3 (some .int) 2 := ⟨MH_11, NP_X11_when, gw_624, gw_1, gw_626⟩
theorem NP_X11_soon : gm_nP ({ cls := "GumBubble", name := "soon", desc := "(II)I" } : Jvm.MethodName) 2 := by decide +kernel
theorem B_X11_soon : gm_BI ({ cls := "GumBubble", name := "soon", desc := "(II)I" } : Jvm.MethodName) prog_1_method_13_code 4 (some .int) 2 := ⟨MH_11, NP_X11_soon, gw_632, gw_1, gw_634⟩
theorem NP_X11_pieces : gm_nP ({ cls := "GumBubble", name := "pieces", desc := "(II)I" } : Jvm.MethodName) 2 := by decide +kernel
theorem B_X11_pieces : gm_BI ({ cls := "GumBubble", name := "pieces", desc := "(II)I" } : Jvm.MethodName) prog_1_method_14_code 7 (some .int) 2 := ⟨MH_11, NP_X11_pieces, gw_636, gw_1, gw_638⟩
theorem NP_X11_breaths : gm_nP ({ cls := "GumBubble", name := "breaths", desc := "(II)I" } : Jvm.MethodName) 2 := by decide +kernel
theorem B_X11_breaths : gm_BI ({ cls := "GumBubble", name := "breaths", desc := "(II)I" } : Jvm.MethodName) prog_1_method_15_code 3 (some .int) 2 := ⟨MH_11, NP_X11_breaths, gw_640, gw_1, gw_642⟩
theorem NP_X11_slack : gm_nP ({ cls := "GumBubble", name := "slack", desc := "(I)I" } : Jvm.MethodName) 1 := by decide +kernel
theorem B_X11_slack : gm_BI ({ cls := "GumBubble", name := "slack", desc := "(I)I" } : Jvm.MethodName) prog_1_method_16_code 2 (some .int) 1 := ⟨MH_11, NP_X11_slack, gw_645, gw_1, gw_647⟩
theorem NP_X11_likely : gm_nP ({ cls := "GumBubble", name := "likely", desc := "(III)J" } : Jvm.MethodName) 3 := by decide +kernel
theorem B_X11_likely : gm_BI ({ cls := "GumBubble", name := "likely", desc := "(III)J" } : Jvm.MethodName) prog_1_method_17_code 4 (some .long) 3 := ⟨MH_11, NP_X11_likely, gw_649, gw_1, gw_651⟩
theorem NP_X11_dare : gm_nP ({ cls := "GumBubble", name := "dare", desc := "(I)I" } : Jvm.MethodName) 1 := by decide +kernel
theorem B_X11_dare : gm_BI ({ cls := "GumBubble", name := "dare", desc := "(I)I" } : Jvm.MethodName) prog_1_method_18_code 8 (some .int) 1 := ⟨MH_11, NP_X11_dare, gw_669, gw_1, gw_671⟩
theorem NP_X11_first : gm_nP ({ cls := "GumBubble", name := "first", desc := "()I" } : Jvm.MethodName) 0 := by decide +kernel
theorem B_X11_first : gm_BI ({ cls := "GumBubble", name := "first", desc := "()I" } : Jvm.MethodName) prog_1_method_19_code 5 (some .int) 0 := ⟨MH_11, NP_X11_first, gw_674, gw_1, gw_676⟩
theorem NP_X11_beats : gm_nP ({ cls := "GumBubble", name := "beats", desc := "(III)J" } : Jvm.MethodName) 3 := by decide +kernel
theorem B_X11_beats : gm_BI ({ cls := "GumBubble", name := "beats", desc := "(III)J" } : Jvm.MethodName) prog_1_method_20_code 8 (some .long) 3 := ⟨MH_11, NP_X11_beats, gw_678, gw_1, gw_680⟩
theorem NP_X11_swap : gm_nP ({ cls := "GumBubble", name := "swap", desc := "()I" } : Jvm.MethodName) 0 := by decide +kernel
theorem B_X11_swap : gm_BI ({ cls := "GumBubble", name := "swap", desc := "()I" } : Jvm.MethodName) prog_1_method_21_code 6 (some .int) 0 := ⟨MH_11, NP_X11_swap, gw_682, gw_1, gw_684⟩
theorem NP_X11_order : gm_nP ({ cls := "GumBubble", name := "order", desc := "(I)I" } : Jvm.MethodName) 1 := by decide +kernel
theorem B_X11_order : gm_BI ({ cls := "GumBubble", name := "order", desc := "(I)I" } : Jvm.MethodName) prog_1_method_22_code 3 (some .int) 1 := ⟨MH_11, NP_X11_order, gw_690, gw_1, gw_692⟩
theorem NP_X11_clean : gm_nP ({ cls := "GumBubble", name := "clean", desc := "(II)I" } : Jvm.MethodName) 2 := by decide +kernel
theorem B_X11_clean : gm_BI ({ cls := "GumBubble", name := "clean", desc := "(II)I" } : Jvm.MethodName) prog_1_method_23_code 3 (some .int) 2 := ⟨MH_11, NP_X11_clean, gw_703, gw_1, gw_705⟩
theorem NP_X11_see : gm_nP ({ cls := "GumBubble", name := "see", desc := "(III)I" } : Jvm.MethodName) 3 := by decide +kernel
theorem B_X11_see : gm_BI ({ cls := "GumBubble", name := "see", desc := "(III)I" } : Jvm.MethodName) prog_1_method_24_code 4 (some .int) 3 := ⟨MH_11, NP_X11_see, gw_707, gw_1, gw_709⟩
theorem NP_X11_who : gm_nP ({ cls := "GumBubble", name := "who", desc := "(II)I" } : Jvm.MethodName) 2 := by decide +kernel
theorem B_X11_who : gm_BI ({ cls := "GumBubble", name := "who", desc := "(II)I" } : Jvm.MethodName) prog_1_method_25_code 5 (some .int) 2 := ⟨MH_11, NP_X11_who, gw_723, gw_1, gw_725⟩
theorem NP_X11_firm : gm_nP ({ cls := "GumBubble", name := "firm", desc := "(II)I" } : Jvm.MethodName) 2 := by decide +kernel
theorem B_X11_firm : gm_BI ({ cls := "GumBubble", name := "firm", desc := "(II)I" } : Jvm.MethodName) prog_1_method_26_code 6 (some .int) 2 := ⟨MH_11, NP_X11_firm, gw_727, gw_1, gw_729⟩
theorem NP_X11_had : gm_nP ({ cls := "GumBubble", name := "had", desc := "(I)I" } : Jvm.MethodName) 1 := by decide +kernel
theorem B_X11_had : gm_BI ({ cls := "GumBubble", name := "had", desc := "(I)I" } : Jvm.MethodName) prog_1_method_27_code 4 (some .int) 1 := ⟨MH_11, NP_X11_had, gw_743, gw_1, gw_745⟩
theorem NP_X11_mean : gm_nP ({ cls := "GumBubble", name := "mean", desc := "(II)J" } : Jvm.MethodName) 2 := by decide +kernel
theorem B_X11_mean : gm_BI ({ cls := "GumBubble", name := "mean", desc := "(II)J" } : Jvm.MethodName) prog_1_method_28_code 3 (some .long) 2 := ⟨MH_11, NP_X11_mean, gw_747, gw_1, gw_749⟩
theorem NP_X11_plan : gm_nP ({ cls := "GumBubble", name := "plan", desc := "(II)I" } : Jvm.MethodName) 2 := by decide +kernel
theorem B_X11_plan : gm_BI ({ cls := "GumBubble", name := "plan", desc := "(II)I" } : Jvm.MethodName) prog_1_method_29_code 3 (some .int) 2 := ⟨MH_11, NP_X11_plan, gw_751, gw_1, gw_753⟩
theorem NP_X11_done : gm_nP ({ cls := "GumBubble", name := "done", desc := "(I)I" } : Jvm.MethodName) 1 := by decide +kernel
theorem B_X11_done : gm_BI ({ cls := "GumBubble", name := "done", desc := "(I)I" } : Jvm.MethodName) prog_1_method_30_code 4 (some .int) 1 := ⟨MH_11, NP_X11_done, gw_755, gw_1, gw_757⟩
theorem NP_X11_book : gm_nP ({ cls := "GumBubble", name := "book", desc := "(II)I" } : Jvm.MethodName) 2 := by decide +kernel
theorem B_X11_book : gm_BI ({ cls := "GumBubble", name := "book", desc := "(II)I" } : Jvm.MethodName) prog_1_method_31_code 3 (some .int) 2 := ⟨MH_11, NP_X11_book, gw_767, gw_1, gw_769⟩
theorem NP_X11_looked : gm_nP ({ cls := "GumBubble", name := "looked", desc := "()I" } : Jvm.MethodName) 0 := by decide +kernel
theorem B_X11_looked : gm_BI ({ cls := "GumBubble", name := "looked", desc := "()I" } : Jvm.MethodName) prog_1_method_32_code 3 (some .int) 0 := ⟨MH_11, NP_X11_looked, gw_771, gw_1, gw_773⟩
theorem NP_X11_act : gm_nP ({ cls := "GumBubble", name := "act", desc := "(III)I" } : Jvm.MethodName) 3 := by decide +kernel
theorem B_X11_act : gm_BI ({ cls := "GumBubble", name := "act", desc := "(III)I" } : Jvm.MethodName) prog_1_method_33_code 5 (some .int) 3 := ⟨MH_11, NP_X11_act, gw_775, gw_1, gw_777⟩
theorem NP_X11_trace : gm_nP ({ cls := "GumBubble", name := "trace", desc := "(I)I" } : Jvm.MethodName) 1 := by decide +kernel
theorem B_X11_trace : gm_BI ({ cls := "GumBubble", name := "trace", desc := "(I)I" } : Jvm.MethodName) prog_1_method_34_code 2 (some .int) 1 := ⟨MH_11, NP_X11_trace, gw_849, gw_1, gw_851⟩
theorem NP_X11_as : gm_nP ({ cls := "GumBubble", name := "as", desc := "(II)I" } : Jvm.MethodName) 2 := by decide +kernel
theorem B_X11_as : gm_BI ({ cls := "GumBubble", name := "as", desc := "(II)I" } : Jvm.MethodName) prog_1_method_35_code 4 (some .int) 2 := ⟨MH_11, NP_X11_as, gw_854, gw_1, gw_856⟩
theorem NP_X11_image : gm_nP ({ cls := "GumBubble", name := "image", desc := "()I" } : Jvm.MethodName) 0 := by decide +kernel
theorem B_X11_image : gm_BI ({ cls := "GumBubble", name := "image", desc := "()I" } : Jvm.MethodName) prog_1_method_36_code 1 (some .int) 0 := ⟨MH_11, NP_X11_image, gw_861, gw_1, gw_863⟩
theorem NP_X11_undo : gm_nP ({ cls := "GumBubble", name := "undo", desc := "()I" } : Jvm.MethodName) 0 := by decide +kernel
theorem B_X11_undo : gm_BI ({ cls := "GumBubble", name := "undo", desc := "()I" } : Jvm.MethodName) prog_1_method_37_code 1 (some .int) 0 := ⟨MH_11, NP_X11_undo, gw_877, gw_1, gw_879⟩
theorem NP_X11_count : gm_nP ({ cls := "GumBubble", name := "count", desc := "(I)I" } : Jvm.MethodName) 1 := by decide +kernel
theorem B_X11_count : gm_BI ({ cls := "GumBubble", name := "count", desc := "(I)I" } : Jvm.MethodName) prog_1_method_38_code 2 (some .int) 1 := ⟨MH_11, NP_X11_count, gw_881, gw_1, gw_883⟩
theorem NP_X11_isOutside : gm_nP ({ cls := "GumBubble", name := "isOutside", desc := "(III)Z" } : Jvm.MethodName) 3 := by decide +kernel
theorem B_X11_isOutside : gm_BS ({ cls := "GumBubble", name := "isOutside", desc := "(III)Z" } : Jvm.MethodName) prog_1_method_39_code 3 (some .boolean) 3 := ⟨MH_11, NP_X11_isOutside, gw_297, gw_1, gw_298⟩
theorem NP_X11_isNobody : gm_nP ({ cls := "GumBubble", name := "isNobody", desc := "(I)Z" } : Jvm.MethodName) 1 := by decide +kernel
theorem B_X11_isNobody : gm_BI ({ cls := "GumBubble", name := "isNobody", desc := "(I)Z" } : Jvm.MethodName) prog_1_method_40_code 2 (some .boolean) 1 := ⟨MH_11, NP_X11_isNobody, gw_480, gw_1, gw_481⟩
theorem NP_X11_bubbleBits : gm_nP ({ cls := "GumBubble", name := "bubbleBits", desc := "()I" } : Jvm.MethodName) 0 := by decide +kernel
theorem B_X11_bubbleBits : gm_BI ({ cls := "GumBubble", name := "bubbleBits", desc := "()I" } : Jvm.MethodName) prog_1_method_41_code 3 (some .int) 0 := ⟨MH_11, NP_X11_bubbleBits, gw_605, gw_1, gw_606⟩
theorem NP_X11_holdsNow : gm_nP ({ cls := "GumBubble", name := "holdsNow", desc := "(I)I" } : Jvm.MethodName) 1 := by decide +kernel
theorem B_X11_holdsNow : gm_BI ({ cls := "GumBubble", name := "holdsNow", desc := "(I)I" } : Jvm.MethodName) prog_1_method_42_code 2 (some .int) 1 := ⟨MH_11, NP_X11_holdsNow, gw_543, gw_1, gw_544⟩
theorem NP_X11_holdsBehind : gm_nP ({ cls := "GumBubble", name := "holdsBehind", desc := "(II)I" } : Jvm.MethodName) 2 := by decide +kernel
theorem B_X11_holdsBehind : gm_BI ({ cls := "GumBubble", name := "holdsBehind", desc := "(II)I" } : Jvm.MethodName) prog_1_method_43_code 3 (some .int) 2 := ⟨MH_11, NP_X11_holdsBehind, gw_583, gw_1, gw_584⟩
theorem NP_X11_trialBehind : gm_nP ({ cls := "GumBubble", name := "trialBehind", desc := "(I)I" } : Jvm.MethodName) 1 := by decide +kernel
theorem B_X11_trialBehind : gm_BI ({ cls := "GumBubble", name := "trialBehind", desc := "(I)I" } : Jvm.MethodName) prog_1_method_44_code 3 (some .int) 1 := ⟨MH_11, NP_X11_trialBehind, gw_594, gw_1, gw_595⟩
theorem NP_X11_sumBehind : gm_nP ({ cls := "GumBubble", name := "sumBehind", desc := "(I)I" } : Jvm.MethodName) 1 := by decide +kernel
theorem B_X11_sumBehind : gm_BI ({ cls := "GumBubble", name := "sumBehind", desc := "(I)I" } : Jvm.MethodName) prog_1_method_45_code 4 (some .int) 1 := ⟨MH_11, NP_X11_sumBehind, gw_579, gw_1, gw_580⟩
theorem NP_X11_trialWhen : gm_nP ({ cls := "GumBubble", name := "trialWhen", desc := "(I)I" } : Jvm.MethodName) 1 := by decide +kernel
theorem B_X11_trialWhen : gm_BI ({ cls := "GumBubble", name := "trialWhen", desc := "(I)I" } : Jvm.MethodName) prog_1_method_46_code 6 (some .int) 1 := ⟨MH_11, NP_X11_trialWhen, gw_629, gw_1, gw_630⟩
theorem NP_X11_thinned : gm_nP ({ cls := "GumBubble", name := "thinned", desc := "(II)I" } : Jvm.MethodName) 2 := by decide +kernel
theorem B_X11_thinned : gm_BS ({ cls := "GumBubble", name := "thinned", desc := "(II)I" } : Jvm.MethodName) prog_1_method_47_code 2 (some .int) 2 := ⟨MH_11, NP_X11_thinned, gw_660, gw_1, gw_661⟩
theorem NP_X11_thinsBearing : gm_nP ({ cls := "GumBubble", name := "thinsBearing", desc := "(II)I" } : Jvm.MethodName) 2 := by decide +kernel
theorem B_X11_thinsBearing : gm_BS ({ cls := "GumBubble", name := "thinsBearing", desc := "(II)I" } : Jvm.MethodName) prog_1_method_48_code 2 (some .int) 2 := ⟨MH_11, NP_X11_thinsBearing, gw_654, gw_1, gw_655⟩
theorem NP_X11_thinsBelow : gm_nP ({ cls := "GumBubble", name := "thinsBelow", desc := "(II)I" } : Jvm.MethodName) 2 := by decide +kernel
theorem B_X11_thinsBelow : gm_BS ({ cls := "GumBubble", name := "thinsBelow", desc := "(II)I" } : Jvm.MethodName) prog_1_method_49_code 4 (some .int) 2 := ⟨MH_11, NP_X11_thinsBelow, gw_657, gw_1, gw_658⟩
theorem NP_X11_fraction : gm_nP ({ cls := "GumBubble", name := "fraction", desc := "(III)J" } : Jvm.MethodName) 3 := by decide +kernel
theorem B_X11_fraction : gm_BS ({ cls := "GumBubble", name := "fraction", desc := "(III)J" } : Jvm.MethodName) prog_1_method_50_code 4 (some .long) 3 := ⟨MH_11, NP_X11_fraction, gw_663, gw_1, gw_664⟩
theorem NP_X11_greatestCommon : gm_nP ({ cls := "GumBubble", name := "greatestCommon", desc := "(II)I" } : Jvm.MethodName) 2 := by decide +kernel
theorem B_X11_greatestCommon : gm_BS ({ cls := "GumBubble", name := "greatestCommon", desc := "(II)I" } : Jvm.MethodName) prog_1_method_51_code 4 (some .int) 2 := ⟨MH_11, NP_X11_greatestCommon, gw_666, gw_1, gw_667⟩
theorem NP_X11_holdsWithGumOf : gm_nP ({ cls := "GumBubble", name := "holdsWithGumOf", desc := "(II)I" } : Jvm.MethodName) 2 := by decide +kernel
theorem B_X11_holdsWithGumOf : gm_BI ({ cls := "GumBubble", name := "holdsWithGumOf", desc := "(II)I" } : Jvm.MethodName) prog_1_method_52_code 3 (some .int) 2 := ⟨MH_11, NP_X11_holdsWithGumOf, gw_687, gw_1, gw_688⟩
theorem NP_X11_fillBehind : gm_nP ({ cls := "GumBubble", name := "fillBehind", desc := "(I)V" } : Jvm.MethodName) 1 := by decide +kernel
theorem B_X11_fillBehind : gm_BI ({ cls := "GumBubble", name := "fillBehind", desc := "(I)V" } : Jvm.MethodName) prog_1_method_53_code 3 none 1 := ⟨MH_11, NP_X11_fillBehind, gw_695, gw_1, gw_696⟩
theorem NP_X11_arrange : gm_nP ({ cls := "GumBubble", name := "arrange", desc := "(III)V" } : Jvm.MethodName) 3 := by decide +kernel
theorem B_X11_arrange : gm_BI ({ cls := "GumBubble", name := "arrange", desc := "(III)V" } : Jvm.MethodName) prog_1_method_54_code 5 none 3 := ⟨MH_11, NP_X11_arrange, gw_699, gw_1, gw_700⟩
theorem NP_X11_isAllSeen : gm_nP ({ cls := "GumBubble", name := "isAllSeen", desc := "(III)Z" } : Jvm.MethodName) 3 := by decide +kernel
theorem B_X11_isAllSeen : gm_BI ({ cls := "GumBubble", name := "isAllSeen", desc := "(III)Z" } : Jvm.MethodName) prog_1_method_55_code 6 (some .boolean) 3 := ⟨MH_11, NP_X11_isAllSeen, gw_732, gw_1, gw_733⟩
theorem NP_X11_tryPlan : gm_nP ({ cls := "GumBubble", name := "tryPlan", desc := "()V" } : Jvm.MethodName) 0 := by decide +kernel
theorem B_X11_tryPlan : gm_BI ({ cls := "GumBubble", name := "tryPlan", desc := "()V" } : Jvm.MethodName) prog_1_method_56_code 4 none 0 := ⟨MH_11, NP_X11_tryPlan, gw_760, gw_1, gw_761⟩
theorem NP_X11_tryPlanRow : gm_nP ({ cls := "GumBubble", name := "tryPlanRow", desc := "(II)V" } : Jvm.MethodName) 2 := by decide +kernel
theorem B_X11_tryPlanRow : gm_BI ({ cls := "GumBubble", name := "tryPlanRow", desc := "(II)V" } : Jvm.MethodName) prog_1_method_57_code 3 none 2 := ⟨MH_11, NP_X11_tryPlanRow, gw_764, gw_1, gw_765⟩
theorem NP_X11_isUnder : gm_nP ({ cls := "GumBubble", name := "isUnder", desc := "(LGumBubble$Plain;I)Z" } : Jvm.MethodName) 2 := by decide +kernel
theorem B_X11_isUnder : gm_BS ({ cls := "GumBubble", name := "isUnder", desc := "(LGumBubble$Plain;I)Z" } : Jvm.MethodName) prog_1_method_58_code 2 (some .boolean) 2 := ⟨MH_11, NP_X11_isUnder, gw_858, gw_1, gw_859⟩
theorem NP_X12_init : gm_nP ({ cls := "GumBubbleModel", name := "<init>", desc := "()V" } : Jvm.MethodName) 0 := by decide +kernel
theorem B_X12_init : gm_BI ({ cls := "GumBubbleModel", name := "<init>", desc := "()V" } : Jvm.MethodName) prog_14_method_1_code 1 none 0 := ⟨MH_12, NP_X12_init, gw_887, gw_14, gw_888⟩
theorem NP_X12_in : gm_nP ({ cls := "GumBubbleModel", name := "in", desc := "(III)Z" } : Jvm.MethodName) 3 := by decide +kernel
theorem B_X12_in : gm_BS ({ cls := "GumBubbleModel", name := "in", desc := "(III)Z" } : Jvm.MethodName) prog_14_method_3_code 3 (some .boolean) 3 := ⟨MH_12, NP_X12_in, gw_965, gw_14, gw_966⟩
theorem NP_X12_within : gm_nP ({ cls := "GumBubbleModel", name := "within", desc := "(III)I" } : Jvm.MethodName) 3 := by decide +kernel
theorem B_X12_within : gm_BS ({ cls := "GumBubbleModel", name := "within", desc := "(III)I" } : Jvm.MethodName) prog_14_method_4_code 3 (some .int) 3 := ⟨MH_12, NP_X12_within, gw_1061, gw_14, gw_1062⟩
theorem NP_X12_above : gm_nP ({ cls := "GumBubbleModel", name := "above", desc := "(I)I" } : Jvm.MethodName) 1 := by decide +kernel
theorem B_X12_above : gm_BS ({ cls := "GumBubbleModel", name := "above", desc := "(I)I" } : Jvm.MethodName) prog_14_method_5_code 1 (some .int) 1 := ⟨MH_12, NP_X12_above, gw_1068, gw_14, gw_1069⟩
theorem NP_X12_isChild : gm_nP ({ cls := "GumBubbleModel", name := "isChild", desc := "(I)Z" } : Jvm.MethodName) 1 := by decide +kernel
theorem B_X12_isChild : gm_BI ({ cls := "GumBubbleModel", name := "isChild", desc := "(I)Z" } : Jvm.MethodName) prog_14_method_6_code 2 (some .boolean) 1 := ⟨MH_12, NP_X12_isChild, gw_1049, gw_14, gw_1050⟩
theorem NP_X12_keeps : gm_nP ({ cls := "GumBubbleModel", name := "keeps", desc := "()V" } : Jvm.MethodName) 0 := by decide +kernel
theorem B_X12_keeps : gm_BI ({ cls := "GumBubbleModel", name := "keeps", desc := "()V" } : Jvm.MethodName) prog_14_method_7_code 2 none 0 := ⟨MH_12, NP_X12_keeps, gw_1128, gw_14, gw_1129⟩
theorem NP_X12_goesBack : gm_nP ({ cls := "GumBubbleModel", name := "goesBack", desc := "()V" } : Jvm.MethodName) 0 := by decide +kernel
theorem B_X12_goesBack : gm_BI ({ cls := "GumBubbleModel", name := "goesBack", desc := "()V" } : Jvm.MethodName) prog_14_method_8_code 2 none 0 := ⟨MH_12, NP_X12_goesBack, gw_1132, gw_14, gw_1133⟩
theorem NP_X12_feed : gm_nP ({ cls := "GumBubbleModel", name := "feed", desc := "(I)I" } : Jvm.MethodName) 1 := by decide +kernel
theorem B_X12_feed : gm_BI ({ cls := "GumBubbleModel", name := "feed", desc := "(I)I" } : Jvm.MethodName) prog_14_method_9_code 2 (some .int) 1 := ⟨MH_12, NP_X12_feed, gw_961, gw_14, gw_963⟩
theorem NP_X12_here : gm_nP ({ cls := "GumBubbleModel", name := "here", desc := "()I" } : Jvm.MethodName) 0 := by decide +kernel
theorem B_X12_here : gm_BI ({ cls := "GumBubbleModel", name := "here", desc := "()I" } : Jvm.MethodName) prog_14_method_10_code 1 (some .int) 0 := ⟨MH_12, NP_X12_here, gw_977, gw_14, gw_978⟩
theorem NP_X12_must : gm_nP ({ cls := "GumBubbleModel", name := "must", desc := "(I)V" } : Jvm.MethodName) 1 := by decide +kernel
theorem B_X12_must : gm_BI ({ cls := "GumBubbleModel", name := "must", desc := "(I)V" } : Jvm.MethodName) prog_14_method_11_code 2 none 1 := ⟨MH_12, NP_X12_must, gw_992, gw_14, gw_993⟩
theorem NP_X12_spells : gm_nP ({ cls := "GumBubbleModel", name := "spells", desc := "(Ljava/lang/String;)V" } : Jvm.MethodName) 1 := by decide +kernel
theorem B_X12_spells : gm_BI ({ cls := "GumBubbleModel", name := "spells", desc := "(Ljava/lang/String;)V" } : Jvm.MethodName) prog_14_method_12_code 3 none 1 := ⟨MH_12, NP_X12_spells, gw_986, gw_14, gw_987⟩
theorem NP_X12_figures : gm_nP ({ cls := "GumBubbleModel", name := "figures", desc := "()I" } : Jvm.MethodName) 0 := by decide +kernel
theorem B_X12_figures : gm_BI ({ cls := "GumBubbleModel", name := "figures", desc := "()I" } : Jvm.MethodName) prog_14_method_13_code 3 (some .int) 0 := ⟨MH_12, NP_X12_figures, gw_996, gw_14, gw_997⟩
theorem NP_X12_among : gm_nP ({ cls := "GumBubbleModel", name := "among", desc := "(Ljava/lang/String;)I" } : Jvm.MethodName) 1 := by decide +kernel
theorem B_X12_among : gm_BI ({ cls := "GumBubbleModel", name := "among", desc := "(Ljava/lang/String;)I" } : Jvm.MethodName) prog_14_method_14_code 3 (some .int) 1 := ⟨MH_12, NP_X12_among, gw_1027, gw_14, gw_1028⟩
theorem NP_X12_emits : gm_nP ({ cls := "GumBubbleModel", name := "emits", desc := "(I)V" } : Jvm.MethodName) 1 := by decide +kernel
theorem B_X12_emits : gm_BI ({ cls := "GumBubbleModel", name := "emits", desc := "(I)V" } : Jvm.MethodName) prog_14_method_15_code 2 none 1 := ⟨MH_12, NP_X12_emits, gw_1022, gw_14, gw_1023⟩
theorem NP_X12_factor : gm_nP ({ cls := "GumBubbleModel", name := "factor", desc := "()V" } : Jvm.MethodName) 0 := by decide +kernel
theorem B_X12_factor : gm_BI ({ cls := "GumBubbleModel", name := "factor", desc := "()V" } : Jvm.MethodName) prog_14_method_16_code 5 none 0 := ⟨MH_12, NP_X12_factor, gw_1018, gw_14, gw_1019⟩
theorem NP_X12_every : gm_nP ({ cls := "GumBubbleModel", name := "every", desc := "()V" } : Jvm.MethodName) 0 := by decide +kernel
theorem B_X12_every : gm_BI ({ cls := "GumBubbleModel", name := "every", desc := "()V" } : Jvm.MethodName) prog_14_method_17_code 1 none 0 := ⟨MH_12, NP_X12_every, gw_1014, gw_14, gw_1015⟩
theorem NP_X12_some : gm_nP ({ cls := "GumBubbleModel", name := "some", desc := "()V" } : Jvm.MethodName) 0 := by decide +kernel
theorem B_X12_some : gm_BI ({ cls := "GumBubbleModel", name := "some", desc := "()V" } : Jvm.MethodName) prog_14_method_18_code 1 none 0 := ⟨MH_12, NP_X12_some, gw_1010, gw_14, gw_1011⟩
theorem NP_X12_much : gm_nP ({ cls := "GumBubbleModel", name := "much", desc := "(ILjava/lang/String;)V" } : Jvm.MethodName) 2 := by decide +kernel
theorem B_X12_much : gm_BI ({ cls := "GumBubbleModel", name := "much", desc := "(ILjava/lang/String;)V" } : Jvm.MethodName) prog_14_method_19_code 4 none 2 := ⟨MH_12, NP_X12_much, gw_1006, gw_14, gw_1007⟩
theorem NP_X12_tellsHere : gm_nP ({ cls := "GumBubbleModel", name := "tellsHere", desc := "(ILjava/lang/String;)V" } : Jvm.MethodName) 2 := by decide +kernel
theorem B_X12_tellsHere : gm_BI ({ cls := "GumBubbleModel", name := "tellsHere", desc := "(ILjava/lang/String;)V" } : Jvm.MethodName) prog_14_method_20_code 4 none 2 := ⟨MH_12, NP_X12_tellsHere, gw_982, gw_14, gw_983⟩
theorem NP_X12_wordOfS : gm_nP ({ cls := "GumBubbleModel", name := "wordOfS", desc := "()V" } : Jvm.MethodName) 0 := by decide +kernel
theorem B_X12_wordOfS : gm_BI ({ cls := "GumBubbleModel", name := "wordOfS", desc := "()V" } : Jvm.MethodName) prog_14_method_21_code 1 none 0 := ⟨MH_12, NP_X12_wordOfS, gw_1000, gw_14, gw_1001⟩
theorem NP_X12_clauseHere : gm_nP ({ cls := "GumBubbleModel", name := "clauseHere", desc := "()V" } : Jvm.MethodName) 0 := by decide +kernel
theorem B_X12_clauseHere : gm_BI ({ cls := "GumBubbleModel", name := "clauseHere", desc := "()V" } : Jvm.MethodName) prog_14_method_22_code 1 none 0 := ⟨MH_12, NP_X12_clauseHere, gw_973, gw_14, gw_974⟩
theorem NP_X12_afternoon : gm_nP ({ cls := "GumBubbleModel", name := "afternoon", desc := "()I" } : Jvm.MethodName) 0 := by decide +kernel
theorem B_X12_afternoon : gm_BI ({ cls := "GumBubbleModel", name := "afternoon", desc := "()I" } : Jvm.MethodName) prog_14_method_23_code 2 (some .int) 0 := ⟨MH_12, NP_X12_afternoon, gw_968, gw_14, gw_970⟩
theorem NP_X12_tellsOf : gm_nP ({ cls := "GumBubbleModel", name := "tellsOf", desc := "(II)I" } : Jvm.MethodName) 2 := by decide +kernel
theorem B_X12_tellsOf : gm_BI ({ cls := "GumBubbleModel", name := "tellsOf", desc := "(II)I" } : Jvm.MethodName) prog_14_method_24_code 3 (some .int) 2 := ⟨MH_12, NP_X12_tellsOf, gw_1041, gw_14, gw_1042⟩
theorem NP_X12_sweetNow : gm_nP ({ cls := "GumBubbleModel", name := "sweetNow", desc := "()I" } : Jvm.MethodName) 0 := by decide +kernel
theorem B_X12_sweetNow : gm_BI ({ cls := "GumBubbleModel", name := "sweetNow", desc := "()I" } : Jvm.MethodName) prog_14_method_25_code 1 (some .int) 0 := ⟨MH_12, NP_X12_sweetNow, gw_1037, gw_14, gw_1038⟩
theorem NP_X12_looks : gm_nP ({ cls := "GumBubbleModel", name := "looks", desc := "(I)I" } : Jvm.MethodName) 1 := by decide +kernel
theorem B_X12_looks : gm_BI ({ cls := "GumBubbleModel", name := "looks", desc := "(I)I" } : Jvm.MethodName) prog_14_method_26_code 11 (some .int) 1 := ⟨MH_12, NP_X12_looks, gw_1057, gw_14, gw_1058⟩
theorem NP_X12_stretchOf : gm_nP ({ cls := "GumBubbleModel", name := "stretchOf", desc := "(I)I" } : Jvm.MethodName) 1 := by decide +kernel
theorem B_X12_stretchOf : gm_BI ({ cls := "GumBubbleModel", name := "stretchOf", desc := "(I)I" } : Jvm.MethodName) prog_14_method_27_code 2 (some .int) 1 := ⟨MH_12, NP_X12_stretchOf, gw_1053, gw_14, gw_1054⟩
theorem NP_X12_chewsOf : gm_nP ({ cls := "GumBubbleModel", name := "chewsOf", desc := "(I)I" } : Jvm.MethodName) 1 := by decide +kernel
theorem B_X12_chewsOf : gm_BI ({ cls := "GumBubbleModel", name := "chewsOf", desc := "(I)I" } : Jvm.MethodName) prog_14_method_28_code 3 (some .int) 1 := ⟨MH_12, NP_X12_chewsOf, gw_1065, gw_14, gw_1066⟩
theorem NP_X12_tiresOf : gm_nP ({ cls := "GumBubbleModel", name := "tiresOf", desc := "(I)I" } : Jvm.MethodName) 1 := by decide +kernel
theorem B_X12_tiresOf : gm_BI ({ cls := "GumBubbleModel", name := "tiresOf", desc := "(I)I" } : Jvm.MethodName) prog_14_method_29_code 3 (some .int) 1 := ⟨MH_12, NP_X12_tiresOf, gw_1072, gw_14, gw_1073⟩
theorem NP_X12_holdsOf : gm_nP ({ cls := "GumBubbleModel", name := "holdsOf", desc := "(I)I" } : Jvm.MethodName) 1 := by decide +kernel
theorem B_X12_holdsOf : gm_BI ({ cls := "GumBubbleModel", name := "holdsOf", desc := "(I)I" } : Jvm.MethodName) prog_14_method_30_code 3 (some .int) 1 := ⟨MH_12, NP_X12_holdsOf, gw_1076, gw_14, gw_1077⟩
theorem NP_X12_allHold : gm_nP ({ cls := "GumBubbleModel", name := "allHold", desc := "()I" } : Jvm.MethodName) 0 := by decide +kernel
theorem B_X12_allHold : gm_BI ({ cls := "GumBubbleModel", name := "allHold", desc := "()I" } : Jvm.MethodName) prog_14_method_31_code 3 (some .int) 0 := ⟨MH_12, NP_X12_allHold, gw_1092, gw_14, gw_1093⟩
theorem NP_X12_child : gm_nP ({ cls := "GumBubbleModel", name := "child", desc := "(II)I" } : Jvm.MethodName) 2 := by decide +kernel
theorem B_X12_child : gm_BI ({ cls := "GumBubbleModel", name := "child", desc := "(II)I" } : Jvm.MethodName) prog_14_method_32_code 5 (some .int) 2 := ⟨MH_12, NP_X12_child, gw_1032, gw_14, gw_1034⟩
theorem NP_X12_of : gm_nP ({ cls := "GumBubbleModel", name := "of", desc := "(II)I" } : Jvm.MethodName) 2 := by decide +kernel
theorem B_X12_of : gm_BI ({ cls := "GumBubbleModel", name := "of", desc := "(II)I" } : Jvm.MethodName) prog_14_method_33_code 3 (some .int) 2 := ⟨MH_12, NP_X12_of, gw_1044, gw_14, gw_1046⟩
theorem NP_X12_row : gm_nP ({ cls := "GumBubbleModel", name := "row", desc := "(III)I" } : Jvm.MethodName) 3 := by decide +kernel
theorem B_X12_row : gm_BI ({ cls := "GumBubbleModel", name := "row", desc := "(III)I" } : Jvm.MethodName) prog_14_method_34_code 5 (some .int) 3 := ⟨MH_12, NP_X12_row, gw_1079, gw_14, gw_1081⟩
theorem NP_X12_set : gm_nP ({ cls := "GumBubbleModel", name := "set", desc := "(III)I" } : Jvm.MethodName) 3 := by decide +kernel
theorem B_X12_set : gm_BI ({ cls := "GumBubbleModel", name := "set", desc := "(III)I" } : Jvm.MethodName) prog_14_method_35_code 6 (some .int) 3 := ⟨MH_12, NP_X12_set, gw_1083, gw_14, gw_1085⟩
theorem NP_X12_told : gm_nP ({ cls := "GumBubbleModel", name := "told", desc := "(I)I" } : Jvm.MethodName) 1 := by decide +kernel
theorem B_X12_told : gm_BI ({ cls := "GumBubbleModel", name := "told", desc := "(I)I" } : Jvm.MethodName) prog_14_method_36_code 2 (some .int) 1 := ⟨MH_12, NP_X12_told, gw_1087, gw_14, gw_1089⟩
theorem NP_X12_bubbles : gm_nP ({ cls := "GumBubbleModel", name := "bubbles", desc := "()I" } : Jvm.MethodName) 0 := by decide +kernel
theorem B_X12_bubbles : gm_BI ({ cls := "GumBubbleModel", name := "bubbles", desc := "()I" } : Jvm.MethodName) prog_14_method_37_code 3 (some .int) 0 := ⟨MH_12, NP_X12_bubbles, gw_1096, gw_14, gw_1097⟩
theorem NP_X12_blows : gm_nP ({ cls := "GumBubbleModel", name := "blows", desc := "(II)Z" } : Jvm.MethodName) 2 := by decide +kernel
theorem B_X12_blows : gm_BI ({ cls := "GumBubbleModel", name := "blows", desc := "(II)Z" } : Jvm.MethodName) prog_14_method_38_code 3 (some .boolean) 2 := ⟨MH_12, NP_X12_blows, gw_1104, gw_14, gw_1105⟩
theorem NP_X12_blow : gm_nP ({ cls := "GumBubbleModel", name := "blow", desc := "(II)I" } : Jvm.MethodName) 2 := by decide +kernel
theorem B_X12_blow : gm_BI ({ cls := "GumBubbleModel", name := "blow", desc := "(II)I" } : Jvm.MethodName) prog_14_method_39_code 3 (some .int) 2 := ⟨MH_12, NP_X12_blow, gw_1099, gw_14, gw_1101⟩
theorem NP_X12_goesFor : gm_nP ({ cls := "GumBubbleModel", name := "goesFor", desc := "(I)V" } : Jvm.MethodName) 1 := by decide +kernel
theorem B_X12_goesFor : gm_BI ({ cls := "GumBubbleModel", name := "goesFor", desc := "(I)V" } : Jvm.MethodName) prog_14_method_40_code 3 none 1 := ⟨MH_12, NP_X12_goesFor, gw_1120, gw_14, gw_1121⟩
theorem NP_X12_goes : gm_nP ({ cls := "GumBubbleModel", name := "goes", desc := "()V" } : Jvm.MethodName) 0 := by decide +kernel
theorem B_X12_goes : gm_BI ({ cls := "GumBubbleModel", name := "goes", desc := "()V" } : Jvm.MethodName) prog_14_method_41_code 2 none 0 := ⟨MH_12, NP_X12_goes, gw_1116, gw_14, gw_1117⟩
theorem NP_X12_goesOn : gm_nP ({ cls := "GumBubbleModel", name := "goesOn", desc := "(I)V" } : Jvm.MethodName) 1 := by decide +kernel
theorem B_X12_goesOn : gm_BI ({ cls := "GumBubbleModel", name := "goesOn", desc := "(I)V" } : Jvm.MethodName) prog_14_method_42_code 3 none 1 := ⟨MH_12, NP_X12_goesOn, gw_1112, gw_14, gw_1113⟩
theorem NP_X12_goesAlone : gm_nP ({ cls := "GumBubbleModel", name := "goesAlone", desc := "(I)V" } : Jvm.MethodName) 1 := by decide +kernel
theorem B_X12_goesAlone : gm_BI ({ cls := "GumBubbleModel", name := "goesAlone", desc := "(I)V" } : Jvm.MethodName) prog_14_method_43_code 2 none 1 := ⟨MH_12, NP_X12_goesAlone, gw_1144, gw_14, gw_1145⟩
theorem NP_X12_pass : gm_nP ({ cls := "GumBubbleModel", name := "pass", desc := "(I)I" } : Jvm.MethodName) 1 := by decide +kernel
theorem B_X12_pass : gm_BI ({ cls := "GumBubbleModel", name := "pass", desc := "(I)I" } : Jvm.MethodName) prog_14_method_44_code 2 (some .int) 1 := ⟨MH_12, NP_X12_pass, gw_1107, gw_14, gw_1109⟩
theorem NP_X12_on : gm_nP ({ cls := "GumBubbleModel", name := "on", desc := "(II)I" } : Jvm.MethodName) 2 := by decide +kernel
theorem B_X12_on : gm_BI ({ cls := "GumBubbleModel", name := "on", desc := "(II)I" } : Jvm.MethodName) prog_14_method_45_code 4 (some .int) 2 := ⟨MH_12, NP_X12_on, gw_1123, gw_14, gw_1125⟩
theorem NP_X12_looksForWhen : gm_nP ({ cls := "GumBubbleModel", name := "looksForWhen", desc := "(I)V" } : Jvm.MethodName) 1 := by decide +kernel
theorem B_X12_looksForWhen : gm_BI ({ cls := "GumBubbleModel", name := "looksForWhen", desc := "(I)V" } : Jvm.MethodName) prog_14_method_46_code 4 none 1 := ⟨MH_12, NP_X12_looksForWhen, gw_1140, gw_14, gw_1141⟩
theorem NP_X12_when : gm_nP ({ cls := "GumBubbleModel", name := "when", desc := "(II)I" } : Jvm.MethodName) 2 := by decide +kernel
theorem B_X12_when : gm_BI ({ cls := "GumBubbleModel", name := "when", desc := "(II)I" } : Jvm.MethodName) prog_14_method_47_code 3 (some .int) 2 := ⟨MH_12, NP_X12_when, gw_1135, gw_14, gw_1137⟩
theorem NP_X12_soon : gm_nP ({ cls := "GumBubbleModel", name := "soon", desc := "(II)I" } : Jvm.MethodName) 2 := by decide +kernel
theorem B_X12_soon : gm_BI ({ cls := "GumBubbleModel", name := "soon", desc := "(II)I" } : Jvm.MethodName) prog_14_method_48_code 5 (some .int) 2 := ⟨MH_12, NP_X12_soon, gw_1147, gw_14, gw_1149⟩
theorem NP_X12_pieces : gm_nP ({ cls := "GumBubbleModel", name := "pieces", desc := "(II)I" } : Jvm.MethodName) 2 := by decide +kernel
theorem B_X12_pieces : gm_BI ({ cls := "GumBubbleModel", name := "pieces", desc := "(II)I" } : Jvm.MethodName) prog_14_method_49_code 6 (some .int) 2 := ⟨MH_12, NP_X12_pieces, gw_1151, gw_14, gw_1153⟩
theorem NP_X12_slackOf : gm_nP ({ cls := "GumBubbleModel", name := "slackOf", desc := "(I)I" } : Jvm.MethodName) 1 := by decide +kernel
theorem B_X12_slackOf : gm_BI ({ cls := "GumBubbleModel", name := "slackOf", desc := "(I)I" } : Jvm.MethodName) prog_14_method_50_code 2 (some .int) 1 := ⟨MH_12, NP_X12_slackOf, gw_1160, gw_14, gw_1161⟩
theorem NP_X12_breaths : gm_nP ({ cls := "GumBubbleModel", name := "breaths", desc := "(II)I" } : Jvm.MethodName) 2 := by decide +kernel
theorem B_X12_breaths : gm_BI ({ cls := "GumBubbleModel", name := "breaths", desc := "(II)I" } : Jvm.MethodName) prog_14_method_51_code 3 (some .int) 2 := ⟨MH_12, NP_X12_breaths, gw_1155, gw_14, gw_1157⟩
theorem NP_X12_slack : gm_nP ({ cls := "GumBubbleModel", name := "slack", desc := "(I)I" } : Jvm.MethodName) 1 := by decide +kernel
theorem B_X12_slack : gm_BI ({ cls := "GumBubbleModel", name := "slack", desc := "(I)I" } : Jvm.MethodName) prog_14_method_52_code 2 (some .int) 1 := ⟨MH_12, NP_X12_slack, gw_1163, gw_14, gw_1165⟩
theorem NP_X12_lowest : gm_nP ({ cls := "GumBubbleModel", name := "lowest", desc := "(JJI)J" } : Jvm.MethodName) 3 := by decide +kernel
theorem B_X12_lowest : gm_BS ({ cls := "GumBubbleModel", name := "lowest", desc := "(JJI)J" } : Jvm.MethodName) prog_14_method_53_code 11 (some .long) 3 := ⟨MH_12, NP_X12_lowest, gw_1179, gw_14, gw_1180⟩
theorem NP_X12_thin : gm_nP ({ cls := "GumBubbleModel", name := "thin", desc := "(II)I" } : Jvm.MethodName) 2 := by decide +kernel
theorem B_X12_thin : gm_BS ({ cls := "GumBubbleModel", name := "thin", desc := "(II)I" } : Jvm.MethodName) prog_14_method_54_code 2 (some .int) 2 := ⟨MH_12, NP_X12_thin, gw_1175, gw_14, gw_1176⟩
theorem NP_X12_likelyOf : gm_nP ({ cls := "GumBubbleModel", name := "likelyOf", desc := "(II)I" } : Jvm.MethodName) 2 := by decide +kernel
theorem B_X12_likelyOf : gm_BS ({ cls := "GumBubbleModel", name := "likelyOf", desc := "(II)I" } : Jvm.MethodName) prog_14_method_55_code 4 (some .int) 2 := ⟨MH_12, NP_X12_likelyOf, gw_1172, gw_14, gw_1173⟩
theorem NP_X12_likely : gm_nP ({ cls := "GumBubbleModel", name := "likely", desc := "(III)J" } : Jvm.MethodName) 3 := by decide +kernel
theorem B_X12_likely : gm_BI ({ cls := "GumBubbleModel", name := "likely", desc := "(III)J" } : Jvm.MethodName) prog_14_method_56_code 4 (some .long) 3 := ⟨MH_12, NP_X12_likely, gw_1167, gw_14, gw_1169⟩
theorem NP_X12_dare : gm_nP ({ cls := "GumBubbleModel", name := "dare", desc := "(I)I" } : Jvm.MethodName) 1 := by decide +kernel
theorem B_X12_dare : gm_BI ({ cls := "GumBubbleModel", name := "dare", desc := "(I)I" } : Jvm.MethodName) prog_14_method_57_code 7 (some .int) 1 := ⟨MH_12, NP_X12_dare, gw_1182, gw_14, gw_1184⟩
theorem NP_X12_first : gm_nP ({ cls := "GumBubbleModel", name := "first", desc := "()I" } : Jvm.MethodName) 0 := by decide +kernel
theorem B_X12_first : gm_BI ({ cls := "GumBubbleModel", name := "first", desc := "()I" } : Jvm.MethodName) prog_14_method_58_code 5 (some .int) 0 := ⟨MH_12, NP_X12_first, gw_1186, gw_14, gw_1188⟩
theorem NP_X12_beats : gm_nP ({ cls := "GumBubbleModel", name := "beats", desc := "(III)J" } : Jvm.MethodName) 3 := by decide +kernel
theorem B_X12_beats : gm_BI ({ cls := "GumBubbleModel", name := "beats", desc := "(III)J" } : Jvm.MethodName) prog_14_method_59_code 10 (some .long) 3 := ⟨MH_12, NP_X12_beats, gw_1190, gw_14, gw_1192⟩
theorem NP_X12_swapsAt : gm_nP ({ cls := "GumBubbleModel", name := "swapsAt", desc := "(III)V" } : Jvm.MethodName) 3 := by decide +kernel
theorem B_X12_swapsAt : gm_BI ({ cls := "GumBubbleModel", name := "swapsAt", desc := "(III)V" } : Jvm.MethodName) prog_14_method_60_code 5 none 3 := ⟨MH_12, NP_X12_swapsAt, gw_1204, gw_14, gw_1205⟩
theorem NP_X12_swaps : gm_nP ({ cls := "GumBubbleModel", name := "swaps", desc := "(II)V" } : Jvm.MethodName) 2 := by decide +kernel
theorem B_X12_swaps : gm_BI ({ cls := "GumBubbleModel", name := "swaps", desc := "(II)V" } : Jvm.MethodName) prog_14_method_61_code 3 none 2 := ⟨MH_12, NP_X12_swaps, gw_1200, gw_14, gw_1201⟩
theorem NP_X12_swap : gm_nP ({ cls := "GumBubbleModel", name := "swap", desc := "()I" } : Jvm.MethodName) 0 := by decide +kernel
theorem B_X12_swap : gm_BI ({ cls := "GumBubbleModel", name := "swap", desc := "()I" } : Jvm.MethodName) prog_14_method_62_code 6 (some .int) 0 := ⟨MH_12, NP_X12_swap, gw_1195, gw_14, gw_1197⟩
theorem NP_X12_ordersFrom : gm_nP ({ cls := "GumBubbleModel", name := "ordersFrom", desc := "(III)V" } : Jvm.MethodName) 3 := by decide +kernel
theorem B_X12_ordersFrom : gm_BI ({ cls := "GumBubbleModel", name := "ordersFrom", desc := "(III)V" } : Jvm.MethodName) prog_14_method_63_code 5 none 3 := ⟨MH_12, NP_X12_ordersFrom, gw_1212, gw_14, gw_1213⟩
theorem NP_X12_order : gm_nP ({ cls := "GumBubbleModel", name := "order", desc := "(I)I" } : Jvm.MethodName) 1 := by decide +kernel
theorem B_X12_order : gm_BI ({ cls := "GumBubbleModel", name := "order", desc := "(I)I" } : Jvm.MethodName) prog_14_method_64_code 4 (some .int) 1 := ⟨MH_12, NP_X12_order, gw_1207, gw_14, gw_1209⟩
theorem NP_X12_clean : gm_nP ({ cls := "GumBubbleModel", name := "clean", desc := "(II)I" } : Jvm.MethodName) 2 := by decide +kernel
theorem B_X12_clean : gm_BI ({ cls := "GumBubbleModel", name := "clean", desc := "(II)I" } : Jvm.MethodName) prog_14_method_65_code 3 (some .int) 2 := ⟨MH_12, NP_X12_clean, gw_1215, gw_14, gw_1217⟩
theorem NP_X12_see : gm_nP ({ cls := "GumBubbleModel", name := "see", desc := "(III)I" } : Jvm.MethodName) 3 := by decide +kernel
theorem B_X12_see : gm_BI ({ cls := "GumBubbleModel", name := "see", desc := "(III)I" } : Jvm.MethodName) prog_14_method_66_code 4 (some .int) 3 := ⟨MH_12, NP_X12_see, gw_1219, gw_14, gw_1221⟩
theorem NP_X12_isAsSeen : gm_nP ({ cls := "GumBubbleModel", name := "isAsSeen", desc := "(I)Z" } : Jvm.MethodName) 1 := by decide +kernel
theorem B_X12_isAsSeen : gm_BI ({ cls := "GumBubbleModel", name := "isAsSeen", desc := "(I)Z" } : Jvm.MethodName) prog_14_method_67_code 4 (some .boolean) 1 := ⟨MH_12, NP_X12_isAsSeen, gw_1236, gw_14, gw_1237⟩
theorem NP_X12_areAsSeen : gm_nP ({ cls := "GumBubbleModel", name := "areAsSeen", desc := "()Z" } : Jvm.MethodName) 0 := by decide +kernel
theorem B_X12_areAsSeen : gm_BI ({ cls := "GumBubbleModel", name := "areAsSeen", desc := "()Z" } : Jvm.MethodName) prog_14_method_68_code 3 (some .boolean) 0 := ⟨MH_12, NP_X12_areAsSeen, gw_1232, gw_14, gw_1233⟩
theorem NP_X12_who : gm_nP ({ cls := "GumBubbleModel", name := "who", desc := "(II)I" } : Jvm.MethodName) 2 := by decide +kernel
theorem B_X12_who : gm_BI ({ cls := "GumBubbleModel", name := "who", desc := "(II)I" } : Jvm.MethodName) prog_14_method_69_code 5 (some .int) 2 := ⟨MH_12, NP_X12_who, gw_1223, gw_14, gw_1225⟩
theorem NP_X12_firm : gm_nP ({ cls := "GumBubbleModel", name := "firm", desc := "(II)I" } : Jvm.MethodName) 2 := by decide +kernel
theorem B_X12_firm : gm_BI ({ cls := "GumBubbleModel", name := "firm", desc := "(II)I" } : Jvm.MethodName) prog_14_method_70_code 8 (some .int) 2 := ⟨MH_12, NP_X12_firm, gw_1227, gw_14, gw_1229⟩
theorem NP_X12_had : gm_nP ({ cls := "GumBubbleModel", name := "had", desc := "(I)I" } : Jvm.MethodName) 1 := by decide +kernel
theorem B_X12_had : gm_BI ({ cls := "GumBubbleModel", name := "had", desc := "(I)I" } : Jvm.MethodName) prog_14_method_71_code 4 (some .int) 1 := ⟨MH_12, NP_X12_had, gw_1239, gw_14, gw_1241⟩
theorem NP_X12_mean : gm_nP ({ cls := "GumBubbleModel", name := "mean", desc := "(II)J" } : Jvm.MethodName) 2 := by decide +kernel
theorem B_X12_mean : gm_BI ({ cls := "GumBubbleModel", name := "mean", desc := "(II)J" } : Jvm.MethodName) prog_14_method_72_code 4 (some .long) 2 := ⟨MH_12, NP_X12_mean, gw_1243, gw_14, gw_1245⟩
theorem NP_X12_plan : gm_nP ({ cls := "GumBubbleModel", name := "plan", desc := "(II)I" } : Jvm.MethodName) 2 := by decide +kernel
theorem B_X12_plan : gm_BI ({ cls := "GumBubbleModel", name := "plan", desc := "(II)I" } : Jvm.MethodName) prog_14_method_73_code 3 (some .int) 2 := ⟨MH_12, NP_X12_plan, gw_1247, gw_14, gw_1249⟩
theorem NP_X12_does : gm_nP ({ cls := "GumBubbleModel", name := "does", desc := "(II)V" } : Jvm.MethodName) 2 := by decide +kernel
theorem B_X12_does : gm_BI ({ cls := "GumBubbleModel", name := "does", desc := "(II)V" } : Jvm.MethodName) prog_14_method_74_code 3 none 2 := ⟨MH_12, NP_X12_does, gw_1260, gw_14, gw_1261⟩
theorem NP_X12_allOf : gm_nP ({ cls := "GumBubbleModel", name := "allOf", desc := "(I)I" } : Jvm.MethodName) 1 := by decide +kernel
theorem B_X12_allOf : gm_BI ({ cls := "GumBubbleModel", name := "allOf", desc := "(I)I" } : Jvm.MethodName) prog_14_method_75_code 4 (some .int) 1 := ⟨MH_12, NP_X12_allOf, gw_1256, gw_14, gw_1257⟩
theorem NP_X12_done : gm_nP ({ cls := "GumBubbleModel", name := "done", desc := "(I)I" } : Jvm.MethodName) 1 := by decide +kernel
theorem B_X12_done : gm_BI ({ cls := "GumBubbleModel", name := "done", desc := "(I)I" } : Jvm.MethodName) prog_14_method_76_code 4 (some .int) 1 := ⟨MH_12, NP_X12_done, gw_1251, gw_14, gw_1253⟩
theorem NP_X12_book : gm_nP ({ cls := "GumBubbleModel", name := "book", desc := "(II)I" } : Jvm.MethodName) 2 := by decide +kernel
theorem B_X12_book : gm_BI ({ cls := "GumBubbleModel", name := "book", desc := "(II)I" } : Jvm.MethodName) prog_14_method_77_code 3 (some .int) 2 := ⟨MH_12, NP_X12_book, gw_1263, gw_14, gw_1265⟩
theorem NP_X12_looked : gm_nP ({ cls := "GumBubbleModel", name := "looked", desc := "()I" } : Jvm.MethodName) 0 := by decide +kernel
theorem B_X12_looked : gm_BI ({ cls := "GumBubbleModel", name := "looked", desc := "()I" } : Jvm.MethodName) prog_14_method_78_code 2 (some .int) 0 := ⟨MH_12, NP_X12_looked, gw_1267, gw_14, gw_1269⟩
theorem NP_X12_ranBody : gm_nP ({ cls := "GumBubbleModel", name := "ranBody", desc := "(I)V" } : Jvm.MethodName) 1 := by decide +kernel
theorem B_X12_ranBody : gm_BI ({ cls := "GumBubbleModel", name := "ranBody", desc := "(I)V" } : Jvm.MethodName) prog_14_method_79_code 2 none 1 := ⟨MH_12, NP_X12_ranBody, gw_1283, gw_14, gw_1284⟩
theorem NP_X12_isUnder : gm_nP ({ cls := "GumBubbleModel", name := "isUnder", desc := "(II)Z" } : Jvm.MethodName) 2 := by decide +kernel
theorem B_X12_isUnder : gm_BS ({ cls := "GumBubbleModel", name := "isUnder", desc := "(II)Z" } : Jvm.MethodName) prog_14_method_80_code 2 (some .boolean) 2 := ⟨MH_12, NP_X12_isUnder, gw_1279, gw_14, gw_1280⟩
theorem NP_X12_plainChews : gm_nP ({ cls := "GumBubbleModel", name := "plainChews", desc := "(I)I" } : Jvm.MethodName) 1 := by decide +kernel
theorem B_X12_plainChews : gm_BI ({ cls := "GumBubbleModel", name := "plainChews", desc := "(I)I" } : Jvm.MethodName) prog_14_method_81_code 2 (some .int) 1 := ⟨MH_12, NP_X12_plainChews, gw_1287, gw_14, gw_1288⟩
theorem NP_X12_chewsActs : gm_nP ({ cls := "GumBubbleModel", name := "chewsActs", desc := "(I)I" } : Jvm.MethodName) 1 := by decide +kernel
theorem B_X12_chewsActs : gm_BI ({ cls := "GumBubbleModel", name := "chewsActs", desc := "(I)I" } : Jvm.MethodName) prog_14_method_82_code 2 (some .int) 1 := ⟨MH_12, NP_X12_chewsActs, gw_1276, gw_14, gw_1277⟩
theorem NP_X12_plainBlows : gm_nP ({ cls := "GumBubbleModel", name := "plainBlows", desc := "(I)I" } : Jvm.MethodName) 1 := by decide +kernel
theorem B_X12_plainBlows : gm_BI ({ cls := "GumBubbleModel", name := "plainBlows", desc := "(I)I" } : Jvm.MethodName) prog_14_method_83_code 2 (some .int) 1 := ⟨MH_12, NP_X12_plainBlows, gw_1295, gw_14, gw_1296⟩
theorem NP_X12_blowsActs : gm_nP ({ cls := "GumBubbleModel", name := "blowsActs", desc := "(I)I" } : Jvm.MethodName) 1 := by decide +kernel
theorem B_X12_blowsActs : gm_BI ({ cls := "GumBubbleModel", name := "blowsActs", desc := "(I)I" } : Jvm.MethodName) prog_14_method_84_code 2 (some .int) 1 := ⟨MH_12, NP_X12_blowsActs, gw_1291, gw_14, gw_1292⟩
theorem NP_X12_plainTelling : gm_nP ({ cls := "GumBubbleModel", name := "plainTelling", desc := "(I)I" } : Jvm.MethodName) 1 := by decide +kernel
theorem B_X12_plainTelling : gm_BI ({ cls := "GumBubbleModel", name := "plainTelling", desc := "(I)I" } : Jvm.MethodName) prog_14_method_85_code 2 (some .int) 1 := ⟨MH_12, NP_X12_plainTelling, gw_1303, gw_14, gw_1304⟩
theorem NP_X12_tellsActs : gm_nP ({ cls := "GumBubbleModel", name := "tellsActs", desc := "(I)I" } : Jvm.MethodName) 1 := by decide +kernel
theorem B_X12_tellsActs : gm_BI ({ cls := "GumBubbleModel", name := "tellsActs", desc := "(I)I" } : Jvm.MethodName) prog_14_method_86_code 3 (some .int) 1 := ⟨MH_12, NP_X12_tellsActs, gw_1299, gw_14, gw_1300⟩
theorem NP_X12_act : gm_nP ({ cls := "GumBubbleModel", name := "act", desc := "(III)I" } : Jvm.MethodName) 3 := by decide +kernel
theorem B_X12_act : gm_BI ({ cls := "GumBubbleModel", name := "act", desc := "(III)I" } : Jvm.MethodName) prog_14_method_87_code 4 (some .int) 3 := ⟨MH_12, NP_X12_act, gw_1271, gw_14, gw_1273⟩
theorem NP_X12_trace : gm_nP ({ cls := "GumBubbleModel", name := "trace", desc := "(I)I" } : Jvm.MethodName) 1 := by decide +kernel
theorem B_X12_trace : gm_BI ({ cls := "GumBubbleModel", name := "trace", desc := "(I)I" } : Jvm.MethodName) prog_14_method_88_code 2 (some .int) 1 := ⟨MH_12, NP_X12_trace, gw_1306, gw_14, gw_1308⟩
theorem NP_X12_as : gm_nP ({ cls := "GumBubbleModel", name := "as", desc := "(II)I" } : Jvm.MethodName) 2 := by decide +kernel
theorem B_X12_as : gm_BI ({ cls := "GumBubbleModel", name := "as", desc := "(II)I" } : Jvm.MethodName) prog_14_method_89_code 3 (some .int) 2 := ⟨MH_12, NP_X12_as, gw_1310, gw_14, gw_1312⟩
theorem NP_X12_image : gm_nP ({ cls := "GumBubbleModel", name := "image", desc := "()I" } : Jvm.MethodName) 0 := by decide +kernel
theorem B_X12_image : gm_BI ({ cls := "GumBubbleModel", name := "image", desc := "()I" } : Jvm.MethodName) prog_14_method_90_code 2 (some .int) 0 := ⟨MH_12, NP_X12_image, gw_1314, gw_14, gw_1316⟩
theorem NP_X12_undo : gm_nP ({ cls := "GumBubbleModel", name := "undo", desc := "()I" } : Jvm.MethodName) 0 := by decide +kernel
theorem B_X12_undo : gm_BI ({ cls := "GumBubbleModel", name := "undo", desc := "()I" } : Jvm.MethodName) prog_14_method_91_code 2 (some .int) 0 := ⟨MH_12, NP_X12_undo, gw_1318, gw_14, gw_1320⟩
theorem NP_X12_count : gm_nP ({ cls := "GumBubbleModel", name := "count", desc := "(I)I" } : Jvm.MethodName) 1 := by decide +kernel
theorem B_X12_count : gm_BI ({ cls := "GumBubbleModel", name := "count", desc := "(I)I" } : Jvm.MethodName) prog_14_method_92_code 2 (some .int) 1 := ⟨MH_12, NP_X12_count, gw_1322, gw_14, gw_1324⟩
theorem NP_J0_length_8abf5 : gm_nP ({ cls := "java/lang/String", name := "length", desc := "()I" } : Jvm.MethodName) 0 := by decide +kernel
theorem B_J0_length_8abf5 : gm_BI ({ cls := "java/lang/String", name := "length", desc := "()I" } : Jvm.MethodName) prog_17_method_54_code 1 (some .int) 0 := ⟨MH_J0, NP_J0_length_8abf5, gw_330, gw_15, gw_332⟩
theorem NP_J0_charAt_5068e : gm_nP ({ cls := "java/lang/String", name := "charAt", desc := "(I)C" } : Jvm.MethodName) 1 := by decide +kernel
theorem B_J0_charAt_5068e : gm_BI ({ cls := "java/lang/String", name := "charAt", desc := "(I)C" } : Jvm.MethodName) prog_17_method_56_code 2 (some .char) 1 := ⟨MH_J0, NP_J0_charAt_5068e, gw_340, gw_15, gw_342⟩
theorem NP_J0_indexOf_0f7a4 : gm_nP ({ cls := "java/lang/String", name := "indexOf", desc := "(I)I" } : Jvm.MethodName) 1 := by decide +kernel
theorem B_J0_indexOf_0f7a4 : gm_BI ({ cls := "java/lang/String", name := "indexOf", desc := "(I)I" } : Jvm.MethodName) prog_17_method_79_code 2 (some .int) 1 := ⟨MH_J0, NP_J0_indexOf_0f7a4, gw_402, gw_15, gw_404⟩
theorem NP_J0_indexOf_7cf53 : gm_nP ({ cls := "java/lang/String", name := "indexOf", desc := "(II)I" } : Jvm.MethodName) 2 := by decide +kernel
theorem B_J0_indexOf_7cf53 : gm_BI ({ cls := "java/lang/String", name := "indexOf", desc := "(II)I" } : Jvm.MethodName) prog_17_method_80_code 3 (some .int) 2 := ⟨MH_J0, NP_J0_indexOf_7cf53, gw_406, gw_15, gw_408⟩
theorem NP_J0_coder_7d493 : gm_nP ({ cls := "java/lang/String", name := "coder", desc := "()B" } : Jvm.MethodName) 0 := by decide +kernel
theorem B_J0_coder_7d493 : gm_BI ({ cls := "java/lang/String", name := "coder", desc := "()B" } : Jvm.MethodName) prog_17_method_152_code 1 (some .byte) 0 := ⟨MH_J0, NP_J0_coder_7d493, gw_334, gw_15, gw_336⟩
theorem NP_J0_isLatin1_aae02 : gm_nP ({ cls := "java/lang/String", name := "isLatin1", desc := "()Z" } : Jvm.MethodName) 0 := by decide +kernel
theorem B_J0_isLatin1_aae02 : gm_BI ({ cls := "java/lang/String", name := "isLatin1", desc := "()Z" } : Jvm.MethodName) prog_17_method_154_code 1 (some .boolean) 0 := ⟨MH_J0, NP_J0_isLatin1_aae02, gw_344, gw_15, gw_346⟩
theorem NP_J0_checkIndex_df160 : gm_nP ({ cls := "java/lang/String", name := "checkIndex", desc := "(II)V" } : Jvm.MethodName) 2 := by decide +kernel
theorem B_J0_checkIndex_df160 : gm_BS ({ cls := "java/lang/String", name := "checkIndex", desc := "(II)V" } : Jvm.MethodName) prog_17_method_155_code 2 none 2 := ⟨MH_J0, NP_J0_checkIndex_df160, gw_351, gw_15, gw_352⟩
theorem NP_J1_charAt_3b067 : gm_nP ({ cls := "java/lang/StringLatin1", name := "charAt", desc := "([BI)C" } : Jvm.MethodName) 2 := by decide +kernel
theorem B_J1_charAt_3b067 : gm_BS ({ cls := "java/lang/StringLatin1", name := "charAt", desc := "([BI)C" } : Jvm.MethodName) prog_18_method_2_code 2 (some .char) 2 := ⟨MH_J1, NP_J1_charAt_3b067, gw_348, gw_16, gw_349⟩
theorem NP_J1_canEncode_9a6ad : gm_nP ({ cls := "java/lang/StringLatin1", name := "canEncode", desc := "(I)Z" } : Jvm.MethodName) 1 := by decide +kernel
theorem B_J1_canEncode_9a6ad : gm_BS ({ cls := "java/lang/StringLatin1", name := "canEncode", desc := "(I)Z" } : Jvm.MethodName) prog_18_method_4_code 1 (some .boolean) 1 := ⟨MH_J1, NP_J1_canEncode_9a6ad, gw_414, gw_16, gw_415⟩
theorem NP_J1_indexOf_4cfef : gm_nP ({ cls := "java/lang/StringLatin1", name := "indexOf", desc := "([BIII)I" } : Jvm.MethodName) 4 := by decide +kernel
theorem B_J1_indexOf_4cfef : gm_BS ({ cls := "java/lang/StringLatin1", name := "indexOf", desc := "([BIII)I" } : Jvm.MethodName) prog_18_method_22_code 4 (some .int) 4 := ⟨MH_J1, NP_J1_indexOf_4cfef, gw_411, gw_16, gw_412⟩
theorem NP_J1_indexOfChar_4cfef : gm_nP ({ cls := "java/lang/StringLatin1", name := "indexOfChar", desc := "([BIII)I" } : Jvm.MethodName) 4 := by decide +kernel
theorem B_J1_indexOfChar_4cfef : gm_BS ({ cls := "java/lang/StringLatin1", name := "indexOfChar", desc := "([BIII)I" } : Jvm.MethodName) prog_18_method_23_code 6 (some .int) 4 := ⟨MH_J1, NP_J1_indexOfChar_4cfef, gw_419, gw_16, gw_420⟩
theorem NP_J3_checkIndex_8e157 : gm_nP ({ cls := "jdk/internal/util/Preconditions", name := "checkIndex", desc := "(IILjava/util/function/BiFunction;)I" } : Jvm.MethodName) 3 := by decide +kernel
theorem B_J3_checkIndex_8e157 : gm_BS ({ cls := "jdk/internal/util/Preconditions", name := "checkIndex", desc := "(IILjava/util/function/BiFunction;)I" } : Jvm.MethodName) prog_21_method_11_code 3 (some .int) 3 := ⟨MH_J3, NP_J3_checkIndex_8e157, gw_356, gw_17, gw_357⟩
