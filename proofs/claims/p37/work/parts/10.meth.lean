section
theorem d_X12_wordOfS_0 : decode prog_14_method_21_code 0 = .ok (.aload_n 0, 1) := ge_aload_n_0 (by decide +kernel)
theorem d_X12_wordOfS_1 : decode prog_14_method_21_code 1 = .ok (.bipush 115, 2) := ge_bipush (by decide +kernel)
theorem d_X12_wordOfS_3 : decode prog_14_method_21_code 3 = .ok (.invokevirtual 71, 3) := ge_invokevirtual (by decide +kernel)
theorem d_X12_wordOfS_6 : decode prog_14_method_21_code 6 = .ok (.aload_n 0, 1) := ge_aload_n_0 (by decide +kernel)
theorem d_X12_wordOfS_7 : decode prog_14_method_21_code 7 = .ok (.invokevirtual 58, 3) := ge_invokevirtual (by decide +kernel)
theorem d_X12_wordOfS_10 : decode prog_14_method_21_code 10 = .ok (.bipush 119, 2) := ge_bipush (by decide +kernel)
theorem d_X12_wordOfS_12 : decode prog_14_method_21_code 12 = .ok (.if_icmp .ne 13, 3) := ge_if_icmp_ne (by decide +kernel)
theorem d_X12_wordOfS_15 : decode prog_14_method_21_code 15 = .ok (.aload_n 0, 1) := ge_aload_n_0 (by decide +kernel)
theorem d_X12_wordOfS_16 : decode prog_14_method_21_code 16 = .ok (.sipush 215, 3) := ge_sipush (by decide +kernel)
theorem d_X12_wordOfS_19 : decode prog_14_method_21_code 19 = .ok (.ldc 108, 2) := ge_ldc (by decide +kernel)
theorem d_X12_wordOfS_21 : decode prog_14_method_21_code 21 = .ok (.invokevirtual 110, 3) := ge_invokevirtual (by decide +kernel)
theorem d_X12_wordOfS_24 : decode prog_14_method_21_code 24 = .ok (.return_, 1) := ge_return_ (by decide +kernel)
theorem d_X12_wordOfS_25 : decode prog_14_method_21_code 25 = .ok (.aload_n 0, 1) := ge_aload_n_0 (by decide +kernel)
theorem d_X12_wordOfS_26 : decode prog_14_method_21_code 26 = .ok (.bipush 116, 2) := ge_bipush (by decide +kernel)
theorem d_X12_wordOfS_28 : decode prog_14_method_21_code 28 = .ok (.invokevirtual 71, 3) := ge_invokevirtual (by decide +kernel)
theorem d_X12_wordOfS_31 : decode prog_14_method_21_code 31 = .ok (.aload_n 0, 1) := ge_aload_n_0 (by decide +kernel)
theorem d_X12_wordOfS_32 : decode prog_14_method_21_code 32 = .ok (.invokevirtual 58, 3) := ge_invokevirtual (by decide +kernel)
theorem d_X12_wordOfS_35 : decode prog_14_method_21_code 35 = .ok (.bipush 114, 2) := ge_bipush (by decide +kernel)
theorem d_X12_wordOfS_37 : decode prog_14_method_21_code 37 = .ok (.if_icmp .ne 14, 3) := ge_if_icmp_ne (by decide +kernel)
theorem d_X12_wordOfS_40 : decode prog_14_method_21_code 40 = .ok (.aload_n 0, 1) := ge_aload_n_0 (by decide +kernel)
theorem d_X12_wordOfS_41 : decode prog_14_method_21_code 41 = .ok (.bipush (-10), 2) := ge_bipush (by decide +kernel)
theorem d_X12_wordOfS_43 : decode prog_14_method_21_code 43 = .ok (.ldc 114, 2) := ge_ldc (by decide +kernel)
theorem d_X12_wordOfS_45 : decode prog_14_method_21_code 45 = .ok (.invokevirtual 116, 3) := ge_invokevirtual (by decide +kernel)
theorem d_X12_wordOfS_48 : decode prog_14_method_21_code 48 = .ok (.goto 12, 3) := ge_goto (by decide +kernel)
theorem d_X12_wordOfS_51 : decode prog_14_method_21_code 51 = .ok (.aload_n 0, 1) := ge_aload_n_0 (by decide +kernel)
theorem d_X12_wordOfS_52 : decode prog_14_method_21_code 52 = .ok (.sipush (-200), 3) := ge_sipush (by decide +kernel)
theorem d_X12_wordOfS_55 : decode prog_14_method_21_code 55 = .ok (.ldc 119, 2) := ge_ldc (by decide +kernel)
theorem d_X12_wordOfS_57 : decode prog_14_method_21_code 57 = .ok (.invokevirtual 116, 3) := ge_invokevirtual (by decide +kernel)
theorem d_X12_wordOfS_60 : decode prog_14_method_21_code 60 = .ok (.return_, 1) := ge_return_ (by decide +kernel)
def f_X12_wordOfS (a0 : Nat) (μ : gm_M) : Option (Option Value × gm_M) := if gm_tag μ a0 = 17 then gm_bV (f_X12_must a0 (115 : Int32) μ) (fun m1 => if gm_tag m1 a0 = 17 then gm_bI (f_X12_here a0 m1) (fun x4 m3 => if x4 ≠ (119 : Int32) then if gm_tag m3 a0 = 17 then gm_bV (f_X12_must a0 (116 : Int32) m3) (fun m5 => if gm_tag m5 a0 = 17 then gm_bI (f_X12_here a0 m5) (fun x8 m7 => if x8 ≠ (114 : Int32) then if gm_tag m7 a0 = 17 then gm_bV (f_X12_much a0 (-200 : Int32) (4 : UInt32) m7) (fun m9 => some (none, m9)) else none else if gm_tag m7 a0 = 17 then gm_bV (f_X12_much a0 (-10 : Int32) (3 : UInt32) m7) (fun m11 => some (none, m11)) else none) else none) else none else if gm_tag m3 a0 = 17 then gm_bV (f_X12_tellsHere a0 (215 : Int32) (2 : UInt32) m3) (fun m13 => some (none, m13)) else none) else none) else none
set_option maxHeartbeats 4000000 in
theorem c_X12_wordOfS (a0 : Nat) (μ : gm_M) : gm_Call ({ cls := "GumBubbleModel", name := "wordOfS", desc := "()V" } : Jvm.MethodName) prog_14_method_21_code 1 none 71 0 0 [.ref a0] μ (f_X12_wordOfS a0 μ) := by
  refine gm_start PN_12 (Nat.le_of_ble_eq_true rfl) (fun res μe => ?_)
  unfold f_X12_wordOfS
  show gm_A "GumBubbleModel" (gm_nm "wordOfS") _ _ _ _ _ _ _ _ _ 0 [(0, .ref a0)] [] _ _
  refine gm_aload_n d_X12_wordOfS_0 rfl 0 rfl ?_
  refine gm_bipush (v := 115) d_X12_wordOfS_1 (by decide) ?_
  refine gm_grd (fun g3 => ?_)
  refine gm_callV (k0 := 12) [.int (115 : Int32)] (c_X12_must a0 (115 : Int32) μ) g3 rfl B_X12_must gw_990 gs_29 rfl rfl rfl d_X12_wordOfS_3 (gm_kV (fun m1 => ?_))
  refine gm_aload_n d_X12_wordOfS_6 rfl 0 rfl ?_
  refine gm_grd (fun g7 => ?_)
  refine gm_callV (k0 := 12) [] (c_X12_here a0 m1) g7 rfl B_X12_here gw_975 gs_26 rfl rfl rfl d_X12_wordOfS_7 (gm_kI (fun x4 m3 => ?_))
  refine gm_bipush (v := 119) d_X12_wordOfS_10 (by decide) ?_
  refine gm_icmp_ne (tgt := 25) d_X12_wordOfS_12 (by decide) (fun h12 => ?_) (fun h12 => ?_)
  ·
    refine gm_aload_n d_X12_wordOfS_25 rfl 0 rfl ?_
    refine gm_bipush (v := 116) d_X12_wordOfS_26 (by decide) ?_
    refine gm_grd (fun g28 => ?_)
    refine gm_callV (k0 := 12) [.int (116 : Int32)] (c_X12_must a0 (116 : Int32) m3) g28 rfl B_X12_must gw_990 gs_29 rfl rfl rfl d_X12_wordOfS_28 (gm_kV (fun m5 => ?_))
    refine gm_aload_n d_X12_wordOfS_31 rfl 0 rfl ?_
    refine gm_grd (fun g32 => ?_)
    refine gm_callV (k0 := 12) [] (c_X12_here a0 m5) g32 rfl B_X12_here gw_975 gs_26 rfl rfl rfl d_X12_wordOfS_32 (gm_kI (fun x8 m7 => ?_))
    refine gm_bipush (v := 114) d_X12_wordOfS_35 (by decide) ?_
    refine gm_icmp_ne (tgt := 51) d_X12_wordOfS_37 (by decide) (fun h37 => ?_) (fun h37 => ?_)
    ·
      refine gm_aload_n d_X12_wordOfS_51 rfl 0 rfl ?_
      refine gm_sipush (v := -200) d_X12_wordOfS_52 (by decide) ?_
      refine gm_ldcS (t := 3) (u := 4) (tx := "iff ") (by decide +kernel) rfl d_X12_wordOfS_55 ?_
      refine gm_grd (fun g57 => ?_)
      refine gm_callV (k0 := 12) [.int (-200 : Int32), .float (4 : UInt32)] (c_X12_much a0 (-200 : Int32) (4 : UInt32) m7) g57 rfl B_X12_much gw_1004 gs_32 rfl rfl rfl d_X12_wordOfS_57 (gm_kV (fun m9 => ?_))
      exact gm_vret rfl d_X12_wordOfS_60 (Nat.le_of_ble_eq_true rfl) (Nat.le_of_ble_eq_true rfl) (fun h => h)
    ·
      refine gm_aload_n d_X12_wordOfS_40 rfl 0 rfl ?_
      refine gm_bipush (v := -10) d_X12_wordOfS_41 (by decide) ?_
      refine gm_ldcS (t := 2) (u := 3) (tx := "retch ") (by decide +kernel) rfl d_X12_wordOfS_43 ?_
      refine gm_grd (fun g45 => ?_)
      refine gm_callV (k0 := 12) [.int (-10 : Int32), .float (3 : UInt32)] (c_X12_much a0 (-10 : Int32) (3 : UInt32) m7) g45 rfl B_X12_much gw_1004 gs_32 rfl rfl rfl d_X12_wordOfS_45 (gm_kV (fun m11 => ?_))
      refine gm_goto (tgt := 60) d_X12_wordOfS_48 (by decide) ?_
      exact gm_vret rfl d_X12_wordOfS_60 (Nat.le_of_ble_eq_true rfl) (Nat.le_of_ble_eq_true rfl) (fun h => h)
  ·
    refine gm_aload_n d_X12_wordOfS_15 rfl 0 rfl ?_
    refine gm_sipush (v := 215) d_X12_wordOfS_16 (by decide) ?_
    refine gm_ldcS (t := 1) (u := 2) (tx := "weet ") (by decide +kernel) rfl d_X12_wordOfS_19 ?_
    refine gm_grd (fun g21 => ?_)
    refine gm_callV (k0 := 12) [.int (215 : Int32), .float (2 : UInt32)] (c_X12_tellsHere a0 (215 : Int32) (2 : UInt32) m3) g21 rfl B_X12_tellsHere gw_980 gs_27 rfl rfl rfl d_X12_wordOfS_21 (gm_kV (fun m13 => ?_))
    exact gm_vret rfl d_X12_wordOfS_24 (Nat.le_of_ble_eq_true rfl) (Nat.le_of_ble_eq_true rfl) (fun h => h)
theorem d_X12_clauseHere_0 : decode prog_14_method_22_code 0 = .ok (.aload_n 0, 1) := ge_aload_n_0 (by decide +kernel)
theorem d_X12_clauseHere_1 : decode prog_14_method_22_code 1 = .ok (.invokevirtual 58, 3) := ge_invokevirtual (by decide +kernel)
theorem d_X12_clauseHere_4 : decode prog_14_method_22_code 4 = .ok (.lookupswitch 47 #[(115, 40), (119, 28)], 28) := by decide +kernel
theorem d_X12_clauseHere_32 : decode prog_14_method_22_code 32 = .ok (.aload_n 0, 1) := ge_aload_n_0 (by decide +kernel)
theorem d_X12_clauseHere_33 : decode prog_14_method_22_code 33 = .ok (.sipush 210, 3) := ge_sipush (by decide +kernel)
theorem d_X12_clauseHere_36 : decode prog_14_method_22_code 36 = .ok (.ldc 121, 2) := ge_ldc (by decide +kernel)
theorem d_X12_clauseHere_38 : decode prog_14_method_22_code 38 = .ok (.invokevirtual 110, 3) := ge_invokevirtual (by decide +kernel)
theorem d_X12_clauseHere_41 : decode prog_14_method_22_code 41 = .ok (.goto 15, 3) := ge_goto (by decide +kernel)
theorem d_X12_clauseHere_44 : decode prog_14_method_22_code 44 = .ok (.aload_n 0, 1) := ge_aload_n_0 (by decide +kernel)
theorem d_X12_clauseHere_45 : decode prog_14_method_22_code 45 = .ok (.invokevirtual 123, 3) := ge_invokevirtual (by decide +kernel)
theorem d_X12_clauseHere_48 : decode prog_14_method_22_code 48 = .ok (.goto 8, 3) := ge_goto (by decide +kernel)
theorem d_X12_clauseHere_51 : decode prog_14_method_22_code 51 = .ok (.aload_n 0, 1) := ge_aload_n_0 (by decide +kernel)
theorem d_X12_clauseHere_52 : decode prog_14_method_22_code 52 = .ok (.iconst 1, 1) := ge_iconst_1 (by decide +kernel)
theorem d_X12_clauseHere_53 : decode prog_14_method_22_code 53 = .ok (.putfield 54, 3) := ge_putfield (by decide +kernel)
theorem d_X12_clauseHere_56 : decode prog_14_method_22_code 56 = .ok (.return_, 1) := ge_return_ (by decide +kernel)
def f_X12_clauseHere (a0 : Nat) (μ : gm_M) : Option (Option Value × gm_M) := if gm_tag μ a0 = 17 then gm_bI (f_X12_here a0 μ) (fun x2 m1 => if x2 = 115 then if gm_tag m1 a0 = 17 then gm_bV (f_X12_wordOfS a0 m1) (fun m3 => some (none, m3)) else none else if x2 = 119 then if gm_tag m1 a0 = 17 then gm_bV (f_X12_tellsHere a0 (210 : Int32) (1 : UInt32) m1) (fun m5 => some (none, m5)) else none else gm_pZ m1 [17] a0 8 (1 : Int32) (fun m7 => some (none, m7))) else none
set_option maxHeartbeats 4000000 in
theorem c_X12_clauseHere (a0 : Nat) (μ : gm_M) : gm_Call ({ cls := "GumBubbleModel", name := "clauseHere", desc := "()V" } : Jvm.MethodName) prog_14_method_22_code 1 none 72 0 0 [.ref a0] μ (f_X12_clauseHere a0 μ) := by
  refine gm_start PN_12 (Nat.le_of_ble_eq_true rfl) (fun res μe => ?_)
  unfold f_X12_clauseHere
  show gm_A "GumBubbleModel" (gm_nm "clauseHere") _ _ _ _ _ _ _ _ _ 0 [(0, .ref a0)] [] _ _
  refine gm_aload_n d_X12_clauseHere_0 rfl 0 rfl ?_
  refine gm_grd (fun g1 => ?_)
  refine gm_callV (k0 := 12) [] (c_X12_here a0 μ) g1 rfl B_X12_here gw_975 gs_26 rfl rfl rfl d_X12_clauseHere_1 (gm_kI (fun x2 m1 => ?_))
  refine gm_ite (P := x2 = 115) (fun h4_115 => ?_) (fun h4_115 => ?_)
  ·
    refine gm_lkp (off := 40) (tgt := 44) d_X12_clauseHere_4 (by decide) (by rw [h4_115] <;> rfl) (by decide) ?_
    refine gm_aload_n d_X12_clauseHere_44 rfl 0 rfl ?_
    refine gm_grd (fun g45 => ?_)
    refine gm_callV (k0 := 12) [] (c_X12_wordOfS a0 m1) g45 rfl B_X12_wordOfS gw_998 gs_31 rfl rfl rfl d_X12_clauseHere_45 (gm_kV (fun m3 => ?_))
    refine gm_goto (tgt := 56) d_X12_clauseHere_48 (by decide) ?_
    exact gm_vret rfl d_X12_clauseHere_56 (Nat.le_of_ble_eq_true rfl) (Nat.le_of_ble_eq_true rfl) (fun h => h)
  ·
    refine gm_ite (P := x2 = 119) (fun h4_119 => ?_) (fun h4_119 => ?_)
    ·
      refine gm_lkp (off := 28) (tgt := 32) d_X12_clauseHere_4 (by decide) (by rw [h4_119] <;> rfl) (by decide) ?_
      refine gm_aload_n d_X12_clauseHere_32 rfl 0 rfl ?_
      refine gm_sipush (v := 210) d_X12_clauseHere_33 (by decide) ?_
      refine gm_ldcS (t := 0) (u := 1) (tx := "wind ") (by decide +kernel) rfl d_X12_clauseHere_36 ?_
      refine gm_grd (fun g38 => ?_)
      refine gm_callV (k0 := 12) [.int (210 : Int32), .float (1 : UInt32)] (c_X12_tellsHere a0 (210 : Int32) (1 : UInt32) m1) g38 rfl B_X12_tellsHere gw_980 gs_27 rfl rfl rfl d_X12_clauseHere_38 (gm_kV (fun m5 => ?_))
      refine gm_goto (tgt := 56) d_X12_clauseHere_41 (by decide) ?_
      exact gm_vret rfl d_X12_clauseHere_56 (Nat.le_of_ble_eq_true rfl) (Nat.le_of_ble_eq_true rfl) (fun h => h)
    ·
      refine gm_lkp (off := 47) (tgt := 51) d_X12_clauseHere_4 (by decide) (by show Op.lookupswitch.offset [(115, 40), (119, 28)] 47 _ = _; rw [lv_osw h4_115 (show (115 : Int32).toInt = 115 from rfl), lv_osw h4_119 (show (119 : Int32).toInt = 119 from rfl)] <;> rfl) (by decide) ?_
      refine gm_aload_n d_X12_clauseHere_51 rfl 0 rfl ?_
      refine gm_iconst (v := 1) d_X12_clauseHere_52 (by decide) ?_
      refine gm_putZ F_12_isWrong (Or.inl rfl) gw_897 d_X12_clauseHere_53 (fun m7 _ => ?_)
      exact gm_vret rfl d_X12_clauseHere_56 (Nat.le_of_ble_eq_true rfl) (Nat.le_of_ble_eq_true rfl) (fun h => h)
theorem d_X12_afternoon_0 : decode prog_14_method_23_code 0 = .ok (.aload_n 0, 1) := ge_aload_n_0 (by decide +kernel)
theorem d_X12_afternoon_1 : decode prog_14_method_23_code 1 = .ok (.getfield 9, 3) := ge_getfield (by decide +kernel)
theorem d_X12_afternoon_4 : decode prog_14_method_23_code 4 = .ok (.bipush 27, 2) := ge_bipush (by decide +kernel)
theorem d_X12_afternoon_6 : decode prog_14_method_23_code 6 = .ok (.iaload, 1) := ge_iaload (by decide +kernel)
theorem d_X12_afternoon_7 : decode prog_14_method_23_code 7 = .ok (.iconst 5, 1) := ge_iconst_5 (by decide +kernel)
theorem d_X12_afternoon_8 : decode prog_14_method_23_code 8 = .ok (.if_icmp .ne 6, 3) := ge_if_icmp_ne (by decide +kernel)
theorem d_X12_afternoon_11 : decode prog_14_method_23_code 11 = .ok (.bipush (-4), 2) := ge_bipush (by decide +kernel)
theorem d_X12_afternoon_13 : decode prog_14_method_23_code 13 = .ok (.ireturn, 1) := ge_ireturn (by decide +kernel)
theorem d_X12_afternoon_14 : decode prog_14_method_23_code 14 = .ok (.aload_n 0, 1) := ge_aload_n_0 (by decide +kernel)
theorem d_X12_afternoon_15 : decode prog_14_method_23_code 15 = .ok (.aload_n 0, 1) := ge_aload_n_0 (by decide +kernel)
theorem d_X12_afternoon_16 : decode prog_14_method_23_code 16 = .ok (.getfield 9, 3) := ge_getfield (by decide +kernel)
theorem d_X12_afternoon_19 : decode prog_14_method_23_code 19 = .ok (.bipush 27, 2) := ge_bipush (by decide +kernel)
theorem d_X12_afternoon_21 : decode prog_14_method_23_code 21 = .ok (.iaload, 1) := ge_iaload (by decide +kernel)
theorem d_X12_afternoon_22 : decode prog_14_method_23_code 22 = .ok (.putfield 75, 3) := ge_putfield (by decide +kernel)
theorem d_X12_afternoon_25 : decode prog_14_method_23_code 25 = .ok (.aload_n 0, 1) := ge_aload_n_0 (by decide +kernel)
theorem d_X12_afternoon_26 : decode prog_14_method_23_code 26 = .ok (.aload_n 0, 1) := ge_aload_n_0 (by decide +kernel)
theorem d_X12_afternoon_27 : decode prog_14_method_23_code 27 = .ok (.getfield 9, 3) := ge_getfield (by decide +kernel)
theorem d_X12_afternoon_30 : decode prog_14_method_23_code 30 = .ok (.bipush 31, 2) := ge_bipush (by decide +kernel)
theorem d_X12_afternoon_32 : decode prog_14_method_23_code 32 = .ok (.iaload, 1) := ge_iaload (by decide +kernel)
theorem d_X12_afternoon_33 : decode prog_14_method_23_code 33 = .ok (.putfield 51, 3) := ge_putfield (by decide +kernel)
theorem d_X12_afternoon_36 : decode prog_14_method_23_code 36 = .ok (.aload_n 0, 1) := ge_aload_n_0 (by decide +kernel)
theorem d_X12_afternoon_37 : decode prog_14_method_23_code 37 = .ok (.getfield 9, 3) := ge_getfield (by decide +kernel)
theorem d_X12_afternoon_40 : decode prog_14_method_23_code 40 = .ok (.bipush 31, 2) := ge_bipush (by decide +kernel)
theorem d_X12_afternoon_42 : decode prog_14_method_23_code 42 = .ok (.iconst 0, 1) := ge_iconst_0 (by decide +kernel)
theorem d_X12_afternoon_43 : decode prog_14_method_23_code 43 = .ok (.iastore, 1) := ge_iastore (by decide +kernel)
theorem d_X12_afternoon_44 : decode prog_14_method_23_code 44 = .ok (.aload_n 0, 1) := ge_aload_n_0 (by decide +kernel)
theorem d_X12_afternoon_45 : decode prog_14_method_23_code 45 = .ok (.getfield 9, 3) := ge_getfield (by decide +kernel)
theorem d_X12_afternoon_48 : decode prog_14_method_23_code 48 = .ok (.sipush 210, 3) := ge_sipush (by decide +kernel)
theorem d_X12_afternoon_51 : decode prog_14_method_23_code 51 = .ok (.aload_n 0, 1) := ge_aload_n_0 (by decide +kernel)
theorem d_X12_afternoon_52 : decode prog_14_method_23_code 52 = .ok (.getfield 75, 3) := ge_getfield (by decide +kernel)
theorem d_X12_afternoon_55 : decode prog_14_method_23_code 55 = .ok (.iadd, 1) := ge_iadd (by decide +kernel)
theorem d_X12_afternoon_56 : decode prog_14_method_23_code 56 = .ok (.iconst 0, 1) := ge_iconst_0 (by decide +kernel)
theorem d_X12_afternoon_57 : decode prog_14_method_23_code 57 = .ok (.iastore, 1) := ge_iastore (by decide +kernel)
theorem d_X12_afternoon_58 : decode prog_14_method_23_code 58 = .ok (.aload_n 0, 1) := ge_aload_n_0 (by decide +kernel)
theorem d_X12_afternoon_59 : decode prog_14_method_23_code 59 = .ok (.getfield 9, 3) := ge_getfield (by decide +kernel)
theorem d_X12_afternoon_62 : decode prog_14_method_23_code 62 = .ok (.sipush 215, 3) := ge_sipush (by decide +kernel)
theorem d_X12_afternoon_65 : decode prog_14_method_23_code 65 = .ok (.aload_n 0, 1) := ge_aload_n_0 (by decide +kernel)
theorem d_X12_afternoon_66 : decode prog_14_method_23_code 66 = .ok (.getfield 75, 3) := ge_getfield (by decide +kernel)
theorem d_X12_afternoon_69 : decode prog_14_method_23_code 69 = .ok (.iadd, 1) := ge_iadd (by decide +kernel)
theorem d_X12_afternoon_70 : decode prog_14_method_23_code 70 = .ok (.bipush 20, 2) := ge_bipush (by decide +kernel)
theorem d_X12_afternoon_72 : decode prog_14_method_23_code 72 = .ok (.iastore, 1) := ge_iastore (by decide +kernel)
theorem d_X12_afternoon_73 : decode prog_14_method_23_code 73 = .ok (.aload_n 0, 1) := ge_aload_n_0 (by decide +kernel)
theorem d_X12_afternoon_74 : decode prog_14_method_23_code 74 = .ok (.getfield 9, 3) := ge_getfield (by decide +kernel)
theorem d_X12_afternoon_77 : decode prog_14_method_23_code 77 = .ok (.sipush 220, 3) := ge_sipush (by decide +kernel)
theorem d_X12_afternoon_80 : decode prog_14_method_23_code 80 = .ok (.aload_n 0, 1) := ge_aload_n_0 (by decide +kernel)
theorem d_X12_afternoon_81 : decode prog_14_method_23_code 81 = .ok (.getfield 75, 3) := ge_getfield (by decide +kernel)
theorem d_X12_afternoon_84 : decode prog_14_method_23_code 84 = .ok (.iadd, 1) := ge_iadd (by decide +kernel)
theorem d_X12_afternoon_85 : decode prog_14_method_23_code 85 = .ok (.iconst 0, 1) := ge_iconst_0 (by decide +kernel)
theorem d_X12_afternoon_86 : decode prog_14_method_23_code 86 = .ok (.iastore, 1) := ge_iastore (by decide +kernel)
theorem d_X12_afternoon_87 : decode prog_14_method_23_code 87 = .ok (.aload_n 0, 1) := ge_aload_n_0 (by decide +kernel)
theorem d_X12_afternoon_88 : decode prog_14_method_23_code 88 = .ok (.iconst 0, 1) := ge_iconst_0 (by decide +kernel)
theorem d_X12_afternoon_89 : decode prog_14_method_23_code 89 = .ok (.putfield 48, 3) := ge_putfield (by decide +kernel)
theorem d_X12_afternoon_92 : decode prog_14_method_23_code 92 = .ok (.aload_n 0, 1) := ge_aload_n_0 (by decide +kernel)
theorem d_X12_afternoon_93 : decode prog_14_method_23_code 93 = .ok (.iconst 0, 1) := ge_iconst_0 (by decide +kernel)
theorem d_X12_afternoon_94 : decode prog_14_method_23_code 94 = .ok (.putfield 54, 3) := ge_putfield (by decide +kernel)
theorem d_X12_afternoon_97 : decode prog_14_method_23_code 97 = .ok (.aload_n 0, 1) := ge_aload_n_0 (by decide +kernel)
theorem d_X12_afternoon_98 : decode prog_14_method_23_code 98 = .ok (.iconst 0, 1) := ge_iconst_0 (by decide +kernel)
theorem d_X12_afternoon_99 : decode prog_14_method_23_code 99 = .ok (.putfield 78, 3) := ge_putfield (by decide +kernel)
theorem d_X12_afternoon_102 : decode prog_14_method_23_code 102 = .ok (.iconst 1, 1) := ge_iconst_1 (by decide +kernel)
theorem d_X12_afternoon_103 : decode prog_14_method_23_code 103 = .ok (.istore_n 1, 1) := ge_istore_n_1 (by decide +kernel)
theorem d_X12_afternoon_104 : decode prog_14_method_23_code 104 = .ok (.aload_n 0, 1) := ge_aload_n_0 (by decide +kernel)
theorem d_X12_afternoon_105 : decode prog_14_method_23_code 105 = .ok (.invokevirtual 126, 3) := ge_invokevirtual (by decide +kernel)
theorem d_X12_afternoon_108 : decode prog_14_method_23_code 108 = .ok (.aload_n 0, 1) := ge_aload_n_0 (by decide +kernel)
theorem d_X12_afternoon_109 : decode prog_14_method_23_code 109 = .ok (.getfield 54, 3) := ge_getfield (by decide +kernel)
theorem d_X12_afternoon_112 : decode prog_14_method_23_code 112 = .ok (.ifCond .ne 38, 3) := ge_ifCond_ne (by decide +kernel)
theorem d_X12_afternoon_115 : decode prog_14_method_23_code 115 = .ok (.iload_n 1, 1) := ge_iload_n_1 (by decide +kernel)
theorem d_X12_afternoon_116 : decode prog_14_method_23_code 116 = .ok (.bipush 10, 2) := ge_bipush (by decide +kernel)
theorem d_X12_afternoon_118 : decode prog_14_method_23_code 118 = .ok (.if_icmp .ge 32, 3) := ge_if_icmp_ge (by decide +kernel)
theorem d_X12_afternoon_121 : decode prog_14_method_23_code 121 = .ok (.aload_n 0, 1) := ge_aload_n_0 (by decide +kernel)
theorem d_X12_afternoon_122 : decode prog_14_method_23_code 122 = .ok (.invokevirtual 58, 3) := ge_invokevirtual (by decide +kernel)
theorem d_X12_afternoon_125 : decode prog_14_method_23_code 125 = .ok (.bipush 59, 2) := ge_bipush (by decide +kernel)
theorem d_X12_afternoon_127 : decode prog_14_method_23_code 127 = .ok (.if_icmp .ne 23, 3) := ge_if_icmp_ne (by decide +kernel)
theorem d_X12_afternoon_130 : decode prog_14_method_23_code 130 = .ok (.aload_n 0, 1) := ge_aload_n_0 (by decide +kernel)
theorem d_X12_afternoon_131 : decode prog_14_method_23_code 131 = .ok (.dup, 1) := ge_dup (by decide +kernel)
theorem d_X12_afternoon_132 : decode prog_14_method_23_code 132 = .ok (.getfield 48, 3) := ge_getfield (by decide +kernel)
theorem d_X12_afternoon_135 : decode prog_14_method_23_code 135 = .ok (.iconst 1, 1) := ge_iconst_1 (by decide +kernel)
theorem d_X12_afternoon_136 : decode prog_14_method_23_code 136 = .ok (.iadd, 1) := ge_iadd (by decide +kernel)
theorem d_X12_afternoon_137 : decode prog_14_method_23_code 137 = .ok (.putfield 48, 3) := ge_putfield (by decide +kernel)
theorem d_X12_afternoon_140 : decode prog_14_method_23_code 140 = .ok (.aload_n 0, 1) := ge_aload_n_0 (by decide +kernel)
theorem d_X12_afternoon_141 : decode prog_14_method_23_code 141 = .ok (.invokevirtual 126, 3) := ge_invokevirtual (by decide +kernel)
theorem d_X12_afternoon_144 : decode prog_14_method_23_code 144 = .ok (.iinc 1 1, 3) := ge_iinc (by decide +kernel)
theorem d_X12_afternoon_147 : decode prog_14_method_23_code 147 = .ok (.goto (-39), 3) := ge_goto (by decide +kernel)
theorem d_X12_afternoon_150 : decode prog_14_method_23_code 150 = .ok (.aload_n 0, 1) := ge_aload_n_0 (by decide +kernel)
theorem d_X12_afternoon_151 : decode prog_14_method_23_code 151 = .ok (.getfield 54, 3) := ge_getfield (by decide +kernel)
theorem d_X12_afternoon_154 : decode prog_14_method_23_code 154 = .ok (.ifCond .ne 14, 3) := ge_ifCond_ne (by decide +kernel)
theorem d_X12_afternoon_157 : decode prog_14_method_23_code 157 = .ok (.aload_n 0, 1) := ge_aload_n_0 (by decide +kernel)
theorem d_X12_afternoon_158 : decode prog_14_method_23_code 158 = .ok (.getfield 48, 3) := ge_getfield (by decide +kernel)
theorem d_X12_afternoon_161 : decode prog_14_method_23_code 161 = .ok (.aload_n 0, 1) := ge_aload_n_0 (by decide +kernel)
theorem d_X12_afternoon_162 : decode prog_14_method_23_code 162 = .ok (.getfield 51, 3) := ge_getfield (by decide +kernel)
theorem d_X12_afternoon_165 : decode prog_14_method_23_code 165 = .ok (.if_icmp .eq 11, 3) := ge_if_icmp_eq (by decide +kernel)
theorem d_X12_afternoon_168 : decode prog_14_method_23_code 168 = .ok (.bipush (-10), 2) := ge_bipush (by decide +kernel)
theorem d_X12_afternoon_170 : decode prog_14_method_23_code 170 = .ok (.aload_n 0, 1) := ge_aload_n_0 (by decide +kernel)
theorem d_X12_afternoon_171 : decode prog_14_method_23_code 171 = .ok (.getfield 48, 3) := ge_getfield (by decide +kernel)
theorem d_X12_afternoon_174 : decode prog_14_method_23_code 174 = .ok (.isub, 1) := ge_isub (by decide +kernel)
theorem d_X12_afternoon_175 : decode prog_14_method_23_code 175 = .ok (.ireturn, 1) := ge_ireturn (by decide +kernel)
theorem d_X12_afternoon_176 : decode prog_14_method_23_code 176 = .ok (.aload_n 0, 1) := ge_aload_n_0 (by decide +kernel)
theorem d_X12_afternoon_177 : decode prog_14_method_23_code 177 = .ok (.getfield 9, 3) := ge_getfield (by decide +kernel)
theorem d_X12_afternoon_180 : decode prog_14_method_23_code 180 = .ok (.bipush 27, 2) := ge_bipush (by decide +kernel)
theorem d_X12_afternoon_182 : decode prog_14_method_23_code 182 = .ok (.dup2, 1) := ge_dup2 (by decide +kernel)
theorem d_X12_afternoon_183 : decode prog_14_method_23_code 183 = .ok (.iaload, 1) := ge_iaload (by decide +kernel)
theorem d_X12_afternoon_184 : decode prog_14_method_23_code 184 = .ok (.iconst 1, 1) := ge_iconst_1 (by decide +kernel)
theorem d_X12_afternoon_185 : decode prog_14_method_23_code 185 = .ok (.iadd, 1) := ge_iadd (by decide +kernel)
theorem d_X12_afternoon_186 : decode prog_14_method_23_code 186 = .ok (.iastore, 1) := ge_iastore (by decide +kernel)
theorem d_X12_afternoon_187 : decode prog_14_method_23_code 187 = .ok (.aload_n 0, 1) := ge_aload_n_0 (by decide +kernel)
theorem d_X12_afternoon_188 : decode prog_14_method_23_code 188 = .ok (.getfield 9, 3) := ge_getfield (by decide +kernel)
theorem d_X12_afternoon_191 : decode prog_14_method_23_code 191 = .ok (.bipush 32, 2) := ge_bipush (by decide +kernel)
theorem d_X12_afternoon_193 : decode prog_14_method_23_code 193 = .ok (.aload_n 0, 1) := ge_aload_n_0 (by decide +kernel)
theorem d_X12_afternoon_194 : decode prog_14_method_23_code 194 = .ok (.getfield 75, 3) := ge_getfield (by decide +kernel)
theorem d_X12_afternoon_197 : decode prog_14_method_23_code 197 = .ok (.iastore, 1) := ge_iastore (by decide +kernel)
theorem d_X12_afternoon_198 : decode prog_14_method_23_code 198 = .ok (.aload_n 0, 1) := ge_aload_n_0 (by decide +kernel)
theorem d_X12_afternoon_199 : decode prog_14_method_23_code 199 = .ok (.getfield 75, 3) := ge_getfield (by decide +kernel)
theorem d_X12_afternoon_202 : decode prog_14_method_23_code 202 = .ok (.ireturn, 1) := ge_ireturn (by decide +kernel)
def f_X12_afternoon (a0 : Nat) (μ : gm_M) : Option (Option Value × gm_M) := gm_gR μ [17] a0 1 (fun v1 => gm_aI μ v1 (27 : Int32) (fun v2 => if v2 ≠ (5 : Int32) then gm_gR μ [17] a0 1 (fun v3 => gm_aI μ v3 (27 : Int32) (fun v4 => gm_pI μ [17] a0 5 v4 (fun m5 => gm_gR m5 [17] a0 1 (fun v6 => gm_aI m5 v6 (31 : Int32) (fun v7 => gm_pI m5 [17] a0 7 v7 (fun m8 => gm_gR m8 [17] a0 1 (fun v9 => gm_sI m8 v9 (31 : Int32) (0 : Int32) (fun m10 => gm_gR m10 [17] a0 1 (fun v11 => gm_gI m10 [17] a0 5 (fun v12 => gm_sI m10 v11 ((210 : Int32) + v12) (0 : Int32) (fun m13 => gm_gR m13 [17] a0 1 (fun v14 => gm_gI m13 [17] a0 5 (fun v15 => gm_sI m13 v14 ((215 : Int32) + v15) (20 : Int32) (fun m16 => gm_gR m16 [17] a0 1 (fun v17 => gm_gI m16 [17] a0 5 (fun v18 => gm_sI m16 v17 ((220 : Int32) + v18) (0 : Int32) (fun m19 => gm_pI m19 [17] a0 6 (0 : Int32) (fun m20 => gm_pZ m20 [17] a0 8 (0 : Int32) (fun m21 => gm_pI m21 [17] a0 9 (0 : Int32) (fun m22 => if gm_tag m22 a0 = 17 then gm_bV (f_X12_clauseHere a0 m22) (fun m23 => gm_loop (fun (s25 : Int32 × gm_M) => gm_gI s25.2 [17] a0 8 (fun v26 => gm_j (fun (s27 : gm_M) => gm_gI s27 [17] a0 8 (fun v29 => gm_j (fun (s30 : Unit) => gm_gI s27 [17] a0 6 (fun v32 => some (Sum.inr (some (.int ((-10 : Int32) - v32)), s27)))) (fun j31 => if v29 ≠ 0 then j31 () else gm_gI s27 [17] a0 6 (fun v33 => gm_gI s27 [17] a0 7 (fun v34 => if v33 = v34 then gm_gR s27 [17] a0 1 (fun v35 => gm_aI s27 v35 (27 : Int32) (fun v36 => gm_sI s27 v35 (27 : Int32) (v36 + (1 : Int32)) (fun m37 => gm_gR m37 [17] a0 1 (fun v38 => gm_gI m37 [17] a0 5 (fun v39 => gm_sI m37 v38 (32 : Int32) v39 (fun m40 => gm_gI m40 [17] a0 5 (fun v41 => some (Sum.inr (some (.int v41), m40))))))))) else j31 ()))))) (fun j28 => if v26 ≠ 0 then j28 s25.2 else if (10 : Int32) ≤ s25.1 then j28 s25.2 else if gm_tag s25.2 a0 = 17 then gm_bI (f_X12_here a0 s25.2) (fun x43 m42 => if x43 ≠ (59 : Int32) then j28 m42 else gm_gI m42 [17] a0 6 (fun v44 => gm_pI m42 [17] a0 6 (v44 + (1 : Int32)) (fun m45 => if gm_tag m45 a0 = 17 then gm_bV (f_X12_clauseHere a0 m45) (fun m46 => some (Sum.inl ((s25.1 + (1 : Int32)), m46))) else none))) else none))) 5000 ((1 : Int32), m23)) else none)))))))))))))))))))) else some (some (.int (-4 : Int32)), μ)))
set_option maxHeartbeats 4000000 in
theorem c_X12_afternoon (a0 : Nat) (μ : gm_M) : gm_Call ({ cls := "GumBubbleModel", name := "afternoon", desc := "()I" } : Jvm.MethodName) prog_14_method_23_code 2 (some .int) 73 0 0 [.ref a0] μ (f_X12_afternoon a0 μ) := by
  refine gm_start PN_12 (Nat.le_of_ble_eq_true rfl) (fun res μe => ?_)
  unfold f_X12_afternoon
  show gm_A "GumBubbleModel" (gm_nm "afternoon") _ _ _ _ _ _ _ _ _ 0 [(0, .ref a0)] [] _ _
  refine gm_aload_n d_X12_afternoon_0 rfl 0 rfl ?_
  refine gm_getR F_12_s gw_890 d_X12_afternoon_1 (fun v1 _ => ?_)
  refine gm_bipush (v := 27) d_X12_afternoon_4 (by decide) ?_
  refine gm_iald d_X12_afternoon_6 (fun v2 _ => ?_)
  refine gm_iconst (v := 5) d_X12_afternoon_7 (by decide) ?_
  refine gm_icmp_ne (tgt := 14) d_X12_afternoon_8 (by decide) (fun h8 => ?_) (fun h8 => ?_)
  ·
    refine gm_aload_n d_X12_afternoon_14 rfl 0 rfl ?_
    refine gm_aload_n d_X12_afternoon_15 rfl 0 rfl ?_
    refine gm_getR F_12_s gw_890 d_X12_afternoon_16 (fun v3 _ => ?_)
    refine gm_bipush (v := 27) d_X12_afternoon_19 (by decide) ?_
    refine gm_iald d_X12_afternoon_21 (fun v4 _ => ?_)
    refine gm_putI F_12_act (Or.inl rfl) gw_894 d_X12_afternoon_22 (fun m5 _ => ?_)
    refine gm_aload_n d_X12_afternoon_25 rfl 0 rfl ?_
    refine gm_aload_n d_X12_afternoon_26 rfl 0 rfl ?_
    refine gm_getR F_12_s gw_890 d_X12_afternoon_27 (fun v6 _ => ?_)
    refine gm_bipush (v := 31) d_X12_afternoon_30 (by decide) ?_
    refine gm_iald d_X12_afternoon_32 (fun v7 _ => ?_)
    refine gm_putI F_12_end (Or.inl rfl) gw_896 d_X12_afternoon_33 (fun m8 _ => ?_)
    refine gm_aload_n d_X12_afternoon_36 rfl 0 rfl ?_
    refine gm_getR F_12_s gw_890 d_X12_afternoon_37 (fun v9 _ => ?_)
    refine gm_bipush (v := 31) d_X12_afternoon_40 (by decide) ?_
    refine gm_iconst (v := 0) d_X12_afternoon_42 (by decide) ?_
    refine gm_iast d_X12_afternoon_43 (fun m10 _ => ?_)
    refine gm_aload_n d_X12_afternoon_44 rfl 0 rfl ?_
    refine gm_getR F_12_s gw_890 d_X12_afternoon_45 (fun v11 _ => ?_)
    refine gm_sipush (v := 210) d_X12_afternoon_48 (by decide) ?_
    refine gm_aload_n d_X12_afternoon_51 rfl 0 rfl ?_
    refine gm_getI F_12_act gw_894 d_X12_afternoon_52 (fun v12 _ => ?_)
    refine gm_iadd d_X12_afternoon_55 ?_
    refine gm_iconst (v := 0) d_X12_afternoon_56 (by decide) ?_
    refine gm_iast d_X12_afternoon_57 (fun m13 _ => ?_)
    refine gm_aload_n d_X12_afternoon_58 rfl 0 rfl ?_
    refine gm_getR F_12_s gw_890 d_X12_afternoon_59 (fun v14 _ => ?_)
    refine gm_sipush (v := 215) d_X12_afternoon_62 (by decide) ?_
    refine gm_aload_n d_X12_afternoon_65 rfl 0 rfl ?_
    refine gm_getI F_12_act gw_894 d_X12_afternoon_66 (fun v15 _ => ?_)
    refine gm_iadd d_X12_afternoon_69 ?_
    refine gm_bipush (v := 20) d_X12_afternoon_70 (by decide) ?_
    refine gm_iast d_X12_afternoon_72 (fun m16 _ => ?_)
    refine gm_aload_n d_X12_afternoon_73 rfl 0 rfl ?_
    refine gm_getR F_12_s gw_890 d_X12_afternoon_74 (fun v17 _ => ?_)
    refine gm_sipush (v := 220) d_X12_afternoon_77 (by decide) ?_
    refine gm_aload_n d_X12_afternoon_80 rfl 0 rfl ?_
    refine gm_getI F_12_act gw_894 d_X12_afternoon_81 (fun v18 _ => ?_)
    refine gm_iadd d_X12_afternoon_84 ?_
    refine gm_iconst (v := 0) d_X12_afternoon_85 (by decide) ?_
    refine gm_iast d_X12_afternoon_86 (fun m19 _ => ?_)
    refine gm_aload_n d_X12_afternoon_87 rfl 0 rfl ?_
    refine gm_iconst (v := 0) d_X12_afternoon_88 (by decide) ?_
    refine gm_putI F_12_spot (Or.inl rfl) gw_895 d_X12_afternoon_89 (fun m20 _ => ?_)
    refine gm_aload_n d_X12_afternoon_92 rfl 0 rfl ?_
    refine gm_iconst (v := 0) d_X12_afternoon_93 (by decide) ?_
    refine gm_putZ F_12_isWrong (Or.inl rfl) gw_897 d_X12_afternoon_94 (fun m21 _ => ?_)
    refine gm_aload_n d_X12_afternoon_97 rfl 0 rfl ?_
    refine gm_iconst (v := 0) d_X12_afternoon_98 (by decide) ?_
    refine gm_putI F_12_open (Or.inl rfl) gw_898 d_X12_afternoon_99 (fun m22 _ => ?_)
    refine gm_iconst (v := 1) d_X12_afternoon_102 (by decide) ?_
    refine gm_istore_n (L' := [(1, .int (1 : Int32)), (0, .ref a0)]) d_X12_afternoon_103 rfl (Nat.le_of_ble_eq_true rfl) rfl ?_
    refine gm_aload_n d_X12_afternoon_104 rfl 1 rfl ?_
    refine gm_grd (fun g105 => ?_)
    refine gm_callV (k0 := 12) [] (c_X12_clauseHere a0 m22) g105 rfl B_X12_clauseHere gw_971 gs_25 rfl rfl rfl d_X12_afternoon_105 (gm_kV (fun m23 => ?_))
    refine gm_sub (L' := [(0, .ref a0), (1, .int (1 : Int32))]) [1, 0] rfl ?_
    refine gm_lp (S := Int32 × gm_M) (fun _ => 0) (fun _ => 0) (fun s25 => s25.2) (fun s25 => [(0, .ref a0), (1, .int s25.1)]) (fun _ => []) (fun s25 => ?_) 5000 ((1 : Int32), m23)
    refine gm_aload_n d_X12_afternoon_108 rfl 0 rfl ?_
    refine gm_getI F_12_isWrong gw_897 d_X12_afternoon_109 (fun v26 _ => ?_)
    refine gm_join (S := gm_M) (pj := 150) (kj := 0) (nj := 0) (fun s27 => s27) (fun s27 => [(0, .ref a0), (1, .int s25.1)]) (fun s27 => []) (fun s27 => ?_) (fun j28 hj28 => ?_)
    ·
      refine gm_aload_n d_X12_afternoon_150 rfl 0 rfl ?_
      refine gm_getI F_12_isWrong gw_897 d_X12_afternoon_151 (fun v29 _ => ?_)
      refine gm_join (S := Unit) (pj := 168) (kj := 0) (nj := 0) (fun s30 => s27) (fun s30 => [(0, .ref a0), (1, .int s25.1)]) (fun s30 => []) (fun s30 => ?_) (fun j31 hj31 => ?_)
      ·
        refine gm_bipush (v := -10) d_X12_afternoon_168 (by decide) ?_
        refine gm_aload_n d_X12_afternoon_170 rfl 0 rfl ?_
        refine gm_getI F_12_spot gw_895 d_X12_afternoon_171 (fun v32 _ => ?_)
        refine gm_isub d_X12_afternoon_174 ?_
        exact gm_iret rfl d_X12_afternoon_175 (Nat.le_of_ble_eq_true rfl) (Nat.le_of_ble_eq_true rfl) (fun h => h)
      ·
        refine gm_if_ne (tgt := 168) d_X12_afternoon_154 (by decide) (fun h154 => ?_) (fun h154 => ?_)
        ·
          exact hj31 ()
        ·
          refine gm_aload_n d_X12_afternoon_157 rfl 0 rfl ?_
          refine gm_getI F_12_spot gw_895 d_X12_afternoon_158 (fun v33 _ => ?_)
          refine gm_aload_n d_X12_afternoon_161 rfl 0 rfl ?_
          refine gm_getI F_12_end gw_896 d_X12_afternoon_162 (fun v34 _ => ?_)
          refine gm_icmp_eq (tgt := 176) d_X12_afternoon_165 (by decide) (fun h165 => ?_) (fun h165 => ?_)
          ·
            refine gm_aload_n d_X12_afternoon_176 rfl 0 rfl ?_
            refine gm_getR F_12_s gw_890 d_X12_afternoon_177 (fun v35 _ => ?_)
            refine gm_bipush (v := 27) d_X12_afternoon_180 (by decide) ?_
            refine gm_dup2 d_X12_afternoon_182 rfl rfl ?_
            refine gm_iald d_X12_afternoon_183 (fun v36 _ => ?_)
            refine gm_iconst (v := 1) d_X12_afternoon_184 (by decide) ?_
            refine gm_iadd d_X12_afternoon_185 ?_
            refine gm_iast d_X12_afternoon_186 (fun m37 _ => ?_)
            refine gm_aload_n d_X12_afternoon_187 rfl 0 rfl ?_
            refine gm_getR F_12_s gw_890 d_X12_afternoon_188 (fun v38 _ => ?_)
            refine gm_bipush (v := 32) d_X12_afternoon_191 (by decide) ?_
            refine gm_aload_n d_X12_afternoon_193 rfl 0 rfl ?_
            refine gm_getI F_12_act gw_894 d_X12_afternoon_194 (fun v39 _ => ?_)
            refine gm_iast d_X12_afternoon_197 (fun m40 _ => ?_)
            refine gm_aload_n d_X12_afternoon_198 rfl 0 rfl ?_
            refine gm_getI F_12_act gw_894 d_X12_afternoon_199 (fun v41 _ => ?_)
            exact gm_iret rfl d_X12_afternoon_202 (Nat.le_of_ble_eq_true rfl) (Nat.le_of_ble_eq_true rfl) (fun h => h)
          ·
            exact hj31 ()
    ·
      refine gm_if_ne (tgt := 150) d_X12_afternoon_112 (by decide) (fun h112 => ?_) (fun h112 => ?_)
      ·
        exact hj28 s25.2
      ·
        refine gm_iload_n d_X12_afternoon_115 rfl 1 rfl ?_
        refine gm_bipush (v := 10) d_X12_afternoon_116 (by decide) ?_
        refine gm_icmp_ge (tgt := 150) d_X12_afternoon_118 (by decide) (fun h118 => ?_) (fun h118 => ?_)
        ·
          exact hj28 s25.2
        ·
          refine gm_aload_n d_X12_afternoon_121 rfl 0 rfl ?_
          refine gm_grd (fun g122 => ?_)
          refine gm_callV (k0 := 12) [] (c_X12_here a0 s25.2) g122 rfl B_X12_here gw_975 gs_26 rfl rfl rfl d_X12_afternoon_122 (gm_kI (fun x43 m42 => ?_))
          refine gm_bipush (v := 59) d_X12_afternoon_125 (by decide) ?_
          refine gm_icmp_ne (tgt := 150) d_X12_afternoon_127 (by decide) (fun h127 => ?_) (fun h127 => ?_)
          ·
            exact hj28 m42
          ·
            refine gm_aload_n d_X12_afternoon_130 rfl 0 rfl ?_
            refine gm_dup d_X12_afternoon_131 rfl ?_
            refine gm_getI F_12_spot gw_895 d_X12_afternoon_132 (fun v44 _ => ?_)
            refine gm_iconst (v := 1) d_X12_afternoon_135 (by decide) ?_
            refine gm_iadd d_X12_afternoon_136 ?_
            refine gm_putI F_12_spot (Or.inl rfl) gw_895 d_X12_afternoon_137 (fun m45 _ => ?_)
            refine gm_aload_n d_X12_afternoon_140 rfl 0 rfl ?_
            refine gm_grd (fun g141 => ?_)
            refine gm_callV (k0 := 12) [] (c_X12_clauseHere a0 m45) g141 rfl B_X12_clauseHere gw_971 gs_25 rfl rfl rfl d_X12_afternoon_141 (gm_kV (fun m46 => ?_))
            refine gm_iinc (v := s25.1 + (1 : Int32)) (L' := [(1, .int (s25.1 + (1 : Int32))), (0, .ref a0)]) d_X12_afternoon_144 1 rfl rfl (Nat.le_of_ble_eq_true rfl) rfl ?_
            refine gm_goto (tgt := 108) d_X12_afternoon_147 (by decide) ?_
            refine gm_sub (L' := [(0, .ref a0), (1, .int (s25.1 + (1 : Int32)))]) [1, 0] rfl ?_
            exact gm_back (fun h => h)
  ·
    refine gm_bipush (v := -4) d_X12_afternoon_11 (by decide) ?_
    exact gm_iret rfl d_X12_afternoon_13 (Nat.le_of_ble_eq_true rfl) (Nat.le_of_ble_eq_true rfl) (fun h => h)
theorem d_X12_tellsOf_0 : decode prog_14_method_24_code 0 = .ok (.aload_n 0, 1) := ge_aload_n_0 (by decide +kernel)
theorem d_X12_tellsOf_1 : decode prog_14_method_24_code 1 = .ok (.getfield 9, 3) := ge_getfield (by decide +kernel)
theorem d_X12_tellsOf_4 : decode prog_14_method_24_code 4 = .ok (.bipush 32, 2) := ge_bipush (by decide +kernel)
theorem d_X12_tellsOf_6 : decode prog_14_method_24_code 6 = .ok (.iaload, 1) := ge_iaload (by decide +kernel)
theorem d_X12_tellsOf_7 : decode prog_14_method_24_code 7 = .ok (.iconst (-1), 1) := ge_iconst_m1_ (by decide +kernel)
theorem d_X12_tellsOf_8 : decode prog_14_method_24_code 8 = .ok (.if_icmp .ne 7, 3) := ge_if_icmp_ne (by decide +kernel)
theorem d_X12_tellsOf_11 : decode prog_14_method_24_code 11 = .ok (.iload_n 2, 1) := ge_iload_n_2 (by decide +kernel)
theorem d_X12_tellsOf_12 : decode prog_14_method_24_code 12 = .ok (.goto 17, 3) := ge_goto (by decide +kernel)
theorem d_X12_tellsOf_15 : decode prog_14_method_24_code 15 = .ok (.aload_n 0, 1) := ge_aload_n_0 (by decide +kernel)
theorem d_X12_tellsOf_16 : decode prog_14_method_24_code 16 = .ok (.getfield 9, 3) := ge_getfield (by decide +kernel)
theorem d_X12_tellsOf_19 : decode prog_14_method_24_code 19 = .ok (.iload_n 1, 1) := ge_iload_n_1 (by decide +kernel)
theorem d_X12_tellsOf_20 : decode prog_14_method_24_code 20 = .ok (.aload_n 0, 1) := ge_aload_n_0 (by decide +kernel)
theorem d_X12_tellsOf_21 : decode prog_14_method_24_code 21 = .ok (.getfield 9, 3) := ge_getfield (by decide +kernel)
theorem d_X12_tellsOf_24 : decode prog_14_method_24_code 24 = .ok (.bipush 32, 2) := ge_bipush (by decide +kernel)
theorem d_X12_tellsOf_26 : decode prog_14_method_24_code 26 = .ok (.iaload, 1) := ge_iaload (by decide +kernel)
theorem d_X12_tellsOf_27 : decode prog_14_method_24_code 27 = .ok (.iadd, 1) := ge_iadd (by decide +kernel)
theorem d_X12_tellsOf_28 : decode prog_14_method_24_code 28 = .ok (.iaload, 1) := ge_iaload (by decide +kernel)
theorem d_X12_tellsOf_29 : decode prog_14_method_24_code 29 = .ok (.ireturn, 1) := ge_ireturn (by decide +kernel)
def f_X12_tellsOf (a0 : Nat) (a1 : Int32) (a2 : Int32) (μ : gm_M) : Option (Option Value × gm_M) := gm_gR μ [17] a0 1 (fun v1 => gm_aI μ v1 (32 : Int32) (fun v2 => if v2 ≠ (-1 : Int32) then gm_gR μ [17] a0 1 (fun v3 => gm_gR μ [17] a0 1 (fun v4 => gm_aI μ v4 (32 : Int32) (fun v5 => gm_aI μ v3 (a1 + v5) (fun v6 => some (some (.int v6), μ))))) else some (some (.int a2), μ)))
set_option maxHeartbeats 4000000 in
theorem c_X12_tellsOf (a0 : Nat) (a1 : Int32) (a2 : Int32) (μ : gm_M) : gm_Call ({ cls := "GumBubbleModel", name := "tellsOf", desc := "(II)I" } : Jvm.MethodName) prog_14_method_24_code 3 (some .int) 0 0 0 [.ref a0, .int a1, .int a2] μ (f_X12_tellsOf a0 a1 a2 μ) := by
  refine gm_start PN_12 (Nat.le_of_ble_eq_true rfl) (fun res μe => ?_)
  unfold f_X12_tellsOf
  show gm_A "GumBubbleModel" (gm_nm "tellsOf") _ _ _ _ _ _ _ _ _ 0 [(0, .ref a0), (1, .int a1), (2, .int a2)] [] _ _
  refine gm_aload_n d_X12_tellsOf_0 rfl 0 rfl ?_
  refine gm_getR F_12_s gw_890 d_X12_tellsOf_1 (fun v1 _ => ?_)
  refine gm_bipush (v := 32) d_X12_tellsOf_4 (by decide) ?_
  refine gm_iald d_X12_tellsOf_6 (fun v2 _ => ?_)
  refine gm_iconst (v := -1) d_X12_tellsOf_7 (by decide) ?_
  refine gm_icmp_ne (tgt := 15) d_X12_tellsOf_8 (by decide) (fun h8 => ?_) (fun h8 => ?_)
  ·
    refine gm_aload_n d_X12_tellsOf_15 rfl 0 rfl ?_
    refine gm_getR F_12_s gw_890 d_X12_tellsOf_16 (fun v3 _ => ?_)
    refine gm_iload_n d_X12_tellsOf_19 rfl 1 rfl ?_
    refine gm_aload_n d_X12_tellsOf_20 rfl 0 rfl ?_
    refine gm_getR F_12_s gw_890 d_X12_tellsOf_21 (fun v4 _ => ?_)
    refine gm_bipush (v := 32) d_X12_tellsOf_24 (by decide) ?_
    refine gm_iald d_X12_tellsOf_26 (fun v5 _ => ?_)
    refine gm_iadd d_X12_tellsOf_27 ?_
    refine gm_iald d_X12_tellsOf_28 (fun v6 _ => ?_)
    exact gm_iret rfl d_X12_tellsOf_29 (Nat.le_of_ble_eq_true rfl) (Nat.le_of_ble_eq_true rfl) (fun h => h)
  ·
    refine gm_iload_n d_X12_tellsOf_11 rfl 2 rfl ?_
    refine gm_goto (tgt := 29) d_X12_tellsOf_12 (by decide) ?_
    exact gm_iret rfl d_X12_tellsOf_29 (Nat.le_of_ble_eq_true rfl) (Nat.le_of_ble_eq_true rfl) (fun h => h)
theorem d_X12_looks_0 : decode prog_14_method_26_code 0 = .ok (.aload_n 0, 1) := ge_aload_n_0 (by decide +kernel)
theorem d_X12_looks_1 : decode prog_14_method_26_code 1 = .ok (.getfield 21, 3) := ge_getfield (by decide +kernel)
theorem d_X12_looks_4 : decode prog_14_method_26_code 4 = .ok (.iconst 0, 1) := ge_iconst_0 (by decide +kernel)
theorem d_X12_looks_5 : decode prog_14_method_26_code 5 = .ok (.iload_n 1, 1) := ge_iload_n_1 (by decide +kernel)
theorem d_X12_looks_6 : decode prog_14_method_26_code 6 = .ok (.iastore, 1) := ge_iastore (by decide +kernel)
theorem d_X12_looks_7 : decode prog_14_method_26_code 7 = .ok (.aload_n 0, 1) := ge_aload_n_0 (by decide +kernel)
theorem d_X12_looks_8 : decode prog_14_method_26_code 8 = .ok (.getfield 21, 3) := ge_getfield (by decide +kernel)
theorem d_X12_looks_11 : decode prog_14_method_26_code 11 = .ok (.iconst 1, 1) := ge_iconst_1 (by decide +kernel)
theorem d_X12_looks_12 : decode prog_14_method_26_code 12 = .ok (.aload_n 0, 1) := ge_aload_n_0 (by decide +kernel)
theorem d_X12_looks_13 : decode prog_14_method_26_code 13 = .ok (.getfield 9, 3) := ge_getfield (by decide +kernel)
theorem d_X12_looks_16 : decode prog_14_method_26_code 16 = .ok (.bipush 33, 2) := ge_bipush (by decide +kernel)
theorem d_X12_looks_18 : decode prog_14_method_26_code 18 = .ok (.iload_n 1, 1) := ge_iload_n_1 (by decide +kernel)
theorem d_X12_looks_19 : decode prog_14_method_26_code 19 = .ok (.iadd, 1) := ge_iadd (by decide +kernel)
theorem d_X12_looks_20 : decode prog_14_method_26_code 20 = .ok (.iaload, 1) := ge_iaload (by decide +kernel)
theorem d_X12_looks_21 : decode prog_14_method_26_code 21 = .ok (.iastore, 1) := ge_iastore (by decide +kernel)
theorem d_X12_looks_22 : decode prog_14_method_26_code 22 = .ok (.aload_n 0, 1) := ge_aload_n_0 (by decide +kernel)
theorem d_X12_looks_23 : decode prog_14_method_26_code 23 = .ok (.getfield 21, 3) := ge_getfield (by decide +kernel)
theorem d_X12_looks_26 : decode prog_14_method_26_code 26 = .ok (.iconst 2, 1) := ge_iconst_2 (by decide +kernel)
theorem d_X12_looks_27 : decode prog_14_method_26_code 27 = .ok (.aload_n 0, 1) := ge_aload_n_0 (by decide +kernel)
theorem d_X12_looks_28 : decode prog_14_method_26_code 28 = .ok (.getfield 9, 3) := ge_getfield (by decide +kernel)
theorem d_X12_looks_31 : decode prog_14_method_26_code 31 = .ok (.bipush 38, 2) := ge_bipush (by decide +kernel)
theorem d_X12_looks_33 : decode prog_14_method_26_code 33 = .ok (.iload_n 1, 1) := ge_iload_n_1 (by decide +kernel)
theorem d_X12_looks_34 : decode prog_14_method_26_code 34 = .ok (.iadd, 1) := ge_iadd (by decide +kernel)
theorem d_X12_looks_35 : decode prog_14_method_26_code 35 = .ok (.iaload, 1) := ge_iaload (by decide +kernel)
theorem d_X12_looks_36 : decode prog_14_method_26_code 36 = .ok (.iastore, 1) := ge_iastore (by decide +kernel)
theorem d_X12_looks_37 : decode prog_14_method_26_code 37 = .ok (.aload_n 0, 1) := ge_aload_n_0 (by decide +kernel)
theorem d_X12_looks_38 : decode prog_14_method_26_code 38 = .ok (.getfield 21, 3) := ge_getfield (by decide +kernel)
theorem d_X12_looks_41 : decode prog_14_method_26_code 41 = .ok (.iconst 3, 1) := ge_iconst_3 (by decide +kernel)
theorem d_X12_looks_42 : decode prog_14_method_26_code 42 = .ok (.aload_n 0, 1) := ge_aload_n_0 (by decide +kernel)
theorem d_X12_looks_43 : decode prog_14_method_26_code 43 = .ok (.getfield 9, 3) := ge_getfield (by decide +kernel)
theorem d_X12_looks_46 : decode prog_14_method_26_code 46 = .ok (.iconst 1, 1) := ge_iconst_1 (by decide +kernel)
theorem d_X12_looks_47 : decode prog_14_method_26_code 47 = .ok (.iload_n 1, 1) := ge_iload_n_1 (by decide +kernel)
theorem d_X12_looks_48 : decode prog_14_method_26_code 48 = .ok (.iadd, 1) := ge_iadd (by decide +kernel)
theorem d_X12_looks_49 : decode prog_14_method_26_code 49 = .ok (.iaload, 1) := ge_iaload (by decide +kernel)
theorem d_X12_looks_50 : decode prog_14_method_26_code 50 = .ok (.iastore, 1) := ge_iastore (by decide +kernel)
theorem d_X12_looks_51 : decode prog_14_method_26_code 51 = .ok (.aload_n 0, 1) := ge_aload_n_0 (by decide +kernel)
theorem d_X12_looks_52 : decode prog_14_method_26_code 52 = .ok (.getfield 21, 3) := ge_getfield (by decide +kernel)
theorem d_X12_looks_55 : decode prog_14_method_26_code 55 = .ok (.iconst 4, 1) := ge_iconst_4 (by decide +kernel)
theorem d_X12_looks_56 : decode prog_14_method_26_code 56 = .ok (.aload_n 0, 1) := ge_aload_n_0 (by decide +kernel)
theorem d_X12_looks_57 : decode prog_14_method_26_code 57 = .ok (.getfield 9, 3) := ge_getfield (by decide +kernel)
theorem d_X12_looks_60 : decode prog_14_method_26_code 60 = .ok (.bipush 6, 2) := ge_bipush (by decide +kernel)
theorem d_X12_looks_62 : decode prog_14_method_26_code 62 = .ok (.iload_n 1, 1) := ge_iload_n_1 (by decide +kernel)
theorem d_X12_looks_63 : decode prog_14_method_26_code 63 = .ok (.iadd, 1) := ge_iadd (by decide +kernel)
theorem d_X12_looks_64 : decode prog_14_method_26_code 64 = .ok (.iaload, 1) := ge_iaload (by decide +kernel)
theorem d_X12_looks_65 : decode prog_14_method_26_code 65 = .ok (.bipush 10, 2) := ge_bipush (by decide +kernel)
theorem d_X12_looks_67 : decode prog_14_method_26_code 67 = .ok (.idiv, 1) := ge_idiv (by decide +kernel)
theorem d_X12_looks_68 : decode prog_14_method_26_code 68 = .ok (.iastore, 1) := ge_iastore (by decide +kernel)
theorem d_X12_looks_69 : decode prog_14_method_26_code 69 = .ok (.aload_n 0, 1) := ge_aload_n_0 (by decide +kernel)
theorem d_X12_looks_70 : decode prog_14_method_26_code 70 = .ok (.getfield 21, 3) := ge_getfield (by decide +kernel)
theorem d_X12_looks_73 : decode prog_14_method_26_code 73 = .ok (.iconst 5, 1) := ge_iconst_5 (by decide +kernel)
theorem d_X12_looks_74 : decode prog_14_method_26_code 74 = .ok (.aload_n 0, 1) := ge_aload_n_0 (by decide +kernel)
theorem d_X12_looks_75 : decode prog_14_method_26_code 75 = .ok (.getfield 9, 3) := ge_getfield (by decide +kernel)
theorem d_X12_looks_78 : decode prog_14_method_26_code 78 = .ok (.iconst 0, 1) := ge_iconst_0 (by decide +kernel)
theorem d_X12_looks_79 : decode prog_14_method_26_code 79 = .ok (.iaload, 1) := ge_iaload (by decide +kernel)
theorem d_X12_looks_80 : decode prog_14_method_26_code 80 = .ok (.bipush 10, 2) := ge_bipush (by decide +kernel)
theorem d_X12_looks_82 : decode prog_14_method_26_code 82 = .ok (.irem, 1) := ge_irem (by decide +kernel)
theorem d_X12_looks_83 : decode prog_14_method_26_code 83 = .ok (.iastore, 1) := ge_iastore (by decide +kernel)
theorem d_X12_looks_84 : decode prog_14_method_26_code 84 = .ok (.iconst 0, 1) := ge_iconst_0 (by decide +kernel)
theorem d_X12_looks_85 : decode prog_14_method_26_code 85 = .ok (.istore_n 2, 1) := ge_istore_n_2 (by decide +kernel)
theorem d_X12_looks_86 : decode prog_14_method_26_code 86 = .ok (.aload_n 0, 1) := ge_aload_n_0 (by decide +kernel)
theorem d_X12_looks_87 : decode prog_14_method_26_code 87 = .ok (.sipush 220, 3) := ge_sipush (by decide +kernel)
theorem d_X12_looks_90 : decode prog_14_method_26_code 90 = .ok (.iconst 0, 1) := ge_iconst_0 (by decide +kernel)
theorem d_X12_looks_91 : decode prog_14_method_26_code 91 = .ok (.invokevirtual 129, 3) := ge_invokevirtual (by decide +kernel)
theorem d_X12_looks_94 : decode prog_14_method_26_code 94 = .ok (.istore_n 3, 1) := ge_istore_n_3 (by decide +kernel)
theorem d_X12_looks_95 : decode prog_14_method_26_code 95 = .ok (.sipush 225, 3) := ge_sipush (by decide +kernel)
theorem d_X12_looks_98 : decode prog_14_method_26_code 98 = .ok (.sipush 140, 3) := ge_sipush (by decide +kernel)
theorem d_X12_looks_101 : decode prog_14_method_26_code 101 = .ok (.aload_n 0, 1) := ge_aload_n_0 (by decide +kernel)
theorem d_X12_looks_102 : decode prog_14_method_26_code 102 = .ok (.getfield 9, 3) := ge_getfield (by decide +kernel)
theorem d_X12_looks_105 : decode prog_14_method_26_code 105 = .ok (.bipush 32, 2) := ge_bipush (by decide +kernel)
theorem d_X12_looks_107 : decode prog_14_method_26_code 107 = .ok (.iaload, 1) := ge_iaload (by decide +kernel)
theorem d_X12_looks_108 : decode prog_14_method_26_code 108 = .ok (.imul, 1) := ge_imul (by decide +kernel)
theorem d_X12_looks_109 : decode prog_14_method_26_code 109 = .ok (.iadd, 1) := ge_iadd (by decide +kernel)
theorem d_X12_looks_110 : decode prog_14_method_26_code 110 = .ok (.istore 4, 2) := ge_istore (by decide +kernel)
theorem d_X12_looks_112 : decode prog_14_method_26_code 112 = .ok (.iconst 0, 1) := ge_iconst_0 (by decide +kernel)
theorem d_X12_looks_113 : decode prog_14_method_26_code 113 = .ok (.istore 5, 2) := ge_istore (by decide +kernel)
theorem d_X12_looks_115 : decode prog_14_method_26_code 115 = .ok (.iload 4, 2) := ge_iload (by decide +kernel)
theorem d_X12_looks_117 : decode prog_14_method_26_code 117 = .ok (.istore 6, 2) := ge_istore (by decide +kernel)
theorem d_X12_looks_119 : decode prog_14_method_26_code 119 = .ok (.iload 6, 2) := ge_iload (by decide +kernel)
theorem d_X12_looks_121 : decode prog_14_method_26_code 121 = .ok (.iload 4, 2) := ge_iload (by decide +kernel)
theorem d_X12_looks_123 : decode prog_14_method_26_code 123 = .ok (.iload_n 3, 1) := ge_iload_n_3 (by decide +kernel)
theorem d_X12_looks_124 : decode prog_14_method_26_code 124 = .ok (.iadd, 1) := ge_iadd (by decide +kernel)
theorem d_X12_looks_125 : decode prog_14_method_26_code 125 = .ok (.if_icmp .ge 300, 3) := ge_if_icmp_ge (by decide +kernel)
theorem d_X12_looks_128 : decode prog_14_method_26_code 128 = .ok (.aload_n 0, 1) := ge_aload_n_0 (by decide +kernel)
theorem d_X12_looks_129 : decode prog_14_method_26_code 129 = .ok (.getfield 9, 3) := ge_getfield (by decide +kernel)
theorem d_X12_looks_132 : decode prog_14_method_26_code 132 = .ok (.iload 6, 2) := ge_iload (by decide +kernel)
theorem d_X12_looks_134 : decode prog_14_method_26_code 134 = .ok (.iaload, 1) := ge_iaload (by decide +kernel)
theorem d_X12_looks_135 : decode prog_14_method_26_code 135 = .ok (.istore 7, 2) := ge_istore (by decide +kernel)
theorem d_X12_looks_137 : decode prog_14_method_26_code 137 = .ok (.iload 7, 2) := ge_iload (by decide +kernel)
theorem d_X12_looks_139 : decode prog_14_method_26_code 139 = .ok (.ifCond .lt 97, 3) := ge_ifCond_lt (by decide +kernel)
theorem d_X12_looks_142 : decode prog_14_method_26_code 142 = .ok (.aload_n 0, 1) := ge_aload_n_0 (by decide +kernel)
theorem d_X12_looks_143 : decode prog_14_method_26_code 143 = .ok (.getfield 21, 3) := ge_getfield (by decide +kernel)
theorem d_X12_looks_146 : decode prog_14_method_26_code 146 = .ok (.iload 7, 2) := ge_iload (by decide +kernel)
theorem d_X12_looks_148 : decode prog_14_method_26_code 148 = .ok (.bipush 8, 2) := ge_bipush (by decide +kernel)
theorem d_X12_looks_150 : decode prog_14_method_26_code 150 = .ok (.irem, 1) := ge_irem (by decide +kernel)
theorem d_X12_looks_151 : decode prog_14_method_26_code 151 = .ok (.iaload, 1) := ge_iaload (by decide +kernel)
theorem d_X12_looks_152 : decode prog_14_method_26_code 152 = .ok (.istore 8, 2) := ge_istore (by decide +kernel)
theorem d_X12_looks_154 : decode prog_14_method_26_code 154 = .ok (.iload 7, 2) := ge_iload (by decide +kernel)
theorem d_X12_looks_156 : decode prog_14_method_26_code 156 = .ok (.bipush 8, 2) := ge_bipush (by decide +kernel)
theorem d_X12_looks_158 : decode prog_14_method_26_code 158 = .ok (.idiv, 1) := ge_idiv (by decide +kernel)
theorem d_X12_looks_159 : decode prog_14_method_26_code 159 = .ok (.iconst 4, 1) := ge_iconst_4 (by decide +kernel)
theorem d_X12_looks_160 : decode prog_14_method_26_code 160 = .ok (.irem, 1) := ge_irem (by decide +kernel)
theorem d_X12_looks_161 : decode prog_14_method_26_code 161 = .ok (.istore 9, 2) := ge_istore (by decide +kernel)
theorem d_X12_looks_163 : decode prog_14_method_26_code 163 = .ok (.iload 7, 2) := ge_iload (by decide +kernel)
theorem d_X12_looks_165 : decode prog_14_method_26_code 165 = .ok (.bipush 32, 2) := ge_bipush (by decide +kernel)
theorem d_X12_looks_167 : decode prog_14_method_26_code 167 = .ok (.idiv, 1) := ge_idiv (by decide +kernel)
theorem d_X12_looks_168 : decode prog_14_method_26_code 168 = .ok (.istore 10, 2) := ge_istore (by decide +kernel)
theorem d_X12_looks_170 : decode prog_14_method_26_code 170 = .ok (.aload_n 0, 1) := ge_aload_n_0 (by decide +kernel)
theorem d_X12_looks_171 : decode prog_14_method_26_code 171 = .ok (.getfield 24, 3) := ge_getfield (by decide +kernel)
theorem d_X12_looks_174 : decode prog_14_method_26_code 174 = .ok (.iload 5, 2) := ge_iload (by decide +kernel)
theorem d_X12_looks_176 : decode prog_14_method_26_code 176 = .ok (.iload 9, 2) := ge_iload (by decide +kernel)
theorem d_X12_looks_178 : decode prog_14_method_26_code 178 = .ok (.ifCond .ne 18, 3) := ge_ifCond_ne (by decide +kernel)
theorem d_X12_looks_181 : decode prog_14_method_26_code 181 = .ok (.iload 8, 2) := ge_iload (by decide +kernel)
theorem d_X12_looks_183 : decode prog_14_method_26_code 183 = .ok (.iload 10, 2) := ge_iload (by decide +kernel)
theorem d_X12_looks_185 : decode prog_14_method_26_code 185 = .ok (.if_icmp .ge 7, 3) := ge_if_icmp_ge (by decide +kernel)
theorem d_X12_looks_188 : decode prog_14_method_26_code 188 = .ok (.iconst 1, 1) := ge_iconst_1 (by decide +kernel)
theorem d_X12_looks_189 : decode prog_14_method_26_code 189 = .ok (.goto 40, 3) := ge_goto (by decide +kernel)
theorem d_X12_looks_192 : decode prog_14_method_26_code 192 = .ok (.iconst 0, 1) := ge_iconst_0 (by decide +kernel)
theorem d_X12_looks_193 : decode prog_14_method_26_code 193 = .ok (.goto 36, 3) := ge_goto (by decide +kernel)
theorem d_X12_looks_196 : decode prog_14_method_26_code 196 = .ok (.iload 9, 2) := ge_iload (by decide +kernel)
theorem d_X12_looks_198 : decode prog_14_method_26_code 198 = .ok (.iconst 1, 1) := ge_iconst_1 (by decide +kernel)
theorem d_X12_looks_199 : decode prog_14_method_26_code 199 = .ok (.if_icmp .ne 18, 3) := ge_if_icmp_ne (by decide +kernel)
theorem d_X12_looks_202 : decode prog_14_method_26_code 202 = .ok (.iload 8, 2) := ge_iload (by decide +kernel)
theorem d_X12_looks_204 : decode prog_14_method_26_code 204 = .ok (.iload 10, 2) := ge_iload (by decide +kernel)
theorem d_X12_looks_206 : decode prog_14_method_26_code 206 = .ok (.if_icmp .ne 7, 3) := ge_if_icmp_ne (by decide +kernel)
theorem d_X12_looks_209 : decode prog_14_method_26_code 209 = .ok (.iconst 1, 1) := ge_iconst_1 (by decide +kernel)
theorem d_X12_looks_210 : decode prog_14_method_26_code 210 = .ok (.goto 19, 3) := ge_goto (by decide +kernel)
theorem d_X12_looks_213 : decode prog_14_method_26_code 213 = .ok (.iconst 0, 1) := ge_iconst_0 (by decide +kernel)
theorem d_X12_looks_214 : decode prog_14_method_26_code 214 = .ok (.goto 15, 3) := ge_goto (by decide +kernel)
theorem d_X12_looks_217 : decode prog_14_method_26_code 217 = .ok (.iload 8, 2) := ge_iload (by decide +kernel)
theorem d_X12_looks_219 : decode prog_14_method_26_code 219 = .ok (.iload 10, 2) := ge_iload (by decide +kernel)
theorem d_X12_looks_221 : decode prog_14_method_26_code 221 = .ok (.if_icmp .le 7, 3) := ge_if_icmp_le (by decide +kernel)
theorem d_X12_looks_224 : decode prog_14_method_26_code 224 = .ok (.iconst 1, 1) := ge_iconst_1 (by decide +kernel)
theorem d_X12_looks_225 : decode prog_14_method_26_code 225 = .ok (.goto 4, 3) := ge_goto (by decide +kernel)
theorem d_X12_looks_228 : decode prog_14_method_26_code 228 = .ok (.iconst 0, 1) := ge_iconst_0 (by decide +kernel)
theorem d_X12_looks_229 : decode prog_14_method_26_code 229 = .ok (.bastore, 1) := ge_bastore (by decide +kernel)
theorem d_X12_looks_230 : decode prog_14_method_26_code 230 = .ok (.iinc 5 1, 3) := ge_iinc (by decide +kernel)
theorem d_X12_looks_233 : decode prog_14_method_26_code 233 = .ok (.goto 186, 3) := ge_goto (by decide +kernel)
theorem d_X12_looks_236 : decode prog_14_method_26_code 236 = .ok (.iload 7, 2) := ge_iload (by decide +kernel)
theorem d_X12_looks_238 : decode prog_14_method_26_code 238 = .ok (.iconst (-1), 1) := ge_iconst_m1_ (by decide +kernel)
theorem d_X12_looks_239 : decode prog_14_method_26_code 239 = .ok (.if_icmp .ne 32, 3) := ge_if_icmp_ne (by decide +kernel)
theorem d_X12_looks_242 : decode prog_14_method_26_code 242 = .ok (.aload_n 0, 1) := ge_aload_n_0 (by decide +kernel)
theorem d_X12_looks_243 : decode prog_14_method_26_code 243 = .ok (.getfield 24, 3) := ge_getfield (by decide +kernel)
theorem d_X12_looks_246 : decode prog_14_method_26_code 246 = .ok (.iload 5, 2) := ge_iload (by decide +kernel)
theorem d_X12_looks_248 : decode prog_14_method_26_code 248 = .ok (.iconst 1, 1) := ge_iconst_1 (by decide +kernel)
theorem d_X12_looks_249 : decode prog_14_method_26_code 249 = .ok (.isub, 1) := ge_isub (by decide +kernel)
theorem d_X12_looks_250 : decode prog_14_method_26_code 250 = .ok (.aload_n 0, 1) := ge_aload_n_0 (by decide +kernel)
theorem d_X12_looks_251 : decode prog_14_method_26_code 251 = .ok (.getfield 24, 3) := ge_getfield (by decide +kernel)
theorem d_X12_looks_254 : decode prog_14_method_26_code 254 = .ok (.iload 5, 2) := ge_iload (by decide +kernel)
theorem d_X12_looks_256 : decode prog_14_method_26_code 256 = .ok (.iconst 1, 1) := ge_iconst_1 (by decide +kernel)
theorem d_X12_looks_257 : decode prog_14_method_26_code 257 = .ok (.isub, 1) := ge_isub (by decide +kernel)
theorem d_X12_looks_258 : decode prog_14_method_26_code 258 = .ok (.baload, 1) := ge_baload (by decide +kernel)
theorem d_X12_looks_259 : decode prog_14_method_26_code 259 = .ok (.ifCond .ne 7, 3) := ge_ifCond_ne (by decide +kernel)
theorem d_X12_looks_262 : decode prog_14_method_26_code 262 = .ok (.iconst 1, 1) := ge_iconst_1 (by decide +kernel)
theorem d_X12_looks_263 : decode prog_14_method_26_code 263 = .ok (.goto 4, 3) := ge_goto (by decide +kernel)
theorem d_X12_looks_266 : decode prog_14_method_26_code 266 = .ok (.iconst 0, 1) := ge_iconst_0 (by decide +kernel)
theorem d_X12_looks_267 : decode prog_14_method_26_code 267 = .ok (.bastore, 1) := ge_bastore (by decide +kernel)
theorem d_X12_looks_268 : decode prog_14_method_26_code 268 = .ok (.goto 151, 3) := ge_goto (by decide +kernel)
theorem d_X12_looks_271 : decode prog_14_method_26_code 271 = .ok (.iload 7, 2) := ge_iload (by decide +kernel)
theorem d_X12_looks_273 : decode prog_14_method_26_code 273 = .ok (.bipush (-10), 2) := ge_bipush (by decide +kernel)
theorem d_X12_looks_275 : decode prog_14_method_26_code 275 = .ok (.if_icmp .le 82, 3) := ge_if_icmp_le (by decide +kernel)
theorem d_X12_looks_278 : decode prog_14_method_26_code 278 = .ok (.iinc 5 (-1), 3) := ge_iinc (by decide +kernel)
theorem d_X12_looks_281 : decode prog_14_method_26_code 281 = .ok (.aload_n 0, 1) := ge_aload_n_0 (by decide +kernel)
theorem d_X12_looks_282 : decode prog_14_method_26_code 282 = .ok (.getfield 24, 3) := ge_getfield (by decide +kernel)
theorem d_X12_looks_285 : decode prog_14_method_26_code 285 = .ok (.iload 5, 2) := ge_iload (by decide +kernel)
theorem d_X12_looks_287 : decode prog_14_method_26_code 287 = .ok (.iconst 1, 1) := ge_iconst_1 (by decide +kernel)
theorem d_X12_looks_288 : decode prog_14_method_26_code 288 = .ok (.isub, 1) := ge_isub (by decide +kernel)
theorem d_X12_looks_289 : decode prog_14_method_26_code 289 = .ok (.iload 7, 2) := ge_iload (by decide +kernel)
theorem d_X12_looks_291 : decode prog_14_method_26_code 291 = .ok (.bipush (-2), 2) := ge_bipush (by decide +kernel)
theorem d_X12_looks_293 : decode prog_14_method_26_code 293 = .ok (.if_icmp .ne 33, 3) := ge_if_icmp_ne (by decide +kernel)
theorem d_X12_looks_296 : decode prog_14_method_26_code 296 = .ok (.aload_n 0, 1) := ge_aload_n_0 (by decide +kernel)
theorem d_X12_looks_297 : decode prog_14_method_26_code 297 = .ok (.getfield 24, 3) := ge_getfield (by decide +kernel)
theorem d_X12_looks_300 : decode prog_14_method_26_code 300 = .ok (.iload 5, 2) := ge_iload (by decide +kernel)
theorem d_X12_looks_302 : decode prog_14_method_26_code 302 = .ok (.iconst 1, 1) := ge_iconst_1 (by decide +kernel)
theorem d_X12_looks_303 : decode prog_14_method_26_code 303 = .ok (.isub, 1) := ge_isub (by decide +kernel)
theorem d_X12_looks_304 : decode prog_14_method_26_code 304 = .ok (.baload, 1) := ge_baload (by decide +kernel)
theorem d_X12_looks_305 : decode prog_14_method_26_code 305 = .ok (.ifCond .eq 17, 3) := ge_ifCond_eq (by decide +kernel)
theorem d_X12_looks_308 : decode prog_14_method_26_code 308 = .ok (.aload_n 0, 1) := ge_aload_n_0 (by decide +kernel)
theorem d_X12_looks_309 : decode prog_14_method_26_code 309 = .ok (.getfield 24, 3) := ge_getfield (by decide +kernel)
theorem d_X12_looks_312 : decode prog_14_method_26_code 312 = .ok (.iload 5, 2) := ge_iload (by decide +kernel)
theorem d_X12_looks_314 : decode prog_14_method_26_code 314 = .ok (.baload, 1) := ge_baload (by decide +kernel)
theorem d_X12_looks_315 : decode prog_14_method_26_code 315 = .ok (.ifCond .eq 7, 3) := ge_ifCond_eq (by decide +kernel)
theorem d_X12_looks_318 : decode prog_14_method_26_code 318 = .ok (.iconst 1, 1) := ge_iconst_1 (by decide +kernel)
theorem d_X12_looks_319 : decode prog_14_method_26_code 319 = .ok (.goto 34, 3) := ge_goto (by decide +kernel)
theorem d_X12_looks_322 : decode prog_14_method_26_code 322 = .ok (.iconst 0, 1) := ge_iconst_0 (by decide +kernel)
theorem d_X12_looks_323 : decode prog_14_method_26_code 323 = .ok (.goto 30, 3) := ge_goto (by decide +kernel)
theorem d_X12_looks_326 : decode prog_14_method_26_code 326 = .ok (.aload_n 0, 1) := ge_aload_n_0 (by decide +kernel)
theorem d_X12_looks_327 : decode prog_14_method_26_code 327 = .ok (.getfield 24, 3) := ge_getfield (by decide +kernel)
theorem d_X12_looks_330 : decode prog_14_method_26_code 330 = .ok (.iload 5, 2) := ge_iload (by decide +kernel)
theorem d_X12_looks_332 : decode prog_14_method_26_code 332 = .ok (.iconst 1, 1) := ge_iconst_1 (by decide +kernel)
theorem d_X12_looks_333 : decode prog_14_method_26_code 333 = .ok (.isub, 1) := ge_isub (by decide +kernel)
theorem d_X12_looks_334 : decode prog_14_method_26_code 334 = .ok (.baload, 1) := ge_baload (by decide +kernel)
theorem d_X12_looks_335 : decode prog_14_method_26_code 335 = .ok (.ifCond .ne 13, 3) := ge_ifCond_ne (by decide +kernel)
theorem d_X12_looks_338 : decode prog_14_method_26_code 338 = .ok (.aload_n 0, 1) := ge_aload_n_0 (by decide +kernel)
theorem d_X12_looks_339 : decode prog_14_method_26_code 339 = .ok (.getfield 24, 3) := ge_getfield (by decide +kernel)
theorem d_X12_looks_342 : decode prog_14_method_26_code 342 = .ok (.iload 5, 2) := ge_iload (by decide +kernel)
theorem d_X12_looks_344 : decode prog_14_method_26_code 344 = .ok (.baload, 1) := ge_baload (by decide +kernel)
theorem d_X12_looks_345 : decode prog_14_method_26_code 345 = .ok (.ifCond .eq 7, 3) := ge_ifCond_eq (by decide +kernel)
theorem d_X12_looks_348 : decode prog_14_method_26_code 348 = .ok (.iconst 1, 1) := ge_iconst_1 (by decide +kernel)
theorem d_X12_looks_349 : decode prog_14_method_26_code 349 = .ok (.goto 4, 3) := ge_goto (by decide +kernel)
theorem d_X12_looks_352 : decode prog_14_method_26_code 352 = .ok (.iconst 0, 1) := ge_iconst_0 (by decide +kernel)
theorem d_X12_looks_353 : decode prog_14_method_26_code 353 = .ok (.bastore, 1) := ge_bastore (by decide +kernel)
theorem d_X12_looks_354 : decode prog_14_method_26_code 354 = .ok (.goto 65, 3) := ge_goto (by decide +kernel)
theorem d_X12_looks_357 : decode prog_14_method_26_code 357 = .ok (.iconst 0, 1) := ge_iconst_0 (by decide +kernel)
theorem d_X12_looks_358 : decode prog_14_method_26_code 358 = .ok (.istore 5, 2) := ge_istore (by decide +kernel)
theorem d_X12_looks_360 : decode prog_14_method_26_code 360 = .ok (.aload_n 0, 1) := ge_aload_n_0 (by decide +kernel)
theorem d_X12_looks_361 : decode prog_14_method_26_code 361 = .ok (.getfield 24, 3) := ge_getfield (by decide +kernel)
theorem d_X12_looks_364 : decode prog_14_method_26_code 364 = .ok (.iconst 0, 1) := ge_iconst_0 (by decide +kernel)
theorem d_X12_looks_365 : decode prog_14_method_26_code 365 = .ok (.baload, 1) := ge_baload (by decide +kernel)
theorem d_X12_looks_366 : decode prog_14_method_26_code 366 = .ok (.istore 8, 2) := ge_istore (by decide +kernel)
theorem d_X12_looks_368 : decode prog_14_method_26_code 368 = .ok (.iload_n 2, 1) := ge_iload_n_2 (by decide +kernel)
theorem d_X12_looks_369 : decode prog_14_method_26_code 369 = .ok (.iload 8, 2) := ge_iload (by decide +kernel)
theorem d_X12_looks_371 : decode prog_14_method_26_code 371 = .ok (.ifCond .eq 19, 3) := ge_ifCond_eq (by decide +kernel)
theorem d_X12_looks_374 : decode prog_14_method_26_code 374 = .ok (.iload 7, 2) := ge_iload (by decide +kernel)
theorem d_X12_looks_376 : decode prog_14_method_26_code 376 = .ok (.sipush (-200), 3) := ge_sipush (by decide +kernel)
theorem d_X12_looks_379 : decode prog_14_method_26_code 379 = .ok (.if_icmp .le 11, 3) := ge_if_icmp_le (by decide +kernel)
theorem d_X12_looks_382 : decode prog_14_method_26_code 382 = .ok (.bipush (-10), 2) := ge_bipush (by decide +kernel)
theorem d_X12_looks_384 : decode prog_14_method_26_code 384 = .ok (.iload 7, 2) := ge_iload (by decide +kernel)
theorem d_X12_looks_386 : decode prog_14_method_26_code 386 = .ok (.isub, 1) := ge_isub (by decide +kernel)
theorem d_X12_looks_387 : decode prog_14_method_26_code 387 = .ok (.goto 4, 3) := ge_goto (by decide +kernel)
theorem d_X12_looks_390 : decode prog_14_method_26_code 390 = .ok (.iconst 0, 1) := ge_iconst_0 (by decide +kernel)
theorem d_X12_looks_391 : decode prog_14_method_26_code 391 = .ok (.iadd, 1) := ge_iadd (by decide +kernel)
theorem d_X12_looks_392 : decode prog_14_method_26_code 392 = .ok (.istore_n 2, 1) := ge_istore_n_2 (by decide +kernel)
theorem d_X12_looks_393 : decode prog_14_method_26_code 393 = .ok (.iload_n 2, 1) := ge_iload_n_2 (by decide +kernel)
theorem d_X12_looks_394 : decode prog_14_method_26_code 394 = .ok (.iload 8, 2) := ge_iload (by decide +kernel)
theorem d_X12_looks_396 : decode prog_14_method_26_code 396 = .ok (.ifCond .eq 20, 3) := ge_ifCond_eq (by decide +kernel)
theorem d_X12_looks_399 : decode prog_14_method_26_code 399 = .ok (.iload 7, 2) := ge_iload (by decide +kernel)
theorem d_X12_looks_401 : decode prog_14_method_26_code 401 = .ok (.sipush (-200), 3) := ge_sipush (by decide +kernel)
theorem d_X12_looks_404 : decode prog_14_method_26_code 404 = .ok (.if_icmp .gt 12, 3) := ge_if_icmp_gt (by decide +kernel)
theorem d_X12_looks_407 : decode prog_14_method_26_code 407 = .ok (.sipush (-200), 3) := ge_sipush (by decide +kernel)
theorem d_X12_looks_410 : decode prog_14_method_26_code 410 = .ok (.iload 7, 2) := ge_iload (by decide +kernel)
theorem d_X12_looks_412 : decode prog_14_method_26_code 412 = .ok (.isub, 1) := ge_isub (by decide +kernel)
theorem d_X12_looks_413 : decode prog_14_method_26_code 413 = .ok (.goto 4, 3) := ge_goto (by decide +kernel)
theorem d_X12_looks_416 : decode prog_14_method_26_code 416 = .ok (.iconst 0, 1) := ge_iconst_0 (by decide +kernel)
theorem d_X12_looks_417 : decode prog_14_method_26_code 417 = .ok (.isub, 1) := ge_isub (by decide +kernel)
theorem d_X12_looks_418 : decode prog_14_method_26_code 418 = .ok (.istore_n 2, 1) := ge_istore_n_2 (by decide +kernel)
theorem d_X12_looks_419 : decode prog_14_method_26_code 419 = .ok (.iinc 6 1, 3) := ge_iinc (by decide +kernel)
theorem d_X12_looks_422 : decode prog_14_method_26_code 422 = .ok (.goto (-303), 3) := ge_goto (by decide +kernel)
theorem d_X12_looks_425 : decode prog_14_method_26_code 425 = .ok (.iload_n 2, 1) := ge_iload_n_2 (by decide +kernel)
theorem d_X12_looks_426 : decode prog_14_method_26_code 426 = .ok (.ireturn, 1) := ge_ireturn (by decide +kernel)
def f_X12_looks (a0 : Nat) (a1 : Int32) (μ : gm_M) : Option (Option Value × gm_M) := gm_gR μ [17] a0 10 (fun v1 => gm_sI μ v1 (0 : Int32) a1 (fun m2 => gm_gR m2 [17] a0 10 (fun v3 => gm_gR m2 [17] a0 1 (fun v4 => gm_aI m2 v4 ((33 : Int32) + a1) (fun v5 => gm_sI m2 v3 (1 : Int32) v5 (fun m6 => gm_gR m6 [17] a0 10 (fun v7 => gm_gR m6 [17] a0 1 (fun v8 => gm_aI m6 v8 ((38 : Int32) + a1) (fun v9 => gm_sI m6 v7 (2 : Int32) v9 (fun m10 => gm_gR m10 [17] a0 10 (fun v11 => gm_gR m10 [17] a0 1 (fun v12 => gm_aI m10 v12 ((1 : Int32) + a1) (fun v13 => gm_sI m10 v11 (3 : Int32) v13 (fun m14 => gm_gR m14 [17] a0 10 (fun v15 => gm_gR m14 [17] a0 1 (fun v16 => gm_aI m14 v16 ((6 : Int32) + a1) (fun v17 => if (10 : Int32) = 0 then none else gm_sI m14 v15 (4 : Int32) (v17 / (10 : Int32)) (fun m18 => gm_gR m18 [17] a0 10 (fun v19 => gm_gR m18 [17] a0 1 (fun v20 => gm_aI m18 v20 (0 : Int32) (fun v21 => if (10 : Int32) = 0 then none else gm_sI m18 v19 (5 : Int32) (v21 - v21 / (10 : Int32) * (10 : Int32)) (fun m22 => if gm_tag m22 a0 = 17 then gm_bI (f_X12_tellsOf a0 (220 : Int32) (0 : Int32) m22) (fun x24 m23 => gm_gR m23 [17] a0 1 (fun v25 => gm_aI m23 v25 (32 : Int32) (fun v26 => gm_loop (fun (s27 : Int32 × Int32 × Int32 × gm_M) => if (((225 : Int32) + ((140 : Int32) * v26)) + x24) ≤ s27.2.2.1 then some (Sum.inr (some (.int s27.1), s27.2.2.2)) else gm_gR s27.2.2.2 [17] a0 1 (fun v28 => gm_aI s27.2.2.2 v28 s27.2.2.1 (fun v29 => gm_j (fun (s30 : Int32 × Int32 × gm_M) => some (Sum.inl (s30.1, s30.2.1, (s27.2.2.1 + (1 : Int32)), s30.2.2))) (fun j31 => if v29 < 0 then if v29 ≠ (-1 : Int32) then if v29 ≤ (-10 : Int32) then gm_gR s27.2.2.2 [17] a0 11 (fun v32 => gm_aZ s27.2.2.2 v32 (0 : Int32) (fun v33 => gm_j (fun (s34 : Int32) => gm_j (fun (s36 : Int32) => j31 (((s27.1 + s34) - s36), (0 : Int32), s27.2.2.2)) (fun j37 => gm_j (fun (s38 : Unit) => j37 (0 : Int32)) (fun j39 => if v33 = 0 then j39 () else if (-200 : Int32) < v29 then j39 () else j37 ((-200 : Int32) - v29)))) (fun j35 => gm_j (fun (s40 : Unit) => j35 (0 : Int32)) (fun j41 => if v33 = 0 then j41 () else if v29 ≤ (-200 : Int32) then j41 () else j35 ((-10 : Int32) - v29))))) else gm_gR s27.2.2.2 [17] a0 11 (fun v42 => gm_j (fun (s43 : Int32) => gm_sZ s27.2.2.2 v42 ((s27.2.1 + (-1 : Int32)) - (1 : Int32)) s43 (fun m45 => j31 (s27.1, (s27.2.1 + (-1 : Int32)), m45))) (fun j44 => if v29 ≠ (-2 : Int32) then gm_gR s27.2.2.2 [17] a0 11 (fun v46 => gm_aZ s27.2.2.2 v46 ((s27.2.1 + (-1 : Int32)) - (1 : Int32)) (fun v47 => gm_j (fun (s48 : Unit) => j44 (1 : Int32)) (fun j49 => if v47 ≠ 0 then j49 () else gm_gR s27.2.2.2 [17] a0 11 (fun v50 => gm_aZ s27.2.2.2 v50 (s27.2.1 + (-1 : Int32)) (fun v51 => if v51 = 0 then j44 (0 : Int32) else j49 ()))))) else gm_gR s27.2.2.2 [17] a0 11 (fun v52 => gm_aZ s27.2.2.2 v52 ((s27.2.1 + (-1 : Int32)) - (1 : Int32)) (fun v53 => gm_j (fun (s54 : Unit) => j44 (0 : Int32)) (fun j55 => if v53 = 0 then j55 () else gm_gR s27.2.2.2 [17] a0 11 (fun v56 => gm_aZ s27.2.2.2 v56 (s27.2.1 + (-1 : Int32)) (fun v57 => if v57 = 0 then j55 () else j44 (1 : Int32)))))))) else gm_gR s27.2.2.2 [17] a0 11 (fun v58 => gm_gR s27.2.2.2 [17] a0 11 (fun v59 => gm_aZ s27.2.2.2 v59 (s27.2.1 - (1 : Int32)) (fun v60 => gm_j (fun (s61 : Int32) => gm_sZ s27.2.2.2 v58 (s27.2.1 - (1 : Int32)) s61 (fun m63 => j31 (s27.1, s27.2.1, m63))) (fun j62 => if v60 ≠ 0 then j62 (0 : Int32) else j62 (1 : Int32))))) else gm_gR s27.2.2.2 [17] a0 10 (fun v64 => if (8 : Int32) = 0 then none else gm_aI s27.2.2.2 v64 (v29 - v29 / (8 : Int32) * (8 : Int32)) (fun v65 => if (8 : Int32) = 0 then none else if (4 : Int32) = 0 then none else if (32 : Int32) = 0 then none else gm_gR s27.2.2.2 [17] a0 11 (fun v66 => gm_j (fun (s67 : Int32) => gm_sZ s27.2.2.2 v66 s27.2.1 s67 (fun m69 => j31 (s27.1, (s27.2.1 + (1 : Int32)), m69))) (fun j68 => if ((v29 / (8 : Int32)) - (v29 / (8 : Int32)) / (4 : Int32) * (4 : Int32)) ≠ 0 then if ((v29 / (8 : Int32)) - (v29 / (8 : Int32)) / (4 : Int32) * (4 : Int32)) ≠ (1 : Int32) then if v65 ≤ (v29 / (32 : Int32)) then j68 (0 : Int32) else j68 (1 : Int32) else if v65 ≠ (v29 / (32 : Int32)) then j68 (0 : Int32) else j68 (1 : Int32) else if (v29 / (32 : Int32)) ≤ v65 then j68 (0 : Int32) else j68 (1 : Int32))))))))) 5000 ((0 : Int32), (0 : Int32), ((225 : Int32) + ((140 : Int32) * v26)), m23)))) else none))))))))))))))))))))))
set_option maxHeartbeats 4000000 in
theorem c_X12_looks (a0 : Nat) (a1 : Int32) (μ : gm_M) : gm_Call ({ cls := "GumBubbleModel", name := "looks", desc := "(I)I" } : Jvm.MethodName) prog_14_method_26_code 11 (some .int) 1 0 0 [.ref a0, .int a1] μ (f_X12_looks a0 a1 μ) := by
  refine gm_start PN_12 (Nat.le_of_ble_eq_true rfl) (fun res μe => ?_)
  unfold f_X12_looks
  show gm_A "GumBubbleModel" (gm_nm "looks") _ _ _ _ _ _ _ _ _ 0 [(0, .ref a0), (1, .int a1)] [] _ _
  refine gm_aload_n d_X12_looks_0 rfl 0 rfl ?_
  refine gm_getR F_12_by gw_899 d_X12_looks_1 (fun v1 _ => ?_)
  refine gm_iconst (v := 0) d_X12_looks_4 (by decide) ?_
  refine gm_iload_n d_X12_looks_5 rfl 1 rfl ?_
  refine gm_iast d_X12_looks_6 (fun m2 _ => ?_)
  refine gm_aload_n d_X12_looks_7 rfl 0 rfl ?_
  refine gm_getR F_12_by gw_899 d_X12_looks_8 (fun v3 _ => ?_)
  refine gm_iconst (v := 1) d_X12_looks_11 (by decide) ?_
  refine gm_aload_n d_X12_looks_12 rfl 0 rfl ?_
  refine gm_getR F_12_s gw_890 d_X12_looks_13 (fun v4 _ => ?_)
  refine gm_bipush (v := 33) d_X12_looks_16 (by decide) ?_
  refine gm_iload_n d_X12_looks_18 rfl 1 rfl ?_
  refine gm_iadd d_X12_looks_19 ?_
  refine gm_iald d_X12_looks_20 (fun v5 _ => ?_)
  refine gm_iast d_X12_looks_21 (fun m6 _ => ?_)
  refine gm_aload_n d_X12_looks_22 rfl 0 rfl ?_
  refine gm_getR F_12_by gw_899 d_X12_looks_23 (fun v7 _ => ?_)
  refine gm_iconst (v := 2) d_X12_looks_26 (by decide) ?_
  refine gm_aload_n d_X12_looks_27 rfl 0 rfl ?_
  refine gm_getR F_12_s gw_890 d_X12_looks_28 (fun v8 _ => ?_)
  refine gm_bipush (v := 38) d_X12_looks_31 (by decide) ?_
  refine gm_iload_n d_X12_looks_33 rfl 1 rfl ?_
  refine gm_iadd d_X12_looks_34 ?_
  refine gm_iald d_X12_looks_35 (fun v9 _ => ?_)
  refine gm_iast d_X12_looks_36 (fun m10 _ => ?_)
  refine gm_aload_n d_X12_looks_37 rfl 0 rfl ?_
  refine gm_getR F_12_by gw_899 d_X12_looks_38 (fun v11 _ => ?_)
  refine gm_iconst (v := 3) d_X12_looks_41 (by decide) ?_
  refine gm_aload_n d_X12_looks_42 rfl 0 rfl ?_
  refine gm_getR F_12_s gw_890 d_X12_looks_43 (fun v12 _ => ?_)
  refine gm_iconst (v := 1) d_X12_looks_46 (by decide) ?_
  refine gm_iload_n d_X12_looks_47 rfl 1 rfl ?_
  refine gm_iadd d_X12_looks_48 ?_
  refine gm_iald d_X12_looks_49 (fun v13 _ => ?_)
  refine gm_iast d_X12_looks_50 (fun m14 _ => ?_)
  refine gm_aload_n d_X12_looks_51 rfl 0 rfl ?_
  refine gm_getR F_12_by gw_899 d_X12_looks_52 (fun v15 _ => ?_)
  refine gm_iconst (v := 4) d_X12_looks_55 (by decide) ?_
  refine gm_aload_n d_X12_looks_56 rfl 0 rfl ?_
  refine gm_getR F_12_s gw_890 d_X12_looks_57 (fun v16 _ => ?_)
  refine gm_bipush (v := 6) d_X12_looks_60 (by decide) ?_
  refine gm_iload_n d_X12_looks_62 rfl 1 rfl ?_
  refine gm_iadd d_X12_looks_63 ?_
  refine gm_iald d_X12_looks_64 (fun v17 _ => ?_)
  refine gm_bipush (v := 10) d_X12_looks_65 (by decide) ?_
  refine gm_idiv d_X12_looks_67 ?_
  refine gm_iast d_X12_looks_68 (fun m18 _ => ?_)
  refine gm_aload_n d_X12_looks_69 rfl 0 rfl ?_
  refine gm_getR F_12_by gw_899 d_X12_looks_70 (fun v19 _ => ?_)
  refine gm_iconst (v := 5) d_X12_looks_73 (by decide) ?_
  refine gm_aload_n d_X12_looks_74 rfl 0 rfl ?_
  refine gm_getR F_12_s gw_890 d_X12_looks_75 (fun v20 _ => ?_)
  refine gm_iconst (v := 0) d_X12_looks_78 (by decide) ?_
  refine gm_iald d_X12_looks_79 (fun v21 _ => ?_)
  refine gm_bipush (v := 10) d_X12_looks_80 (by decide) ?_
  refine gm_irem d_X12_looks_82 ?_
  refine gm_iast d_X12_looks_83 (fun m22 _ => ?_)
  refine gm_iconst (v := 0) d_X12_looks_84 (by decide) ?_
  refine gm_istore_n (L' := [(2, .int (0 : Int32)), (0, .ref a0), (1, .int a1)]) d_X12_looks_85 rfl (Nat.le_of_ble_eq_true rfl) rfl ?_
  refine gm_aload_n d_X12_looks_86 rfl 1 rfl ?_
  refine gm_sipush (v := 220) d_X12_looks_87 (by decide) ?_
  refine gm_iconst (v := 0) d_X12_looks_90 (by decide) ?_
  refine gm_grd (fun g91 => ?_)
  refine gm_callV (k0 := 12) [.int (220 : Int32), .int (0 : Int32)] (c_X12_tellsOf a0 (220 : Int32) (0 : Int32) m22) g91 rfl B_X12_tellsOf gw_1039 gs_39 rfl rfl rfl d_X12_looks_91 (gm_kI (fun x24 m23 => ?_))
  refine gm_istore_n (L' := [(3, .int x24), (2, .int (0 : Int32)), (0, .ref a0), (1, .int a1)]) d_X12_looks_94 rfl (Nat.le_of_ble_eq_true rfl) rfl ?_
  refine gm_sipush (v := 225) d_X12_looks_95 (by decide) ?_
  refine gm_sipush (v := 140) d_X12_looks_98 (by decide) ?_
  refine gm_aload_n d_X12_looks_101 rfl 2 rfl ?_
  refine gm_getR F_12_s gw_890 d_X12_looks_102 (fun v25 _ => ?_)
  refine gm_bipush (v := 32) d_X12_looks_105 (by decide) ?_
  refine gm_iald d_X12_looks_107 (fun v26 _ => ?_)
  refine gm_imul d_X12_looks_108 ?_
  refine gm_iadd d_X12_looks_109 ?_
  refine gm_istore (L' := [(4, .int ((225 : Int32) + ((140 : Int32) * v26))), (3, .int x24), (2, .int (0 : Int32)), (0, .ref a0), (1, .int a1)]) d_X12_looks_110 (Nat.le_of_ble_eq_true rfl) rfl ?_
  refine gm_iconst (v := 0) d_X12_looks_112 (by decide) ?_
  refine gm_istore (L' := [(5, .int (0 : Int32)), (4, .int ((225 : Int32) + ((140 : Int32) * v26))), (3, .int x24), (2, .int (0 : Int32)), (0, .ref a0), (1, .int a1)]) d_X12_looks_113 (Nat.le_of_ble_eq_true rfl) rfl ?_
  refine gm_iload d_X12_looks_115 1 rfl ?_
  refine gm_istore (L' := [(6, .int ((225 : Int32) + ((140 : Int32) * v26))), (5, .int (0 : Int32)), (4, .int ((225 : Int32) + ((140 : Int32) * v26))), (3, .int x24), (2, .int (0 : Int32)), (0, .ref a0), (1, .int a1)]) d_X12_looks_117 (Nat.le_of_ble_eq_true rfl) rfl ?_
  refine gm_sub (L' := [(0, .ref a0), (1, .int a1), (2, .int (0 : Int32)), (3, .int x24), (4, .int ((225 : Int32) + ((140 : Int32) * v26))), (5, .int (0 : Int32)), (6, .int ((225 : Int32) + ((140 : Int32) * v26)))]) [5, 6, 4, 3, 2, 1, 0] rfl ?_
  refine gm_lp (S := Int32 × Int32 × Int32 × gm_M) (fun _ => 0) (fun _ => 0) (fun s27 => s27.2.2.2) (fun s27 => [(0, .ref a0), (1, .int a1), (2, .int s27.1), (3, .int x24), (4, .int ((225 : Int32) + ((140 : Int32) * v26))), (5, .int s27.2.1), (6, .int s27.2.2.1)]) (fun _ => []) (fun s27 => ?_) 5000 ((0 : Int32), (0 : Int32), ((225 : Int32) + ((140 : Int32) * v26)), m23)
  refine gm_iload d_X12_looks_119 6 rfl ?_
  refine gm_iload d_X12_looks_121 4 rfl ?_
  refine gm_iload_n d_X12_looks_123 rfl 3 rfl ?_
  refine gm_iadd d_X12_looks_124 ?_
  refine gm_icmp_ge (tgt := 425) d_X12_looks_125 (by decide) (fun h125 => ?_) (fun h125 => ?_)
  ·
    refine gm_iload_n d_X12_looks_425 rfl 2 rfl ?_
    exact gm_iret rfl d_X12_looks_426 (Nat.le_of_ble_eq_true rfl) (Nat.le_of_ble_eq_true rfl) (fun h => h)
  ·
    refine gm_aload_n d_X12_looks_128 rfl 0 rfl ?_
    refine gm_getR F_12_s gw_890 d_X12_looks_129 (fun v28 _ => ?_)
    refine gm_iload d_X12_looks_132 6 rfl ?_
    refine gm_iald d_X12_looks_134 (fun v29 _ => ?_)
    refine gm_istore (L' := [(7, .int v29), (0, .ref a0), (1, .int a1), (2, .int s27.1), (3, .int x24), (4, .int ((225 : Int32) + ((140 : Int32) * v26))), (5, .int s27.2.1), (6, .int s27.2.2.1)]) d_X12_looks_135 (Nat.le_of_ble_eq_true rfl) rfl ?_
    refine gm_iload d_X12_looks_137 0 rfl ?_
    refine gm_join (S := Int32 × Int32 × gm_M) (pj := 419) (kj := 0) (nj := 0) (fun s30 => s30.2.2) (fun s30 => [(0, .ref a0), (1, .int a1), (2, .int s30.1), (3, .int x24), (4, .int ((225 : Int32) + ((140 : Int32) * v26))), (5, .int s30.2.1), (6, .int s27.2.2.1), (7, .int v29)]) (fun s30 => []) (fun s30 => ?_) (fun j31 hj31 => ?_)
    ·
      refine gm_iinc (v := s27.2.2.1 + (1 : Int32)) (L' := [(6, .int (s27.2.2.1 + (1 : Int32))), (0, .ref a0), (1, .int a1), (2, .int s30.1), (3, .int x24), (4, .int ((225 : Int32) + ((140 : Int32) * v26))), (5, .int s30.2.1), (7, .int v29)]) d_X12_looks_419 6 rfl rfl (Nat.le_of_ble_eq_true rfl) rfl ?_
      refine gm_goto (tgt := 119) d_X12_looks_422 (by decide) ?_
      refine gm_sub (L' := [(0, .ref a0), (1, .int a1), (2, .int s30.1), (3, .int x24), (4, .int ((225 : Int32) + ((140 : Int32) * v26))), (5, .int s30.2.1), (6, .int (s27.2.2.1 + (1 : Int32)))]) [1, 2, 3, 4, 5, 6, 0] rfl ?_
      exact gm_back (fun h => h)
    ·
      refine gm_if_lt (tgt := 236) d_X12_looks_139 (by decide) (fun h139 => ?_) (fun h139 => ?_)
      ·
        refine gm_iload d_X12_looks_236 0 rfl ?_
        refine gm_iconst (v := -1) d_X12_looks_238 (by decide) ?_
        refine gm_icmp_ne (tgt := 271) d_X12_looks_239 (by decide) (fun h239 => ?_) (fun h239 => ?_)
        ·
          refine gm_iload d_X12_looks_271 0 rfl ?_
          refine gm_bipush (v := -10) d_X12_looks_273 (by decide) ?_
          refine gm_icmp_le (tgt := 357) d_X12_looks_275 (by decide) (fun h275 => ?_) (fun h275 => ?_)
          ·
            refine gm_iconst (v := 0) d_X12_looks_357 (by decide) ?_
            refine gm_istore (L' := [(5, .int (0 : Int32)), (7, .int v29), (0, .ref a0), (1, .int a1), (2, .int s27.1), (3, .int x24), (4, .int ((225 : Int32) + ((140 : Int32) * v26))), (6, .int s27.2.2.1)]) d_X12_looks_358 (Nat.le_of_ble_eq_true rfl) rfl ?_
            refine gm_aload_n d_X12_looks_360 rfl 2 rfl ?_
            refine gm_getR F_12_truths gw_900 d_X12_looks_361 (fun v32 _ => ?_)
            refine gm_iconst (v := 0) d_X12_looks_364 (by decide) ?_
            refine gm_zald d_X12_looks_365 (fun v33 _ => ?_)
            refine gm_istore (L' := [(8, .int v33), (5, .int (0 : Int32)), (7, .int v29), (0, .ref a0), (1, .int a1), (2, .int s27.1), (3, .int x24), (4, .int ((225 : Int32) + ((140 : Int32) * v26))), (6, .int s27.2.2.1)]) d_X12_looks_366 (Nat.le_of_ble_eq_true rfl) rfl ?_
            refine gm_iload_n d_X12_looks_368 rfl 5 rfl ?_
            refine gm_iload d_X12_looks_369 0 rfl ?_
            refine gm_join (S := Int32) (pj := 391) (kj := 0) (nj := 0) (fun s34 => s27.2.2.2) (fun s34 => [(0, .ref a0), (1, .int a1), (2, .int s27.1), (3, .int x24), (4, .int ((225 : Int32) + ((140 : Int32) * v26))), (5, .int (0 : Int32)), (6, .int s27.2.2.1), (7, .int v29), (8, .int v33)]) (fun s34 => [.int s34, .int s27.1]) (fun s34 => ?_) (fun j35 hj35 => ?_)
            ·
              refine gm_iadd d_X12_looks_391 ?_
              refine gm_istore_n (L' := [(2, .int (s27.1 + s34)), (0, .ref a0), (1, .int a1), (3, .int x24), (4, .int ((225 : Int32) + ((140 : Int32) * v26))), (5, .int (0 : Int32)), (6, .int s27.2.2.1), (7, .int v29), (8, .int v33)]) d_X12_looks_392 rfl (Nat.le_of_ble_eq_true rfl) rfl ?_
              refine gm_iload_n d_X12_looks_393 rfl 0 rfl ?_
              refine gm_iload d_X12_looks_394 8 rfl ?_
              refine gm_join (S := Int32) (pj := 417) (kj := 0) (nj := 0) (fun s36 => s27.2.2.2) (fun s36 => [(0, .ref a0), (1, .int a1), (2, .int (s27.1 + s34)), (3, .int x24), (4, .int ((225 : Int32) + ((140 : Int32) * v26))), (5, .int (0 : Int32)), (6, .int s27.2.2.1), (7, .int v29), (8, .int v33)]) (fun s36 => [.int s36, .int (s27.1 + s34)]) (fun s36 => ?_) (fun j37 hj37 => ?_)
              ·
                refine gm_isub d_X12_looks_417 ?_
                refine gm_istore_n (L' := [(2, .int ((s27.1 + s34) - s36)), (0, .ref a0), (1, .int a1), (3, .int x24), (4, .int ((225 : Int32) + ((140 : Int32) * v26))), (5, .int (0 : Int32)), (6, .int s27.2.2.1), (7, .int v29), (8, .int v33)]) d_X12_looks_418 rfl (Nat.le_of_ble_eq_true rfl) rfl ?_
                refine gm_sub (L' := [(0, .ref a0), (1, .int a1), (2, .int ((s27.1 + s34) - s36)), (3, .int x24), (4, .int ((225 : Int32) + ((140 : Int32) * v26))), (5, .int (0 : Int32)), (6, .int s27.2.2.1), (7, .int v29)]) [1, 2, 0, 3, 4, 5, 6, 7] rfl ?_
                exact hj31 (((s27.1 + s34) - s36), (0 : Int32), s27.2.2.2)
              ·
                refine gm_join (S := Unit) (pj := 416) (kj := 0) (nj := 0) (fun s38 => s27.2.2.2) (fun s38 => [(0, .ref a0), (1, .int a1), (2, .int (s27.1 + s34)), (3, .int x24), (4, .int ((225 : Int32) + ((140 : Int32) * v26))), (5, .int (0 : Int32)), (6, .int s27.2.2.1), (7, .int v29), (8, .int v33)]) (fun s38 => [.int (s27.1 + s34)]) (fun s38 => ?_) (fun j39 hj39 => ?_)
                ·
                  refine gm_iconst (v := 0) d_X12_looks_416 (by decide) ?_
                  exact hj37 (0 : Int32)
                ·
                  refine gm_if_eq (tgt := 416) d_X12_looks_396 (by decide) (fun h396 => ?_) (fun h396 => ?_)
                  ·
                    refine gm_sub (L' := [(0, .ref a0), (1, .int a1), (2, .int (s27.1 + s34)), (3, .int x24), (4, .int ((225 : Int32) + ((140 : Int32) * v26))), (5, .int (0 : Int32)), (6, .int s27.2.2.1), (7, .int v29), (8, .int v33)]) [1, 2, 0, 3, 4, 5, 6, 7, 8] rfl ?_
                    exact hj39 ()
                  ·
                    refine gm_iload d_X12_looks_399 7 rfl ?_
                    refine gm_sipush (v := -200) d_X12_looks_401 (by decide) ?_
                    refine gm_icmp_gt (tgt := 416) d_X12_looks_404 (by decide) (fun h404 => ?_) (fun h404 => ?_)
                    ·
                      refine gm_sub (L' := [(0, .ref a0), (1, .int a1), (2, .int (s27.1 + s34)), (3, .int x24), (4, .int ((225 : Int32) + ((140 : Int32) * v26))), (5, .int (0 : Int32)), (6, .int s27.2.2.1), (7, .int v29), (8, .int v33)]) [1, 2, 0, 3, 4, 5, 6, 7, 8] rfl ?_
                      exact hj39 ()
                    ·
                      refine gm_sipush (v := -200) d_X12_looks_407 (by decide) ?_
                      refine gm_iload d_X12_looks_410 7 rfl ?_
                      refine gm_isub d_X12_looks_412 ?_
                      refine gm_goto (tgt := 417) d_X12_looks_413 (by decide) ?_
                      refine gm_sub (L' := [(0, .ref a0), (1, .int a1), (2, .int (s27.1 + s34)), (3, .int x24), (4, .int ((225 : Int32) + ((140 : Int32) * v26))), (5, .int (0 : Int32)), (6, .int s27.2.2.1), (7, .int v29), (8, .int v33)]) [1, 2, 0, 3, 4, 5, 6, 7, 8] rfl ?_
                      exact hj37 ((-200 : Int32) - v29)
            ·
              refine gm_join (S := Unit) (pj := 390) (kj := 0) (nj := 0) (fun s40 => s27.2.2.2) (fun s40 => [(0, .ref a0), (1, .int a1), (2, .int s27.1), (3, .int x24), (4, .int ((225 : Int32) + ((140 : Int32) * v26))), (5, .int (0 : Int32)), (6, .int s27.2.2.1), (7, .int v29), (8, .int v33)]) (fun s40 => [.int s27.1]) (fun s40 => ?_) (fun j41 hj41 => ?_)
              ·
                refine gm_iconst (v := 0) d_X12_looks_390 (by decide) ?_
                exact hj35 (0 : Int32)
              ·
                refine gm_if_eq (tgt := 390) d_X12_looks_371 (by decide) (fun h371 => ?_) (fun h371 => ?_)
                ·
                  refine gm_sub (L' := [(0, .ref a0), (1, .int a1), (2, .int s27.1), (3, .int x24), (4, .int ((225 : Int32) + ((140 : Int32) * v26))), (5, .int (0 : Int32)), (6, .int s27.2.2.1), (7, .int v29), (8, .int v33)]) [3, 4, 5, 6, 7, 1, 8, 2, 0] rfl ?_
                  exact hj41 ()
                ·
                  refine gm_iload d_X12_looks_374 2 rfl ?_
                  refine gm_sipush (v := -200) d_X12_looks_376 (by decide) ?_
                  refine gm_icmp_le (tgt := 390) d_X12_looks_379 (by decide) (fun h379 => ?_) (fun h379 => ?_)
                  ·
                    refine gm_sub (L' := [(0, .ref a0), (1, .int a1), (2, .int s27.1), (3, .int x24), (4, .int ((225 : Int32) + ((140 : Int32) * v26))), (5, .int (0 : Int32)), (6, .int s27.2.2.1), (7, .int v29), (8, .int v33)]) [3, 4, 5, 6, 7, 1, 8, 2, 0] rfl ?_
                    exact hj41 ()
                  ·
                    refine gm_bipush (v := -10) d_X12_looks_382 (by decide) ?_
                    refine gm_iload d_X12_looks_384 2 rfl ?_
                    refine gm_isub d_X12_looks_386 ?_
                    refine gm_goto (tgt := 391) d_X12_looks_387 (by decide) ?_
                    refine gm_sub (L' := [(0, .ref a0), (1, .int a1), (2, .int s27.1), (3, .int x24), (4, .int ((225 : Int32) + ((140 : Int32) * v26))), (5, .int (0 : Int32)), (6, .int s27.2.2.1), (7, .int v29), (8, .int v33)]) [3, 4, 5, 6, 7, 1, 8, 2, 0] rfl ?_
                    exact hj35 ((-10 : Int32) - v29)
          ·
            refine gm_iinc (v := s27.2.1 + (-1 : Int32)) (L' := [(5, .int (s27.2.1 + (-1 : Int32))), (7, .int v29), (0, .ref a0), (1, .int a1), (2, .int s27.1), (3, .int x24), (4, .int ((225 : Int32) + ((140 : Int32) * v26))), (6, .int s27.2.2.1)]) d_X12_looks_278 6 rfl rfl (Nat.le_of_ble_eq_true rfl) rfl ?_
            refine gm_aload_n d_X12_looks_281 rfl 2 rfl ?_
            refine gm_getR F_12_truths gw_900 d_X12_looks_282 (fun v42 _ => ?_)
            refine gm_iload d_X12_looks_285 0 rfl ?_
            refine gm_iconst (v := 1) d_X12_looks_287 (by decide) ?_
            refine gm_isub d_X12_looks_288 ?_
            refine gm_iload d_X12_looks_289 1 rfl ?_
            refine gm_bipush (v := -2) d_X12_looks_291 (by decide) ?_
            refine gm_join (S := Int32) (pj := 353) (kj := 0) (nj := 0) (fun s43 => s27.2.2.2) (fun s43 => [(0, .ref a0), (1, .int a1), (2, .int s27.1), (3, .int x24), (4, .int ((225 : Int32) + ((140 : Int32) * v26))), (5, .int (s27.2.1 + (-1 : Int32))), (6, .int s27.2.2.1), (7, .int v29)]) (fun s43 => [.int s43, .int ((s27.2.1 + (-1 : Int32)) - (1 : Int32)), .ref v42]) (fun s43 => ?_) (fun j44 hj44 => ?_)
            ·
              refine gm_zast d_X12_looks_353 (fun m45 _ => ?_)
              refine gm_goto (tgt := 419) d_X12_looks_354 (by decide) ?_
              exact hj31 (s27.1, (s27.2.1 + (-1 : Int32)), m45)
            ·
              refine gm_icmp_ne (tgt := 326) d_X12_looks_293 (by decide) (fun h293 => ?_) (fun h293 => ?_)
              ·
                refine gm_aload_n d_X12_looks_326 rfl 2 rfl ?_
                refine gm_getR F_12_truths gw_900 d_X12_looks_327 (fun v46 _ => ?_)
                refine gm_iload d_X12_looks_330 0 rfl ?_
                refine gm_iconst (v := 1) d_X12_looks_332 (by decide) ?_
                refine gm_isub d_X12_looks_333 ?_
                refine gm_zald d_X12_looks_334 (fun v47 _ => ?_)
                refine gm_join (S := Unit) (pj := 348) (kj := 0) (nj := 0) (fun s48 => s27.2.2.2) (fun s48 => [(0, .ref a0), (1, .int a1), (2, .int s27.1), (3, .int x24), (4, .int ((225 : Int32) + ((140 : Int32) * v26))), (5, .int (s27.2.1 + (-1 : Int32))), (6, .int s27.2.2.1), (7, .int v29)]) (fun s48 => [.int ((s27.2.1 + (-1 : Int32)) - (1 : Int32)), .ref v42]) (fun s48 => ?_) (fun j49 hj49 => ?_)
                ·
                  refine gm_iconst (v := 1) d_X12_looks_348 (by decide) ?_
                  refine gm_goto (tgt := 353) d_X12_looks_349 (by decide) ?_
                  exact hj44 (1 : Int32)
                ·
                  refine gm_if_ne (tgt := 348) d_X12_looks_335 (by decide) (fun h335 => ?_) (fun h335 => ?_)
                  ·
                    refine gm_sub (L' := [(0, .ref a0), (1, .int a1), (2, .int s27.1), (3, .int x24), (4, .int ((225 : Int32) + ((140 : Int32) * v26))), (5, .int (s27.2.1 + (-1 : Int32))), (6, .int s27.2.2.1), (7, .int v29)]) [2, 3, 4, 5, 6, 0, 7, 1] rfl ?_
                    exact hj49 ()
                  ·
                    refine gm_aload_n d_X12_looks_338 rfl 2 rfl ?_
                    refine gm_getR F_12_truths gw_900 d_X12_looks_339 (fun v50 _ => ?_)
                    refine gm_iload d_X12_looks_342 0 rfl ?_
                    refine gm_zald d_X12_looks_344 (fun v51 _ => ?_)
                    refine gm_if_eq (tgt := 352) d_X12_looks_345 (by decide) (fun h345 => ?_) (fun h345 => ?_)
                    ·
                      refine gm_iconst (v := 0) d_X12_looks_352 (by decide) ?_
                      refine gm_sub (L' := [(0, .ref a0), (1, .int a1), (2, .int s27.1), (3, .int x24), (4, .int ((225 : Int32) + ((140 : Int32) * v26))), (5, .int (s27.2.1 + (-1 : Int32))), (6, .int s27.2.2.1), (7, .int v29)]) [2, 3, 4, 5, 6, 0, 7, 1] rfl ?_
                      exact hj44 (0 : Int32)
                    ·
                      refine gm_sub (L' := [(0, .ref a0), (1, .int a1), (2, .int s27.1), (3, .int x24), (4, .int ((225 : Int32) + ((140 : Int32) * v26))), (5, .int (s27.2.1 + (-1 : Int32))), (6, .int s27.2.2.1), (7, .int v29)]) [2, 3, 4, 5, 6, 0, 7, 1] rfl ?_
                      exact hj49 ()
              ·
                refine gm_aload_n d_X12_looks_296 rfl 2 rfl ?_
                refine gm_getR F_12_truths gw_900 d_X12_looks_297 (fun v52 _ => ?_)
                refine gm_iload d_X12_looks_300 0 rfl ?_
                refine gm_iconst (v := 1) d_X12_looks_302 (by decide) ?_
                refine gm_isub d_X12_looks_303 ?_
                refine gm_zald d_X12_looks_304 (fun v53 _ => ?_)
                refine gm_join (S := Unit) (pj := 322) (kj := 0) (nj := 0) (fun s54 => s27.2.2.2) (fun s54 => [(0, .ref a0), (1, .int a1), (2, .int s27.1), (3, .int x24), (4, .int ((225 : Int32) + ((140 : Int32) * v26))), (5, .int (s27.2.1 + (-1 : Int32))), (6, .int s27.2.2.1), (7, .int v29)]) (fun s54 => [.int ((s27.2.1 + (-1 : Int32)) - (1 : Int32)), .ref v42]) (fun s54 => ?_) (fun j55 hj55 => ?_)
                ·
                  refine gm_iconst (v := 0) d_X12_looks_322 (by decide) ?_
                  refine gm_goto (tgt := 353) d_X12_looks_323 (by decide) ?_
                  exact hj44 (0 : Int32)
                ·
                  refine gm_if_eq (tgt := 322) d_X12_looks_305 (by decide) (fun h305 => ?_) (fun h305 => ?_)
                  ·
                    refine gm_sub (L' := [(0, .ref a0), (1, .int a1), (2, .int s27.1), (3, .int x24), (4, .int ((225 : Int32) + ((140 : Int32) * v26))), (5, .int (s27.2.1 + (-1 : Int32))), (6, .int s27.2.2.1), (7, .int v29)]) [2, 3, 4, 5, 6, 0, 7, 1] rfl ?_
                    exact hj55 ()
                  ·
                    refine gm_aload_n d_X12_looks_308 rfl 2 rfl ?_
                    refine gm_getR F_12_truths gw_900 d_X12_looks_309 (fun v56 _ => ?_)
                    refine gm_iload d_X12_looks_312 0 rfl ?_
                    refine gm_zald d_X12_looks_314 (fun v57 _ => ?_)
                    refine gm_if_eq (tgt := 322) d_X12_looks_315 (by decide) (fun h315 => ?_) (fun h315 => ?_)
                    ·
                      refine gm_sub (L' := [(0, .ref a0), (1, .int a1), (2, .int s27.1), (3, .int x24), (4, .int ((225 : Int32) + ((140 : Int32) * v26))), (5, .int (s27.2.1 + (-1 : Int32))), (6, .int s27.2.2.1), (7, .int v29)]) [2, 3, 4, 5, 6, 0, 7, 1] rfl ?_
                      exact hj55 ()
                    ·
                      refine gm_iconst (v := 1) d_X12_looks_318 (by decide) ?_
                      refine gm_goto (tgt := 353) d_X12_looks_319 (by decide) ?_
                      refine gm_sub (L' := [(0, .ref a0), (1, .int a1), (2, .int s27.1), (3, .int x24), (4, .int ((225 : Int32) + ((140 : Int32) * v26))), (5, .int (s27.2.1 + (-1 : Int32))), (6, .int s27.2.2.1), (7, .int v29)]) [2, 3, 4, 5, 6, 0, 7, 1] rfl ?_
                      exact hj44 (1 : Int32)
        ·
          refine gm_aload_n d_X12_looks_242 rfl 1 rfl ?_
          refine gm_getR F_12_truths gw_900 d_X12_looks_243 (fun v58 _ => ?_)
          refine gm_iload d_X12_looks_246 6 rfl ?_
          refine gm_iconst (v := 1) d_X12_looks_248 (by decide) ?_
          refine gm_isub d_X12_looks_249 ?_
          refine gm_aload_n d_X12_looks_250 rfl 1 rfl ?_
          refine gm_getR F_12_truths gw_900 d_X12_looks_251 (fun v59 _ => ?_)
          refine gm_iload d_X12_looks_254 6 rfl ?_
          refine gm_iconst (v := 1) d_X12_looks_256 (by decide) ?_
          refine gm_isub d_X12_looks_257 ?_
          refine gm_zald d_X12_looks_258 (fun v60 _ => ?_)
          refine gm_join (S := Int32) (pj := 267) (kj := 0) (nj := 0) (fun s61 => s27.2.2.2) (fun s61 => [(0, .ref a0), (1, .int a1), (2, .int s27.1), (3, .int x24), (4, .int ((225 : Int32) + ((140 : Int32) * v26))), (5, .int s27.2.1), (6, .int s27.2.2.1), (7, .int v29)]) (fun s61 => [.int s61, .int (s27.2.1 - (1 : Int32)), .ref v58]) (fun s61 => ?_) (fun j62 hj62 => ?_)
          ·
            refine gm_zast d_X12_looks_267 (fun m63 _ => ?_)
            refine gm_goto (tgt := 419) d_X12_looks_268 (by decide) ?_
            exact hj31 (s27.1, s27.2.1, m63)
          ·
            refine gm_if_ne (tgt := 266) d_X12_looks_259 (by decide) (fun h259 => ?_) (fun h259 => ?_)
            ·
              refine gm_iconst (v := 0) d_X12_looks_266 (by decide) ?_
              refine gm_sub (L' := [(0, .ref a0), (1, .int a1), (2, .int s27.1), (3, .int x24), (4, .int ((225 : Int32) + ((140 : Int32) * v26))), (5, .int s27.2.1), (6, .int s27.2.2.1), (7, .int v29)]) [1, 2, 3, 4, 5, 6, 7, 0] rfl ?_
              exact hj62 (0 : Int32)
            ·
              refine gm_iconst (v := 1) d_X12_looks_262 (by decide) ?_
              refine gm_goto (tgt := 267) d_X12_looks_263 (by decide) ?_
              refine gm_sub (L' := [(0, .ref a0), (1, .int a1), (2, .int s27.1), (3, .int x24), (4, .int ((225 : Int32) + ((140 : Int32) * v26))), (5, .int s27.2.1), (6, .int s27.2.2.1), (7, .int v29)]) [1, 2, 3, 4, 5, 6, 7, 0] rfl ?_
              exact hj62 (1 : Int32)
      ·
        refine gm_aload_n d_X12_looks_142 rfl 1 rfl ?_
        refine gm_getR F_12_by gw_899 d_X12_looks_143 (fun v64 _ => ?_)
        refine gm_iload d_X12_looks_146 0 rfl ?_
        refine gm_bipush (v := 8) d_X12_looks_148 (by decide) ?_
        refine gm_irem d_X12_looks_150 ?_
        refine gm_iald d_X12_looks_151 (fun v65 _ => ?_)
        refine gm_istore (L' := [(8, .int v65), (7, .int v29), (0, .ref a0), (1, .int a1), (2, .int s27.1), (3, .int x24), (4, .int ((225 : Int32) + ((140 : Int32) * v26))), (5, .int s27.2.1), (6, .int s27.2.2.1)]) d_X12_looks_152 (Nat.le_of_ble_eq_true rfl) rfl ?_
        refine gm_iload d_X12_looks_154 1 rfl ?_
        refine gm_bipush (v := 8) d_X12_looks_156 (by decide) ?_
        refine gm_idiv d_X12_looks_158 ?_
        refine gm_iconst (v := 4) d_X12_looks_159 (by decide) ?_
        refine gm_irem d_X12_looks_160 ?_
        refine gm_istore (L' := [(9, .int ((v29 / (8 : Int32)) - (v29 / (8 : Int32)) / (4 : Int32) * (4 : Int32))), (8, .int v65), (7, .int v29), (0, .ref a0), (1, .int a1), (2, .int s27.1), (3, .int x24), (4, .int ((225 : Int32) + ((140 : Int32) * v26))), (5, .int s27.2.1), (6, .int s27.2.2.1)]) d_X12_looks_161 (Nat.le_of_ble_eq_true rfl) rfl ?_
        refine gm_iload d_X12_looks_163 2 rfl ?_
        refine gm_bipush (v := 32) d_X12_looks_165 (by decide) ?_
        refine gm_idiv d_X12_looks_167 ?_
        refine gm_istore (L' := [(10, .int (v29 / (32 : Int32))), (9, .int ((v29 / (8 : Int32)) - (v29 / (8 : Int32)) / (4 : Int32) * (4 : Int32))), (8, .int v65), (7, .int v29), (0, .ref a0), (1, .int a1), (2, .int s27.1), (3, .int x24), (4, .int ((225 : Int32) + ((140 : Int32) * v26))), (5, .int s27.2.1), (6, .int s27.2.2.1)]) d_X12_looks_168 (Nat.le_of_ble_eq_true rfl) rfl ?_
        refine gm_aload_n d_X12_looks_170 rfl 4 rfl ?_
        refine gm_getR F_12_truths gw_900 d_X12_looks_171 (fun v66 _ => ?_)
        refine gm_iload d_X12_looks_174 9 rfl ?_
        refine gm_iload d_X12_looks_176 1 rfl ?_
        refine gm_join (S := Int32) (pj := 229) (kj := 0) (nj := 0) (fun s67 => s27.2.2.2) (fun s67 => [(0, .ref a0), (1, .int a1), (2, .int s27.1), (3, .int x24), (4, .int ((225 : Int32) + ((140 : Int32) * v26))), (5, .int s27.2.1), (6, .int s27.2.2.1), (7, .int v29), (8, .int v65), (9, .int ((v29 / (8 : Int32)) - (v29 / (8 : Int32)) / (4 : Int32) * (4 : Int32))), (10, .int (v29 / (32 : Int32)))]) (fun s67 => [.int s67, .int s27.2.1, .ref v66]) (fun s67 => ?_) (fun j68 hj68 => ?_)
        ·
          refine gm_zast d_X12_looks_229 (fun m69 _ => ?_)
          refine gm_iinc (v := s27.2.1 + (1 : Int32)) (L' := [(5, .int (s27.2.1 + (1 : Int32))), (0, .ref a0), (1, .int a1), (2, .int s27.1), (3, .int x24), (4, .int ((225 : Int32) + ((140 : Int32) * v26))), (6, .int s27.2.2.1), (7, .int v29), (8, .int v65), (9, .int ((v29 / (8 : Int32)) - (v29 / (8 : Int32)) / (4 : Int32) * (4 : Int32))), (10, .int (v29 / (32 : Int32)))]) d_X12_looks_230 5 rfl rfl (Nat.le_of_ble_eq_true rfl) rfl ?_
          refine gm_goto (tgt := 419) d_X12_looks_233 (by decide) ?_
          refine gm_sub (L' := [(0, .ref a0), (1, .int a1), (2, .int s27.1), (3, .int x24), (4, .int ((225 : Int32) + ((140 : Int32) * v26))), (5, .int (s27.2.1 + (1 : Int32))), (6, .int s27.2.2.1), (7, .int v29)]) [1, 2, 3, 4, 5, 0, 6, 7] rfl ?_
          exact hj31 (s27.1, (s27.2.1 + (1 : Int32)), m69)
        ·
          refine gm_if_ne (tgt := 196) d_X12_looks_178 (by decide) (fun h178 => ?_) (fun h178 => ?_)
          ·
            refine gm_iload d_X12_looks_196 1 rfl ?_
            refine gm_iconst (v := 1) d_X12_looks_198 (by decide) ?_
            refine gm_icmp_ne (tgt := 217) d_X12_looks_199 (by decide) (fun h199 => ?_) (fun h199 => ?_)
            ·
              refine gm_iload d_X12_looks_217 2 rfl ?_
              refine gm_iload d_X12_looks_219 0 rfl ?_
              refine gm_icmp_le (tgt := 228) d_X12_looks_221 (by decide) (fun h221 => ?_) (fun h221 => ?_)
              ·
                refine gm_iconst (v := 0) d_X12_looks_228 (by decide) ?_
                refine gm_sub (L' := [(0, .ref a0), (1, .int a1), (2, .int s27.1), (3, .int x24), (4, .int ((225 : Int32) + ((140 : Int32) * v26))), (5, .int s27.2.1), (6, .int s27.2.2.1), (7, .int v29), (8, .int v65), (9, .int ((v29 / (8 : Int32)) - (v29 / (8 : Int32)) / (4 : Int32) * (4 : Int32))), (10, .int (v29 / (32 : Int32)))]) [4, 5, 6, 7, 8, 9, 10, 3, 2, 1, 0] rfl ?_
                exact hj68 (0 : Int32)
              ·
                refine gm_iconst (v := 1) d_X12_looks_224 (by decide) ?_
                refine gm_goto (tgt := 229) d_X12_looks_225 (by decide) ?_
                refine gm_sub (L' := [(0, .ref a0), (1, .int a1), (2, .int s27.1), (3, .int x24), (4, .int ((225 : Int32) + ((140 : Int32) * v26))), (5, .int s27.2.1), (6, .int s27.2.2.1), (7, .int v29), (8, .int v65), (9, .int ((v29 / (8 : Int32)) - (v29 / (8 : Int32)) / (4 : Int32) * (4 : Int32))), (10, .int (v29 / (32 : Int32)))]) [4, 5, 6, 7, 8, 9, 10, 3, 2, 1, 0] rfl ?_
                exact hj68 (1 : Int32)
            ·
              refine gm_iload d_X12_looks_202 2 rfl ?_
              refine gm_iload d_X12_looks_204 0 rfl ?_
              refine gm_icmp_ne (tgt := 213) d_X12_looks_206 (by decide) (fun h206 => ?_) (fun h206 => ?_)
              ·
                refine gm_iconst (v := 0) d_X12_looks_213 (by decide) ?_
                refine gm_goto (tgt := 229) d_X12_looks_214 (by decide) ?_
                refine gm_sub (L' := [(0, .ref a0), (1, .int a1), (2, .int s27.1), (3, .int x24), (4, .int ((225 : Int32) + ((140 : Int32) * v26))), (5, .int s27.2.1), (6, .int s27.2.2.1), (7, .int v29), (8, .int v65), (9, .int ((v29 / (8 : Int32)) - (v29 / (8 : Int32)) / (4 : Int32) * (4 : Int32))), (10, .int (v29 / (32 : Int32)))]) [4, 5, 6, 7, 8, 9, 10, 3, 2, 1, 0] rfl ?_
                exact hj68 (0 : Int32)
              ·
                refine gm_iconst (v := 1) d_X12_looks_209 (by decide) ?_
                refine gm_goto (tgt := 229) d_X12_looks_210 (by decide) ?_
                refine gm_sub (L' := [(0, .ref a0), (1, .int a1), (2, .int s27.1), (3, .int x24), (4, .int ((225 : Int32) + ((140 : Int32) * v26))), (5, .int s27.2.1), (6, .int s27.2.2.1), (7, .int v29), (8, .int v65), (9, .int ((v29 / (8 : Int32)) - (v29 / (8 : Int32)) / (4 : Int32) * (4 : Int32))), (10, .int (v29 / (32 : Int32)))]) [4, 5, 6, 7, 8, 9, 10, 3, 2, 1, 0] rfl ?_
                exact hj68 (1 : Int32)
          ·
            refine gm_iload d_X12_looks_181 2 rfl ?_
            refine gm_iload d_X12_looks_183 0 rfl ?_
            refine gm_icmp_ge (tgt := 192) d_X12_looks_185 (by decide) (fun h185 => ?_) (fun h185 => ?_)
            ·
              refine gm_iconst (v := 0) d_X12_looks_192 (by decide) ?_
              refine gm_goto (tgt := 229) d_X12_looks_193 (by decide) ?_
              refine gm_sub (L' := [(0, .ref a0), (1, .int a1), (2, .int s27.1), (3, .int x24), (4, .int ((225 : Int32) + ((140 : Int32) * v26))), (5, .int s27.2.1), (6, .int s27.2.2.1), (7, .int v29), (8, .int v65), (9, .int ((v29 / (8 : Int32)) - (v29 / (8 : Int32)) / (4 : Int32) * (4 : Int32))), (10, .int (v29 / (32 : Int32)))]) [4, 5, 6, 7, 8, 9, 10, 3, 2, 1, 0] rfl ?_
              exact hj68 (0 : Int32)
            ·
              refine gm_iconst (v := 1) d_X12_looks_188 (by decide) ?_
              refine gm_goto (tgt := 229) d_X12_looks_189 (by decide) ?_
              refine gm_sub (L' := [(0, .ref a0), (1, .int a1), (2, .int s27.1), (3, .int x24), (4, .int ((225 : Int32) + ((140 : Int32) * v26))), (5, .int s27.2.1), (6, .int s27.2.2.1), (7, .int v29), (8, .int v65), (9, .int ((v29 / (8 : Int32)) - (v29 / (8 : Int32)) / (4 : Int32) * (4 : Int32))), (10, .int (v29 / (32 : Int32)))]) [4, 5, 6, 7, 8, 9, 10, 3, 2, 1, 0] rfl ?_
              exact hj68 (1 : Int32)
theorem d_X12_within_0 : decode prog_14_method_4_code 0 = .ok (.iload_n 0, 1) := ge_iload_n_0 (by decide +kernel)
theorem d_X12_within_1 : decode prog_14_method_4_code 1 = .ok (.iload_n 1, 1) := ge_iload_n_1 (by decide +kernel)
theorem d_X12_within_2 : decode prog_14_method_4_code 2 = .ok (.if_icmp .ge 7, 3) := ge_if_icmp_ge (by decide +kernel)
theorem d_X12_within_5 : decode prog_14_method_4_code 5 = .ok (.iload_n 1, 1) := ge_iload_n_1 (by decide +kernel)
theorem d_X12_within_6 : decode prog_14_method_4_code 6 = .ok (.goto 13, 3) := ge_goto (by decide +kernel)
theorem d_X12_within_9 : decode prog_14_method_4_code 9 = .ok (.iload_n 0, 1) := ge_iload_n_0 (by decide +kernel)
theorem d_X12_within_10 : decode prog_14_method_4_code 10 = .ok (.iload_n 2, 1) := ge_iload_n_2 (by decide +kernel)
theorem d_X12_within_11 : decode prog_14_method_4_code 11 = .ok (.if_icmp .le 7, 3) := ge_if_icmp_le (by decide +kernel)
theorem d_X12_within_14 : decode prog_14_method_4_code 14 = .ok (.iload_n 2, 1) := ge_iload_n_2 (by decide +kernel)
theorem d_X12_within_15 : decode prog_14_method_4_code 15 = .ok (.goto 4, 3) := ge_goto (by decide +kernel)
theorem d_X12_within_18 : decode prog_14_method_4_code 18 = .ok (.iload_n 0, 1) := ge_iload_n_0 (by decide +kernel)
theorem d_X12_within_19 : decode prog_14_method_4_code 19 = .ok (.ireturn, 1) := ge_ireturn (by decide +kernel)
def f_X12_within (a0 : Int32) (a1 : Int32) (a2 : Int32) (μ : gm_M) : Option (Option Value × gm_M) := if a1 ≤ a0 then if a0 ≤ a2 then some (some (.int a0), μ) else some (some (.int a2), μ) else some (some (.int a1), μ)
set_option maxHeartbeats 4000000 in
theorem c_X12_within (a0 : Int32) (a1 : Int32) (a2 : Int32) (μ : gm_M) : gm_Call ({ cls := "GumBubbleModel", name := "within", desc := "(III)I" } : Jvm.MethodName) prog_14_method_4_code 3 (some .int) 0 0 0 [.int a0, .int a1, .int a2] μ (f_X12_within a0 a1 a2 μ) := by
  refine gm_start PN_12 (Nat.le_of_ble_eq_true rfl) (fun res μe => ?_)
  unfold f_X12_within
  show gm_A "GumBubbleModel" (gm_nm "within") _ _ _ _ _ _ _ _ _ 0 [(0, .int a0), (1, .int a1), (2, .int a2)] [] _ _
  refine gm_iload_n d_X12_within_0 rfl 0 rfl ?_
  refine gm_iload_n d_X12_within_1 rfl 1 rfl ?_
  refine gm_icmp_ge (tgt := 9) d_X12_within_2 (by decide) (fun h2 => ?_) (fun h2 => ?_)
  ·
    refine gm_iload_n d_X12_within_9 rfl 0 rfl ?_
    refine gm_iload_n d_X12_within_10 rfl 2 rfl ?_
    refine gm_icmp_le (tgt := 18) d_X12_within_11 (by decide) (fun h11 => ?_) (fun h11 => ?_)
    ·
      refine gm_iload_n d_X12_within_18 rfl 0 rfl ?_
      exact gm_iret rfl d_X12_within_19 (Nat.le_of_ble_eq_true rfl) (Nat.le_of_ble_eq_true rfl) (fun h => h)
    ·
      refine gm_iload_n d_X12_within_14 rfl 2 rfl ?_
      refine gm_goto (tgt := 19) d_X12_within_15 (by decide) ?_
      exact gm_iret rfl d_X12_within_19 (Nat.le_of_ble_eq_true rfl) (Nat.le_of_ble_eq_true rfl) (fun h => h)
  ·
    refine gm_iload_n d_X12_within_5 rfl 1 rfl ?_
    refine gm_goto (tgt := 19) d_X12_within_6 (by decide) ?_
    exact gm_iret rfl d_X12_within_19 (Nat.le_of_ble_eq_true rfl) (Nat.le_of_ble_eq_true rfl) (fun h => h)
theorem d_X12_stretchOf_0 : decode prog_14_method_27_code 0 = .ok (.bipush 30, 2) := ge_bipush (by decide +kernel)
theorem d_X12_stretchOf_2 : decode prog_14_method_27_code 2 = .ok (.aload_n 0, 1) := ge_aload_n_0 (by decide +kernel)
theorem d_X12_stretchOf_3 : decode prog_14_method_27_code 3 = .ok (.iload_n 1, 1) := ge_iload_n_1 (by decide +kernel)
theorem d_X12_stretchOf_4 : decode prog_14_method_27_code 4 = .ok (.invokevirtual 133, 3) := ge_invokevirtual (by decide +kernel)
theorem d_X12_stretchOf_7 : decode prog_14_method_27_code 7 = .ok (.iadd, 1) := ge_iadd (by decide +kernel)
theorem d_X12_stretchOf_8 : decode prog_14_method_27_code 8 = .ok (.iconst 1, 1) := ge_iconst_1 (by decide +kernel)
theorem d_X12_stretchOf_9 : decode prog_14_method_27_code 9 = .ok (.ldc 137, 2) := ge_ldc (by decide +kernel)
theorem d_X12_stretchOf_11 : decode prog_14_method_27_code 11 = .ok (.invokestatic 138, 3) := ge_invokestatic (by decide +kernel)
theorem d_X12_stretchOf_14 : decode prog_14_method_27_code 14 = .ok (.ireturn, 1) := ge_ireturn (by decide +kernel)
def f_X12_stretchOf (a0 : Nat) (a1 : Int32) (μ : gm_M) : Option (Option Value × gm_M) := if gm_tag μ a0 = 17 then gm_bI (f_X12_looks a0 a1 μ) (fun x2 m1 => gm_bI (f_X12_within ((30 : Int32) + x2) (1 : Int32) (1000000 : Int32) m1) (fun x4 m3 => some (some (.int x4), m3))) else none
set_option maxHeartbeats 4000000 in
theorem c_X12_stretchOf (a0 : Nat) (a1 : Int32) (μ : gm_M) : gm_Call ({ cls := "GumBubbleModel", name := "stretchOf", desc := "(I)I" } : Jvm.MethodName) prog_14_method_27_code 2 (some .int) 2 0 0 [.ref a0, .int a1] μ (f_X12_stretchOf a0 a1 μ) := by
  refine gm_start PN_12 (Nat.le_of_ble_eq_true rfl) (fun res μe => ?_)
  unfold f_X12_stretchOf
  show gm_A "GumBubbleModel" (gm_nm "stretchOf") _ _ _ _ _ _ _ _ _ 0 [(0, .ref a0), (1, .int a1)] [] _ _
  refine gm_bipush (v := 30) d_X12_stretchOf_0 (by decide) ?_
  refine gm_aload_n d_X12_stretchOf_2 rfl 0 rfl ?_
  refine gm_iload_n d_X12_stretchOf_3 rfl 1 rfl ?_
  refine gm_grd (fun g4 => ?_)
  refine gm_callV (k0 := 12) [.int a1] (c_X12_looks a0 a1 μ) g4 rfl B_X12_looks gw_1055 gs_42 rfl rfl rfl d_X12_stretchOf_4 (gm_kI (fun x2 m1 => ?_))
  refine gm_iadd d_X12_stretchOf_7 ?_
  refine gm_iconst (v := 1) d_X12_stretchOf_8 (by decide) ?_
  refine gm_ldc (v := 1000000) gw_1059 d_X12_stretchOf_9 ?_
  refine gm_callS [.int ((30 : Int32) + x2), .int (1 : Int32), .int (1000000 : Int32)] (c_X12_within ((30 : Int32) + x2) (1 : Int32) (1000000 : Int32) m1) B_X12_within gw_1060 rfl rfl rfl d_X12_stretchOf_11 (gm_kI (fun x4 m3 => ?_))
  exact gm_iret rfl d_X12_stretchOf_14 (Nat.le_of_ble_eq_true rfl) (Nat.le_of_ble_eq_true rfl) (fun h => h)
theorem d_X12_holdsOf_0 : decode prog_14_method_30_code 0 = .ok (.aload_n 0, 1) := ge_aload_n_0 (by decide +kernel)
theorem d_X12_holdsOf_1 : decode prog_14_method_30_code 1 = .ok (.getfield 9, 3) := ge_getfield (by decide +kernel)
theorem d_X12_holdsOf_4 : decode prog_14_method_30_code 4 = .ok (.iconst 1, 1) := ge_iconst_1 (by decide +kernel)
theorem d_X12_holdsOf_5 : decode prog_14_method_30_code 5 = .ok (.iload_n 1, 1) := ge_iload_n_1 (by decide +kernel)
theorem d_X12_holdsOf_6 : decode prog_14_method_30_code 6 = .ok (.iadd, 1) := ge_iadd (by decide +kernel)
theorem d_X12_holdsOf_7 : decode prog_14_method_30_code 7 = .ok (.iaload, 1) := ge_iaload (by decide +kernel)
theorem d_X12_holdsOf_8 : decode prog_14_method_30_code 8 = .ok (.aload_n 0, 1) := ge_aload_n_0 (by decide +kernel)
theorem d_X12_holdsOf_9 : decode prog_14_method_30_code 9 = .ok (.iload_n 1, 1) := ge_iload_n_1 (by decide +kernel)
theorem d_X12_holdsOf_10 : decode prog_14_method_30_code 10 = .ok (.invokevirtual 145, 3) := ge_invokevirtual (by decide +kernel)
theorem d_X12_holdsOf_13 : decode prog_14_method_30_code 13 = .ok (.imul, 1) := ge_imul (by decide +kernel)
theorem d_X12_holdsOf_14 : decode prog_14_method_30_code 14 = .ok (.aload_n 0, 1) := ge_aload_n_0 (by decide +kernel)
theorem d_X12_holdsOf_15 : decode prog_14_method_30_code 15 = .ok (.getfield 9, 3) := ge_getfield (by decide +kernel)
theorem d_X12_holdsOf_18 : decode prog_14_method_30_code 18 = .ok (.bipush 6, 2) := ge_bipush (by decide +kernel)
theorem d_X12_holdsOf_20 : decode prog_14_method_30_code 20 = .ok (.iload_n 1, 1) := ge_iload_n_1 (by decide +kernel)
theorem d_X12_holdsOf_21 : decode prog_14_method_30_code 21 = .ok (.iadd, 1) := ge_iadd (by decide +kernel)
theorem d_X12_holdsOf_22 : decode prog_14_method_30_code 22 = .ok (.iaload, 1) := ge_iaload (by decide +kernel)
theorem d_X12_holdsOf_23 : decode prog_14_method_30_code 23 = .ok (.isub, 1) := ge_isub (by decide +kernel)
theorem d_X12_holdsOf_24 : decode prog_14_method_30_code 24 = .ok (.aload_n 0, 1) := ge_aload_n_0 (by decide +kernel)
theorem d_X12_holdsOf_25 : decode prog_14_method_30_code 25 = .ok (.getfield 9, 3) := ge_getfield (by decide +kernel)
theorem d_X12_holdsOf_28 : decode prog_14_method_30_code 28 = .ok (.bipush 11, 2) := ge_bipush (by decide +kernel)
theorem d_X12_holdsOf_30 : decode prog_14_method_30_code 30 = .ok (.iload_n 1, 1) := ge_iload_n_1 (by decide +kernel)
theorem d_X12_holdsOf_31 : decode prog_14_method_30_code 31 = .ok (.iadd, 1) := ge_iadd (by decide +kernel)
theorem d_X12_holdsOf_32 : decode prog_14_method_30_code 32 = .ok (.iaload, 1) := ge_iaload (by decide +kernel)
theorem d_X12_holdsOf_33 : decode prog_14_method_30_code 33 = .ok (.iconst 2, 1) := ge_iconst_2 (by decide +kernel)
theorem d_X12_holdsOf_34 : decode prog_14_method_30_code 34 = .ok (.idiv, 1) := ge_idiv (by decide +kernel)
theorem d_X12_holdsOf_35 : decode prog_14_method_30_code 35 = .ok (.isub, 1) := ge_isub (by decide +kernel)
theorem d_X12_holdsOf_36 : decode prog_14_method_30_code 36 = .ok (.aload_n 0, 1) := ge_aload_n_0 (by decide +kernel)
theorem d_X12_holdsOf_37 : decode prog_14_method_30_code 37 = .ok (.sipush 210, 3) := ge_sipush (by decide +kernel)
theorem d_X12_holdsOf_40 : decode prog_14_method_30_code 40 = .ok (.iconst 0, 1) := ge_iconst_0 (by decide +kernel)
theorem d_X12_holdsOf_41 : decode prog_14_method_30_code 41 = .ok (.invokevirtual 129, 3) := ge_invokevirtual (by decide +kernel)
theorem d_X12_holdsOf_44 : decode prog_14_method_30_code 44 = .ok (.isub, 1) := ge_isub (by decide +kernel)
theorem d_X12_holdsOf_45 : decode prog_14_method_30_code 45 = .ok (.invokestatic 142, 3) := ge_invokestatic (by decide +kernel)
theorem d_X12_holdsOf_48 : decode prog_14_method_30_code 48 = .ok (.istore_n 2, 1) := ge_istore_n_2 (by decide +kernel)
theorem d_X12_holdsOf_49 : decode prog_14_method_30_code 49 = .ok (.aload_n 0, 1) := ge_aload_n_0 (by decide +kernel)
theorem d_X12_holdsOf_50 : decode prog_14_method_30_code 50 = .ok (.getfield 9, 3) := ge_getfield (by decide +kernel)
theorem d_X12_holdsOf_53 : decode prog_14_method_30_code 53 = .ok (.bipush 33, 2) := ge_bipush (by decide +kernel)
theorem d_X12_holdsOf_55 : decode prog_14_method_30_code 55 = .ok (.iload_n 1, 1) := ge_iload_n_1 (by decide +kernel)
theorem d_X12_holdsOf_56 : decode prog_14_method_30_code 56 = .ok (.iadd, 1) := ge_iadd (by decide +kernel)
theorem d_X12_holdsOf_57 : decode prog_14_method_30_code 57 = .ok (.iaload, 1) := ge_iaload (by decide +kernel)
theorem d_X12_holdsOf_58 : decode prog_14_method_30_code 58 = .ok (.iconst 5, 1) := ge_iconst_5 (by decide +kernel)
theorem d_X12_holdsOf_59 : decode prog_14_method_30_code 59 = .ok (.if_icmp .ne 13, 3) := ge_if_icmp_ne (by decide +kernel)
theorem d_X12_holdsOf_62 : decode prog_14_method_30_code 62 = .ok (.iload_n 2, 1) := ge_iload_n_2 (by decide +kernel)
theorem d_X12_holdsOf_63 : decode prog_14_method_30_code 63 = .ok (.bipush 10, 2) := ge_bipush (by decide +kernel)
theorem d_X12_holdsOf_65 : decode prog_14_method_30_code 65 = .ok (.isub, 1) := ge_isub (by decide +kernel)
theorem d_X12_holdsOf_66 : decode prog_14_method_30_code 66 = .ok (.invokestatic 142, 3) := ge_invokestatic (by decide +kernel)
theorem d_X12_holdsOf_69 : decode prog_14_method_30_code 69 = .ok (.goto 4, 3) := ge_goto (by decide +kernel)
theorem d_X12_holdsOf_72 : decode prog_14_method_30_code 72 = .ok (.iload_n 2, 1) := ge_iload_n_2 (by decide +kernel)
theorem d_X12_holdsOf_73 : decode prog_14_method_30_code 73 = .ok (.ireturn, 1) := ge_ireturn (by decide +kernel)
def f_X12_holdsOf (a0 : Nat) (a1 : Int32) (μ : gm_M) : Option (Option Value × gm_M) := gm_gR μ [17] a0 1 (fun v1 => gm_aI μ v1 ((1 : Int32) + a1) (fun v2 => if gm_tag μ a0 = 17 then gm_bI (f_X12_stretchOf a0 a1 μ) (fun x4 m3 => gm_gR m3 [17] a0 1 (fun v5 => gm_aI m3 v5 ((6 : Int32) + a1) (fun v6 => gm_gR m3 [17] a0 1 (fun v7 => gm_aI m3 v7 ((11 : Int32) + a1) (fun v8 => if (2 : Int32) = 0 then none else if gm_tag m3 a0 = 17 then gm_bI (f_X12_tellsOf a0 (210 : Int32) (0 : Int32) m3) (fun x10 m9 => gm_bI (f_X12_above ((((v2 * x4) - v6) - (v8 / (2 : Int32))) - x10) m9) (fun x12 m11 => gm_gR m11 [17] a0 1 (fun v13 => gm_aI m11 v13 ((33 : Int32) + a1) (fun v14 => if v14 ≠ (5 : Int32) then some (some (.int x12), m11) else gm_bI (f_X12_above (x12 - (10 : Int32)) m11) (fun x16 m15 => some (some (.int x16), m15)))))) else none))))) else none))
set_option maxHeartbeats 4000000 in
theorem c_X12_holdsOf (a0 : Nat) (a1 : Int32) (μ : gm_M) : gm_Call ({ cls := "GumBubbleModel", name := "holdsOf", desc := "(I)I" } : Jvm.MethodName) prog_14_method_30_code 3 (some .int) 3 0 0 [.ref a0, .int a1] μ (f_X12_holdsOf a0 a1 μ) := by
  refine gm_start PN_12 (Nat.le_of_ble_eq_true rfl) (fun res μe => ?_)
  unfold f_X12_holdsOf
  show gm_A "GumBubbleModel" (gm_nm "holdsOf") _ _ _ _ _ _ _ _ _ 0 [(0, .ref a0), (1, .int a1)] [] _ _
  refine gm_aload_n d_X12_holdsOf_0 rfl 0 rfl ?_
  refine gm_getR F_12_s gw_890 d_X12_holdsOf_1 (fun v1 _ => ?_)
  refine gm_iconst (v := 1) d_X12_holdsOf_4 (by decide) ?_
  refine gm_iload_n d_X12_holdsOf_5 rfl 1 rfl ?_
  refine gm_iadd d_X12_holdsOf_6 ?_
  refine gm_iald d_X12_holdsOf_7 (fun v2 _ => ?_)
  refine gm_aload_n d_X12_holdsOf_8 rfl 0 rfl ?_
  refine gm_iload_n d_X12_holdsOf_9 rfl 1 rfl ?_
  refine gm_grd (fun g10 => ?_)
  refine gm_callV (k0 := 12) [.int a1] (c_X12_stretchOf a0 a1 μ) g10 rfl B_X12_stretchOf gw_1051 gs_41 rfl rfl rfl d_X12_holdsOf_10 (gm_kI (fun x4 m3 => ?_))
  refine gm_imul d_X12_holdsOf_13 ?_
  refine gm_aload_n d_X12_holdsOf_14 rfl 0 rfl ?_
  refine gm_getR F_12_s gw_890 d_X12_holdsOf_15 (fun v5 _ => ?_)
  refine gm_bipush (v := 6) d_X12_holdsOf_18 (by decide) ?_
  refine gm_iload_n d_X12_holdsOf_20 rfl 1 rfl ?_
  refine gm_iadd d_X12_holdsOf_21 ?_
  refine gm_iald d_X12_holdsOf_22 (fun v6 _ => ?_)
  refine gm_isub d_X12_holdsOf_23 ?_
  refine gm_aload_n d_X12_holdsOf_24 rfl 0 rfl ?_
  refine gm_getR F_12_s gw_890 d_X12_holdsOf_25 (fun v7 _ => ?_)
  refine gm_bipush (v := 11) d_X12_holdsOf_28 (by decide) ?_
  refine gm_iload_n d_X12_holdsOf_30 rfl 1 rfl ?_
  refine gm_iadd d_X12_holdsOf_31 ?_
  refine gm_iald d_X12_holdsOf_32 (fun v8 _ => ?_)
  refine gm_iconst (v := 2) d_X12_holdsOf_33 (by decide) ?_
  refine gm_idiv d_X12_holdsOf_34 ?_
  refine gm_isub d_X12_holdsOf_35 ?_
  refine gm_aload_n d_X12_holdsOf_36 rfl 0 rfl ?_
  refine gm_sipush (v := 210) d_X12_holdsOf_37 (by decide) ?_
  refine gm_iconst (v := 0) d_X12_holdsOf_40 (by decide) ?_
  refine gm_grd (fun g41 => ?_)
  refine gm_callV (k0 := 12) [.int (210 : Int32), .int (0 : Int32)] (c_X12_tellsOf a0 (210 : Int32) (0 : Int32) m3) g41 rfl B_X12_tellsOf gw_1039 gs_39 rfl rfl rfl d_X12_holdsOf_41 (gm_kI (fun x10 m9 => ?_))
  refine gm_isub d_X12_holdsOf_44 ?_
  refine gm_callS [.int ((((v2 * x4) - v6) - (v8 / (2 : Int32))) - x10)] (c_X12_above ((((v2 * x4) - v6) - (v8 / (2 : Int32))) - x10) m9) B_X12_above gw_1067 rfl rfl rfl d_X12_holdsOf_45 (gm_kI (fun x12 m11 => ?_))
  refine gm_istore_n (L' := [(2, .int x12), (0, .ref a0), (1, .int a1)]) d_X12_holdsOf_48 rfl (Nat.le_of_ble_eq_true rfl) rfl ?_
  refine gm_aload_n d_X12_holdsOf_49 rfl 1 rfl ?_
  refine gm_getR F_12_s gw_890 d_X12_holdsOf_50 (fun v13 _ => ?_)
  refine gm_bipush (v := 33) d_X12_holdsOf_53 (by decide) ?_
  refine gm_iload_n d_X12_holdsOf_55 rfl 2 rfl ?_
  refine gm_iadd d_X12_holdsOf_56 ?_
  refine gm_iald d_X12_holdsOf_57 (fun v14 _ => ?_)
  refine gm_iconst (v := 5) d_X12_holdsOf_58 (by decide) ?_
  refine gm_icmp_ne (tgt := 72) d_X12_holdsOf_59 (by decide) (fun h59 => ?_) (fun h59 => ?_)
  ·
    refine gm_iload_n d_X12_holdsOf_72 rfl 0 rfl ?_
    exact gm_iret rfl d_X12_holdsOf_73 (Nat.le_of_ble_eq_true rfl) (Nat.le_of_ble_eq_true rfl) (fun h => h)
  ·
    refine gm_iload_n d_X12_holdsOf_62 rfl 0 rfl ?_
    refine gm_bipush (v := 10) d_X12_holdsOf_63 (by decide) ?_
    refine gm_isub d_X12_holdsOf_65 ?_
    refine gm_callS [.int (x12 - (10 : Int32))] (c_X12_above (x12 - (10 : Int32)) m11) B_X12_above gw_1067 rfl rfl rfl d_X12_holdsOf_66 (gm_kI (fun x16 m15 => ?_))
    refine gm_goto (tgt := 73) d_X12_holdsOf_69 (by decide) ?_
    exact gm_iret rfl d_X12_holdsOf_73 (Nat.le_of_ble_eq_true rfl) (Nat.le_of_ble_eq_true rfl) (fun h => h)
theorem d_X12_allHold_0 : decode prog_14_method_31_code 0 = .ok (.iconst 0, 1) := ge_iconst_0 (by decide +kernel)
theorem d_X12_allHold_1 : decode prog_14_method_31_code 1 = .ok (.istore_n 1, 1) := ge_istore_n_1 (by decide +kernel)
theorem d_X12_allHold_2 : decode prog_14_method_31_code 2 = .ok (.iconst 0, 1) := ge_iconst_0 (by decide +kernel)
theorem d_X12_allHold_3 : decode prog_14_method_31_code 3 = .ok (.istore_n 2, 1) := ge_istore_n_2 (by decide +kernel)
theorem d_X12_allHold_4 : decode prog_14_method_31_code 4 = .ok (.iload_n 2, 1) := ge_iload_n_2 (by decide +kernel)
theorem d_X12_allHold_5 : decode prog_14_method_31_code 5 = .ok (.aload_n 0, 1) := ge_aload_n_0 (by decide +kernel)
theorem d_X12_allHold_6 : decode prog_14_method_31_code 6 = .ok (.getfield 9, 3) := ge_getfield (by decide +kernel)
theorem d_X12_allHold_9 : decode prog_14_method_31_code 9 = .ok (.bipush 26, 2) := ge_bipush (by decide +kernel)
theorem d_X12_allHold_11 : decode prog_14_method_31_code 11 = .ok (.iaload, 1) := ge_iaload (by decide +kernel)
theorem d_X12_allHold_12 : decode prog_14_method_31_code 12 = .ok (.if_icmp .ge 17, 3) := ge_if_icmp_ge (by decide +kernel)
theorem d_X12_allHold_15 : decode prog_14_method_31_code 15 = .ok (.iload_n 1, 1) := ge_iload_n_1 (by decide +kernel)
theorem d_X12_allHold_16 : decode prog_14_method_31_code 16 = .ok (.aload_n 0, 1) := ge_aload_n_0 (by decide +kernel)
theorem d_X12_allHold_17 : decode prog_14_method_31_code 17 = .ok (.iload_n 2, 1) := ge_iload_n_2 (by decide +kernel)
theorem d_X12_allHold_18 : decode prog_14_method_31_code 18 = .ok (.invokevirtual 148, 3) := ge_invokevirtual (by decide +kernel)
theorem d_X12_allHold_21 : decode prog_14_method_31_code 21 = .ok (.iadd, 1) := ge_iadd (by decide +kernel)
theorem d_X12_allHold_22 : decode prog_14_method_31_code 22 = .ok (.istore_n 1, 1) := ge_istore_n_1 (by decide +kernel)
theorem d_X12_allHold_23 : decode prog_14_method_31_code 23 = .ok (.iinc 2 1, 3) := ge_iinc (by decide +kernel)
theorem d_X12_allHold_26 : decode prog_14_method_31_code 26 = .ok (.goto (-22), 3) := ge_goto (by decide +kernel)
theorem d_X12_allHold_29 : decode prog_14_method_31_code 29 = .ok (.iload_n 1, 1) := ge_iload_n_1 (by decide +kernel)
theorem d_X12_allHold_30 : decode prog_14_method_31_code 30 = .ok (.ireturn, 1) := ge_ireturn (by decide +kernel)
def f_X12_allHold (a0 : Nat) (μ : gm_M) : Option (Option Value × gm_M) := gm_loop (fun (s1 : Int32 × Int32 × gm_M) => gm_gR s1.2.2 [17] a0 1 (fun v2 => gm_aI s1.2.2 v2 (26 : Int32) (fun v3 => if v3 ≤ s1.2.1 then some (Sum.inr (some (.int s1.1), s1.2.2)) else if gm_tag s1.2.2 a0 = 17 then gm_bI (f_X12_holdsOf a0 s1.2.1 s1.2.2) (fun x5 m4 => some (Sum.inl ((s1.1 + x5), (s1.2.1 + (1 : Int32)), m4))) else none))) 5000 ((0 : Int32), (0 : Int32), μ)
set_option maxHeartbeats 4000000 in
theorem c_X12_allHold (a0 : Nat) (μ : gm_M) : gm_Call ({ cls := "GumBubbleModel", name := "allHold", desc := "()I" } : Jvm.MethodName) prog_14_method_31_code 3 (some .int) 4 0 0 [.ref a0] μ (f_X12_allHold a0 μ) := by
  refine gm_start PN_12 (Nat.le_of_ble_eq_true rfl) (fun res μe => ?_)
  unfold f_X12_allHold
  show gm_A "GumBubbleModel" (gm_nm "allHold") _ _ _ _ _ _ _ _ _ 0 [(0, .ref a0)] [] _ _
  refine gm_iconst (v := 0) d_X12_allHold_0 (by decide) ?_
  refine gm_istore_n (L' := [(1, .int (0 : Int32)), (0, .ref a0)]) d_X12_allHold_1 rfl (Nat.le_of_ble_eq_true rfl) rfl ?_
  refine gm_iconst (v := 0) d_X12_allHold_2 (by decide) ?_
  refine gm_istore_n (L' := [(2, .int (0 : Int32)), (1, .int (0 : Int32)), (0, .ref a0)]) d_X12_allHold_3 rfl (Nat.le_of_ble_eq_true rfl) rfl ?_
  refine gm_sub (L' := [(0, .ref a0), (1, .int (0 : Int32)), (2, .int (0 : Int32))]) [2, 1, 0] rfl ?_
  refine gm_lp (S := Int32 × Int32 × gm_M) (fun _ => 0) (fun _ => 0) (fun s1 => s1.2.2) (fun s1 => [(0, .ref a0), (1, .int s1.1), (2, .int s1.2.1)]) (fun _ => []) (fun s1 => ?_) 5000 ((0 : Int32), (0 : Int32), μ)
  refine gm_iload_n d_X12_allHold_4 rfl 2 rfl ?_
  refine gm_aload_n d_X12_allHold_5 rfl 0 rfl ?_
  refine gm_getR F_12_s gw_890 d_X12_allHold_6 (fun v2 _ => ?_)
  refine gm_bipush (v := 26) d_X12_allHold_9 (by decide) ?_
  refine gm_iald d_X12_allHold_11 (fun v3 _ => ?_)
  refine gm_icmp_ge (tgt := 29) d_X12_allHold_12 (by decide) (fun h12 => ?_) (fun h12 => ?_)
  ·
    refine gm_iload_n d_X12_allHold_29 rfl 1 rfl ?_
    exact gm_iret rfl d_X12_allHold_30 (Nat.le_of_ble_eq_true rfl) (Nat.le_of_ble_eq_true rfl) (fun h => h)
  ·
    refine gm_iload_n d_X12_allHold_15 rfl 1 rfl ?_
    refine gm_aload_n d_X12_allHold_16 rfl 0 rfl ?_
    refine gm_iload_n d_X12_allHold_17 rfl 2 rfl ?_
    refine gm_grd (fun g18 => ?_)
    refine gm_callV (k0 := 12) [.int s1.2.1] (c_X12_holdsOf a0 s1.2.1 s1.2.2) g18 rfl B_X12_holdsOf gw_1074 gs_45 rfl rfl rfl d_X12_allHold_18 (gm_kI (fun x5 m4 => ?_))
    refine gm_iadd d_X12_allHold_21 ?_
    refine gm_istore_n (L' := [(1, .int (s1.1 + x5)), (0, .ref a0), (2, .int s1.2.1)]) d_X12_allHold_22 rfl (Nat.le_of_ble_eq_true rfl) rfl ?_
    refine gm_iinc (v := s1.2.1 + (1 : Int32)) (L' := [(2, .int (s1.2.1 + (1 : Int32))), (1, .int (s1.1 + x5)), (0, .ref a0)]) d_X12_allHold_23 2 rfl rfl (Nat.le_of_ble_eq_true rfl) rfl ?_
    refine gm_goto (tgt := 4) d_X12_allHold_26 (by decide) ?_
    refine gm_sub (L' := [(0, .ref a0), (1, .int (s1.1 + x5)), (2, .int (s1.2.1 + (1 : Int32)))]) [2, 1, 0] rfl ?_
    exact gm_back (fun h => h)
theorem d_X12_allOf_0 : decode prog_14_method_75_code 0 = .ok (.iconst 0, 1) := ge_iconst_0 (by decide +kernel)
theorem d_X12_allOf_1 : decode prog_14_method_75_code 1 = .ok (.istore_n 2, 1) := ge_istore_n_2 (by decide +kernel)
theorem d_X12_allOf_2 : decode prog_14_method_75_code 2 = .ok (.iconst 0, 1) := ge_iconst_0 (by decide +kernel)
theorem d_X12_allOf_3 : decode prog_14_method_75_code 3 = .ok (.istore_n 3, 1) := ge_istore_n_3 (by decide +kernel)
theorem d_X12_allOf_4 : decode prog_14_method_75_code 4 = .ok (.iload_n 3, 1) := ge_iload_n_3 (by decide +kernel)
theorem d_X12_allOf_5 : decode prog_14_method_75_code 5 = .ok (.aload_n 0, 1) := ge_aload_n_0 (by decide +kernel)
theorem d_X12_allOf_6 : decode prog_14_method_75_code 6 = .ok (.getfield 9, 3) := ge_getfield (by decide +kernel)
theorem d_X12_allOf_9 : decode prog_14_method_75_code 9 = .ok (.bipush 26, 2) := ge_bipush (by decide +kernel)
theorem d_X12_allOf_11 : decode prog_14_method_75_code 11 = .ok (.iaload, 1) := ge_iaload (by decide +kernel)
theorem d_X12_allOf_12 : decode prog_14_method_75_code 12 = .ok (.if_icmp .ge 20, 3) := ge_if_icmp_ge (by decide +kernel)
theorem d_X12_allOf_15 : decode prog_14_method_75_code 15 = .ok (.iload_n 2, 1) := ge_iload_n_2 (by decide +kernel)
theorem d_X12_allOf_16 : decode prog_14_method_75_code 16 = .ok (.aload_n 0, 1) := ge_aload_n_0 (by decide +kernel)
theorem d_X12_allOf_17 : decode prog_14_method_75_code 17 = .ok (.getfield 9, 3) := ge_getfield (by decide +kernel)
theorem d_X12_allOf_20 : decode prog_14_method_75_code 20 = .ok (.iload_n 1, 1) := ge_iload_n_1 (by decide +kernel)
theorem d_X12_allOf_21 : decode prog_14_method_75_code 21 = .ok (.iload_n 3, 1) := ge_iload_n_3 (by decide +kernel)
theorem d_X12_allOf_22 : decode prog_14_method_75_code 22 = .ok (.iadd, 1) := ge_iadd (by decide +kernel)
theorem d_X12_allOf_23 : decode prog_14_method_75_code 23 = .ok (.iaload, 1) := ge_iaload (by decide +kernel)
theorem d_X12_allOf_24 : decode prog_14_method_75_code 24 = .ok (.iadd, 1) := ge_iadd (by decide +kernel)
theorem d_X12_allOf_25 : decode prog_14_method_75_code 25 = .ok (.istore_n 2, 1) := ge_istore_n_2 (by decide +kernel)
theorem d_X12_allOf_26 : decode prog_14_method_75_code 26 = .ok (.iinc 3 1, 3) := ge_iinc (by decide +kernel)
theorem d_X12_allOf_29 : decode prog_14_method_75_code 29 = .ok (.goto (-25), 3) := ge_goto (by decide +kernel)
theorem d_X12_allOf_32 : decode prog_14_method_75_code 32 = .ok (.iload_n 2, 1) := ge_iload_n_2 (by decide +kernel)
theorem d_X12_allOf_33 : decode prog_14_method_75_code 33 = .ok (.ireturn, 1) := ge_ireturn (by decide +kernel)
def f_X12_allOf (a0 : Nat) (a1 : Int32) (μ : gm_M) : Option (Option Value × gm_M) := gm_loop (fun (s1 : Int32 × Int32) => gm_gR μ [17] a0 1 (fun v2 => gm_aI μ v2 (26 : Int32) (fun v3 => if v3 ≤ s1.2 then some (Sum.inr (some (.int s1.1), μ)) else gm_gR μ [17] a0 1 (fun v4 => gm_aI μ v4 (a1 + s1.2) (fun v5 => some (Sum.inl ((s1.1 + v5), (s1.2 + (1 : Int32))))))))) 5000 ((0 : Int32), (0 : Int32))
set_option maxHeartbeats 4000000 in
theorem c_X12_allOf (a0 : Nat) (a1 : Int32) (μ : gm_M) : gm_Call ({ cls := "GumBubbleModel", name := "allOf", desc := "(I)I" } : Jvm.MethodName) prog_14_method_75_code 4 (some .int) 0 0 0 [.ref a0, .int a1] μ (f_X12_allOf a0 a1 μ) := by
  refine gm_start PN_12 (Nat.le_of_ble_eq_true rfl) (fun res μe => ?_)
  unfold f_X12_allOf
  show gm_A "GumBubbleModel" (gm_nm "allOf") _ _ _ _ _ _ _ _ _ 0 [(0, .ref a0), (1, .int a1)] [] _ _
  refine gm_iconst (v := 0) d_X12_allOf_0 (by decide) ?_
  refine gm_istore_n (L' := [(2, .int (0 : Int32)), (0, .ref a0), (1, .int a1)]) d_X12_allOf_1 rfl (Nat.le_of_ble_eq_true rfl) rfl ?_
  refine gm_iconst (v := 0) d_X12_allOf_2 (by decide) ?_
  refine gm_istore_n (L' := [(3, .int (0 : Int32)), (2, .int (0 : Int32)), (0, .ref a0), (1, .int a1)]) d_X12_allOf_3 rfl (Nat.le_of_ble_eq_true rfl) rfl ?_
  refine gm_sub (L' := [(0, .ref a0), (1, .int a1), (2, .int (0 : Int32)), (3, .int (0 : Int32))]) [2, 3, 1, 0] rfl ?_
  refine gm_lp (S := Int32 × Int32) (fun _ => 0) (fun _ => 0) (fun s1 => μ) (fun s1 => [(0, .ref a0), (1, .int a1), (2, .int s1.1), (3, .int s1.2)]) (fun _ => []) (fun s1 => ?_) 5000 ((0 : Int32), (0 : Int32))
  refine gm_iload_n d_X12_allOf_4 rfl 3 rfl ?_
  refine gm_aload_n d_X12_allOf_5 rfl 0 rfl ?_
  refine gm_getR F_12_s gw_890 d_X12_allOf_6 (fun v2 _ => ?_)
  refine gm_bipush (v := 26) d_X12_allOf_9 (by decide) ?_
  refine gm_iald d_X12_allOf_11 (fun v3 _ => ?_)
  refine gm_icmp_ge (tgt := 32) d_X12_allOf_12 (by decide) (fun h12 => ?_) (fun h12 => ?_)
  ·
    refine gm_iload_n d_X12_allOf_32 rfl 2 rfl ?_
    exact gm_iret rfl d_X12_allOf_33 (Nat.le_of_ble_eq_true rfl) (Nat.le_of_ble_eq_true rfl) (fun h => h)
  ·
    refine gm_iload_n d_X12_allOf_15 rfl 2 rfl ?_
    refine gm_aload_n d_X12_allOf_16 rfl 0 rfl ?_
    refine gm_getR F_12_s gw_890 d_X12_allOf_17 (fun v4 _ => ?_)
    refine gm_iload_n d_X12_allOf_20 rfl 1 rfl ?_
    refine gm_iload_n d_X12_allOf_21 rfl 3 rfl ?_
    refine gm_iadd d_X12_allOf_22 ?_
    refine gm_iald d_X12_allOf_23 (fun v5 _ => ?_)
    refine gm_iadd d_X12_allOf_24 ?_
    refine gm_istore_n (L' := [(2, .int (s1.1 + v5)), (0, .ref a0), (1, .int a1), (3, .int s1.2)]) d_X12_allOf_25 rfl (Nat.le_of_ble_eq_true rfl) rfl ?_
    refine gm_iinc (v := s1.2 + (1 : Int32)) (L' := [(3, .int (s1.2 + (1 : Int32))), (2, .int (s1.1 + v5)), (0, .ref a0), (1, .int a1)]) d_X12_allOf_26 3 rfl rfl (Nat.le_of_ble_eq_true rfl) rfl ?_
    refine gm_goto (tgt := 4) d_X12_allOf_29 (by decide) ?_
    refine gm_sub (L' := [(0, .ref a0), (1, .int a1), (2, .int (s1.1 + v5)), (3, .int (s1.2 + (1 : Int32)))]) [2, 3, 1, 0] rfl ?_
    exact gm_back (fun h => h)
theorem d_X12_chewsOf_0 : decode prog_14_method_28_code 0 = .ok (.iconst 3, 1) := ge_iconst_3 (by decide +kernel)
theorem d_X12_chewsOf_1 : decode prog_14_method_28_code 1 = .ok (.aload_n 0, 1) := ge_aload_n_0 (by decide +kernel)
theorem d_X12_chewsOf_2 : decode prog_14_method_28_code 2 = .ok (.getfield 9, 3) := ge_getfield (by decide +kernel)
theorem d_X12_chewsOf_5 : decode prog_14_method_28_code 5 = .ok (.bipush 38, 2) := ge_bipush (by decide +kernel)
theorem d_X12_chewsOf_7 : decode prog_14_method_28_code 7 = .ok (.iload_n 1, 1) := ge_iload_n_1 (by decide +kernel)
theorem d_X12_chewsOf_8 : decode prog_14_method_28_code 8 = .ok (.iadd, 1) := ge_iadd (by decide +kernel)
theorem d_X12_chewsOf_9 : decode prog_14_method_28_code 9 = .ok (.iaload, 1) := ge_iaload (by decide +kernel)
theorem d_X12_chewsOf_10 : decode prog_14_method_28_code 10 = .ok (.iconst 2, 1) := ge_iconst_2 (by decide +kernel)
theorem d_X12_chewsOf_11 : decode prog_14_method_28_code 11 = .ok (.idiv, 1) := ge_idiv (by decide +kernel)
theorem d_X12_chewsOf_12 : decode prog_14_method_28_code 12 = .ok (.iadd, 1) := ge_iadd (by decide +kernel)
theorem d_X12_chewsOf_13 : decode prog_14_method_28_code 13 = .ok (.istore_n 2, 1) := ge_istore_n_2 (by decide +kernel)
theorem d_X12_chewsOf_14 : decode prog_14_method_28_code 14 = .ok (.aload_n 0, 1) := ge_aload_n_0 (by decide +kernel)
theorem d_X12_chewsOf_15 : decode prog_14_method_28_code 15 = .ok (.getfield 9, 3) := ge_getfield (by decide +kernel)
theorem d_X12_chewsOf_18 : decode prog_14_method_28_code 18 = .ok (.bipush 33, 2) := ge_bipush (by decide +kernel)
theorem d_X12_chewsOf_20 : decode prog_14_method_28_code 20 = .ok (.iload_n 1, 1) := ge_iload_n_1 (by decide +kernel)
theorem d_X12_chewsOf_21 : decode prog_14_method_28_code 21 = .ok (.iadd, 1) := ge_iadd (by decide +kernel)
theorem d_X12_chewsOf_22 : decode prog_14_method_28_code 22 = .ok (.iaload, 1) := ge_iaload (by decide +kernel)
theorem d_X12_chewsOf_23 : decode prog_14_method_28_code 23 = .ok (.tableswitch 99 1 6 #[37, 41, 45, 52, 65, 71], 37) := by decide +kernel
theorem d_X12_chewsOf_60 : decode prog_14_method_28_code 60 = .ok (.iconst 2, 1) := ge_iconst_2 (by decide +kernel)
theorem d_X12_chewsOf_61 : decode prog_14_method_28_code 61 = .ok (.iload_n 2, 1) := ge_iload_n_2 (by decide +kernel)
theorem d_X12_chewsOf_62 : decode prog_14_method_28_code 62 = .ok (.imul, 1) := ge_imul (by decide +kernel)
theorem d_X12_chewsOf_63 : decode prog_14_method_28_code 63 = .ok (.ireturn, 1) := ge_ireturn (by decide +kernel)
theorem d_X12_chewsOf_64 : decode prog_14_method_28_code 64 = .ok (.iload_n 2, 1) := ge_iload_n_2 (by decide +kernel)
theorem d_X12_chewsOf_65 : decode prog_14_method_28_code 65 = .ok (.iconst 2, 1) := ge_iconst_2 (by decide +kernel)
theorem d_X12_chewsOf_66 : decode prog_14_method_28_code 66 = .ok (.idiv, 1) := ge_idiv (by decide +kernel)
theorem d_X12_chewsOf_67 : decode prog_14_method_28_code 67 = .ok (.ireturn, 1) := ge_ireturn (by decide +kernel)
theorem d_X12_chewsOf_68 : decode prog_14_method_28_code 68 = .ok (.iload_n 2, 1) := ge_iload_n_2 (by decide +kernel)
theorem d_X12_chewsOf_69 : decode prog_14_method_28_code 69 = .ok (.iconst 2, 1) := ge_iconst_2 (by decide +kernel)
theorem d_X12_chewsOf_70 : decode prog_14_method_28_code 70 = .ok (.isub, 1) := ge_isub (by decide +kernel)
theorem d_X12_chewsOf_71 : decode prog_14_method_28_code 71 = .ok (.invokestatic 142, 3) := ge_invokestatic (by decide +kernel)
theorem d_X12_chewsOf_74 : decode prog_14_method_28_code 74 = .ok (.ireturn, 1) := ge_ireturn (by decide +kernel)
theorem d_X12_chewsOf_75 : decode prog_14_method_28_code 75 = .ok (.iconst 2, 1) := ge_iconst_2 (by decide +kernel)
theorem d_X12_chewsOf_76 : decode prog_14_method_28_code 76 = .ok (.iload_n 2, 1) := ge_iload_n_2 (by decide +kernel)
theorem d_X12_chewsOf_77 : decode prog_14_method_28_code 77 = .ok (.imul, 1) := ge_imul (by decide +kernel)
theorem d_X12_chewsOf_78 : decode prog_14_method_28_code 78 = .ok (.aload_n 0, 1) := ge_aload_n_0 (by decide +kernel)
theorem d_X12_chewsOf_79 : decode prog_14_method_28_code 79 = .ok (.getfield 9, 3) := ge_getfield (by decide +kernel)
theorem d_X12_chewsOf_82 : decode prog_14_method_28_code 82 = .ok (.iconst 1, 1) := ge_iconst_1 (by decide +kernel)
theorem d_X12_chewsOf_83 : decode prog_14_method_28_code 83 = .ok (.iload_n 1, 1) := ge_iload_n_1 (by decide +kernel)
theorem d_X12_chewsOf_84 : decode prog_14_method_28_code 84 = .ok (.iadd, 1) := ge_iadd (by decide +kernel)
theorem d_X12_chewsOf_85 : decode prog_14_method_28_code 85 = .ok (.iaload, 1) := ge_iaload (by decide +kernel)
theorem d_X12_chewsOf_86 : decode prog_14_method_28_code 86 = .ok (.iadd, 1) := ge_iadd (by decide +kernel)
theorem d_X12_chewsOf_87 : decode prog_14_method_28_code 87 = .ok (.ireturn, 1) := ge_ireturn (by decide +kernel)
theorem d_X12_chewsOf_88 : decode prog_14_method_28_code 88 = .ok (.iload_n 2, 1) := ge_iload_n_2 (by decide +kernel)
theorem d_X12_chewsOf_89 : decode prog_14_method_28_code 89 = .ok (.iconst 2, 1) := ge_iconst_2 (by decide +kernel)
theorem d_X12_chewsOf_90 : decode prog_14_method_28_code 90 = .ok (.idiv, 1) := ge_idiv (by decide +kernel)
theorem d_X12_chewsOf_91 : decode prog_14_method_28_code 91 = .ok (.iconst 1, 1) := ge_iconst_1 (by decide +kernel)
theorem d_X12_chewsOf_92 : decode prog_14_method_28_code 92 = .ok (.iadd, 1) := ge_iadd (by decide +kernel)
theorem d_X12_chewsOf_93 : decode prog_14_method_28_code 93 = .ok (.ireturn, 1) := ge_ireturn (by decide +kernel)
theorem d_X12_chewsOf_94 : decode prog_14_method_28_code 94 = .ok (.iload_n 2, 1) := ge_iload_n_2 (by decide +kernel)
theorem d_X12_chewsOf_95 : decode prog_14_method_28_code 95 = .ok (.iconst 2, 1) := ge_iconst_2 (by decide +kernel)
theorem d_X12_chewsOf_96 : decode prog_14_method_28_code 96 = .ok (.isub, 1) := ge_isub (by decide +kernel)
theorem d_X12_chewsOf_97 : decode prog_14_method_28_code 97 = .ok (.invokestatic 142, 3) := ge_invokestatic (by decide +kernel)
theorem d_X12_chewsOf_100 : decode prog_14_method_28_code 100 = .ok (.aload_n 0, 1) := ge_aload_n_0 (by decide +kernel)
theorem d_X12_chewsOf_101 : decode prog_14_method_28_code 101 = .ok (.getfield 9, 3) := ge_getfield (by decide +kernel)
theorem d_X12_chewsOf_104 : decode prog_14_method_28_code 104 = .ok (.bipush 43, 2) := ge_bipush (by decide +kernel)
theorem d_X12_chewsOf_106 : decode prog_14_method_28_code 106 = .ok (.iconst 4, 1) := ge_iconst_4 (by decide +kernel)
theorem d_X12_chewsOf_107 : decode prog_14_method_28_code 107 = .ok (.iload_n 1, 1) := ge_iload_n_1 (by decide +kernel)
theorem d_X12_chewsOf_108 : decode prog_14_method_28_code 108 = .ok (.imul, 1) := ge_imul (by decide +kernel)
theorem d_X12_chewsOf_109 : decode prog_14_method_28_code 109 = .ok (.iadd, 1) := ge_iadd (by decide +kernel)
theorem d_X12_chewsOf_110 : decode prog_14_method_28_code 110 = .ok (.aload_n 0, 1) := ge_aload_n_0 (by decide +kernel)
theorem d_X12_chewsOf_111 : decode prog_14_method_28_code 111 = .ok (.getfield 9, 3) := ge_getfield (by decide +kernel)
theorem d_X12_chewsOf_114 : decode prog_14_method_28_code 114 = .ok (.iconst 0, 1) := ge_iconst_0 (by decide +kernel)
theorem d_X12_chewsOf_115 : decode prog_14_method_28_code 115 = .ok (.iaload, 1) := ge_iaload (by decide +kernel)
theorem d_X12_chewsOf_116 : decode prog_14_method_28_code 116 = .ok (.iconst 4, 1) := ge_iconst_4 (by decide +kernel)
theorem d_X12_chewsOf_117 : decode prog_14_method_28_code 117 = .ok (.irem, 1) := ge_irem (by decide +kernel)
theorem d_X12_chewsOf_118 : decode prog_14_method_28_code 118 = .ok (.iadd, 1) := ge_iadd (by decide +kernel)
theorem d_X12_chewsOf_119 : decode prog_14_method_28_code 119 = .ok (.iaload, 1) := ge_iaload (by decide +kernel)
theorem d_X12_chewsOf_120 : decode prog_14_method_28_code 120 = .ok (.iadd, 1) := ge_iadd (by decide +kernel)
theorem d_X12_chewsOf_121 : decode prog_14_method_28_code 121 = .ok (.ireturn, 1) := ge_ireturn (by decide +kernel)
theorem d_X12_chewsOf_122 : decode prog_14_method_28_code 122 = .ok (.iload_n 2, 1) := ge_iload_n_2 (by decide +kernel)
theorem d_X12_chewsOf_123 : decode prog_14_method_28_code 123 = .ok (.ireturn, 1) := ge_ireturn (by decide +kernel)
def f_X12_chewsOf (a0 : Nat) (a1 : Int32) (μ : gm_M) : Option (Option Value × gm_M) := gm_gR μ [17] a0 1 (fun v1 => gm_aI μ v1 ((38 : Int32) + a1) (fun v2 => if (2 : Int32) = 0 then none else gm_gR μ [17] a0 1 (fun v3 => gm_aI μ v3 ((33 : Int32) + a1) (fun v4 => if v4 = 1 then some (some (.int ((2 : Int32) * ((3 : Int32) + (v2 / (2 : Int32))))), μ) else if v4 = 2 then if (2 : Int32) = 0 then none else some (some (.int (((3 : Int32) + (v2 / (2 : Int32))) / (2 : Int32))), μ) else if v4 = 3 then gm_bI (f_X12_above (((3 : Int32) + (v2 / (2 : Int32))) - (2 : Int32)) μ) (fun x6 m5 => some (some (.int x6), m5)) else if v4 = 4 then gm_gR μ [17] a0 1 (fun v7 => gm_aI μ v7 ((1 : Int32) + a1) (fun v8 => some (some (.int (((2 : Int32) * ((3 : Int32) + (v2 / (2 : Int32)))) + v8)), μ))) else if v4 = 5 then if (2 : Int32) = 0 then none else some (some (.int ((((3 : Int32) + (v2 / (2 : Int32))) / (2 : Int32)) + (1 : Int32))), μ) else if v4 = 6 then gm_bI (f_X12_above (((3 : Int32) + (v2 / (2 : Int32))) - (2 : Int32)) μ) (fun x10 m9 => gm_gR m9 [17] a0 1 (fun v11 => gm_gR m9 [17] a0 1 (fun v12 => gm_aI m9 v12 (0 : Int32) (fun v13 => if (4 : Int32) = 0 then none else gm_aI m9 v11 (((43 : Int32) + ((4 : Int32) * a1)) + (v13 - v13 / (4 : Int32) * (4 : Int32))) (fun v14 => some (some (.int (x10 + v14)), m9)))))) else some (some (.int ((3 : Int32) + (v2 / (2 : Int32)))), μ)))))
set_option maxHeartbeats 4000000 in
theorem c_X12_chewsOf (a0 : Nat) (a1 : Int32) (μ : gm_M) : gm_Call ({ cls := "GumBubbleModel", name := "chewsOf", desc := "(I)I" } : Jvm.MethodName) prog_14_method_28_code 3 (some .int) 1 0 0 [.ref a0, .int a1] μ (f_X12_chewsOf a0 a1 μ) := by
  refine gm_start PN_12 (Nat.le_of_ble_eq_true rfl) (fun res μe => ?_)
  unfold f_X12_chewsOf
  show gm_A "GumBubbleModel" (gm_nm "chewsOf") _ _ _ _ _ _ _ _ _ 0 [(0, .ref a0), (1, .int a1)] [] _ _
  refine gm_iconst (v := 3) d_X12_chewsOf_0 (by decide) ?_
  refine gm_aload_n d_X12_chewsOf_1 rfl 0 rfl ?_
  refine gm_getR F_12_s gw_890 d_X12_chewsOf_2 (fun v1 _ => ?_)
  refine gm_bipush (v := 38) d_X12_chewsOf_5 (by decide) ?_
  refine gm_iload_n d_X12_chewsOf_7 rfl 1 rfl ?_
  refine gm_iadd d_X12_chewsOf_8 ?_
  refine gm_iald d_X12_chewsOf_9 (fun v2 _ => ?_)
  refine gm_iconst (v := 2) d_X12_chewsOf_10 (by decide) ?_
  refine gm_idiv d_X12_chewsOf_11 ?_
  refine gm_iadd d_X12_chewsOf_12 ?_
  refine gm_istore_n (L' := [(2, .int ((3 : Int32) + (v2 / (2 : Int32)))), (0, .ref a0), (1, .int a1)]) d_X12_chewsOf_13 rfl (Nat.le_of_ble_eq_true rfl) rfl ?_
  refine gm_aload_n d_X12_chewsOf_14 rfl 1 rfl ?_
  refine gm_getR F_12_s gw_890 d_X12_chewsOf_15 (fun v3 _ => ?_)
  refine gm_bipush (v := 33) d_X12_chewsOf_18 (by decide) ?_
  refine gm_iload_n d_X12_chewsOf_20 rfl 2 rfl ?_
  refine gm_iadd d_X12_chewsOf_21 ?_
  refine gm_iald d_X12_chewsOf_22 (fun v4 _ => ?_)
  refine gm_ite (P := v4 = 1) (fun h23_1 => ?_) (fun h23_1 => ?_)
  ·
    refine gm_swIn (v := 1) (off := 37) (tgt := 60) d_X12_chewsOf_23 (by rw [h23_1] <;> rfl) (by decide) (by decide) (by decide) (by decide) ?_
    refine gm_iconst (v := 2) d_X12_chewsOf_60 (by decide) ?_
    refine gm_iload_n d_X12_chewsOf_61 rfl 0 rfl ?_
    refine gm_imul d_X12_chewsOf_62 ?_
    exact gm_iret rfl d_X12_chewsOf_63 (Nat.le_of_ble_eq_true rfl) (Nat.le_of_ble_eq_true rfl) (fun h => h)
  ·
    refine gm_ite (P := v4 = 2) (fun h23_2 => ?_) (fun h23_2 => ?_)
    ·
      refine gm_swIn (v := 2) (off := 41) (tgt := 64) d_X12_chewsOf_23 (by rw [h23_2] <;> rfl) (by decide) (by decide) (by decide) (by decide) ?_
      refine gm_iload_n d_X12_chewsOf_64 rfl 0 rfl ?_
      refine gm_iconst (v := 2) d_X12_chewsOf_65 (by decide) ?_
      refine gm_idiv d_X12_chewsOf_66 ?_
      exact gm_iret rfl d_X12_chewsOf_67 (Nat.le_of_ble_eq_true rfl) (Nat.le_of_ble_eq_true rfl) (fun h => h)
    ·
      refine gm_ite (P := v4 = 3) (fun h23_3 => ?_) (fun h23_3 => ?_)
      ·
        refine gm_swIn (v := 3) (off := 45) (tgt := 68) d_X12_chewsOf_23 (by rw [h23_3] <;> rfl) (by decide) (by decide) (by decide) (by decide) ?_
        refine gm_iload_n d_X12_chewsOf_68 rfl 0 rfl ?_
        refine gm_iconst (v := 2) d_X12_chewsOf_69 (by decide) ?_
        refine gm_isub d_X12_chewsOf_70 ?_
        refine gm_callS [.int (((3 : Int32) + (v2 / (2 : Int32))) - (2 : Int32))] (c_X12_above (((3 : Int32) + (v2 / (2 : Int32))) - (2 : Int32)) μ) B_X12_above gw_1067 rfl rfl rfl d_X12_chewsOf_71 (gm_kI (fun x6 m5 => ?_))
        exact gm_iret rfl d_X12_chewsOf_74 (Nat.le_of_ble_eq_true rfl) (Nat.le_of_ble_eq_true rfl) (fun h => h)
      ·
        refine gm_ite (P := v4 = 4) (fun h23_4 => ?_) (fun h23_4 => ?_)
        ·
          refine gm_swIn (v := 4) (off := 52) (tgt := 75) d_X12_chewsOf_23 (by rw [h23_4] <;> rfl) (by decide) (by decide) (by decide) (by decide) ?_
          refine gm_iconst (v := 2) d_X12_chewsOf_75 (by decide) ?_
          refine gm_iload_n d_X12_chewsOf_76 rfl 0 rfl ?_
          refine gm_imul d_X12_chewsOf_77 ?_
          refine gm_aload_n d_X12_chewsOf_78 rfl 1 rfl ?_
          refine gm_getR F_12_s gw_890 d_X12_chewsOf_79 (fun v7 _ => ?_)
          refine gm_iconst (v := 1) d_X12_chewsOf_82 (by decide) ?_
          refine gm_iload_n d_X12_chewsOf_83 rfl 2 rfl ?_
          refine gm_iadd d_X12_chewsOf_84 ?_
          refine gm_iald d_X12_chewsOf_85 (fun v8 _ => ?_)
          refine gm_iadd d_X12_chewsOf_86 ?_
          exact gm_iret rfl d_X12_chewsOf_87 (Nat.le_of_ble_eq_true rfl) (Nat.le_of_ble_eq_true rfl) (fun h => h)
        ·
          refine gm_ite (P := v4 = 5) (fun h23_5 => ?_) (fun h23_5 => ?_)
          ·
            refine gm_swIn (v := 5) (off := 65) (tgt := 88) d_X12_chewsOf_23 (by rw [h23_5] <;> rfl) (by decide) (by decide) (by decide) (by decide) ?_
            refine gm_iload_n d_X12_chewsOf_88 rfl 0 rfl ?_
            refine gm_iconst (v := 2) d_X12_chewsOf_89 (by decide) ?_
            refine gm_idiv d_X12_chewsOf_90 ?_
            refine gm_iconst (v := 1) d_X12_chewsOf_91 (by decide) ?_
            refine gm_iadd d_X12_chewsOf_92 ?_
            exact gm_iret rfl d_X12_chewsOf_93 (Nat.le_of_ble_eq_true rfl) (Nat.le_of_ble_eq_true rfl) (fun h => h)
          ·
            refine gm_ite (P := v4 = 6) (fun h23_6 => ?_) (fun h23_6 => ?_)
            ·
              refine gm_swIn (v := 6) (off := 71) (tgt := 94) d_X12_chewsOf_23 (by rw [h23_6] <;> rfl) (by decide) (by decide) (by decide) (by decide) ?_
              refine gm_iload_n d_X12_chewsOf_94 rfl 0 rfl ?_
              refine gm_iconst (v := 2) d_X12_chewsOf_95 (by decide) ?_
              refine gm_isub d_X12_chewsOf_96 ?_
              refine gm_callS [.int (((3 : Int32) + (v2 / (2 : Int32))) - (2 : Int32))] (c_X12_above (((3 : Int32) + (v2 / (2 : Int32))) - (2 : Int32)) μ) B_X12_above gw_1067 rfl rfl rfl d_X12_chewsOf_97 (gm_kI (fun x10 m9 => ?_))
              refine gm_aload_n d_X12_chewsOf_100 rfl 1 rfl ?_
              refine gm_getR F_12_s gw_890 d_X12_chewsOf_101 (fun v11 _ => ?_)
              refine gm_bipush (v := 43) d_X12_chewsOf_104 (by decide) ?_
              refine gm_iconst (v := 4) d_X12_chewsOf_106 (by decide) ?_
              refine gm_iload_n d_X12_chewsOf_107 rfl 2 rfl ?_
              refine gm_imul d_X12_chewsOf_108 ?_
              refine gm_iadd d_X12_chewsOf_109 ?_
              refine gm_aload_n d_X12_chewsOf_110 rfl 1 rfl ?_
              refine gm_getR F_12_s gw_890 d_X12_chewsOf_111 (fun v12 _ => ?_)
              refine gm_iconst (v := 0) d_X12_chewsOf_114 (by decide) ?_
              refine gm_iald d_X12_chewsOf_115 (fun v13 _ => ?_)
              refine gm_iconst (v := 4) d_X12_chewsOf_116 (by decide) ?_
              refine gm_irem d_X12_chewsOf_117 ?_
              refine gm_iadd d_X12_chewsOf_118 ?_
              refine gm_iald d_X12_chewsOf_119 (fun v14 _ => ?_)
              refine gm_iadd d_X12_chewsOf_120 ?_
              exact gm_iret rfl d_X12_chewsOf_121 (Nat.le_of_ble_eq_true rfl) (Nat.le_of_ble_eq_true rfl) (fun h => h)
            ·
              refine gm_swOut (tgt := 122) d_X12_chewsOf_23 (by have g1 := lv_neT h23_1 (show (1 : Int32).toInt = 1 from rfl); have g2 := lv_neT h23_2 (show (2 : Int32).toInt = 2 from rfl); have g3 := lv_neT h23_3 (show (3 : Int32).toInt = 3 from rfl); have g4 := lv_neT h23_4 (show (4 : Int32).toInt = 4 from rfl); have g5 := lv_neT h23_5 (show (5 : Int32).toInt = 5 from rfl); have g6 := lv_neT h23_6 (show (6 : Int32).toInt = 6 from rfl); omega) (by decide) ?_
              refine gm_iload_n d_X12_chewsOf_122 rfl 0 rfl ?_
              exact gm_iret rfl d_X12_chewsOf_123 (Nat.le_of_ble_eq_true rfl) (Nat.le_of_ble_eq_true rfl) (fun h => h)
theorem d_X12_tiresOf_0 : decode prog_14_method_29_code 0 = .ok (.aload_n 0, 1) := ge_aload_n_0 (by decide +kernel)
theorem d_X12_tiresOf_1 : decode prog_14_method_29_code 1 = .ok (.getfield 9, 3) := ge_getfield (by decide +kernel)
theorem d_X12_tiresOf_4 : decode prog_14_method_29_code 4 = .ok (.iconst 1, 1) := ge_iconst_1 (by decide +kernel)
theorem d_X12_tiresOf_5 : decode prog_14_method_29_code 5 = .ok (.iload_n 1, 1) := ge_iload_n_1 (by decide +kernel)
theorem d_X12_tiresOf_6 : decode prog_14_method_29_code 6 = .ok (.iadd, 1) := ge_iadd (by decide +kernel)
theorem d_X12_tiresOf_7 : decode prog_14_method_29_code 7 = .ok (.iaload, 1) := ge_iaload (by decide +kernel)
theorem d_X12_tiresOf_8 : decode prog_14_method_29_code 8 = .ok (.istore_n 2, 1) := ge_istore_n_2 (by decide +kernel)
theorem d_X12_tiresOf_9 : decode prog_14_method_29_code 9 = .ok (.aload_n 0, 1) := ge_aload_n_0 (by decide +kernel)
theorem d_X12_tiresOf_10 : decode prog_14_method_29_code 10 = .ok (.getfield 9, 3) := ge_getfield (by decide +kernel)
theorem d_X12_tiresOf_13 : decode prog_14_method_29_code 13 = .ok (.bipush 33, 2) := ge_bipush (by decide +kernel)
theorem d_X12_tiresOf_15 : decode prog_14_method_29_code 15 = .ok (.iload_n 1, 1) := ge_iload_n_1 (by decide +kernel)
theorem d_X12_tiresOf_16 : decode prog_14_method_29_code 16 = .ok (.iadd, 1) := ge_iadd (by decide +kernel)
theorem d_X12_tiresOf_17 : decode prog_14_method_29_code 17 = .ok (.iaload, 1) := ge_iaload (by decide +kernel)
theorem d_X12_tiresOf_18 : decode prog_14_method_29_code 18 = .ok (.tableswitch 50 1 6 #[38, 50, 42, 38, 46, 42], 38) := by decide +kernel
theorem d_X12_tiresOf_56 : decode prog_14_method_29_code 56 = .ok (.iload_n 2, 1) := ge_iload_n_2 (by decide +kernel)
theorem d_X12_tiresOf_57 : decode prog_14_method_29_code 57 = .ok (.iconst 1, 1) := ge_iconst_1 (by decide +kernel)
theorem d_X12_tiresOf_58 : decode prog_14_method_29_code 58 = .ok (.iadd, 1) := ge_iadd (by decide +kernel)
theorem d_X12_tiresOf_59 : decode prog_14_method_29_code 59 = .ok (.ireturn, 1) := ge_ireturn (by decide +kernel)
theorem d_X12_tiresOf_60 : decode prog_14_method_29_code 60 = .ok (.iconst 2, 1) := ge_iconst_2 (by decide +kernel)
theorem d_X12_tiresOf_61 : decode prog_14_method_29_code 61 = .ok (.iload_n 2, 1) := ge_iload_n_2 (by decide +kernel)
theorem d_X12_tiresOf_62 : decode prog_14_method_29_code 62 = .ok (.imul, 1) := ge_imul (by decide +kernel)
theorem d_X12_tiresOf_63 : decode prog_14_method_29_code 63 = .ok (.ireturn, 1) := ge_ireturn (by decide +kernel)
theorem d_X12_tiresOf_64 : decode prog_14_method_29_code 64 = .ok (.iload_n 2, 1) := ge_iload_n_2 (by decide +kernel)
theorem d_X12_tiresOf_65 : decode prog_14_method_29_code 65 = .ok (.iconst 2, 1) := ge_iconst_2 (by decide +kernel)
theorem d_X12_tiresOf_66 : decode prog_14_method_29_code 66 = .ok (.idiv, 1) := ge_idiv (by decide +kernel)
theorem d_X12_tiresOf_67 : decode prog_14_method_29_code 67 = .ok (.ireturn, 1) := ge_ireturn (by decide +kernel)
theorem d_X12_tiresOf_68 : decode prog_14_method_29_code 68 = .ok (.iload_n 2, 1) := ge_iload_n_2 (by decide +kernel)
theorem d_X12_tiresOf_69 : decode prog_14_method_29_code 69 = .ok (.ireturn, 1) := ge_ireturn (by decide +kernel)
def f_X12_tiresOf (a0 : Nat) (a1 : Int32) (μ : gm_M) : Option (Option Value × gm_M) := gm_gR μ [17] a0 1 (fun v1 => gm_aI μ v1 ((1 : Int32) + a1) (fun v2 => gm_gR μ [17] a0 1 (fun v3 => gm_aI μ v3 ((33 : Int32) + a1) (fun v4 => if v4 = 1 then some (some (.int (v2 + (1 : Int32))), μ) else if v4 = 3 then some (some (.int ((2 : Int32) * v2)), μ) else if v4 = 4 then some (some (.int (v2 + (1 : Int32))), μ) else if v4 = 5 then if (2 : Int32) = 0 then none else some (some (.int (v2 / (2 : Int32))), μ) else if v4 = 6 then some (some (.int ((2 : Int32) * v2)), μ) else some (some (.int v2), μ)))))
set_option maxHeartbeats 4000000 in
theorem c_X12_tiresOf (a0 : Nat) (a1 : Int32) (μ : gm_M) : gm_Call ({ cls := "GumBubbleModel", name := "tiresOf", desc := "(I)I" } : Jvm.MethodName) prog_14_method_29_code 3 (some .int) 0 0 0 [.ref a0, .int a1] μ (f_X12_tiresOf a0 a1 μ) := by
  refine gm_start PN_12 (Nat.le_of_ble_eq_true rfl) (fun res μe => ?_)
  unfold f_X12_tiresOf
  show gm_A "GumBubbleModel" (gm_nm "tiresOf") _ _ _ _ _ _ _ _ _ 0 [(0, .ref a0), (1, .int a1)] [] _ _
  refine gm_aload_n d_X12_tiresOf_0 rfl 0 rfl ?_
  refine gm_getR F_12_s gw_890 d_X12_tiresOf_1 (fun v1 _ => ?_)
  refine gm_iconst (v := 1) d_X12_tiresOf_4 (by decide) ?_
  refine gm_iload_n d_X12_tiresOf_5 rfl 1 rfl ?_
  refine gm_iadd d_X12_tiresOf_6 ?_
  refine gm_iald d_X12_tiresOf_7 (fun v2 _ => ?_)
  refine gm_istore_n (L' := [(2, .int v2), (0, .ref a0), (1, .int a1)]) d_X12_tiresOf_8 rfl (Nat.le_of_ble_eq_true rfl) rfl ?_
  refine gm_aload_n d_X12_tiresOf_9 rfl 1 rfl ?_
  refine gm_getR F_12_s gw_890 d_X12_tiresOf_10 (fun v3 _ => ?_)
  refine gm_bipush (v := 33) d_X12_tiresOf_13 (by decide) ?_
  refine gm_iload_n d_X12_tiresOf_15 rfl 2 rfl ?_
  refine gm_iadd d_X12_tiresOf_16 ?_
  refine gm_iald d_X12_tiresOf_17 (fun v4 _ => ?_)
  refine gm_ite (P := v4 = 1) (fun h18_1 => ?_) (fun h18_1 => ?_)
  ·
    refine gm_swIn (v := 1) (off := 38) (tgt := 56) d_X12_tiresOf_18 (by rw [h18_1] <;> rfl) (by decide) (by decide) (by decide) (by decide) ?_
    refine gm_iload_n d_X12_tiresOf_56 rfl 0 rfl ?_
    refine gm_iconst (v := 1) d_X12_tiresOf_57 (by decide) ?_
    refine gm_iadd d_X12_tiresOf_58 ?_
    exact gm_iret rfl d_X12_tiresOf_59 (Nat.le_of_ble_eq_true rfl) (Nat.le_of_ble_eq_true rfl) (fun h => h)
  ·
    refine gm_ite (P := v4 = 3) (fun h18_3 => ?_) (fun h18_3 => ?_)
    ·
      refine gm_swIn (v := 3) (off := 42) (tgt := 60) d_X12_tiresOf_18 (by rw [h18_3] <;> rfl) (by decide) (by decide) (by decide) (by decide) ?_
      refine gm_iconst (v := 2) d_X12_tiresOf_60 (by decide) ?_
      refine gm_iload_n d_X12_tiresOf_61 rfl 0 rfl ?_
      refine gm_imul d_X12_tiresOf_62 ?_
      exact gm_iret rfl d_X12_tiresOf_63 (Nat.le_of_ble_eq_true rfl) (Nat.le_of_ble_eq_true rfl) (fun h => h)
    ·
      refine gm_ite (P := v4 = 4) (fun h18_4 => ?_) (fun h18_4 => ?_)
      ·
        refine gm_swIn (v := 4) (off := 38) (tgt := 56) d_X12_tiresOf_18 (by rw [h18_4] <;> rfl) (by decide) (by decide) (by decide) (by decide) ?_
        refine gm_iload_n d_X12_tiresOf_56 rfl 0 rfl ?_
        refine gm_iconst (v := 1) d_X12_tiresOf_57 (by decide) ?_
        refine gm_iadd d_X12_tiresOf_58 ?_
        exact gm_iret rfl d_X12_tiresOf_59 (Nat.le_of_ble_eq_true rfl) (Nat.le_of_ble_eq_true rfl) (fun h => h)
      ·
        refine gm_ite (P := v4 = 5) (fun h18_5 => ?_) (fun h18_5 => ?_)
        ·
          refine gm_swIn (v := 5) (off := 46) (tgt := 64) d_X12_tiresOf_18 (by rw [h18_5] <;> rfl) (by decide) (by decide) (by decide) (by decide) ?_
          refine gm_iload_n d_X12_tiresOf_64 rfl 0 rfl ?_
          refine gm_iconst (v := 2) d_X12_tiresOf_65 (by decide) ?_
          refine gm_idiv d_X12_tiresOf_66 ?_
          exact gm_iret rfl d_X12_tiresOf_67 (Nat.le_of_ble_eq_true rfl) (Nat.le_of_ble_eq_true rfl) (fun h => h)
        ·
          refine gm_ite (P := v4 = 6) (fun h18_6 => ?_) (fun h18_6 => ?_)
          ·
            refine gm_swIn (v := 6) (off := 42) (tgt := 60) d_X12_tiresOf_18 (by rw [h18_6] <;> rfl) (by decide) (by decide) (by decide) (by decide) ?_
            refine gm_iconst (v := 2) d_X12_tiresOf_60 (by decide) ?_
            refine gm_iload_n d_X12_tiresOf_61 rfl 0 rfl ?_
            refine gm_imul d_X12_tiresOf_62 ?_
            exact gm_iret rfl d_X12_tiresOf_63 (Nat.le_of_ble_eq_true rfl) (Nat.le_of_ble_eq_true rfl) (fun h => h)
          ·
            by_cases h18_2 : v4 = 2
            ·
              refine gm_swIn (v := 2) (off := 50) (tgt := 68) d_X12_tiresOf_18 (by rw [h18_2] <;> rfl) (by decide) (by decide) (by decide) (by decide) ?_
              refine gm_iload_n d_X12_tiresOf_68 rfl 0 rfl ?_
              exact gm_iret rfl d_X12_tiresOf_69 (Nat.le_of_ble_eq_true rfl) (Nat.le_of_ble_eq_true rfl) (fun h => h)
            ·
              refine gm_swOut (tgt := 68) d_X12_tiresOf_18 (by have g1 := lv_neT h18_1 (show (1 : Int32).toInt = 1 from rfl); have g3 := lv_neT h18_3 (show (3 : Int32).toInt = 3 from rfl); have g4 := lv_neT h18_4 (show (4 : Int32).toInt = 4 from rfl); have g5 := lv_neT h18_5 (show (5 : Int32).toInt = 5 from rfl); have g6 := lv_neT h18_6 (show (6 : Int32).toInt = 6 from rfl); have g2 := lv_neT h18_2 (show (2 : Int32).toInt = 2 from rfl); omega) (by decide) ?_
              refine gm_iload_n d_X12_tiresOf_68 rfl 0 rfl ?_
              exact gm_iret rfl d_X12_tiresOf_69 (Nat.le_of_ble_eq_true rfl) (Nat.le_of_ble_eq_true rfl) (fun h => h)
theorem d_X12_goesFor_0 : decode prog_14_method_40_code 0 = .ok (.aload_n 0, 1) := ge_aload_n_0 (by decide +kernel)
theorem d_X12_goesFor_1 : decode prog_14_method_40_code 1 = .ok (.getfield 9, 3) := ge_getfield (by decide +kernel)
theorem d_X12_goesFor_4 : decode prog_14_method_40_code 4 = .ok (.bipush 16, 2) := ge_bipush (by decide +kernel)
theorem d_X12_goesFor_6 : decode prog_14_method_40_code 6 = .ok (.iload_n 1, 1) := ge_iload_n_1 (by decide +kernel)
theorem d_X12_goesFor_7 : decode prog_14_method_40_code 7 = .ok (.iadd, 1) := ge_iadd (by decide +kernel)
theorem d_X12_goesFor_8 : decode prog_14_method_40_code 8 = .ok (.iaload, 1) := ge_iaload (by decide +kernel)
theorem d_X12_goesFor_9 : decode prog_14_method_40_code 9 = .ok (.ifCond .le 39, 3) := ge_ifCond_le (by decide +kernel)
theorem d_X12_goesFor_12 : decode prog_14_method_40_code 12 = .ok (.aload_n 0, 1) := ge_aload_n_0 (by decide +kernel)
theorem d_X12_goesFor_13 : decode prog_14_method_40_code 13 = .ok (.getfield 9, 3) := ge_getfield (by decide +kernel)
theorem d_X12_goesFor_16 : decode prog_14_method_40_code 16 = .ok (.bipush 16, 2) := ge_bipush (by decide +kernel)
theorem d_X12_goesFor_18 : decode prog_14_method_40_code 18 = .ok (.iload_n 1, 1) := ge_iload_n_1 (by decide +kernel)
theorem d_X12_goesFor_19 : decode prog_14_method_40_code 19 = .ok (.iadd, 1) := ge_iadd (by decide +kernel)
theorem d_X12_goesFor_20 : decode prog_14_method_40_code 20 = .ok (.aload_n 0, 1) := ge_aload_n_0 (by decide +kernel)
theorem d_X12_goesFor_21 : decode prog_14_method_40_code 21 = .ok (.getfield 9, 3) := ge_getfield (by decide +kernel)
theorem d_X12_goesFor_24 : decode prog_14_method_40_code 24 = .ok (.bipush 16, 2) := ge_bipush (by decide +kernel)
theorem d_X12_goesFor_26 : decode prog_14_method_40_code 26 = .ok (.iload_n 1, 1) := ge_iload_n_1 (by decide +kernel)
theorem d_X12_goesFor_27 : decode prog_14_method_40_code 27 = .ok (.iadd, 1) := ge_iadd (by decide +kernel)
theorem d_X12_goesFor_28 : decode prog_14_method_40_code 28 = .ok (.iaload, 1) := ge_iaload (by decide +kernel)
theorem d_X12_goesFor_29 : decode prog_14_method_40_code 29 = .ok (.aload_n 0, 1) := ge_aload_n_0 (by decide +kernel)
theorem d_X12_goesFor_30 : decode prog_14_method_40_code 30 = .ok (.getfield 9, 3) := ge_getfield (by decide +kernel)
theorem d_X12_goesFor_33 : decode prog_14_method_40_code 33 = .ok (.bipush 38, 2) := ge_bipush (by decide +kernel)
theorem d_X12_goesFor_35 : decode prog_14_method_40_code 35 = .ok (.iload_n 1, 1) := ge_iload_n_1 (by decide +kernel)
theorem d_X12_goesFor_36 : decode prog_14_method_40_code 36 = .ok (.iadd, 1) := ge_iadd (by decide +kernel)
theorem d_X12_goesFor_37 : decode prog_14_method_40_code 37 = .ok (.iaload, 1) := ge_iaload (by decide +kernel)
theorem d_X12_goesFor_38 : decode prog_14_method_40_code 38 = .ok (.isub, 1) := ge_isub (by decide +kernel)
theorem d_X12_goesFor_39 : decode prog_14_method_40_code 39 = .ok (.iconst 1, 1) := ge_iconst_1 (by decide +kernel)
theorem d_X12_goesFor_40 : decode prog_14_method_40_code 40 = .ok (.isub, 1) := ge_isub (by decide +kernel)
theorem d_X12_goesFor_41 : decode prog_14_method_40_code 41 = .ok (.invokestatic 142, 3) := ge_invokestatic (by decide +kernel)
theorem d_X12_goesFor_44 : decode prog_14_method_40_code 44 = .ok (.iastore, 1) := ge_iastore (by decide +kernel)
theorem d_X12_goesFor_45 : decode prog_14_method_40_code 45 = .ok (.goto 99, 3) := ge_goto (by decide +kernel)
theorem d_X12_goesFor_48 : decode prog_14_method_40_code 48 = .ok (.aload_n 0, 1) := ge_aload_n_0 (by decide +kernel)
theorem d_X12_goesFor_49 : decode prog_14_method_40_code 49 = .ok (.getfield 9, 3) := ge_getfield (by decide +kernel)
theorem d_X12_goesFor_52 : decode prog_14_method_40_code 52 = .ok (.iconst 1, 1) := ge_iconst_1 (by decide +kernel)
theorem d_X12_goesFor_53 : decode prog_14_method_40_code 53 = .ok (.iload_n 1, 1) := ge_iload_n_1 (by decide +kernel)
theorem d_X12_goesFor_54 : decode prog_14_method_40_code 54 = .ok (.iadd, 1) := ge_iadd (by decide +kernel)
theorem d_X12_goesFor_55 : decode prog_14_method_40_code 55 = .ok (.iaload, 1) := ge_iaload (by decide +kernel)
theorem d_X12_goesFor_56 : decode prog_14_method_40_code 56 = .ok (.ifCond .le 65, 3) := ge_ifCond_le (by decide +kernel)
theorem d_X12_goesFor_59 : decode prog_14_method_40_code 59 = .ok (.aload_n 0, 1) := ge_aload_n_0 (by decide +kernel)
theorem d_X12_goesFor_60 : decode prog_14_method_40_code 60 = .ok (.iload_n 1, 1) := ge_iload_n_1 (by decide +kernel)
theorem d_X12_goesFor_61 : decode prog_14_method_40_code 61 = .ok (.invokevirtual 158, 3) := ge_invokevirtual (by decide +kernel)
theorem d_X12_goesFor_64 : decode prog_14_method_40_code 64 = .ok (.istore_n 2, 1) := ge_istore_n_2 (by decide +kernel)
theorem d_X12_goesFor_65 : decode prog_14_method_40_code 65 = .ok (.aload_n 0, 1) := ge_aload_n_0 (by decide +kernel)
theorem d_X12_goesFor_66 : decode prog_14_method_40_code 66 = .ok (.getfield 9, 3) := ge_getfield (by decide +kernel)
theorem d_X12_goesFor_69 : decode prog_14_method_40_code 69 = .ok (.bipush 11, 2) := ge_bipush (by decide +kernel)
theorem d_X12_goesFor_71 : decode prog_14_method_40_code 71 = .ok (.iload_n 1, 1) := ge_iload_n_1 (by decide +kernel)
theorem d_X12_goesFor_72 : decode prog_14_method_40_code 72 = .ok (.iadd, 1) := ge_iadd (by decide +kernel)
theorem d_X12_goesFor_73 : decode prog_14_method_40_code 73 = .ok (.aload_n 0, 1) := ge_aload_n_0 (by decide +kernel)
theorem d_X12_goesFor_74 : decode prog_14_method_40_code 74 = .ok (.getfield 9, 3) := ge_getfield (by decide +kernel)
theorem d_X12_goesFor_77 : decode prog_14_method_40_code 77 = .ok (.bipush 11, 2) := ge_bipush (by decide +kernel)
theorem d_X12_goesFor_79 : decode prog_14_method_40_code 79 = .ok (.iload_n 1, 1) := ge_iload_n_1 (by decide +kernel)
theorem d_X12_goesFor_80 : decode prog_14_method_40_code 80 = .ok (.iadd, 1) := ge_iadd (by decide +kernel)
theorem d_X12_goesFor_81 : decode prog_14_method_40_code 81 = .ok (.iaload, 1) := ge_iaload (by decide +kernel)
theorem d_X12_goesFor_82 : decode prog_14_method_40_code 82 = .ok (.aload_n 0, 1) := ge_aload_n_0 (by decide +kernel)
theorem d_X12_goesFor_83 : decode prog_14_method_40_code 83 = .ok (.iload_n 1, 1) := ge_iload_n_1 (by decide +kernel)
theorem d_X12_goesFor_84 : decode prog_14_method_40_code 84 = .ok (.invokevirtual 161, 3) := ge_invokevirtual (by decide +kernel)
theorem d_X12_goesFor_87 : decode prog_14_method_40_code 87 = .ok (.iadd, 1) := ge_iadd (by decide +kernel)
theorem d_X12_goesFor_88 : decode prog_14_method_40_code 88 = .ok (.iconst 0, 1) := ge_iconst_0 (by decide +kernel)
theorem d_X12_goesFor_89 : decode prog_14_method_40_code 89 = .ok (.bipush 99, 2) := ge_bipush (by decide +kernel)
theorem d_X12_goesFor_91 : decode prog_14_method_40_code 91 = .ok (.invokestatic 138, 3) := ge_invokestatic (by decide +kernel)
theorem d_X12_goesFor_94 : decode prog_14_method_40_code 94 = .ok (.iastore, 1) := ge_iastore (by decide +kernel)
theorem d_X12_goesFor_95 : decode prog_14_method_40_code 95 = .ok (.aload_n 0, 1) := ge_aload_n_0 (by decide +kernel)
theorem d_X12_goesFor_96 : decode prog_14_method_40_code 96 = .ok (.getfield 9, 3) := ge_getfield (by decide +kernel)
theorem d_X12_goesFor_99 : decode prog_14_method_40_code 99 = .ok (.bipush 6, 2) := ge_bipush (by decide +kernel)
theorem d_X12_goesFor_101 : decode prog_14_method_40_code 101 = .ok (.iload_n 1, 1) := ge_iload_n_1 (by decide +kernel)
theorem d_X12_goesFor_102 : decode prog_14_method_40_code 102 = .ok (.iadd, 1) := ge_iadd (by decide +kernel)
theorem d_X12_goesFor_103 : decode prog_14_method_40_code 103 = .ok (.aload_n 0, 1) := ge_aload_n_0 (by decide +kernel)
theorem d_X12_goesFor_104 : decode prog_14_method_40_code 104 = .ok (.getfield 9, 3) := ge_getfield (by decide +kernel)
theorem d_X12_goesFor_107 : decode prog_14_method_40_code 107 = .ok (.bipush 6, 2) := ge_bipush (by decide +kernel)
theorem d_X12_goesFor_109 : decode prog_14_method_40_code 109 = .ok (.iload_n 1, 1) := ge_iload_n_1 (by decide +kernel)
theorem d_X12_goesFor_110 : decode prog_14_method_40_code 110 = .ok (.iadd, 1) := ge_iadd (by decide +kernel)
theorem d_X12_goesFor_111 : decode prog_14_method_40_code 111 = .ok (.iaload, 1) := ge_iaload (by decide +kernel)
theorem d_X12_goesFor_112 : decode prog_14_method_40_code 112 = .ok (.iload_n 2, 1) := ge_iload_n_2 (by decide +kernel)
theorem d_X12_goesFor_113 : decode prog_14_method_40_code 113 = .ok (.isub, 1) := ge_isub (by decide +kernel)
theorem d_X12_goesFor_114 : decode prog_14_method_40_code 114 = .ok (.invokestatic 142, 3) := ge_invokestatic (by decide +kernel)
theorem d_X12_goesFor_117 : decode prog_14_method_40_code 117 = .ok (.iastore, 1) := ge_iastore (by decide +kernel)
theorem d_X12_goesFor_118 : decode prog_14_method_40_code 118 = .ok (.goto 26, 3) := ge_goto (by decide +kernel)
theorem d_X12_goesFor_121 : decode prog_14_method_40_code 121 = .ok (.aload_n 0, 1) := ge_aload_n_0 (by decide +kernel)
theorem d_X12_goesFor_122 : decode prog_14_method_40_code 122 = .ok (.getfield 9, 3) := ge_getfield (by decide +kernel)
theorem d_X12_goesFor_125 : decode prog_14_method_40_code 125 = .ok (.bipush 11, 2) := ge_bipush (by decide +kernel)
theorem d_X12_goesFor_127 : decode prog_14_method_40_code 127 = .ok (.iload_n 1, 1) := ge_iload_n_1 (by decide +kernel)
theorem d_X12_goesFor_128 : decode prog_14_method_40_code 128 = .ok (.iadd, 1) := ge_iadd (by decide +kernel)
theorem d_X12_goesFor_129 : decode prog_14_method_40_code 129 = .ok (.aload_n 0, 1) := ge_aload_n_0 (by decide +kernel)
theorem d_X12_goesFor_130 : decode prog_14_method_40_code 130 = .ok (.getfield 9, 3) := ge_getfield (by decide +kernel)
theorem d_X12_goesFor_133 : decode prog_14_method_40_code 133 = .ok (.bipush 11, 2) := ge_bipush (by decide +kernel)
theorem d_X12_goesFor_135 : decode prog_14_method_40_code 135 = .ok (.iload_n 1, 1) := ge_iload_n_1 (by decide +kernel)
theorem d_X12_goesFor_136 : decode prog_14_method_40_code 136 = .ok (.iadd, 1) := ge_iadd (by decide +kernel)
theorem d_X12_goesFor_137 : decode prog_14_method_40_code 137 = .ok (.iaload, 1) := ge_iaload (by decide +kernel)
theorem d_X12_goesFor_138 : decode prog_14_method_40_code 138 = .ok (.iconst 5, 1) := ge_iconst_5 (by decide +kernel)
theorem d_X12_goesFor_139 : decode prog_14_method_40_code 139 = .ok (.isub, 1) := ge_isub (by decide +kernel)
theorem d_X12_goesFor_140 : decode prog_14_method_40_code 140 = .ok (.invokestatic 142, 3) := ge_invokestatic (by decide +kernel)
theorem d_X12_goesFor_143 : decode prog_14_method_40_code 143 = .ok (.iastore, 1) := ge_iastore (by decide +kernel)
theorem d_X12_goesFor_144 : decode prog_14_method_40_code 144 = .ok (.return_, 1) := ge_return_ (by decide +kernel)
def f_X12_goesFor (a0 : Nat) (a1 : Int32) (μ : gm_M) : Option (Option Value × gm_M) := gm_gR μ [17] a0 1 (fun v1 => gm_aI μ v1 ((16 : Int32) + a1) (fun v2 => if v2 ≤ 0 then gm_gR μ [17] a0 1 (fun v3 => gm_aI μ v3 ((1 : Int32) + a1) (fun v4 => if v4 ≤ 0 then gm_gR μ [17] a0 1 (fun v5 => gm_gR μ [17] a0 1 (fun v6 => gm_aI μ v6 ((11 : Int32) + a1) (fun v7 => gm_bI (f_X12_above (v7 - (5 : Int32)) μ) (fun x9 m8 => gm_sI m8 v5 ((11 : Int32) + a1) x9 (fun m10 => some (none, m10)))))) else if gm_tag μ a0 = 17 then gm_bI (f_X12_chewsOf a0 a1 μ) (fun x12 m11 => gm_gR m11 [17] a0 1 (fun v13 => gm_gR m11 [17] a0 1 (fun v14 => gm_aI m11 v14 ((11 : Int32) + a1) (fun v15 => if gm_tag m11 a0 = 17 then gm_bI (f_X12_tiresOf a0 a1 m11) (fun x17 m16 => gm_bI (f_X12_within (v15 + x17) (0 : Int32) (99 : Int32) m16) (fun x19 m18 => gm_sI m18 v13 ((11 : Int32) + a1) x19 (fun m20 => gm_gR m20 [17] a0 1 (fun v21 => gm_gR m20 [17] a0 1 (fun v22 => gm_aI m20 v22 ((6 : Int32) + a1) (fun v23 => gm_bI (f_X12_above (v23 - x12) m20) (fun x25 m24 => gm_sI m24 v21 ((6 : Int32) + a1) x25 (fun m26 => some (none, m26))))))))) else none)))) else none)) else gm_gR μ [17] a0 1 (fun v27 => gm_gR μ [17] a0 1 (fun v28 => gm_aI μ v28 ((16 : Int32) + a1) (fun v29 => gm_gR μ [17] a0 1 (fun v30 => gm_aI μ v30 ((38 : Int32) + a1) (fun v31 => gm_bI (f_X12_above ((v29 - v31) - (1 : Int32)) μ) (fun x33 m32 => gm_sI m32 v27 ((16 : Int32) + a1) x33 (fun m34 => some (none, m34))))))))))
set_option maxHeartbeats 4000000 in
theorem c_X12_goesFor (a0 : Nat) (a1 : Int32) (μ : gm_M) : gm_Call ({ cls := "GumBubbleModel", name := "goesFor", desc := "(I)V" } : Jvm.MethodName) prog_14_method_40_code 3 none 2 0 0 [.ref a0, .int a1] μ (f_X12_goesFor a0 a1 μ) := by
  refine gm_start PN_12 (Nat.le_of_ble_eq_true rfl) (fun res μe => ?_)
  unfold f_X12_goesFor
  show gm_A "GumBubbleModel" (gm_nm "goesFor") _ _ _ _ _ _ _ _ _ 0 [(0, .ref a0), (1, .int a1)] [] _ _
  refine gm_aload_n d_X12_goesFor_0 rfl 0 rfl ?_
  refine gm_getR F_12_s gw_890 d_X12_goesFor_1 (fun v1 _ => ?_)
  refine gm_bipush (v := 16) d_X12_goesFor_4 (by decide) ?_
  refine gm_iload_n d_X12_goesFor_6 rfl 1 rfl ?_
  refine gm_iadd d_X12_goesFor_7 ?_
  refine gm_iald d_X12_goesFor_8 (fun v2 _ => ?_)
  refine gm_if_le (tgt := 48) d_X12_goesFor_9 (by decide) (fun h9 => ?_) (fun h9 => ?_)
  ·
    refine gm_aload_n d_X12_goesFor_48 rfl 0 rfl ?_
    refine gm_getR F_12_s gw_890 d_X12_goesFor_49 (fun v3 _ => ?_)
    refine gm_iconst (v := 1) d_X12_goesFor_52 (by decide) ?_
    refine gm_iload_n d_X12_goesFor_53 rfl 1 rfl ?_
    refine gm_iadd d_X12_goesFor_54 ?_
    refine gm_iald d_X12_goesFor_55 (fun v4 _ => ?_)
    refine gm_if_le (tgt := 121) d_X12_goesFor_56 (by decide) (fun h56 => ?_) (fun h56 => ?_)
    ·
      refine gm_aload_n d_X12_goesFor_121 rfl 0 rfl ?_
      refine gm_getR F_12_s gw_890 d_X12_goesFor_122 (fun v5 _ => ?_)
      refine gm_bipush (v := 11) d_X12_goesFor_125 (by decide) ?_
      refine gm_iload_n d_X12_goesFor_127 rfl 1 rfl ?_
      refine gm_iadd d_X12_goesFor_128 ?_
      refine gm_aload_n d_X12_goesFor_129 rfl 0 rfl ?_
      refine gm_getR F_12_s gw_890 d_X12_goesFor_130 (fun v6 _ => ?_)
      refine gm_bipush (v := 11) d_X12_goesFor_133 (by decide) ?_
      refine gm_iload_n d_X12_goesFor_135 rfl 1 rfl ?_
      refine gm_iadd d_X12_goesFor_136 ?_
      refine gm_iald d_X12_goesFor_137 (fun v7 _ => ?_)
      refine gm_iconst (v := 5) d_X12_goesFor_138 (by decide) ?_
      refine gm_isub d_X12_goesFor_139 ?_
      refine gm_callS [.int (v7 - (5 : Int32))] (c_X12_above (v7 - (5 : Int32)) μ) B_X12_above gw_1067 rfl rfl rfl d_X12_goesFor_140 (gm_kI (fun x9 m8 => ?_))
      refine gm_iast d_X12_goesFor_143 (fun m10 _ => ?_)
      exact gm_vret rfl d_X12_goesFor_144 (Nat.le_of_ble_eq_true rfl) (Nat.le_of_ble_eq_true rfl) (fun h => h)
    ·
      refine gm_aload_n d_X12_goesFor_59 rfl 0 rfl ?_
      refine gm_iload_n d_X12_goesFor_60 rfl 1 rfl ?_
      refine gm_grd (fun g61 => ?_)
      refine gm_callV (k0 := 12) [.int a1] (c_X12_chewsOf a0 a1 μ) g61 rfl B_X12_chewsOf gw_1063 gs_43 rfl rfl rfl d_X12_goesFor_61 (gm_kI (fun x12 m11 => ?_))
      refine gm_istore_n (L' := [(2, .int x12), (0, .ref a0), (1, .int a1)]) d_X12_goesFor_64 rfl (Nat.le_of_ble_eq_true rfl) rfl ?_
      refine gm_aload_n d_X12_goesFor_65 rfl 1 rfl ?_
      refine gm_getR F_12_s gw_890 d_X12_goesFor_66 (fun v13 _ => ?_)
      refine gm_bipush (v := 11) d_X12_goesFor_69 (by decide) ?_
      refine gm_iload_n d_X12_goesFor_71 rfl 2 rfl ?_
      refine gm_iadd d_X12_goesFor_72 ?_
      refine gm_aload_n d_X12_goesFor_73 rfl 1 rfl ?_
      refine gm_getR F_12_s gw_890 d_X12_goesFor_74 (fun v14 _ => ?_)
      refine gm_bipush (v := 11) d_X12_goesFor_77 (by decide) ?_
      refine gm_iload_n d_X12_goesFor_79 rfl 2 rfl ?_
      refine gm_iadd d_X12_goesFor_80 ?_
      refine gm_iald d_X12_goesFor_81 (fun v15 _ => ?_)
      refine gm_aload_n d_X12_goesFor_82 rfl 1 rfl ?_
      refine gm_iload_n d_X12_goesFor_83 rfl 2 rfl ?_
      refine gm_grd (fun g84 => ?_)
      refine gm_callV (k0 := 12) [.int a1] (c_X12_tiresOf a0 a1 m11) g84 rfl B_X12_tiresOf gw_1070 gs_44 rfl rfl rfl d_X12_goesFor_84 (gm_kI (fun x17 m16 => ?_))
      refine gm_iadd d_X12_goesFor_87 ?_
      refine gm_iconst (v := 0) d_X12_goesFor_88 (by decide) ?_
      refine gm_bipush (v := 99) d_X12_goesFor_89 (by decide) ?_
      refine gm_callS [.int (v15 + x17), .int (0 : Int32), .int (99 : Int32)] (c_X12_within (v15 + x17) (0 : Int32) (99 : Int32) m16) B_X12_within gw_1060 rfl rfl rfl d_X12_goesFor_91 (gm_kI (fun x19 m18 => ?_))
      refine gm_iast d_X12_goesFor_94 (fun m20 _ => ?_)
      refine gm_aload_n d_X12_goesFor_95 rfl 1 rfl ?_
      refine gm_getR F_12_s gw_890 d_X12_goesFor_96 (fun v21 _ => ?_)
      refine gm_bipush (v := 6) d_X12_goesFor_99 (by decide) ?_
      refine gm_iload_n d_X12_goesFor_101 rfl 2 rfl ?_
      refine gm_iadd d_X12_goesFor_102 ?_
      refine gm_aload_n d_X12_goesFor_103 rfl 1 rfl ?_
      refine gm_getR F_12_s gw_890 d_X12_goesFor_104 (fun v22 _ => ?_)
      refine gm_bipush (v := 6) d_X12_goesFor_107 (by decide) ?_
      refine gm_iload_n d_X12_goesFor_109 rfl 2 rfl ?_
      refine gm_iadd d_X12_goesFor_110 ?_
      refine gm_iald d_X12_goesFor_111 (fun v23 _ => ?_)
      refine gm_iload_n d_X12_goesFor_112 rfl 0 rfl ?_
      refine gm_isub d_X12_goesFor_113 ?_
      refine gm_callS [.int (v23 - x12)] (c_X12_above (v23 - x12) m20) B_X12_above gw_1067 rfl rfl rfl d_X12_goesFor_114 (gm_kI (fun x25 m24 => ?_))
      refine gm_iast d_X12_goesFor_117 (fun m26 _ => ?_)
      refine gm_goto (tgt := 144) d_X12_goesFor_118 (by decide) ?_
      exact gm_vret rfl d_X12_goesFor_144 (Nat.le_of_ble_eq_true rfl) (Nat.le_of_ble_eq_true rfl) (fun h => h)
  ·
    refine gm_aload_n d_X12_goesFor_12 rfl 0 rfl ?_
    refine gm_getR F_12_s gw_890 d_X12_goesFor_13 (fun v27 _ => ?_)
    refine gm_bipush (v := 16) d_X12_goesFor_16 (by decide) ?_
    refine gm_iload_n d_X12_goesFor_18 rfl 1 rfl ?_
    refine gm_iadd d_X12_goesFor_19 ?_
    refine gm_aload_n d_X12_goesFor_20 rfl 0 rfl ?_
    refine gm_getR F_12_s gw_890 d_X12_goesFor_21 (fun v28 _ => ?_)
    refine gm_bipush (v := 16) d_X12_goesFor_24 (by decide) ?_
    refine gm_iload_n d_X12_goesFor_26 rfl 1 rfl ?_
    refine gm_iadd d_X12_goesFor_27 ?_
    refine gm_iald d_X12_goesFor_28 (fun v29 _ => ?_)
    refine gm_aload_n d_X12_goesFor_29 rfl 0 rfl ?_
    refine gm_getR F_12_s gw_890 d_X12_goesFor_30 (fun v30 _ => ?_)
    refine gm_bipush (v := 38) d_X12_goesFor_33 (by decide) ?_
    refine gm_iload_n d_X12_goesFor_35 rfl 1 rfl ?_
    refine gm_iadd d_X12_goesFor_36 ?_
    refine gm_iald d_X12_goesFor_37 (fun v31 _ => ?_)
    refine gm_isub d_X12_goesFor_38 ?_
    refine gm_iconst (v := 1) d_X12_goesFor_39 (by decide) ?_
    refine gm_isub d_X12_goesFor_40 ?_
    refine gm_callS [.int ((v29 - v31) - (1 : Int32))] (c_X12_above ((v29 - v31) - (1 : Int32)) μ) B_X12_above gw_1067 rfl rfl rfl d_X12_goesFor_41 (gm_kI (fun x33 m32 => ?_))
    refine gm_iast d_X12_goesFor_44 (fun m34 _ => ?_)
    refine gm_goto (tgt := 144) d_X12_goesFor_45 (by decide) ?_
    exact gm_vret rfl d_X12_goesFor_144 (Nat.le_of_ble_eq_true rfl) (Nat.le_of_ble_eq_true rfl) (fun h => h)
theorem d_X12_goes_0 : decode prog_14_method_41_code 0 = .ok (.iconst 0, 1) := ge_iconst_0 (by decide +kernel)
theorem d_X12_goes_1 : decode prog_14_method_41_code 1 = .ok (.istore_n 1, 1) := ge_istore_n_1 (by decide +kernel)
theorem d_X12_goes_2 : decode prog_14_method_41_code 2 = .ok (.iload_n 1, 1) := ge_iload_n_1 (by decide +kernel)
theorem d_X12_goes_3 : decode prog_14_method_41_code 3 = .ok (.aload_n 0, 1) := ge_aload_n_0 (by decide +kernel)
theorem d_X12_goes_4 : decode prog_14_method_41_code 4 = .ok (.getfield 9, 3) := ge_getfield (by decide +kernel)
theorem d_X12_goes_7 : decode prog_14_method_41_code 7 = .ok (.bipush 26, 2) := ge_bipush (by decide +kernel)
theorem d_X12_goes_9 : decode prog_14_method_41_code 9 = .ok (.iaload, 1) := ge_iaload (by decide +kernel)
theorem d_X12_goes_10 : decode prog_14_method_41_code 10 = .ok (.if_icmp .ge 14, 3) := ge_if_icmp_ge (by decide +kernel)
theorem d_X12_goes_13 : decode prog_14_method_41_code 13 = .ok (.aload_n 0, 1) := ge_aload_n_0 (by decide +kernel)
theorem d_X12_goes_14 : decode prog_14_method_41_code 14 = .ok (.iload_n 1, 1) := ge_iload_n_1 (by decide +kernel)
theorem d_X12_goes_15 : decode prog_14_method_41_code 15 = .ok (.invokevirtual 174, 3) := ge_invokevirtual (by decide +kernel)
theorem d_X12_goes_18 : decode prog_14_method_41_code 18 = .ok (.iinc 1 1, 3) := ge_iinc (by decide +kernel)
theorem d_X12_goes_21 : decode prog_14_method_41_code 21 = .ok (.goto (-19), 3) := ge_goto (by decide +kernel)
theorem d_X12_goes_24 : decode prog_14_method_41_code 24 = .ok (.aload_n 0, 1) := ge_aload_n_0 (by decide +kernel)
theorem d_X12_goes_25 : decode prog_14_method_41_code 25 = .ok (.getfield 9, 3) := ge_getfield (by decide +kernel)
theorem d_X12_goes_28 : decode prog_14_method_41_code 28 = .ok (.iconst 0, 1) := ge_iconst_0 (by decide +kernel)
theorem d_X12_goes_29 : decode prog_14_method_41_code 29 = .ok (.dup2, 1) := ge_dup2 (by decide +kernel)
theorem d_X12_goes_30 : decode prog_14_method_41_code 30 = .ok (.iaload, 1) := ge_iaload (by decide +kernel)
theorem d_X12_goes_31 : decode prog_14_method_41_code 31 = .ok (.iconst 1, 1) := ge_iconst_1 (by decide +kernel)
theorem d_X12_goes_32 : decode prog_14_method_41_code 32 = .ok (.iadd, 1) := ge_iadd (by decide +kernel)
theorem d_X12_goes_33 : decode prog_14_method_41_code 33 = .ok (.iastore, 1) := ge_iastore (by decide +kernel)
theorem d_X12_goes_34 : decode prog_14_method_41_code 34 = .ok (.return_, 1) := ge_return_ (by decide +kernel)
def f_X12_goes (a0 : Nat) (μ : gm_M) : Option (Option Value × gm_M) := gm_loop (fun (s1 : Int32 × gm_M) => gm_gR s1.2 [17] a0 1 (fun v2 => gm_aI s1.2 v2 (26 : Int32) (fun v3 => if v3 ≤ s1.1 then gm_gR s1.2 [17] a0 1 (fun v4 => gm_aI s1.2 v4 (0 : Int32) (fun v5 => gm_sI s1.2 v4 (0 : Int32) (v5 + (1 : Int32)) (fun m6 => some (Sum.inr (none, m6))))) else if gm_tag s1.2 a0 = 17 then gm_bV (f_X12_goesFor a0 s1.1 s1.2) (fun m7 => some (Sum.inl ((s1.1 + (1 : Int32)), m7))) else none))) 5000 ((0 : Int32), μ)
set_option maxHeartbeats 4000000 in
theorem c_X12_goes (a0 : Nat) (μ : gm_M) : gm_Call ({ cls := "GumBubbleModel", name := "goes", desc := "()V" } : Jvm.MethodName) prog_14_method_41_code 2 none 3 0 0 [.ref a0] μ (f_X12_goes a0 μ) := by
  refine gm_start PN_12 (Nat.le_of_ble_eq_true rfl) (fun res μe => ?_)
  unfold f_X12_goes
  show gm_A "GumBubbleModel" (gm_nm "goes") _ _ _ _ _ _ _ _ _ 0 [(0, .ref a0)] [] _ _
  refine gm_iconst (v := 0) d_X12_goes_0 (by decide) ?_
  refine gm_istore_n (L' := [(1, .int (0 : Int32)), (0, .ref a0)]) d_X12_goes_1 rfl (Nat.le_of_ble_eq_true rfl) rfl ?_
  refine gm_sub (L' := [(0, .ref a0), (1, .int (0 : Int32))]) [1, 0] rfl ?_
  refine gm_lp (S := Int32 × gm_M) (fun _ => 0) (fun _ => 0) (fun s1 => s1.2) (fun s1 => [(0, .ref a0), (1, .int s1.1)]) (fun _ => []) (fun s1 => ?_) 5000 ((0 : Int32), μ)
  refine gm_iload_n d_X12_goes_2 rfl 1 rfl ?_
  refine gm_aload_n d_X12_goes_3 rfl 0 rfl ?_
  refine gm_getR F_12_s gw_890 d_X12_goes_4 (fun v2 _ => ?_)
  refine gm_bipush (v := 26) d_X12_goes_7 (by decide) ?_
  refine gm_iald d_X12_goes_9 (fun v3 _ => ?_)
  refine gm_icmp_ge (tgt := 24) d_X12_goes_10 (by decide) (fun h10 => ?_) (fun h10 => ?_)
  ·
    refine gm_aload_n d_X12_goes_24 rfl 0 rfl ?_
    refine gm_getR F_12_s gw_890 d_X12_goes_25 (fun v4 _ => ?_)
    refine gm_iconst (v := 0) d_X12_goes_28 (by decide) ?_
    refine gm_dup2 d_X12_goes_29 rfl rfl ?_
    refine gm_iald d_X12_goes_30 (fun v5 _ => ?_)
    refine gm_iconst (v := 1) d_X12_goes_31 (by decide) ?_
    refine gm_iadd d_X12_goes_32 ?_
    refine gm_iast d_X12_goes_33 (fun m6 _ => ?_)
    exact gm_vret rfl d_X12_goes_34 (Nat.le_of_ble_eq_true rfl) (Nat.le_of_ble_eq_true rfl) (fun h => h)
  ·
    refine gm_aload_n d_X12_goes_13 rfl 0 rfl ?_
    refine gm_iload_n d_X12_goes_14 rfl 1 rfl ?_
    refine gm_grd (fun g15 => ?_)
    refine gm_callV (k0 := 12) [.int s1.1] (c_X12_goesFor a0 s1.1 s1.2) g15 rfl B_X12_goesFor gw_1118 gs_51 rfl rfl rfl d_X12_goes_15 (gm_kV (fun m7 => ?_))
    refine gm_iinc (v := s1.1 + (1 : Int32)) (L' := [(1, .int (s1.1 + (1 : Int32))), (0, .ref a0)]) d_X12_goes_18 1 rfl rfl (Nat.le_of_ble_eq_true rfl) rfl ?_
    refine gm_goto (tgt := 2) d_X12_goes_21 (by decide) ?_
    refine gm_sub (L' := [(0, .ref a0), (1, .int (s1.1 + (1 : Int32)))]) [1, 0] rfl ?_
    exact gm_back (fun h => h)
end
section
theorem d_X12_goesBack_0 : decode prog_14_method_8_code 0 = .ok (.iconst 0, 1) := ge_iconst_0 (by decide +kernel)
theorem d_X12_goesBack_1 : decode prog_14_method_8_code 1 = .ok (.istore_n 1, 1) := ge_istore_n_1 (by decide +kernel)
theorem d_X12_goesBack_2 : decode prog_14_method_8_code 2 = .ok (.iload_n 1, 1) := ge_iload_n_1 (by decide +kernel)
theorem d_X12_goesBack_3 : decode prog_14_method_8_code 3 = .ok (.bipush 26, 2) := ge_bipush (by decide +kernel)
theorem d_X12_goesBack_5 : decode prog_14_method_8_code 5 = .ok (.if_icmp .ge 21, 3) := ge_if_icmp_ge (by decide +kernel)
theorem d_X12_goesBack_8 : decode prog_14_method_8_code 8 = .ok (.aload_n 0, 1) := ge_aload_n_0 (by decide +kernel)
theorem d_X12_goesBack_9 : decode prog_14_method_8_code 9 = .ok (.getfield 9, 3) := ge_getfield (by decide +kernel)
theorem d_X12_goesBack_12 : decode prog_14_method_8_code 12 = .ok (.iload_n 1, 1) := ge_iload_n_1 (by decide +kernel)
theorem d_X12_goesBack_13 : decode prog_14_method_8_code 13 = .ok (.aload_n 0, 1) := ge_aload_n_0 (by decide +kernel)
theorem d_X12_goesBack_14 : decode prog_14_method_8_code 14 = .ok (.getfield 18, 3) := ge_getfield (by decide +kernel)
theorem d_X12_goesBack_17 : decode prog_14_method_8_code 17 = .ok (.iload_n 1, 1) := ge_iload_n_1 (by decide +kernel)
theorem d_X12_goesBack_18 : decode prog_14_method_8_code 18 = .ok (.iaload, 1) := ge_iaload (by decide +kernel)
theorem d_X12_goesBack_19 : decode prog_14_method_8_code 19 = .ok (.iastore, 1) := ge_iastore (by decide +kernel)
theorem d_X12_goesBack_20 : decode prog_14_method_8_code 20 = .ok (.iinc 1 1, 3) := ge_iinc (by decide +kernel)
theorem d_X12_goesBack_23 : decode prog_14_method_8_code 23 = .ok (.goto (-21), 3) := ge_goto (by decide +kernel)
theorem d_X12_goesBack_26 : decode prog_14_method_8_code 26 = .ok (.return_, 1) := ge_return_ (by decide +kernel)
def f_X12_goesBack (a0 : Nat) (μ : gm_M) : Option (Option Value × gm_M) := gm_loop (fun (s1 : Int32 × gm_M) => if (26 : Int32) ≤ s1.1 then some (Sum.inr (none, s1.2)) else gm_gR s1.2 [17] a0 1 (fun v2 => gm_gR s1.2 [17] a0 3 (fun v3 => gm_aI s1.2 v3 s1.1 (fun v4 => gm_sI s1.2 v2 s1.1 v4 (fun m5 => some (Sum.inl ((s1.1 + (1 : Int32)), m5))))))) 5000 ((0 : Int32), μ)
set_option maxHeartbeats 4000000 in
theorem c_X12_goesBack (a0 : Nat) (μ : gm_M) : gm_Call ({ cls := "GumBubbleModel", name := "goesBack", desc := "()V" } : Jvm.MethodName) prog_14_method_8_code 2 none 0 0 0 [.ref a0] μ (f_X12_goesBack a0 μ) := by
  refine gm_start PN_12 (Nat.le_of_ble_eq_true rfl) (fun res μe => ?_)
  unfold f_X12_goesBack
  show gm_A "GumBubbleModel" (gm_nm "goesBack") _ _ _ _ _ _ _ _ _ 0 [(0, .ref a0)] [] _ _
  refine gm_iconst (v := 0) d_X12_goesBack_0 (by decide) ?_
  refine gm_istore_n (L' := [(1, .int (0 : Int32)), (0, .ref a0)]) d_X12_goesBack_1 rfl (Nat.le_of_ble_eq_true rfl) rfl ?_
  refine gm_sub (L' := [(0, .ref a0), (1, .int (0 : Int32))]) [1, 0] rfl ?_
  refine gm_lp (S := Int32 × gm_M) (fun _ => 0) (fun _ => 0) (fun s1 => s1.2) (fun s1 => [(0, .ref a0), (1, .int s1.1)]) (fun _ => []) (fun s1 => ?_) 5000 ((0 : Int32), μ)
  refine gm_iload_n d_X12_goesBack_2 rfl 1 rfl ?_
  refine gm_bipush (v := 26) d_X12_goesBack_3 (by decide) ?_
  refine gm_icmp_ge (tgt := 26) d_X12_goesBack_5 (by decide) (fun h5 => ?_) (fun h5 => ?_)
  ·
    exact gm_vret rfl d_X12_goesBack_26 (Nat.le_of_ble_eq_true rfl) (Nat.le_of_ble_eq_true rfl) (fun h => h)
  ·
    refine gm_aload_n d_X12_goesBack_8 rfl 0 rfl ?_
    refine gm_getR F_12_s gw_890 d_X12_goesBack_9 (fun v2 _ => ?_)
    refine gm_iload_n d_X12_goesBack_12 rfl 1 rfl ?_
    refine gm_aload_n d_X12_goesBack_13 rfl 0 rfl ?_
    refine gm_getR F_12_frame gw_892 d_X12_goesBack_14 (fun v3 _ => ?_)
    refine gm_iload_n d_X12_goesBack_17 rfl 1 rfl ?_
    refine gm_iald d_X12_goesBack_18 (fun v4 _ => ?_)
    refine gm_iast d_X12_goesBack_19 (fun m5 _ => ?_)
    refine gm_iinc (v := s1.1 + (1 : Int32)) (L' := [(1, .int (s1.1 + (1 : Int32))), (0, .ref a0)]) d_X12_goesBack_20 1 rfl rfl (Nat.le_of_ble_eq_true rfl) rfl ?_
    refine gm_goto (tgt := 2) d_X12_goesBack_23 (by decide) ?_
    refine gm_sub (L' := [(0, .ref a0), (1, .int (s1.1 + (1 : Int32)))]) [1, 0] rfl ?_
    exact gm_back (fun h => h)
theorem d_X12_isAsSeen_0 : decode prog_14_method_67_code 0 = .ok (.iconst 1, 1) := ge_iconst_1 (by decide +kernel)
theorem d_X12_isAsSeen_1 : decode prog_14_method_67_code 1 = .ok (.istore_n 2, 1) := ge_istore_n_2 (by decide +kernel)
theorem d_X12_isAsSeen_2 : decode prog_14_method_67_code 2 = .ok (.iconst 0, 1) := ge_iconst_0 (by decide +kernel)
theorem d_X12_isAsSeen_3 : decode prog_14_method_67_code 3 = .ok (.istore_n 3, 1) := ge_istore_n_3 (by decide +kernel)
theorem d_X12_isAsSeen_4 : decode prog_14_method_67_code 4 = .ok (.iload_n 3, 1) := ge_iload_n_3 (by decide +kernel)
theorem d_X12_isAsSeen_5 : decode prog_14_method_67_code 5 = .ok (.aload_n 0, 1) := ge_aload_n_0 (by decide +kernel)
theorem d_X12_isAsSeen_6 : decode prog_14_method_67_code 6 = .ok (.getfield 9, 3) := ge_getfield (by decide +kernel)
theorem d_X12_isAsSeen_9 : decode prog_14_method_67_code 9 = .ok (.bipush 28, 2) := ge_bipush (by decide +kernel)
theorem d_X12_isAsSeen_11 : decode prog_14_method_67_code 11 = .ok (.iaload, 1) := ge_iaload (by decide +kernel)
theorem d_X12_isAsSeen_12 : decode prog_14_method_67_code 12 = .ok (.if_icmp .ge 57, 3) := ge_if_icmp_ge (by decide +kernel)
theorem d_X12_isAsSeen_15 : decode prog_14_method_67_code 15 = .ok (.iload_n 2, 1) := ge_iload_n_2 (by decide +kernel)
theorem d_X12_isAsSeen_16 : decode prog_14_method_67_code 16 = .ok (.ifCond .eq 53, 3) := ge_ifCond_eq (by decide +kernel)
theorem d_X12_isAsSeen_19 : decode prog_14_method_67_code 19 = .ok (.aload_n 0, 1) := ge_aload_n_0 (by decide +kernel)
theorem d_X12_isAsSeen_20 : decode prog_14_method_67_code 20 = .ok (.getfield 9, 3) := ge_getfield (by decide +kernel)
theorem d_X12_isAsSeen_23 : decode prog_14_method_67_code 23 = .ok (.bipush 73, 2) := ge_bipush (by decide +kernel)
theorem d_X12_isAsSeen_25 : decode prog_14_method_67_code 25 = .ok (.iload_n 3, 1) := ge_iload_n_3 (by decide +kernel)
theorem d_X12_isAsSeen_26 : decode prog_14_method_67_code 26 = .ok (.iadd, 1) := ge_iadd (by decide +kernel)
theorem d_X12_isAsSeen_27 : decode prog_14_method_67_code 27 = .ok (.iaload, 1) := ge_iaload (by decide +kernel)
theorem d_X12_isAsSeen_28 : decode prog_14_method_67_code 28 = .ok (.iload_n 1, 1) := ge_iload_n_1 (by decide +kernel)
theorem d_X12_isAsSeen_29 : decode prog_14_method_67_code 29 = .ok (.if_icmp .ne 28, 3) := ge_if_icmp_ne (by decide +kernel)
theorem d_X12_isAsSeen_32 : decode prog_14_method_67_code 32 = .ok (.aload_n 0, 1) := ge_aload_n_0 (by decide +kernel)
theorem d_X12_isAsSeen_33 : decode prog_14_method_67_code 33 = .ok (.aload_n 0, 1) := ge_aload_n_0 (by decide +kernel)
theorem d_X12_isAsSeen_34 : decode prog_14_method_67_code 34 = .ok (.getfield 9, 3) := ge_getfield (by decide +kernel)
theorem d_X12_isAsSeen_37 : decode prog_14_method_67_code 37 = .ok (.bipush 63, 2) := ge_bipush (by decide +kernel)
theorem d_X12_isAsSeen_39 : decode prog_14_method_67_code 39 = .ok (.iload_n 3, 1) := ge_iload_n_3 (by decide +kernel)
theorem d_X12_isAsSeen_40 : decode prog_14_method_67_code 40 = .ok (.iadd, 1) := ge_iadd (by decide +kernel)
theorem d_X12_isAsSeen_41 : decode prog_14_method_67_code 41 = .ok (.iaload, 1) := ge_iaload (by decide +kernel)
theorem d_X12_isAsSeen_42 : decode prog_14_method_67_code 42 = .ok (.invokevirtual 148, 3) := ge_invokevirtual (by decide +kernel)
theorem d_X12_isAsSeen_45 : decode prog_14_method_67_code 45 = .ok (.aload_n 0, 1) := ge_aload_n_0 (by decide +kernel)
theorem d_X12_isAsSeen_46 : decode prog_14_method_67_code 46 = .ok (.getfield 9, 3) := ge_getfield (by decide +kernel)
theorem d_X12_isAsSeen_49 : decode prog_14_method_67_code 49 = .ok (.bipush 68, 2) := ge_bipush (by decide +kernel)
theorem d_X12_isAsSeen_51 : decode prog_14_method_67_code 51 = .ok (.iload_n 3, 1) := ge_iload_n_3 (by decide +kernel)
theorem d_X12_isAsSeen_52 : decode prog_14_method_67_code 52 = .ok (.iadd, 1) := ge_iadd (by decide +kernel)
theorem d_X12_isAsSeen_53 : decode prog_14_method_67_code 53 = .ok (.iaload, 1) := ge_iaload (by decide +kernel)
theorem d_X12_isAsSeen_54 : decode prog_14_method_67_code 54 = .ok (.if_icmp .ne 7, 3) := ge_if_icmp_ne (by decide +kernel)
theorem d_X12_isAsSeen_57 : decode prog_14_method_67_code 57 = .ok (.iconst 1, 1) := ge_iconst_1 (by decide +kernel)
theorem d_X12_isAsSeen_58 : decode prog_14_method_67_code 58 = .ok (.goto 4, 3) := ge_goto (by decide +kernel)
theorem d_X12_isAsSeen_61 : decode prog_14_method_67_code 61 = .ok (.iconst 0, 1) := ge_iconst_0 (by decide +kernel)
theorem d_X12_isAsSeen_62 : decode prog_14_method_67_code 62 = .ok (.istore_n 2, 1) := ge_istore_n_2 (by decide +kernel)
theorem d_X12_isAsSeen_63 : decode prog_14_method_67_code 63 = .ok (.iinc 3 1, 3) := ge_iinc (by decide +kernel)
theorem d_X12_isAsSeen_66 : decode prog_14_method_67_code 66 = .ok (.goto (-62), 3) := ge_goto (by decide +kernel)
theorem d_X12_isAsSeen_69 : decode prog_14_method_67_code 69 = .ok (.iload_n 2, 1) := ge_iload_n_2 (by decide +kernel)
theorem d_X12_isAsSeen_70 : decode prog_14_method_67_code 70 = .ok (.ireturn, 1) := ge_ireturn (by decide +kernel)
def f_X12_isAsSeen (a0 : Nat) (a1 : Int32) (μ : gm_M) : Option (Option Value × gm_M) := gm_loop (fun (s1 : Int32 × Int32 × gm_M) => gm_gR s1.2.2 [17] a0 1 (fun v2 => gm_aI s1.2.2 v2 (28 : Int32) (fun v3 => if v3 ≤ s1.2.1 then if s1.1 = 0 ∨ s1.1 = 1 then some (Sum.inr (some (.int s1.1), s1.2.2)) else none else if s1.1 = 0 then if s1.1 = 0 ∨ s1.1 = 1 then some (Sum.inr (some (.int s1.1), s1.2.2)) else none else gm_gR s1.2.2 [17] a0 1 (fun v4 => gm_aI s1.2.2 v4 ((73 : Int32) + s1.2.1) (fun v5 => gm_j (fun (s6 : Int32 × gm_M) => some (Sum.inl (s6.1, (s1.2.1 + (1 : Int32)), s6.2))) (fun j7 => gm_j (fun (s8 : gm_M) => j7 ((1 : Int32), s8)) (fun j9 => if v5 ≠ a1 then j9 s1.2.2 else gm_gR s1.2.2 [17] a0 1 (fun v10 => gm_aI s1.2.2 v10 ((63 : Int32) + s1.2.1) (fun v11 => if gm_tag s1.2.2 a0 = 17 then gm_bI (f_X12_holdsOf a0 v11 s1.2.2) (fun x13 m12 => gm_gR m12 [17] a0 1 (fun v14 => gm_aI m12 v14 ((68 : Int32) + s1.2.1) (fun v15 => if x13 ≠ v15 then j7 ((0 : Int32), m12) else j9 m12))) else none))))))))) 5000 ((1 : Int32), (0 : Int32), μ)
set_option maxHeartbeats 4000000 in
theorem c_X12_isAsSeen (a0 : Nat) (a1 : Int32) (μ : gm_M) : gm_Call ({ cls := "GumBubbleModel", name := "isAsSeen", desc := "(I)Z" } : Jvm.MethodName) prog_14_method_67_code 4 (some .boolean) 4 0 0 [.ref a0, .int a1] μ (f_X12_isAsSeen a0 a1 μ) := by
  refine gm_start PN_12 (Nat.le_of_ble_eq_true rfl) (fun res μe => ?_)
  unfold f_X12_isAsSeen
  show gm_A "GumBubbleModel" (gm_nm "isAsSeen") _ _ _ _ _ _ _ _ _ 0 [(0, .ref a0), (1, .int a1)] [] _ _
  refine gm_iconst (v := 1) d_X12_isAsSeen_0 (by decide) ?_
  refine gm_istore_n (L' := [(2, .int (1 : Int32)), (0, .ref a0), (1, .int a1)]) d_X12_isAsSeen_1 rfl (Nat.le_of_ble_eq_true rfl) rfl ?_
  refine gm_iconst (v := 0) d_X12_isAsSeen_2 (by decide) ?_
  refine gm_istore_n (L' := [(3, .int (0 : Int32)), (2, .int (1 : Int32)), (0, .ref a0), (1, .int a1)]) d_X12_isAsSeen_3 rfl (Nat.le_of_ble_eq_true rfl) rfl ?_
  refine gm_sub (L' := [(0, .ref a0), (1, .int a1), (2, .int (1 : Int32)), (3, .int (0 : Int32))]) [2, 3, 1, 0] rfl ?_
  refine gm_lp (S := Int32 × Int32 × gm_M) (fun _ => 0) (fun _ => 0) (fun s1 => s1.2.2) (fun s1 => [(0, .ref a0), (1, .int a1), (2, .int s1.1), (3, .int s1.2.1)]) (fun _ => []) (fun s1 => ?_) 5000 ((1 : Int32), (0 : Int32), μ)
  refine gm_iload_n d_X12_isAsSeen_4 rfl 3 rfl ?_
  refine gm_aload_n d_X12_isAsSeen_5 rfl 0 rfl ?_
  refine gm_getR F_12_s gw_890 d_X12_isAsSeen_6 (fun v2 _ => ?_)
  refine gm_bipush (v := 28) d_X12_isAsSeen_9 (by decide) ?_
  refine gm_iald d_X12_isAsSeen_11 (fun v3 _ => ?_)
  refine gm_icmp_ge (tgt := 69) d_X12_isAsSeen_12 (by decide) (fun h12 => ?_) (fun h12 => ?_)
  ·
    refine gm_iload_n d_X12_isAsSeen_69 rfl 2 rfl ?_
    exact gm_zret rfl d_X12_isAsSeen_70 (Nat.le_of_ble_eq_true rfl) (Nat.le_of_ble_eq_true rfl) (fun h => h)
  ·
    refine gm_iload_n d_X12_isAsSeen_15 rfl 2 rfl ?_
    refine gm_if_eq (tgt := 69) d_X12_isAsSeen_16 (by decide) (fun h16 => ?_) (fun h16 => ?_)
    ·
      refine gm_iload_n d_X12_isAsSeen_69 rfl 2 rfl ?_
      exact gm_zret rfl d_X12_isAsSeen_70 (Nat.le_of_ble_eq_true rfl) (Nat.le_of_ble_eq_true rfl) (fun h => h)
    ·
      refine gm_aload_n d_X12_isAsSeen_19 rfl 0 rfl ?_
      refine gm_getR F_12_s gw_890 d_X12_isAsSeen_20 (fun v4 _ => ?_)
      refine gm_bipush (v := 73) d_X12_isAsSeen_23 (by decide) ?_
      refine gm_iload_n d_X12_isAsSeen_25 rfl 3 rfl ?_
      refine gm_iadd d_X12_isAsSeen_26 ?_
      refine gm_iald d_X12_isAsSeen_27 (fun v5 _ => ?_)
      refine gm_iload_n d_X12_isAsSeen_28 rfl 1 rfl ?_
      refine gm_join (S := Int32 × gm_M) (pj := 62) (kj := 0) (nj := 0) (fun s6 => s6.2) (fun s6 => [(0, .ref a0), (1, .int a1), (2, .int s1.1), (3, .int s1.2.1)]) (fun s6 => [.int s6.1]) (fun s6 => ?_) (fun j7 hj7 => ?_)
      ·
        refine gm_istore_n (L' := [(2, .int s6.1), (0, .ref a0), (1, .int a1), (3, .int s1.2.1)]) d_X12_isAsSeen_62 rfl (Nat.le_of_ble_eq_true rfl) rfl ?_
        refine gm_iinc (v := s1.2.1 + (1 : Int32)) (L' := [(3, .int (s1.2.1 + (1 : Int32))), (2, .int s6.1), (0, .ref a0), (1, .int a1)]) d_X12_isAsSeen_63 3 rfl rfl (Nat.le_of_ble_eq_true rfl) rfl ?_
        refine gm_goto (tgt := 4) d_X12_isAsSeen_66 (by decide) ?_
        refine gm_sub (L' := [(0, .ref a0), (1, .int a1), (2, .int s6.1), (3, .int (s1.2.1 + (1 : Int32)))]) [2, 3, 1, 0] rfl ?_
        exact gm_back (fun h => h)
      ·
        refine gm_join (S := gm_M) (pj := 57) (kj := 0) (nj := 0) (fun s8 => s8) (fun s8 => [(0, .ref a0), (1, .int a1), (2, .int s1.1), (3, .int s1.2.1)]) (fun s8 => []) (fun s8 => ?_) (fun j9 hj9 => ?_)
        ·
          refine gm_iconst (v := 1) d_X12_isAsSeen_57 (by decide) ?_
          refine gm_goto (tgt := 62) d_X12_isAsSeen_58 (by decide) ?_
          exact hj7 ((1 : Int32), s8)
        ·
          refine gm_icmp_ne (tgt := 57) d_X12_isAsSeen_29 (by decide) (fun h29 => ?_) (fun h29 => ?_)
          ·
            exact hj9 s1.2.2
          ·
            refine gm_aload_n d_X12_isAsSeen_32 rfl 0 rfl ?_
            refine gm_aload_n d_X12_isAsSeen_33 rfl 0 rfl ?_
            refine gm_getR F_12_s gw_890 d_X12_isAsSeen_34 (fun v10 _ => ?_)
            refine gm_bipush (v := 63) d_X12_isAsSeen_37 (by decide) ?_
            refine gm_iload_n d_X12_isAsSeen_39 rfl 3 rfl ?_
            refine gm_iadd d_X12_isAsSeen_40 ?_
            refine gm_iald d_X12_isAsSeen_41 (fun v11 _ => ?_)
            refine gm_grd (fun g42 => ?_)
            refine gm_callV (k0 := 12) [.int v11] (c_X12_holdsOf a0 v11 s1.2.2) g42 rfl B_X12_holdsOf gw_1074 gs_45 rfl rfl rfl d_X12_isAsSeen_42 (gm_kI (fun x13 m12 => ?_))
            refine gm_aload_n d_X12_isAsSeen_45 rfl 0 rfl ?_
            refine gm_getR F_12_s gw_890 d_X12_isAsSeen_46 (fun v14 _ => ?_)
            refine gm_bipush (v := 68) d_X12_isAsSeen_49 (by decide) ?_
            refine gm_iload_n d_X12_isAsSeen_51 rfl 3 rfl ?_
            refine gm_iadd d_X12_isAsSeen_52 ?_
            refine gm_iald d_X12_isAsSeen_53 (fun v15 _ => ?_)
            refine gm_icmp_ne (tgt := 61) d_X12_isAsSeen_54 (by decide) (fun h54 => ?_) (fun h54 => ?_)
            ·
              refine gm_iconst (v := 0) d_X12_isAsSeen_61 (by decide) ?_
              exact hj7 ((0 : Int32), m12)
            ·
              exact hj9 m12
theorem d_X12_areAsSeen_0 : decode prog_14_method_68_code 0 = .ok (.iconst 1, 1) := ge_iconst_1 (by decide +kernel)
theorem d_X12_areAsSeen_1 : decode prog_14_method_68_code 1 = .ok (.istore_n 1, 1) := ge_istore_n_1 (by decide +kernel)
theorem d_X12_areAsSeen_2 : decode prog_14_method_68_code 2 = .ok (.iconst 0, 1) := ge_iconst_0 (by decide +kernel)
theorem d_X12_areAsSeen_3 : decode prog_14_method_68_code 3 = .ok (.istore_n 2, 1) := ge_istore_n_2 (by decide +kernel)
theorem d_X12_areAsSeen_4 : decode prog_14_method_68_code 4 = .ok (.iload_n 2, 1) := ge_iload_n_2 (by decide +kernel)
theorem d_X12_areAsSeen_5 : decode prog_14_method_68_code 5 = .ok (.bipush 20, 2) := ge_bipush (by decide +kernel)
theorem d_X12_areAsSeen_7 : decode prog_14_method_68_code 7 = .ok (.if_icmp .gt 23, 3) := ge_if_icmp_gt (by decide +kernel)
theorem d_X12_areAsSeen_10 : decode prog_14_method_68_code 10 = .ok (.iload_n 1, 1) := ge_iload_n_1 (by decide +kernel)
theorem d_X12_areAsSeen_11 : decode prog_14_method_68_code 11 = .ok (.ifCond .eq 19, 3) := ge_ifCond_eq (by decide +kernel)
theorem d_X12_areAsSeen_14 : decode prog_14_method_68_code 14 = .ok (.aload_n 0, 1) := ge_aload_n_0 (by decide +kernel)
theorem d_X12_areAsSeen_15 : decode prog_14_method_68_code 15 = .ok (.iload_n 2, 1) := ge_iload_n_2 (by decide +kernel)
theorem d_X12_areAsSeen_16 : decode prog_14_method_68_code 16 = .ok (.invokevirtual 234, 3) := ge_invokevirtual (by decide +kernel)
theorem d_X12_areAsSeen_19 : decode prog_14_method_68_code 19 = .ok (.istore_n 1, 1) := ge_istore_n_1 (by decide +kernel)
theorem d_X12_areAsSeen_20 : decode prog_14_method_68_code 20 = .ok (.aload_n 0, 1) := ge_aload_n_0 (by decide +kernel)
theorem d_X12_areAsSeen_21 : decode prog_14_method_68_code 21 = .ok (.invokevirtual 177, 3) := ge_invokevirtual (by decide +kernel)
theorem d_X12_areAsSeen_24 : decode prog_14_method_68_code 24 = .ok (.iinc 2 1, 3) := ge_iinc (by decide +kernel)
theorem d_X12_areAsSeen_27 : decode prog_14_method_68_code 27 = .ok (.goto (-23), 3) := ge_goto (by decide +kernel)
theorem d_X12_areAsSeen_30 : decode prog_14_method_68_code 30 = .ok (.aload_n 0, 1) := ge_aload_n_0 (by decide +kernel)
theorem d_X12_areAsSeen_31 : decode prog_14_method_68_code 31 = .ok (.invokevirtual 186, 3) := ge_invokevirtual (by decide +kernel)
theorem d_X12_areAsSeen_34 : decode prog_14_method_68_code 34 = .ok (.iload_n 1, 1) := ge_iload_n_1 (by decide +kernel)
theorem d_X12_areAsSeen_35 : decode prog_14_method_68_code 35 = .ok (.ireturn, 1) := ge_ireturn (by decide +kernel)
def f_X12_areAsSeen (a0 : Nat) (μ : gm_M) : Option (Option Value × gm_M) := gm_loop (fun (s1 : Int32 × Int32 × gm_M) => gm_j (fun (s2 : Unit) => if gm_tag s1.2.2 a0 = 17 then gm_bV (f_X12_goesBack a0 s1.2.2) (fun m4 => if s1.1 = 0 ∨ s1.1 = 1 then some (Sum.inr (some (.int s1.1), m4)) else none) else none) (fun j3 => if (20 : Int32) < s1.2.1 then j3 () else if s1.1 = 0 then j3 () else if gm_tag s1.2.2 a0 = 17 then gm_bI (f_X12_isAsSeen a0 s1.2.1 s1.2.2) (fun x7 m6 => if gm_tag m6 a0 = 17 then gm_bV (f_X12_goes a0 m6) (fun m8 => some (Sum.inl (x7, (s1.2.1 + (1 : Int32)), m8))) else none) else none)) 5000 ((1 : Int32), (0 : Int32), μ)
set_option maxHeartbeats 4000000 in
theorem c_X12_areAsSeen (a0 : Nat) (μ : gm_M) : gm_Call ({ cls := "GumBubbleModel", name := "areAsSeen", desc := "()Z" } : Jvm.MethodName) prog_14_method_68_code 3 (some .boolean) 5 0 0 [.ref a0] μ (f_X12_areAsSeen a0 μ) := by
  refine gm_start PN_12 (Nat.le_of_ble_eq_true rfl) (fun res μe => ?_)
  unfold f_X12_areAsSeen
  show gm_A "GumBubbleModel" (gm_nm "areAsSeen") _ _ _ _ _ _ _ _ _ 0 [(0, .ref a0)] [] _ _
  refine gm_iconst (v := 1) d_X12_areAsSeen_0 (by decide) ?_
  refine gm_istore_n (L' := [(1, .int (1 : Int32)), (0, .ref a0)]) d_X12_areAsSeen_1 rfl (Nat.le_of_ble_eq_true rfl) rfl ?_
  refine gm_iconst (v := 0) d_X12_areAsSeen_2 (by decide) ?_
  refine gm_istore_n (L' := [(2, .int (0 : Int32)), (1, .int (1 : Int32)), (0, .ref a0)]) d_X12_areAsSeen_3 rfl (Nat.le_of_ble_eq_true rfl) rfl ?_
  refine gm_sub (L' := [(0, .ref a0), (1, .int (1 : Int32)), (2, .int (0 : Int32))]) [2, 1, 0] rfl ?_
  refine gm_lp (S := Int32 × Int32 × gm_M) (fun _ => 0) (fun _ => 0) (fun s1 => s1.2.2) (fun s1 => [(0, .ref a0), (1, .int s1.1), (2, .int s1.2.1)]) (fun _ => []) (fun s1 => ?_) 5000 ((1 : Int32), (0 : Int32), μ)
  refine gm_iload_n d_X12_areAsSeen_4 rfl 2 rfl ?_
  refine gm_bipush (v := 20) d_X12_areAsSeen_5 (by decide) ?_
  refine gm_join (S := Unit) (pj := 30) (kj := 0) (nj := 0) (fun s2 => s1.2.2) (fun s2 => [(0, .ref a0), (1, .int s1.1), (2, .int s1.2.1)]) (fun s2 => []) (fun s2 => ?_) (fun j3 hj3 => ?_)
  ·
    refine gm_aload_n d_X12_areAsSeen_30 rfl 0 rfl ?_
    refine gm_grd (fun g31 => ?_)
    refine gm_callV (k0 := 12) [] (c_X12_goesBack a0 s1.2.2) g31 rfl B_X12_goesBack gw_1130 gs_53 rfl rfl rfl d_X12_areAsSeen_31 (gm_kV (fun m4 => ?_))
    refine gm_iload_n d_X12_areAsSeen_34 rfl 1 rfl ?_
    exact gm_zret rfl d_X12_areAsSeen_35 (Nat.le_of_ble_eq_true rfl) (Nat.le_of_ble_eq_true rfl) (fun h => h)
  ·
    refine gm_icmp_gt (tgt := 30) d_X12_areAsSeen_7 (by decide) (fun h7 => ?_) (fun h7 => ?_)
    ·
      exact hj3 ()
    ·
      refine gm_iload_n d_X12_areAsSeen_10 rfl 1 rfl ?_
      refine gm_if_eq (tgt := 30) d_X12_areAsSeen_11 (by decide) (fun h11 => ?_) (fun h11 => ?_)
      ·
        exact hj3 ()
      ·
        refine gm_aload_n d_X12_areAsSeen_14 rfl 0 rfl ?_
        refine gm_iload_n d_X12_areAsSeen_15 rfl 2 rfl ?_
        refine gm_grd (fun g16 => ?_)
        refine gm_callV (k0 := 12) [.int s1.2.1] (c_X12_isAsSeen a0 s1.2.1 s1.2.2) g16 rfl B_X12_isAsSeen gw_1234 gs_61 rfl rfl rfl d_X12_areAsSeen_16 (gm_kI (fun x7 m6 => ?_))
        refine gm_istore_n (L' := [(1, .int x7), (0, .ref a0), (2, .int s1.2.1)]) d_X12_areAsSeen_19 rfl (Nat.le_of_ble_eq_true rfl) rfl ?_
        refine gm_aload_n d_X12_areAsSeen_20 rfl 1 rfl ?_
        refine gm_grd (fun g21 => ?_)
        refine gm_callV (k0 := 12) [] (c_X12_goes a0 m6) g21 rfl B_X12_goes gw_1114 gs_50 rfl rfl rfl d_X12_areAsSeen_21 (gm_kV (fun m8 => ?_))
        refine gm_iinc (v := s1.2.1 + (1 : Int32)) (L' := [(2, .int (s1.2.1 + (1 : Int32))), (1, .int x7), (0, .ref a0)]) d_X12_areAsSeen_24 2 rfl rfl (Nat.le_of_ble_eq_true rfl) rfl ?_
        refine gm_goto (tgt := 4) d_X12_areAsSeen_27 (by decide) ?_
        refine gm_sub (L' := [(0, .ref a0), (1, .int x7), (2, .int (s1.2.1 + (1 : Int32)))]) [2, 1, 0] rfl ?_
        exact gm_back (fun h => h)
theorem d_X12_as_0 : decode prog_14_method_89_code 0 = .ok (.aload_n 0, 1) := ge_aload_n_0 (by decide +kernel)
theorem d_X12_as_1 : decode prog_14_method_89_code 1 = .ok (.iload_n 1, 1) := ge_iload_n_1 (by decide +kernel)
theorem d_X12_as_2 : decode prog_14_method_89_code 2 = .ok (.invokevirtual 154, 3) := ge_invokevirtual (by decide +kernel)
theorem d_X12_as_5 : decode prog_14_method_89_code 5 = .ok (.ifCond .eq 13, 3) := ge_ifCond_eq (by decide +kernel)
theorem d_X12_as_8 : decode prog_14_method_89_code 8 = .ok (.iload_n 2, 1) := ge_iload_n_2 (by decide +kernel)
theorem d_X12_as_9 : decode prog_14_method_89_code 9 = .ok (.iconst 0, 1) := ge_iconst_0 (by decide +kernel)
theorem d_X12_as_10 : decode prog_14_method_89_code 10 = .ok (.bipush 6, 2) := ge_bipush (by decide +kernel)
theorem d_X12_as_12 : decode prog_14_method_89_code 12 = .ok (.invokestatic 44, 3) := ge_invokestatic (by decide +kernel)
theorem d_X12_as_15 : decode prog_14_method_89_code 15 = .ok (.ifCond .ne 5, 3) := ge_ifCond_ne (by decide +kernel)
theorem d_X12_as_18 : decode prog_14_method_89_code 18 = .ok (.iconst (-1), 1) := ge_iconst_m1_ (by decide +kernel)
theorem d_X12_as_19 : decode prog_14_method_89_code 19 = .ok (.ireturn, 1) := ge_ireturn (by decide +kernel)
theorem d_X12_as_20 : decode prog_14_method_89_code 20 = .ok (.aload_n 0, 1) := ge_aload_n_0 (by decide +kernel)
theorem d_X12_as_21 : decode prog_14_method_89_code 21 = .ok (.getfield 9, 3) := ge_getfield (by decide +kernel)
theorem d_X12_as_24 : decode prog_14_method_89_code 24 = .ok (.bipush 33, 2) := ge_bipush (by decide +kernel)
theorem d_X12_as_26 : decode prog_14_method_89_code 26 = .ok (.iload_n 1, 1) := ge_iload_n_1 (by decide +kernel)
theorem d_X12_as_27 : decode prog_14_method_89_code 27 = .ok (.iadd, 1) := ge_iadd (by decide +kernel)
theorem d_X12_as_28 : decode prog_14_method_89_code 28 = .ok (.iaload, 1) := ge_iaload (by decide +kernel)
theorem d_X12_as_29 : decode prog_14_method_89_code 29 = .ok (.iload_n 2, 1) := ge_iload_n_2 (by decide +kernel)
theorem d_X12_as_30 : decode prog_14_method_89_code 30 = .ok (.invokestatic 259, 3) := ge_invokestatic (by decide +kernel)
theorem d_X12_as_33 : decode prog_14_method_89_code 33 = .ok (.ifCond .eq 15, 3) := ge_ifCond_eq (by decide +kernel)
theorem d_X12_as_36 : decode prog_14_method_89_code 36 = .ok (.aload_n 0, 1) := ge_aload_n_0 (by decide +kernel)
theorem d_X12_as_37 : decode prog_14_method_89_code 37 = .ok (.getfield 9, 3) := ge_getfield (by decide +kernel)
theorem d_X12_as_40 : decode prog_14_method_89_code 40 = .ok (.bipush 38, 2) := ge_bipush (by decide +kernel)
theorem d_X12_as_42 : decode prog_14_method_89_code 42 = .ok (.iload_n 1, 1) := ge_iload_n_1 (by decide +kernel)
theorem d_X12_as_43 : decode prog_14_method_89_code 43 = .ok (.iadd, 1) := ge_iadd (by decide +kernel)
theorem d_X12_as_44 : decode prog_14_method_89_code 44 = .ok (.iaload, 1) := ge_iaload (by decide +kernel)
theorem d_X12_as_45 : decode prog_14_method_89_code 45 = .ok (.goto 5, 3) := ge_goto (by decide +kernel)
theorem d_X12_as_48 : decode prog_14_method_89_code 48 = .ok (.bipush (-6), 2) := ge_bipush (by decide +kernel)
theorem d_X12_as_50 : decode prog_14_method_89_code 50 = .ok (.ireturn, 1) := ge_ireturn (by decide +kernel)
def f_X12_as (a0 : Nat) (a1 : Int32) (a2 : Int32) (μ : gm_M) : Option (Option Value × gm_M) := if gm_tag μ a0 = 17 then gm_bI (f_X12_isChild a0 a1 μ) (fun x2 m1 => if x2 = 0 then some (some (.int (-1 : Int32)), m1) else gm_bI (f_X12_in a2 (0 : Int32) (6 : Int32) m1) (fun x4 m3 => if x4 ≠ 0 then gm_gR m3 [17] a0 1 (fun v5 => gm_aI m3 v5 ((33 : Int32) + a1) (fun v6 => gm_bI (f_X12_isUnder v6 a2 m3) (fun x8 m7 => if x8 = 0 then some (some (.int (-6 : Int32)), m7) else gm_gR m7 [17] a0 1 (fun v9 => gm_aI m7 v9 ((38 : Int32) + a1) (fun v10 => some (some (.int v10), m7)))))) else some (some (.int (-1 : Int32)), m3))) else none
set_option maxHeartbeats 4000000 in
theorem c_X12_as (a0 : Nat) (a1 : Int32) (a2 : Int32) (μ : gm_M) : gm_Call ({ cls := "GumBubbleModel", name := "as", desc := "(II)I" } : Jvm.MethodName) prog_14_method_89_code 3 (some .int) 2 0 0 [.ref a0, .int a1, .int a2] μ (f_X12_as a0 a1 a2 μ) := by
  refine gm_start PN_12 (Nat.le_of_ble_eq_true rfl) (fun res μe => ?_)
  unfold f_X12_as
  show gm_A "GumBubbleModel" (gm_nm "as") _ _ _ _ _ _ _ _ _ 0 [(0, .ref a0), (1, .int a1), (2, .int a2)] [] _ _
  refine gm_aload_n d_X12_as_0 rfl 0 rfl ?_
  refine gm_iload_n d_X12_as_1 rfl 1 rfl ?_
  refine gm_grd (fun g2 => ?_)
  refine gm_callV (k0 := 12) [.int a1] (c_X12_isChild a0 a1 μ) g2 rfl B_X12_isChild gw_1047 gs_40 rfl rfl rfl d_X12_as_2 (gm_kI (fun x2 m1 => ?_))
  refine gm_if_eq (tgt := 18) d_X12_as_5 (by decide) (fun h5 => ?_) (fun h5 => ?_)
  ·
    refine gm_iconst (v := -1) d_X12_as_18 (by decide) ?_
    exact gm_iret rfl d_X12_as_19 (Nat.le_of_ble_eq_true rfl) (Nat.le_of_ble_eq_true rfl) (fun h => h)
  ·
    refine gm_iload_n d_X12_as_8 rfl 2 rfl ?_
    refine gm_iconst (v := 0) d_X12_as_9 (by decide) ?_
    refine gm_bipush (v := 6) d_X12_as_10 (by decide) ?_
    refine gm_callS [.int a2, .int (0 : Int32), .int (6 : Int32)] (c_X12_in a2 (0 : Int32) (6 : Int32) m1) B_X12_in gw_964 rfl rfl rfl d_X12_as_12 (gm_kI (fun x4 m3 => ?_))
    refine gm_if_ne (tgt := 20) d_X12_as_15 (by decide) (fun h15 => ?_) (fun h15 => ?_)
    ·
      refine gm_aload_n d_X12_as_20 rfl 0 rfl ?_
      refine gm_getR F_12_s gw_890 d_X12_as_21 (fun v5 _ => ?_)
      refine gm_bipush (v := 33) d_X12_as_24 (by decide) ?_
      refine gm_iload_n d_X12_as_26 rfl 1 rfl ?_
      refine gm_iadd d_X12_as_27 ?_
      refine gm_iald d_X12_as_28 (fun v6 _ => ?_)
      refine gm_iload_n d_X12_as_29 rfl 2 rfl ?_
      refine gm_callS [.int v6, .int a2] (c_X12_isUnder v6 a2 m3) B_X12_isUnder gw_1278 rfl rfl rfl d_X12_as_30 (gm_kI (fun x8 m7 => ?_))
      refine gm_if_eq (tgt := 48) d_X12_as_33 (by decide) (fun h33 => ?_) (fun h33 => ?_)
      ·
        refine gm_bipush (v := -6) d_X12_as_48 (by decide) ?_
        exact gm_iret rfl d_X12_as_50 (Nat.le_of_ble_eq_true rfl) (Nat.le_of_ble_eq_true rfl) (fun h => h)
      ·
        refine gm_aload_n d_X12_as_36 rfl 0 rfl ?_
        refine gm_getR F_12_s gw_890 d_X12_as_37 (fun v9 _ => ?_)
        refine gm_bipush (v := 38) d_X12_as_40 (by decide) ?_
        refine gm_iload_n d_X12_as_42 rfl 1 rfl ?_
        refine gm_iadd d_X12_as_43 ?_
        refine gm_iald d_X12_as_44 (fun v10 _ => ?_)
        refine gm_goto (tgt := 50) d_X12_as_45 (by decide) ?_
        exact gm_iret rfl d_X12_as_50 (Nat.le_of_ble_eq_true rfl) (Nat.le_of_ble_eq_true rfl) (fun h => h)
    ·
      refine gm_iconst (v := -1) d_X12_as_18 (by decide) ?_
      exact gm_iret rfl d_X12_as_19 (Nat.le_of_ble_eq_true rfl) (Nat.le_of_ble_eq_true rfl) (fun h => h)
theorem d_X12_lowest_0 : decode prog_14_method_53_code 0 = .ok (.lload_n 0, 1) := ge_lload_n_0 (by decide +kernel)
theorem d_X12_lowest_1 : decode prog_14_method_53_code 1 = .ok (.lstore 5, 2) := ge_lstore (by decide +kernel)
theorem d_X12_lowest_3 : decode prog_14_method_53_code 3 = .ok (.lload_n 2, 1) := ge_lload_n_2 (by decide +kernel)
theorem d_X12_lowest_4 : decode prog_14_method_53_code 4 = .ok (.lstore 7, 2) := ge_lstore (by decide +kernel)
theorem d_X12_lowest_6 : decode prog_14_method_53_code 6 = .ok (.lload 7, 2) := ge_lload (by decide +kernel)
theorem d_X12_lowest_8 : decode prog_14_method_53_code 8 = .ok (.lconst 0, 1) := ge_lconst_0 (by decide +kernel)
theorem d_X12_lowest_9 : decode prog_14_method_53_code 9 = .ok (.lcmp, 1) := ge_lcmp (by decide +kernel)
theorem d_X12_lowest_10 : decode prog_14_method_53_code 10 = .ok (.ifCond .eq 21, 3) := ge_ifCond_eq (by decide +kernel)
theorem d_X12_lowest_13 : decode prog_14_method_53_code 13 = .ok (.lload 5, 2) := ge_lload (by decide +kernel)
theorem d_X12_lowest_15 : decode prog_14_method_53_code 15 = .ok (.lload 7, 2) := ge_lload (by decide +kernel)
theorem d_X12_lowest_17 : decode prog_14_method_53_code 17 = .ok (.lrem, 1) := ge_lrem (by decide +kernel)
theorem d_X12_lowest_18 : decode prog_14_method_53_code 18 = .ok (.lstore 9, 2) := ge_lstore (by decide +kernel)
theorem d_X12_lowest_20 : decode prog_14_method_53_code 20 = .ok (.lload 7, 2) := ge_lload (by decide +kernel)
theorem d_X12_lowest_22 : decode prog_14_method_53_code 22 = .ok (.lstore 5, 2) := ge_lstore (by decide +kernel)
theorem d_X12_lowest_24 : decode prog_14_method_53_code 24 = .ok (.lload 9, 2) := ge_lload (by decide +kernel)
theorem d_X12_lowest_26 : decode prog_14_method_53_code 26 = .ok (.lstore 7, 2) := ge_lstore (by decide +kernel)
theorem d_X12_lowest_28 : decode prog_14_method_53_code 28 = .ok (.goto (-22), 3) := ge_goto (by decide +kernel)
theorem d_X12_lowest_31 : decode prog_14_method_53_code 31 = .ok (.iload 4, 2) := ge_iload (by decide +kernel)
theorem d_X12_lowest_33 : decode prog_14_method_53_code 33 = .ok (.ifCond .ne 7, 3) := ge_ifCond_ne (by decide +kernel)
theorem d_X12_lowest_36 : decode prog_14_method_53_code 36 = .ok (.lload_n 0, 1) := ge_lload_n_0 (by decide +kernel)
theorem d_X12_lowest_37 : decode prog_14_method_53_code 37 = .ok (.goto 4, 3) := ge_goto (by decide +kernel)
theorem d_X12_lowest_40 : decode prog_14_method_53_code 40 = .ok (.lload_n 2, 1) := ge_lload_n_2 (by decide +kernel)
theorem d_X12_lowest_41 : decode prog_14_method_53_code 41 = .ok (.lload 5, 2) := ge_lload (by decide +kernel)
theorem d_X12_lowest_43 : decode prog_14_method_53_code 43 = .ok (.ldiv, 1) := ge_ldiv (by decide +kernel)
theorem d_X12_lowest_44 : decode prog_14_method_53_code 44 = .ok (.lreturn, 1) := ge_lreturn (by decide +kernel)
def f_X12_lowest (a0 : Int64) (a1 : Int64) (a2 : Int32) (μ : gm_M) : Option (Option Value × gm_M) := gm_loop (fun (s1 : Int64 × Int64) => if (lg_cmp s1.2 (0 : Int64)) = 0 then gm_j (fun (s2 : Int64) => if s1.1 = 0 then none else some (Sum.inr (some (.long (s2 / s1.1)), μ))) (fun j3 => if a2 ≠ 0 then j3 a1 else j3 a0) else if s1.2 = 0 then none else some (Sum.inl (s1.2, (s1.1 - s1.1 / s1.2 * s1.2)))) 5000 (a0, a1)
set_option maxHeartbeats 4000000 in
theorem c_X12_lowest (a0 : Int64) (a1 : Int64) (a2 : Int32) (μ : gm_M) : gm_Call ({ cls := "GumBubbleModel", name := "lowest", desc := "(JJI)J" } : Jvm.MethodName) prog_14_method_53_code 11 (some .long) 0 0 0 [.long a0, .long a1, .int a2] μ (f_X12_lowest a0 a1 a2 μ) := by
  refine gm_start PN_12 (Nat.le_of_ble_eq_true rfl) (fun res μe => ?_)
  unfold f_X12_lowest
  show gm_A "GumBubbleModel" (gm_nm "lowest") _ _ _ _ _ _ _ _ _ 0 [(0, .long a0), (2, .long a1), (4, .int a2)] [] _ _
  refine gm_lload_n d_X12_lowest_0 rfl 0 rfl ?_
  refine gm_lstore (L' := [(5, .long a0), (0, .long a0), (2, .long a1), (4, .int a2)]) d_X12_lowest_1 (Nat.le_of_ble_eq_true rfl) rfl ?_
  refine gm_lload_n d_X12_lowest_3 rfl 2 rfl ?_
  refine gm_lstore (L' := [(7, .long a1), (5, .long a0), (0, .long a0), (2, .long a1), (4, .int a2)]) d_X12_lowest_4 (Nat.le_of_ble_eq_true rfl) rfl ?_
  refine gm_sub (L' := [(0, .long a0), (2, .long a1), (4, .int a2), (5, .long a0), (7, .long a1)]) [2, 3, 4, 1, 0] rfl ?_
  refine gm_lp (S := Int64 × Int64) (fun _ => 0) (fun _ => 0) (fun s1 => μ) (fun s1 => [(0, .long a0), (2, .long a1), (4, .int a2), (5, .long s1.1), (7, .long s1.2)]) (fun _ => []) (fun s1 => ?_) 5000 (a0, a1)
  refine gm_lload d_X12_lowest_6 4 rfl ?_
  refine gm_lconst (v := 0) d_X12_lowest_8 (by decide) ?_
  refine gm_lcmp d_X12_lowest_9 ?_
  refine gm_if_eq (tgt := 31) d_X12_lowest_10 (by decide) (fun h10 => ?_) (fun h10 => ?_)
  ·
    refine gm_iload d_X12_lowest_31 2 rfl ?_
    refine gm_join (S := Int64) (pj := 41) (kj := 0) (nj := 0) (fun s2 => μ) (fun s2 => [(0, .long a0), (2, .long a1), (4, .int a2), (5, .long s1.1), (7, .long s1.2)]) (fun s2 => [.long s2]) (fun s2 => ?_) (fun j3 hj3 => ?_)
    ·
      refine gm_lload d_X12_lowest_41 3 rfl ?_
      refine gm_ldiv d_X12_lowest_43 ?_
      exact gm_lret rfl d_X12_lowest_44 (Nat.le_of_ble_eq_true rfl) (Nat.le_of_ble_eq_true rfl) (fun h => h)
    ·
      refine gm_if_ne (tgt := 40) d_X12_lowest_33 (by decide) (fun h33 => ?_) (fun h33 => ?_)
      ·
        refine gm_lload_n d_X12_lowest_40 rfl 1 rfl ?_
        exact hj3 a1
      ·
        refine gm_lload_n d_X12_lowest_36 rfl 0 rfl ?_
        refine gm_goto (tgt := 41) d_X12_lowest_37 (by decide) ?_
        exact hj3 a0
  ·
    refine gm_lload d_X12_lowest_13 3 rfl ?_
    refine gm_lload d_X12_lowest_15 4 rfl ?_
    refine gm_lrem d_X12_lowest_17 ?_
    refine gm_lstore (L' := [(9, .long (s1.1 - s1.1 / s1.2 * s1.2)), (0, .long a0), (2, .long a1), (4, .int a2), (5, .long s1.1), (7, .long s1.2)]) d_X12_lowest_18 (Nat.le_of_ble_eq_true rfl) rfl ?_
    refine gm_lload d_X12_lowest_20 5 rfl ?_
    refine gm_lstore (L' := [(5, .long s1.2), (9, .long (s1.1 - s1.1 / s1.2 * s1.2)), (0, .long a0), (2, .long a1), (4, .int a2), (7, .long s1.2)]) d_X12_lowest_22 (Nat.le_of_ble_eq_true rfl) rfl ?_
    refine gm_lload d_X12_lowest_24 1 rfl ?_
    refine gm_lstore (L' := [(7, .long (s1.1 - s1.1 / s1.2 * s1.2)), (5, .long s1.2), (9, .long (s1.1 - s1.1 / s1.2 * s1.2)), (0, .long a0), (2, .long a1), (4, .int a2)]) d_X12_lowest_26 (Nat.le_of_ble_eq_true rfl) rfl ?_
    refine gm_goto (tgt := 6) d_X12_lowest_28 (by decide) ?_
    refine gm_sub (L' := [(0, .long a0), (2, .long a1), (4, .int a2), (5, .long s1.2), (7, .long (s1.1 - s1.1 / s1.2 * s1.2))]) [3, 4, 5, 1, 0] rfl ?_
    exact gm_back (fun h => h)
theorem d_X12_thin_0 : decode prog_14_method_54_code 0 = .ok (.iload_n 0, 1) := ge_iload_n_0 (by decide +kernel)
theorem d_X12_thin_1 : decode prog_14_method_54_code 1 = .ok (.iconst 5, 1) := ge_iconst_5 (by decide +kernel)
theorem d_X12_thin_2 : decode prog_14_method_54_code 2 = .ok (.iload_n 1, 1) := ge_iload_n_1 (by decide +kernel)
theorem d_X12_thin_3 : decode prog_14_method_54_code 3 = .ok (.imul, 1) := ge_imul (by decide +kernel)
theorem d_X12_thin_4 : decode prog_14_method_54_code 4 = .ok (.isub, 1) := ge_isub (by decide +kernel)
theorem d_X12_thin_5 : decode prog_14_method_54_code 5 = .ok (.invokestatic 142, 3) := ge_invokestatic (by decide +kernel)
theorem d_X12_thin_8 : decode prog_14_method_54_code 8 = .ok (.ireturn, 1) := ge_ireturn (by decide +kernel)
def f_X12_thin (a0 : Int32) (a1 : Int32) (μ : gm_M) : Option (Option Value × gm_M) := gm_bI (f_X12_above (a0 - ((5 : Int32) * a1)) μ) (fun x2 m1 => some (some (.int x2), m1))
set_option maxHeartbeats 4000000 in
theorem c_X12_thin (a0 : Int32) (a1 : Int32) (μ : gm_M) : gm_Call ({ cls := "GumBubbleModel", name := "thin", desc := "(II)I" } : Jvm.MethodName) prog_14_method_54_code 2 (some .int) 1 0 0 [.int a0, .int a1] μ (f_X12_thin a0 a1 μ) := by
  refine gm_start PN_12 (Nat.le_of_ble_eq_true rfl) (fun res μe => ?_)
  unfold f_X12_thin
  show gm_A "GumBubbleModel" (gm_nm "thin") _ _ _ _ _ _ _ _ _ 0 [(0, .int a0), (1, .int a1)] [] _ _
  refine gm_iload_n d_X12_thin_0 rfl 0 rfl ?_
  refine gm_iconst (v := 5) d_X12_thin_1 (by decide) ?_
  refine gm_iload_n d_X12_thin_2 rfl 1 rfl ?_
  refine gm_imul d_X12_thin_3 ?_
  refine gm_isub d_X12_thin_4 ?_
  refine gm_callS [.int (a0 - ((5 : Int32) * a1))] (c_X12_above (a0 - ((5 : Int32) * a1)) μ) B_X12_above gw_1067 rfl rfl rfl d_X12_thin_5 (gm_kI (fun x2 m1 => ?_))
  exact gm_iret rfl d_X12_thin_8 (Nat.le_of_ble_eq_true rfl) (Nat.le_of_ble_eq_true rfl) (fun h => h)
theorem d_X12_beats_0 : decode prog_14_method_59_code 0 = .ok (.aload_n 0, 1) := ge_aload_n_0 (by decide +kernel)
theorem d_X12_beats_1 : decode prog_14_method_59_code 1 = .ok (.iload_n 1, 1) := ge_iload_n_1 (by decide +kernel)
theorem d_X12_beats_2 : decode prog_14_method_59_code 2 = .ok (.invokevirtual 154, 3) := ge_invokevirtual (by decide +kernel)
theorem d_X12_beats_5 : decode prog_14_method_59_code 5 = .ok (.ifCond .eq 25, 3) := ge_ifCond_eq (by decide +kernel)
theorem d_X12_beats_8 : decode prog_14_method_59_code 8 = .ok (.aload_n 0, 1) := ge_aload_n_0 (by decide +kernel)
theorem d_X12_beats_9 : decode prog_14_method_59_code 9 = .ok (.iload_n 2, 1) := ge_iload_n_2 (by decide +kernel)
theorem d_X12_beats_10 : decode prog_14_method_59_code 10 = .ok (.invokevirtual 154, 3) := ge_invokevirtual (by decide +kernel)
theorem d_X12_beats_13 : decode prog_14_method_59_code 13 = .ok (.ifCond .eq 17, 3) := ge_ifCond_eq (by decide +kernel)
theorem d_X12_beats_16 : decode prog_14_method_59_code 16 = .ok (.iload_n 1, 1) := ge_iload_n_1 (by decide +kernel)
theorem d_X12_beats_17 : decode prog_14_method_59_code 17 = .ok (.iload_n 2, 1) := ge_iload_n_2 (by decide +kernel)
theorem d_X12_beats_18 : decode prog_14_method_59_code 18 = .ok (.if_icmp .eq 12, 3) := ge_if_icmp_eq (by decide +kernel)
theorem d_X12_beats_21 : decode prog_14_method_59_code 21 = .ok (.iload_n 3, 1) := ge_iload_n_3 (by decide +kernel)
theorem d_X12_beats_22 : decode prog_14_method_59_code 22 = .ok (.iconst 0, 1) := ge_iconst_0 (by decide +kernel)
theorem d_X12_beats_23 : decode prog_14_method_59_code 23 = .ok (.iconst 1, 1) := ge_iconst_1 (by decide +kernel)
theorem d_X12_beats_24 : decode prog_14_method_59_code 24 = .ok (.invokestatic 44, 3) := ge_invokestatic (by decide +kernel)
theorem d_X12_beats_27 : decode prog_14_method_59_code 27 = .ok (.ifCond .ne 7, 3) := ge_ifCond_ne (by decide +kernel)
theorem d_X12_beats_30 : decode prog_14_method_59_code 30 = .ok (.ldc2_w 207, 3) := ge_ldc2_w (by decide +kernel)
theorem d_X12_beats_33 : decode prog_14_method_59_code 33 = .ok (.lreturn, 1) := ge_lreturn (by decide +kernel)
theorem d_X12_beats_34 : decode prog_14_method_59_code 34 = .ok (.aload_n 0, 1) := ge_aload_n_0 (by decide +kernel)
theorem d_X12_beats_35 : decode prog_14_method_59_code 35 = .ok (.iload_n 1, 1) := ge_iload_n_1 (by decide +kernel)
theorem d_X12_beats_36 : decode prog_14_method_59_code 36 = .ok (.invokevirtual 148, 3) := ge_invokevirtual (by decide +kernel)
theorem d_X12_beats_39 : decode prog_14_method_59_code 39 = .ok (.istore 4, 2) := ge_istore (by decide +kernel)
theorem d_X12_beats_41 : decode prog_14_method_59_code 41 = .ok (.aload_n 0, 1) := ge_aload_n_0 (by decide +kernel)
theorem d_X12_beats_42 : decode prog_14_method_59_code 42 = .ok (.iload_n 2, 1) := ge_iload_n_2 (by decide +kernel)
theorem d_X12_beats_43 : decode prog_14_method_59_code 43 = .ok (.invokevirtual 148, 3) := ge_invokevirtual (by decide +kernel)
theorem d_X12_beats_46 : decode prog_14_method_59_code 46 = .ok (.istore 5, 2) := ge_istore (by decide +kernel)
theorem d_X12_beats_48 : decode prog_14_method_59_code 48 = .ok (.lconst 0, 1) := ge_lconst_0 (by decide +kernel)
theorem d_X12_beats_49 : decode prog_14_method_59_code 49 = .ok (.lstore 6, 2) := ge_lstore (by decide +kernel)
theorem d_X12_beats_51 : decode prog_14_method_59_code 51 = .ok (.iconst 0, 1) := ge_iconst_0 (by decide +kernel)
theorem d_X12_beats_52 : decode prog_14_method_59_code 52 = .ok (.istore 8, 2) := ge_istore (by decide +kernel)
theorem d_X12_beats_54 : decode prog_14_method_59_code 54 = .ok (.iload 8, 2) := ge_iload (by decide +kernel)
theorem d_X12_beats_56 : decode prog_14_method_59_code 56 = .ok (.bipush 10, 2) := ge_bipush (by decide +kernel)
theorem d_X12_beats_58 : decode prog_14_method_59_code 58 = .ok (.if_icmp .ge 52, 3) := ge_if_icmp_ge (by decide +kernel)
theorem d_X12_beats_61 : decode prog_14_method_59_code 61 = .ok (.iconst 0, 1) := ge_iconst_0 (by decide +kernel)
theorem d_X12_beats_62 : decode prog_14_method_59_code 62 = .ok (.istore 9, 2) := ge_istore (by decide +kernel)
theorem d_X12_beats_64 : decode prog_14_method_59_code 64 = .ok (.iload 9, 2) := ge_iload (by decide +kernel)
theorem d_X12_beats_66 : decode prog_14_method_59_code 66 = .ok (.bipush 10, 2) := ge_bipush (by decide +kernel)
theorem d_X12_beats_68 : decode prog_14_method_59_code 68 = .ok (.if_icmp .ge 36, 3) := ge_if_icmp_ge (by decide +kernel)
theorem d_X12_beats_71 : decode prog_14_method_59_code 71 = .ok (.lload 6, 2) := ge_lload (by decide +kernel)
theorem d_X12_beats_73 : decode prog_14_method_59_code 73 = .ok (.iload 4, 2) := ge_iload (by decide +kernel)
theorem d_X12_beats_75 : decode prog_14_method_59_code 75 = .ok (.iload 8, 2) := ge_iload (by decide +kernel)
theorem d_X12_beats_77 : decode prog_14_method_59_code 77 = .ok (.invokestatic 204, 3) := ge_invokestatic (by decide +kernel)
theorem d_X12_beats_80 : decode prog_14_method_59_code 80 = .ok (.iload 5, 2) := ge_iload (by decide +kernel)
theorem d_X12_beats_82 : decode prog_14_method_59_code 82 = .ok (.iload 9, 2) := ge_iload (by decide +kernel)
theorem d_X12_beats_84 : decode prog_14_method_59_code 84 = .ok (.invokestatic 204, 3) := ge_invokestatic (by decide +kernel)
theorem d_X12_beats_87 : decode prog_14_method_59_code 87 = .ok (.if_icmp .le 7, 3) := ge_if_icmp_le (by decide +kernel)
theorem d_X12_beats_90 : decode prog_14_method_59_code 90 = .ok (.lconst 1, 1) := ge_lconst_1 (by decide +kernel)
theorem d_X12_beats_91 : decode prog_14_method_59_code 91 = .ok (.goto 4, 3) := ge_goto (by decide +kernel)
theorem d_X12_beats_94 : decode prog_14_method_59_code 94 = .ok (.lconst 0, 1) := ge_lconst_0 (by decide +kernel)
theorem d_X12_beats_95 : decode prog_14_method_59_code 95 = .ok (.ladd, 1) := ge_ladd (by decide +kernel)
theorem d_X12_beats_96 : decode prog_14_method_59_code 96 = .ok (.lstore 6, 2) := ge_lstore (by decide +kernel)
theorem d_X12_beats_98 : decode prog_14_method_59_code 98 = .ok (.iinc 9 1, 3) := ge_iinc (by decide +kernel)
theorem d_X12_beats_101 : decode prog_14_method_59_code 101 = .ok (.goto (-37), 3) := ge_goto (by decide +kernel)
theorem d_X12_beats_104 : decode prog_14_method_59_code 104 = .ok (.iinc 8 1, 3) := ge_iinc (by decide +kernel)
theorem d_X12_beats_107 : decode prog_14_method_59_code 107 = .ok (.goto (-53), 3) := ge_goto (by decide +kernel)
theorem d_X12_beats_110 : decode prog_14_method_59_code 110 = .ok (.lload 6, 2) := ge_lload (by decide +kernel)
theorem d_X12_beats_112 : decode prog_14_method_59_code 112 = .ok (.ldc2_w 218, 3) := ge_ldc2_w (by decide +kernel)
theorem d_X12_beats_115 : decode prog_14_method_59_code 115 = .ok (.iload_n 3, 1) := ge_iload_n_3 (by decide +kernel)
theorem d_X12_beats_116 : decode prog_14_method_59_code 116 = .ok (.invokestatic 214, 3) := ge_invokestatic (by decide +kernel)
theorem d_X12_beats_119 : decode prog_14_method_59_code 119 = .ok (.lreturn, 1) := ge_lreturn (by decide +kernel)
def f_X12_beats (a0 : Nat) (a1 : Int32) (a2 : Int32) (a3 : Int32) (μ : gm_M) : Option (Option Value × gm_M) := if gm_tag μ a0 = 17 then gm_bI (f_X12_isChild a0 a1 μ) (fun x2 m1 => gm_j (fun (s3 : gm_M) => some (some (.long (-9223372036854775808 : Int64)), s3)) (fun j4 => if x2 = 0 then j4 m1 else if gm_tag m1 a0 = 17 then gm_bI (f_X12_isChild a0 a2 m1) (fun x6 m5 => if x6 = 0 then j4 m5 else if a1 = a2 then j4 m5 else gm_bI (f_X12_in a3 (0 : Int32) (1 : Int32) m5) (fun x8 m7 => if x8 ≠ 0 then if gm_tag m7 a0 = 17 then gm_bI (f_X12_holdsOf a0 a1 m7) (fun x10 m9 => if gm_tag m9 a0 = 17 then gm_bI (f_X12_holdsOf a0 a2 m9) (fun x12 m11 => gm_loop (fun (s13 : Int64 × Int32 × gm_M) => if (10 : Int32) ≤ s13.2.1 then gm_bL (f_X12_lowest s13.1 (100 : Int64) a3 s13.2.2) (fun x15 m14 => some (Sum.inr (some (.long x15), m14))) else gm_loop (fun (s16 : Int64 × Int32 × gm_M) => if (10 : Int32) ≤ s16.2.1 then some (Sum.inr (Sum.inl (s16.1, (s13.2.1 + (1 : Int32)), s16.2.2))) else gm_bI (f_X12_thin x10 s13.2.1 s16.2.2) (fun x18 m17 => gm_bI (f_X12_thin x12 s16.2.1 m17) (fun x20 m19 => gm_j (fun (s21 : Int64) => some (Sum.inl ((s16.1 + s21), (s16.2.1 + (1 : Int32)), m19))) (fun j22 => if x18 ≤ x20 then j22 (0 : Int64) else j22 (1 : Int64))))) 5000 (s13.1, (0 : Int32), s13.2.2)) 5000 ((0 : Int64), (0 : Int32), m11)) else none) else none else j4 m7)) else none)) else none
set_option maxHeartbeats 4000000 in
theorem c_X12_beats (a0 : Nat) (a1 : Int32) (a2 : Int32) (a3 : Int32) (μ : gm_M) : gm_Call ({ cls := "GumBubbleModel", name := "beats", desc := "(III)J" } : Jvm.MethodName) prog_14_method_59_code 10 (some .long) 4 0 0 [.ref a0, .int a1, .int a2, .int a3] μ (f_X12_beats a0 a1 a2 a3 μ) := by
  refine gm_start PN_12 (Nat.le_of_ble_eq_true rfl) (fun res μe => ?_)
  unfold f_X12_beats
  show gm_A "GumBubbleModel" (gm_nm "beats") _ _ _ _ _ _ _ _ _ 0 [(0, .ref a0), (1, .int a1), (2, .int a2), (3, .int a3)] [] _ _
  refine gm_aload_n d_X12_beats_0 rfl 0 rfl ?_
  refine gm_iload_n d_X12_beats_1 rfl 1 rfl ?_
  refine gm_grd (fun g2 => ?_)
  refine gm_callV (k0 := 12) [.int a1] (c_X12_isChild a0 a1 μ) g2 rfl B_X12_isChild gw_1047 gs_40 rfl rfl rfl d_X12_beats_2 (gm_kI (fun x2 m1 => ?_))
  refine gm_join (S := gm_M) (pj := 30) (kj := 0) (nj := 0) (fun s3 => s3) (fun s3 => [(0, .ref a0), (1, .int a1), (2, .int a2), (3, .int a3)]) (fun s3 => []) (fun s3 => ?_) (fun j4 hj4 => ?_)
  ·
    refine gm_ldc2 (v := -9223372036854775808) gw_1170 d_X12_beats_30 ?_
    exact gm_lret rfl d_X12_beats_33 (Nat.le_of_ble_eq_true rfl) (Nat.le_of_ble_eq_true rfl) (fun h => h)
  ·
    refine gm_if_eq (tgt := 30) d_X12_beats_5 (by decide) (fun h5 => ?_) (fun h5 => ?_)
    ·
      exact hj4 m1
    ·
      refine gm_aload_n d_X12_beats_8 rfl 0 rfl ?_
      refine gm_iload_n d_X12_beats_9 rfl 2 rfl ?_
      refine gm_grd (fun g10 => ?_)
      refine gm_callV (k0 := 12) [.int a2] (c_X12_isChild a0 a2 m1) g10 rfl B_X12_isChild gw_1047 gs_40 rfl rfl rfl d_X12_beats_10 (gm_kI (fun x6 m5 => ?_))
      refine gm_if_eq (tgt := 30) d_X12_beats_13 (by decide) (fun h13 => ?_) (fun h13 => ?_)
      ·
        exact hj4 m5
      ·
        refine gm_iload_n d_X12_beats_16 rfl 1 rfl ?_
        refine gm_iload_n d_X12_beats_17 rfl 2 rfl ?_
        refine gm_icmp_eq (tgt := 30) d_X12_beats_18 (by decide) (fun h18 => ?_) (fun h18 => ?_)
        ·
          exact hj4 m5
        ·
          refine gm_iload_n d_X12_beats_21 rfl 3 rfl ?_
          refine gm_iconst (v := 0) d_X12_beats_22 (by decide) ?_
          refine gm_iconst (v := 1) d_X12_beats_23 (by decide) ?_
          refine gm_callS [.int a3, .int (0 : Int32), .int (1 : Int32)] (c_X12_in a3 (0 : Int32) (1 : Int32) m5) B_X12_in gw_964 rfl rfl rfl d_X12_beats_24 (gm_kI (fun x8 m7 => ?_))
          refine gm_if_ne (tgt := 34) d_X12_beats_27 (by decide) (fun h27 => ?_) (fun h27 => ?_)
          ·
            refine gm_aload_n d_X12_beats_34 rfl 0 rfl ?_
            refine gm_iload_n d_X12_beats_35 rfl 1 rfl ?_
            refine gm_grd (fun g36 => ?_)
            refine gm_callV (k0 := 12) [.int a1] (c_X12_holdsOf a0 a1 m7) g36 rfl B_X12_holdsOf gw_1074 gs_45 rfl rfl rfl d_X12_beats_36 (gm_kI (fun x10 m9 => ?_))
            refine gm_istore (L' := [(4, .int x10), (0, .ref a0), (1, .int a1), (2, .int a2), (3, .int a3)]) d_X12_beats_39 (Nat.le_of_ble_eq_true rfl) rfl ?_
            refine gm_aload_n d_X12_beats_41 rfl 1 rfl ?_
            refine gm_iload_n d_X12_beats_42 rfl 3 rfl ?_
            refine gm_grd (fun g43 => ?_)
            refine gm_callV (k0 := 12) [.int a2] (c_X12_holdsOf a0 a2 m9) g43 rfl B_X12_holdsOf gw_1074 gs_45 rfl rfl rfl d_X12_beats_43 (gm_kI (fun x12 m11 => ?_))
            refine gm_istore (L' := [(5, .int x12), (4, .int x10), (0, .ref a0), (1, .int a1), (2, .int a2), (3, .int a3)]) d_X12_beats_46 (Nat.le_of_ble_eq_true rfl) rfl ?_
            refine gm_lconst (v := 0) d_X12_beats_48 (by decide) ?_
            refine gm_lstore (L' := [(6, .long (0 : Int64)), (5, .int x12), (4, .int x10), (0, .ref a0), (1, .int a1), (2, .int a2), (3, .int a3)]) d_X12_beats_49 (Nat.le_of_ble_eq_true rfl) rfl ?_
            refine gm_iconst (v := 0) d_X12_beats_51 (by decide) ?_
            refine gm_istore (L' := [(8, .int (0 : Int32)), (6, .long (0 : Int64)), (5, .int x12), (4, .int x10), (0, .ref a0), (1, .int a1), (2, .int a2), (3, .int a3)]) d_X12_beats_52 (Nat.le_of_ble_eq_true rfl) rfl ?_
            refine gm_sub (L' := [(0, .ref a0), (1, .int a1), (2, .int a2), (3, .int a3), (4, .int x10), (5, .int x12), (6, .long (0 : Int64)), (8, .int (0 : Int32))]) [4, 5, 6, 7, 3, 2, 1, 0] rfl ?_
            refine gm_lp (S := Int64 × Int32 × gm_M) (fun _ => 0) (fun _ => 0) (fun s13 => s13.2.2) (fun s13 => [(0, .ref a0), (1, .int a1), (2, .int a2), (3, .int a3), (4, .int x10), (5, .int x12), (6, .long s13.1), (8, .int s13.2.1)]) (fun _ => []) (fun s13 => ?_) 5000 ((0 : Int64), (0 : Int32), m11)
            refine gm_iload d_X12_beats_54 7 rfl ?_
            refine gm_bipush (v := 10) d_X12_beats_56 (by decide) ?_
            refine gm_icmp_ge (tgt := 110) d_X12_beats_58 (by decide) (fun h58 => ?_) (fun h58 => ?_)
            ·
              refine gm_lload d_X12_beats_110 6 rfl ?_
              refine gm_ldc2 (v := 100) gw_1193 d_X12_beats_112 ?_
              refine gm_iload_n d_X12_beats_115 rfl 3 rfl ?_
              refine gm_callS [.long s13.1, .long (100 : Int64), .int a3] (c_X12_lowest s13.1 (100 : Int64) a3 s13.2.2) B_X12_lowest gw_1178 rfl rfl rfl d_X12_beats_116 (gm_kL (fun x15 m14 => ?_))
              exact gm_lret rfl d_X12_beats_119 (Nat.le_of_ble_eq_true rfl) (Nat.le_of_ble_eq_true rfl) (fun h => h)
            ·
              refine gm_iconst (v := 0) d_X12_beats_61 (by decide) ?_
              refine gm_istore (L' := [(9, .int (0 : Int32)), (0, .ref a0), (1, .int a1), (2, .int a2), (3, .int a3), (4, .int x10), (5, .int x12), (6, .long s13.1), (8, .int s13.2.1)]) d_X12_beats_62 (Nat.le_of_ble_eq_true rfl) rfl ?_
              refine gm_sub (L' := [(0, .ref a0), (1, .int a1), (2, .int a2), (3, .int a3), (4, .int x10), (5, .int x12), (6, .long s13.1), (8, .int s13.2.1), (9, .int (0 : Int32))]) [1, 2, 3, 4, 5, 6, 7, 8, 0] rfl ?_
              refine gm_lp (S := Int64 × Int32 × gm_M) (fun _ => 0) (fun _ => 0) (fun s16 => s16.2.2) (fun s16 => [(0, .ref a0), (1, .int a1), (2, .int a2), (3, .int a3), (4, .int x10), (5, .int x12), (6, .long s16.1), (8, .int s13.2.1), (9, .int s16.2.1)]) (fun _ => []) (fun s16 => ?_) 5000 (s13.1, (0 : Int32), s13.2.2)
              refine gm_iload d_X12_beats_64 8 rfl ?_
              refine gm_bipush (v := 10) d_X12_beats_66 (by decide) ?_
              refine gm_icmp_ge (tgt := 104) d_X12_beats_68 (by decide) (fun h68 => ?_) (fun h68 => ?_)
              ·
                refine gm_iinc (v := s13.2.1 + (1 : Int32)) (L' := [(8, .int (s13.2.1 + (1 : Int32))), (0, .ref a0), (1, .int a1), (2, .int a2), (3, .int a3), (4, .int x10), (5, .int x12), (6, .long s16.1), (9, .int s16.2.1)]) d_X12_beats_104 7 rfl rfl (Nat.le_of_ble_eq_true rfl) rfl ?_
                refine gm_goto (tgt := 54) d_X12_beats_107 (by decide) ?_
                refine gm_sub (L' := [(0, .ref a0), (1, .int a1), (2, .int a2), (3, .int a3), (4, .int x10), (5, .int x12), (6, .long s16.1), (8, .int (s13.2.1 + (1 : Int32)))]) [1, 2, 3, 4, 5, 6, 7, 0] rfl ?_
                exact gm_back (fun h => h)
              ·
                refine gm_lload d_X12_beats_71 6 rfl ?_
                refine gm_iload d_X12_beats_73 4 rfl ?_
                refine gm_iload d_X12_beats_75 7 rfl ?_
                refine gm_callS [.int x10, .int s13.2.1] (c_X12_thin x10 s13.2.1 s16.2.2) B_X12_thin gw_1174 rfl rfl rfl d_X12_beats_77 (gm_kI (fun x18 m17 => ?_))
                refine gm_iload d_X12_beats_80 5 rfl ?_
                refine gm_iload d_X12_beats_82 8 rfl ?_
                refine gm_callS [.int x12, .int s16.2.1] (c_X12_thin x12 s16.2.1 m17) B_X12_thin gw_1174 rfl rfl rfl d_X12_beats_84 (gm_kI (fun x20 m19 => ?_))
                refine gm_join (S := Int64) (pj := 95) (kj := 0) (nj := 0) (fun s21 => m19) (fun s21 => [(0, .ref a0), (1, .int a1), (2, .int a2), (3, .int a3), (4, .int x10), (5, .int x12), (6, .long s16.1), (8, .int s13.2.1), (9, .int s16.2.1)]) (fun s21 => [.long s21, .long s16.1]) (fun s21 => ?_) (fun j22 hj22 => ?_)
                ·
                  refine gm_ladd d_X12_beats_95 ?_
                  refine gm_lstore (L' := [(6, .long (s16.1 + s21)), (0, .ref a0), (1, .int a1), (2, .int a2), (3, .int a3), (4, .int x10), (5, .int x12), (8, .int s13.2.1), (9, .int s16.2.1)]) d_X12_beats_96 (Nat.le_of_ble_eq_true rfl) rfl ?_
                  refine gm_iinc (v := s16.2.1 + (1 : Int32)) (L' := [(9, .int (s16.2.1 + (1 : Int32))), (6, .long (s16.1 + s21)), (0, .ref a0), (1, .int a1), (2, .int a2), (3, .int a3), (4, .int x10), (5, .int x12), (8, .int s13.2.1)]) d_X12_beats_98 8 rfl rfl (Nat.le_of_ble_eq_true rfl) rfl ?_
                  refine gm_goto (tgt := 64) d_X12_beats_101 (by decide) ?_
                  refine gm_sub (L' := [(0, .ref a0), (1, .int a1), (2, .int a2), (3, .int a3), (4, .int x10), (5, .int x12), (6, .long (s16.1 + s21)), (8, .int s13.2.1), (9, .int (s16.2.1 + (1 : Int32)))]) [2, 3, 4, 5, 6, 7, 1, 8, 0] rfl ?_
                  exact gm_back (fun h => h)
                ·
                  refine gm_icmp_le (tgt := 94) d_X12_beats_87 (by decide) (fun h87 => ?_) (fun h87 => ?_)
                  ·
                    refine gm_lconst (v := 0) d_X12_beats_94 (by decide) ?_
                    exact hj22 (0 : Int64)
                  ·
                    refine gm_lconst (v := 1) d_X12_beats_90 (by decide) ?_
                    refine gm_goto (tgt := 95) d_X12_beats_91 (by decide) ?_
                    exact hj22 (1 : Int64)
          ·
            exact hj4 m7
theorem d_X12_blows_0 : decode prog_14_method_38_code 0 = .ok (.aload_n 0, 1) := ge_aload_n_0 (by decide +kernel)
theorem d_X12_blows_1 : decode prog_14_method_38_code 1 = .ok (.getfield 9, 3) := ge_getfield (by decide +kernel)
theorem d_X12_blows_4 : decode prog_14_method_38_code 4 = .ok (.bipush 16, 2) := ge_bipush (by decide +kernel)
theorem d_X12_blows_6 : decode prog_14_method_38_code 6 = .ok (.iload_n 1, 1) := ge_iload_n_1 (by decide +kernel)
theorem d_X12_blows_7 : decode prog_14_method_38_code 7 = .ok (.iadd, 1) := ge_iadd (by decide +kernel)
theorem d_X12_blows_8 : decode prog_14_method_38_code 8 = .ok (.dup2, 1) := ge_dup2 (by decide +kernel)
theorem d_X12_blows_9 : decode prog_14_method_38_code 9 = .ok (.iaload, 1) := ge_iaload (by decide +kernel)
theorem d_X12_blows_10 : decode prog_14_method_38_code 10 = .ok (.iload_n 2, 1) := ge_iload_n_2 (by decide +kernel)
theorem d_X12_blows_11 : decode prog_14_method_38_code 11 = .ok (.iadd, 1) := ge_iadd (by decide +kernel)
theorem d_X12_blows_12 : decode prog_14_method_38_code 12 = .ok (.iastore, 1) := ge_iastore (by decide +kernel)
theorem d_X12_blows_13 : decode prog_14_method_38_code 13 = .ok (.aload_n 0, 1) := ge_aload_n_0 (by decide +kernel)
theorem d_X12_blows_14 : decode prog_14_method_38_code 14 = .ok (.getfield 9, 3) := ge_getfield (by decide +kernel)
theorem d_X12_blows_17 : decode prog_14_method_38_code 17 = .ok (.bipush 16, 2) := ge_bipush (by decide +kernel)
theorem d_X12_blows_19 : decode prog_14_method_38_code 19 = .ok (.iload_n 1, 1) := ge_iload_n_1 (by decide +kernel)
theorem d_X12_blows_20 : decode prog_14_method_38_code 20 = .ok (.iadd, 1) := ge_iadd (by decide +kernel)
theorem d_X12_blows_21 : decode prog_14_method_38_code 21 = .ok (.iaload, 1) := ge_iaload (by decide +kernel)
theorem d_X12_blows_22 : decode prog_14_method_38_code 22 = .ok (.aload_n 0, 1) := ge_aload_n_0 (by decide +kernel)
theorem d_X12_blows_23 : decode prog_14_method_38_code 23 = .ok (.iload_n 1, 1) := ge_iload_n_1 (by decide +kernel)
theorem d_X12_blows_24 : decode prog_14_method_38_code 24 = .ok (.invokevirtual 148, 3) := ge_invokevirtual (by decide +kernel)
theorem d_X12_blows_27 : decode prog_14_method_38_code 27 = .ok (.if_icmp .gt 5, 3) := ge_if_icmp_gt (by decide +kernel)
theorem d_X12_blows_30 : decode prog_14_method_38_code 30 = .ok (.iconst 0, 1) := ge_iconst_0 (by decide +kernel)
theorem d_X12_blows_31 : decode prog_14_method_38_code 31 = .ok (.ireturn, 1) := ge_ireturn (by decide +kernel)
theorem d_X12_blows_32 : decode prog_14_method_38_code 32 = .ok (.aload_n 0, 1) := ge_aload_n_0 (by decide +kernel)
theorem d_X12_blows_33 : decode prog_14_method_38_code 33 = .ok (.getfield 9, 3) := ge_getfield (by decide +kernel)
theorem d_X12_blows_36 : decode prog_14_method_38_code 36 = .ok (.bipush 21, 2) := ge_bipush (by decide +kernel)
theorem d_X12_blows_38 : decode prog_14_method_38_code 38 = .ok (.iload_n 1, 1) := ge_iload_n_1 (by decide +kernel)
theorem d_X12_blows_39 : decode prog_14_method_38_code 39 = .ok (.iadd, 1) := ge_iadd (by decide +kernel)
theorem d_X12_blows_40 : decode prog_14_method_38_code 40 = .ok (.aload_n 0, 1) := ge_aload_n_0 (by decide +kernel)
theorem d_X12_blows_41 : decode prog_14_method_38_code 41 = .ok (.getfield 9, 3) := ge_getfield (by decide +kernel)
theorem d_X12_blows_44 : decode prog_14_method_38_code 44 = .ok (.bipush 21, 2) := ge_bipush (by decide +kernel)
theorem d_X12_blows_46 : decode prog_14_method_38_code 46 = .ok (.iload_n 1, 1) := ge_iload_n_1 (by decide +kernel)
theorem d_X12_blows_47 : decode prog_14_method_38_code 47 = .ok (.iadd, 1) := ge_iadd (by decide +kernel)
theorem d_X12_blows_48 : decode prog_14_method_38_code 48 = .ok (.iaload, 1) := ge_iaload (by decide +kernel)
theorem d_X12_blows_49 : decode prog_14_method_38_code 49 = .ok (.aload_n 0, 1) := ge_aload_n_0 (by decide +kernel)
theorem d_X12_blows_50 : decode prog_14_method_38_code 50 = .ok (.getfield 9, 3) := ge_getfield (by decide +kernel)
theorem d_X12_blows_53 : decode prog_14_method_38_code 53 = .ok (.bipush 16, 2) := ge_bipush (by decide +kernel)
theorem d_X12_blows_55 : decode prog_14_method_38_code 55 = .ok (.iload_n 1, 1) := ge_iload_n_1 (by decide +kernel)
theorem d_X12_blows_56 : decode prog_14_method_38_code 56 = .ok (.iadd, 1) := ge_iadd (by decide +kernel)
theorem d_X12_blows_57 : decode prog_14_method_38_code 57 = .ok (.iaload, 1) := ge_iaload (by decide +kernel)
theorem d_X12_blows_58 : decode prog_14_method_38_code 58 = .ok (.bipush 10, 2) := ge_bipush (by decide +kernel)
theorem d_X12_blows_60 : decode prog_14_method_38_code 60 = .ok (.idiv, 1) := ge_idiv (by decide +kernel)
theorem d_X12_blows_61 : decode prog_14_method_38_code 61 = .ok (.iadd, 1) := ge_iadd (by decide +kernel)
theorem d_X12_blows_62 : decode prog_14_method_38_code 62 = .ok (.iconst 0, 1) := ge_iconst_0 (by decide +kernel)
theorem d_X12_blows_63 : decode prog_14_method_38_code 63 = .ok (.sipush 9999, 3) := ge_sipush (by decide +kernel)
theorem d_X12_blows_66 : decode prog_14_method_38_code 66 = .ok (.invokestatic 138, 3) := ge_invokestatic (by decide +kernel)
theorem d_X12_blows_69 : decode prog_14_method_38_code 69 = .ok (.iastore, 1) := ge_iastore (by decide +kernel)
theorem d_X12_blows_70 : decode prog_14_method_38_code 70 = .ok (.aload_n 0, 1) := ge_aload_n_0 (by decide +kernel)
theorem d_X12_blows_71 : decode prog_14_method_38_code 71 = .ok (.getfield 9, 3) := ge_getfield (by decide +kernel)
theorem d_X12_blows_74 : decode prog_14_method_38_code 74 = .ok (.bipush 16, 2) := ge_bipush (by decide +kernel)
theorem d_X12_blows_76 : decode prog_14_method_38_code 76 = .ok (.iload_n 1, 1) := ge_iload_n_1 (by decide +kernel)
theorem d_X12_blows_77 : decode prog_14_method_38_code 77 = .ok (.iadd, 1) := ge_iadd (by decide +kernel)
theorem d_X12_blows_78 : decode prog_14_method_38_code 78 = .ok (.iconst 0, 1) := ge_iconst_0 (by decide +kernel)
theorem d_X12_blows_79 : decode prog_14_method_38_code 79 = .ok (.iastore, 1) := ge_iastore (by decide +kernel)
theorem d_X12_blows_80 : decode prog_14_method_38_code 80 = .ok (.iconst 1, 1) := ge_iconst_1 (by decide +kernel)
theorem d_X12_blows_81 : decode prog_14_method_38_code 81 = .ok (.ireturn, 1) := ge_ireturn (by decide +kernel)
def f_X12_blows (a0 : Nat) (a1 : Int32) (a2 : Int32) (μ : gm_M) : Option (Option Value × gm_M) := gm_gR μ [17] a0 1 (fun v1 => gm_aI μ v1 ((16 : Int32) + a1) (fun v2 => gm_sI μ v1 ((16 : Int32) + a1) (v2 + a2) (fun m3 => gm_gR m3 [17] a0 1 (fun v4 => gm_aI m3 v4 ((16 : Int32) + a1) (fun v5 => if gm_tag m3 a0 = 17 then gm_bI (f_X12_holdsOf a0 a1 m3) (fun x7 m6 => if x7 < v5 then gm_gR m6 [17] a0 1 (fun v8 => gm_gR m6 [17] a0 1 (fun v9 => gm_aI m6 v9 ((21 : Int32) + a1) (fun v10 => gm_gR m6 [17] a0 1 (fun v11 => gm_aI m6 v11 ((16 : Int32) + a1) (fun v12 => if (10 : Int32) = 0 then none else gm_bI (f_X12_within (v10 + (v12 / (10 : Int32))) (0 : Int32) (9999 : Int32) m6) (fun x14 m13 => gm_sI m13 v8 ((21 : Int32) + a1) x14 (fun m15 => gm_gR m15 [17] a0 1 (fun v16 => gm_sI m15 v16 ((16 : Int32) + a1) (0 : Int32) (fun m17 => if (1 : Int32) = 0 ∨ (1 : Int32) = 1 then some (some (.int (1 : Int32)), m17) else none))))))))) else if (0 : Int32) = 0 ∨ (0 : Int32) = 1 then some (some (.int (0 : Int32)), m6) else none) else none)))))
set_option maxHeartbeats 4000000 in
theorem c_X12_blows (a0 : Nat) (a1 : Int32) (a2 : Int32) (μ : gm_M) : gm_Call ({ cls := "GumBubbleModel", name := "blows", desc := "(II)Z" } : Jvm.MethodName) prog_14_method_38_code 3 (some .boolean) 4 0 0 [.ref a0, .int a1, .int a2] μ (f_X12_blows a0 a1 a2 μ) := by
  refine gm_start PN_12 (Nat.le_of_ble_eq_true rfl) (fun res μe => ?_)
  unfold f_X12_blows
  show gm_A "GumBubbleModel" (gm_nm "blows") _ _ _ _ _ _ _ _ _ 0 [(0, .ref a0), (1, .int a1), (2, .int a2)] [] _ _
  refine gm_aload_n d_X12_blows_0 rfl 0 rfl ?_
  refine gm_getR F_12_s gw_890 d_X12_blows_1 (fun v1 _ => ?_)
  refine gm_bipush (v := 16) d_X12_blows_4 (by decide) ?_
  refine gm_iload_n d_X12_blows_6 rfl 1 rfl ?_
  refine gm_iadd d_X12_blows_7 ?_
  refine gm_dup2 d_X12_blows_8 rfl rfl ?_
  refine gm_iald d_X12_blows_9 (fun v2 _ => ?_)
  refine gm_iload_n d_X12_blows_10 rfl 2 rfl ?_
  refine gm_iadd d_X12_blows_11 ?_
  refine gm_iast d_X12_blows_12 (fun m3 _ => ?_)
  refine gm_aload_n d_X12_blows_13 rfl 0 rfl ?_
  refine gm_getR F_12_s gw_890 d_X12_blows_14 (fun v4 _ => ?_)
  refine gm_bipush (v := 16) d_X12_blows_17 (by decide) ?_
  refine gm_iload_n d_X12_blows_19 rfl 1 rfl ?_
  refine gm_iadd d_X12_blows_20 ?_
  refine gm_iald d_X12_blows_21 (fun v5 _ => ?_)
  refine gm_aload_n d_X12_blows_22 rfl 0 rfl ?_
  refine gm_iload_n d_X12_blows_23 rfl 1 rfl ?_
  refine gm_grd (fun g24 => ?_)
  refine gm_callV (k0 := 12) [.int a1] (c_X12_holdsOf a0 a1 m3) g24 rfl B_X12_holdsOf gw_1074 gs_45 rfl rfl rfl d_X12_blows_24 (gm_kI (fun x7 m6 => ?_))
  refine gm_icmp_gt (tgt := 32) d_X12_blows_27 (by decide) (fun h27 => ?_) (fun h27 => ?_)
  ·
    refine gm_aload_n d_X12_blows_32 rfl 0 rfl ?_
    refine gm_getR F_12_s gw_890 d_X12_blows_33 (fun v8 _ => ?_)
    refine gm_bipush (v := 21) d_X12_blows_36 (by decide) ?_
    refine gm_iload_n d_X12_blows_38 rfl 1 rfl ?_
    refine gm_iadd d_X12_blows_39 ?_
    refine gm_aload_n d_X12_blows_40 rfl 0 rfl ?_
    refine gm_getR F_12_s gw_890 d_X12_blows_41 (fun v9 _ => ?_)
    refine gm_bipush (v := 21) d_X12_blows_44 (by decide) ?_
    refine gm_iload_n d_X12_blows_46 rfl 1 rfl ?_
    refine gm_iadd d_X12_blows_47 ?_
    refine gm_iald d_X12_blows_48 (fun v10 _ => ?_)
    refine gm_aload_n d_X12_blows_49 rfl 0 rfl ?_
    refine gm_getR F_12_s gw_890 d_X12_blows_50 (fun v11 _ => ?_)
    refine gm_bipush (v := 16) d_X12_blows_53 (by decide) ?_
    refine gm_iload_n d_X12_blows_55 rfl 1 rfl ?_
    refine gm_iadd d_X12_blows_56 ?_
    refine gm_iald d_X12_blows_57 (fun v12 _ => ?_)
    refine gm_bipush (v := 10) d_X12_blows_58 (by decide) ?_
    refine gm_idiv d_X12_blows_60 ?_
    refine gm_iadd d_X12_blows_61 ?_
    refine gm_iconst (v := 0) d_X12_blows_62 (by decide) ?_
    refine gm_sipush (v := 9999) d_X12_blows_63 (by decide) ?_
    refine gm_callS [.int (v10 + (v12 / (10 : Int32))), .int (0 : Int32), .int (9999 : Int32)] (c_X12_within (v10 + (v12 / (10 : Int32))) (0 : Int32) (9999 : Int32) m6) B_X12_within gw_1060 rfl rfl rfl d_X12_blows_66 (gm_kI (fun x14 m13 => ?_))
    refine gm_iast d_X12_blows_69 (fun m15 _ => ?_)
    refine gm_aload_n d_X12_blows_70 rfl 0 rfl ?_
    refine gm_getR F_12_s gw_890 d_X12_blows_71 (fun v16 _ => ?_)
    refine gm_bipush (v := 16) d_X12_blows_74 (by decide) ?_
    refine gm_iload_n d_X12_blows_76 rfl 1 rfl ?_
    refine gm_iadd d_X12_blows_77 ?_
    refine gm_iconst (v := 0) d_X12_blows_78 (by decide) ?_
    refine gm_iast d_X12_blows_79 (fun m17 _ => ?_)
    refine gm_iconst (v := 1) d_X12_blows_80 (by decide) ?_
    exact gm_zret rfl d_X12_blows_81 (Nat.le_of_ble_eq_true rfl) (Nat.le_of_ble_eq_true rfl) (fun h => h)
  ·
    refine gm_iconst (v := 0) d_X12_blows_30 (by decide) ?_
    exact gm_zret rfl d_X12_blows_31 (Nat.le_of_ble_eq_true rfl) (Nat.le_of_ble_eq_true rfl) (fun h => h)
theorem d_X12_blow_0 : decode prog_14_method_39_code 0 = .ok (.aload_n 0, 1) := ge_aload_n_0 (by decide +kernel)
theorem d_X12_blow_1 : decode prog_14_method_39_code 1 = .ok (.iload_n 1, 1) := ge_iload_n_1 (by decide +kernel)
theorem d_X12_blow_2 : decode prog_14_method_39_code 2 = .ok (.invokevirtual 154, 3) := ge_invokevirtual (by decide +kernel)
theorem d_X12_blow_5 : decode prog_14_method_39_code 5 = .ok (.ifCond .ne 5, 3) := ge_ifCond_ne (by decide +kernel)
theorem d_X12_blow_8 : decode prog_14_method_39_code 8 = .ok (.iconst (-1), 1) := ge_iconst_m1_ (by decide +kernel)
theorem d_X12_blow_9 : decode prog_14_method_39_code 9 = .ok (.ireturn, 1) := ge_ireturn (by decide +kernel)
theorem d_X12_blow_10 : decode prog_14_method_39_code 10 = .ok (.iload_n 2, 1) := ge_iload_n_2 (by decide +kernel)
theorem d_X12_blow_11 : decode prog_14_method_39_code 11 = .ok (.iconst 1, 1) := ge_iconst_1 (by decide +kernel)
theorem d_X12_blow_12 : decode prog_14_method_39_code 12 = .ok (.bipush 99, 2) := ge_bipush (by decide +kernel)
theorem d_X12_blow_14 : decode prog_14_method_39_code 14 = .ok (.invokestatic 44, 3) := ge_invokestatic (by decide +kernel)
theorem d_X12_blow_17 : decode prog_14_method_39_code 17 = .ok (.ifCond .ne 6, 3) := ge_ifCond_ne (by decide +kernel)
theorem d_X12_blow_20 : decode prog_14_method_39_code 20 = .ok (.bipush (-2), 2) := ge_bipush (by decide +kernel)
theorem d_X12_blow_22 : decode prog_14_method_39_code 22 = .ok (.ireturn, 1) := ge_ireturn (by decide +kernel)
theorem d_X12_blow_23 : decode prog_14_method_39_code 23 = .ok (.aload_n 0, 1) := ge_aload_n_0 (by decide +kernel)
theorem d_X12_blow_24 : decode prog_14_method_39_code 24 = .ok (.getfield 9, 3) := ge_getfield (by decide +kernel)
theorem d_X12_blow_27 : decode prog_14_method_39_code 27 = .ok (.iconst 1, 1) := ge_iconst_1 (by decide +kernel)
theorem d_X12_blow_28 : decode prog_14_method_39_code 28 = .ok (.iload_n 1, 1) := ge_iload_n_1 (by decide +kernel)
theorem d_X12_blow_29 : decode prog_14_method_39_code 29 = .ok (.iadd, 1) := ge_iadd (by decide +kernel)
theorem d_X12_blow_30 : decode prog_14_method_39_code 30 = .ok (.iaload, 1) := ge_iaload (by decide +kernel)
theorem d_X12_blow_31 : decode prog_14_method_39_code 31 = .ok (.ifCond .ne 6, 3) := ge_ifCond_ne (by decide +kernel)
theorem d_X12_blow_34 : decode prog_14_method_39_code 34 = .ok (.bipush (-3), 2) := ge_bipush (by decide +kernel)
theorem d_X12_blow_36 : decode prog_14_method_39_code 36 = .ok (.ireturn, 1) := ge_ireturn (by decide +kernel)
theorem d_X12_blow_37 : decode prog_14_method_39_code 37 = .ok (.aload_n 0, 1) := ge_aload_n_0 (by decide +kernel)
theorem d_X12_blow_38 : decode prog_14_method_39_code 38 = .ok (.iload_n 1, 1) := ge_iload_n_1 (by decide +kernel)
theorem d_X12_blow_39 : decode prog_14_method_39_code 39 = .ok (.iload_n 2, 1) := ge_iload_n_2 (by decide +kernel)
theorem d_X12_blow_40 : decode prog_14_method_39_code 40 = .ok (.invokevirtual 170, 3) := ge_invokevirtual (by decide +kernel)
theorem d_X12_blow_43 : decode prog_14_method_39_code 43 = .ok (.ifCond .eq 8, 3) := ge_ifCond_eq (by decide +kernel)
theorem d_X12_blow_46 : decode prog_14_method_39_code 46 = .ok (.bipush (-6), 2) := ge_bipush (by decide +kernel)
theorem d_X12_blow_48 : decode prog_14_method_39_code 48 = .ok (.goto 12, 3) := ge_goto (by decide +kernel)
theorem d_X12_blow_51 : decode prog_14_method_39_code 51 = .ok (.aload_n 0, 1) := ge_aload_n_0 (by decide +kernel)
theorem d_X12_blow_52 : decode prog_14_method_39_code 52 = .ok (.getfield 9, 3) := ge_getfield (by decide +kernel)
theorem d_X12_blow_55 : decode prog_14_method_39_code 55 = .ok (.bipush 16, 2) := ge_bipush (by decide +kernel)
theorem d_X12_blow_57 : decode prog_14_method_39_code 57 = .ok (.iload_n 1, 1) := ge_iload_n_1 (by decide +kernel)
theorem d_X12_blow_58 : decode prog_14_method_39_code 58 = .ok (.iadd, 1) := ge_iadd (by decide +kernel)
theorem d_X12_blow_59 : decode prog_14_method_39_code 59 = .ok (.iaload, 1) := ge_iaload (by decide +kernel)
theorem d_X12_blow_60 : decode prog_14_method_39_code 60 = .ok (.ireturn, 1) := ge_ireturn (by decide +kernel)
def f_X12_blow (a0 : Nat) (a1 : Int32) (a2 : Int32) (μ : gm_M) : Option (Option Value × gm_M) := if gm_tag μ a0 = 17 then gm_bI (f_X12_isChild a0 a1 μ) (fun x2 m1 => if x2 ≠ 0 then gm_bI (f_X12_in a2 (1 : Int32) (99 : Int32) m1) (fun x4 m3 => if x4 ≠ 0 then gm_gR m3 [17] a0 1 (fun v5 => gm_aI m3 v5 ((1 : Int32) + a1) (fun v6 => if v6 ≠ 0 then if gm_tag m3 a0 = 17 then gm_bI (f_X12_blows a0 a1 a2 m3) (fun x8 m7 => if x8 = 0 then gm_gR m7 [17] a0 1 (fun v9 => gm_aI m7 v9 ((16 : Int32) + a1) (fun v10 => some (some (.int v10), m7))) else some (some (.int (-6 : Int32)), m7)) else none else some (some (.int (-3 : Int32)), m3))) else some (some (.int (-2 : Int32)), m3)) else some (some (.int (-1 : Int32)), m1)) else none
set_option maxHeartbeats 4000000 in
theorem c_X12_blow (a0 : Nat) (a1 : Int32) (a2 : Int32) (μ : gm_M) : gm_Call ({ cls := "GumBubbleModel", name := "blow", desc := "(II)I" } : Jvm.MethodName) prog_14_method_39_code 3 (some .int) 5 0 0 [.ref a0, .int a1, .int a2] μ (f_X12_blow a0 a1 a2 μ) := by
  refine gm_start PN_12 (Nat.le_of_ble_eq_true rfl) (fun res μe => ?_)
  unfold f_X12_blow
  show gm_A "GumBubbleModel" (gm_nm "blow") _ _ _ _ _ _ _ _ _ 0 [(0, .ref a0), (1, .int a1), (2, .int a2)] [] _ _
  refine gm_aload_n d_X12_blow_0 rfl 0 rfl ?_
  refine gm_iload_n d_X12_blow_1 rfl 1 rfl ?_
  refine gm_grd (fun g2 => ?_)
  refine gm_callV (k0 := 12) [.int a1] (c_X12_isChild a0 a1 μ) g2 rfl B_X12_isChild gw_1047 gs_40 rfl rfl rfl d_X12_blow_2 (gm_kI (fun x2 m1 => ?_))
  refine gm_if_ne (tgt := 10) d_X12_blow_5 (by decide) (fun h5 => ?_) (fun h5 => ?_)
  ·
    refine gm_iload_n d_X12_blow_10 rfl 2 rfl ?_
    refine gm_iconst (v := 1) d_X12_blow_11 (by decide) ?_
    refine gm_bipush (v := 99) d_X12_blow_12 (by decide) ?_
    refine gm_callS [.int a2, .int (1 : Int32), .int (99 : Int32)] (c_X12_in a2 (1 : Int32) (99 : Int32) m1) B_X12_in gw_964 rfl rfl rfl d_X12_blow_14 (gm_kI (fun x4 m3 => ?_))
    refine gm_if_ne (tgt := 23) d_X12_blow_17 (by decide) (fun h17 => ?_) (fun h17 => ?_)
    ·
      refine gm_aload_n d_X12_blow_23 rfl 0 rfl ?_
      refine gm_getR F_12_s gw_890 d_X12_blow_24 (fun v5 _ => ?_)
      refine gm_iconst (v := 1) d_X12_blow_27 (by decide) ?_
      refine gm_iload_n d_X12_blow_28 rfl 1 rfl ?_
      refine gm_iadd d_X12_blow_29 ?_
      refine gm_iald d_X12_blow_30 (fun v6 _ => ?_)
      refine gm_if_ne (tgt := 37) d_X12_blow_31 (by decide) (fun h31 => ?_) (fun h31 => ?_)
      ·
        refine gm_aload_n d_X12_blow_37 rfl 0 rfl ?_
        refine gm_iload_n d_X12_blow_38 rfl 1 rfl ?_
        refine gm_iload_n d_X12_blow_39 rfl 2 rfl ?_
        refine gm_grd (fun g40 => ?_)
        refine gm_callV (k0 := 12) [.int a1, .int a2] (c_X12_blows a0 a1 a2 m3) g40 rfl B_X12_blows gw_1102 gs_48 rfl rfl rfl d_X12_blow_40 (gm_kI (fun x8 m7 => ?_))
        refine gm_if_eq (tgt := 51) d_X12_blow_43 (by decide) (fun h43 => ?_) (fun h43 => ?_)
        ·
          refine gm_aload_n d_X12_blow_51 rfl 0 rfl ?_
          refine gm_getR F_12_s gw_890 d_X12_blow_52 (fun v9 _ => ?_)
          refine gm_bipush (v := 16) d_X12_blow_55 (by decide) ?_
          refine gm_iload_n d_X12_blow_57 rfl 1 rfl ?_
          refine gm_iadd d_X12_blow_58 ?_
          refine gm_iald d_X12_blow_59 (fun v10 _ => ?_)
          exact gm_iret rfl d_X12_blow_60 (Nat.le_of_ble_eq_true rfl) (Nat.le_of_ble_eq_true rfl) (fun h => h)
        ·
          refine gm_bipush (v := -6) d_X12_blow_46 (by decide) ?_
          refine gm_goto (tgt := 60) d_X12_blow_48 (by decide) ?_
          exact gm_iret rfl d_X12_blow_60 (Nat.le_of_ble_eq_true rfl) (Nat.le_of_ble_eq_true rfl) (fun h => h)
      ·
        refine gm_bipush (v := -3) d_X12_blow_34 (by decide) ?_
        exact gm_iret rfl d_X12_blow_36 (Nat.le_of_ble_eq_true rfl) (Nat.le_of_ble_eq_true rfl) (fun h => h)
    ·
      refine gm_bipush (v := -2) d_X12_blow_20 (by decide) ?_
      exact gm_iret rfl d_X12_blow_22 (Nat.le_of_ble_eq_true rfl) (Nat.le_of_ble_eq_true rfl) (fun h => h)
  ·
    refine gm_iconst (v := -1) d_X12_blow_8 (by decide) ?_
    exact gm_iret rfl d_X12_blow_9 (Nat.le_of_ble_eq_true rfl) (Nat.le_of_ble_eq_true rfl) (fun h => h)
theorem d_X12_book_0 : decode prog_14_method_77_code 0 = .ok (.iload_n 1, 1) := ge_iload_n_1 (by decide +kernel)
theorem d_X12_book_1 : decode prog_14_method_77_code 1 = .ok (.iconst (-1), 1) := ge_iconst_m1_ (by decide +kernel)
theorem d_X12_book_2 : decode prog_14_method_77_code 2 = .ok (.if_icmp .ne 13, 3) := ge_if_icmp_ne (by decide +kernel)
theorem d_X12_book_5 : decode prog_14_method_77_code 5 = .ok (.aload_n 0, 1) := ge_aload_n_0 (by decide +kernel)
theorem d_X12_book_6 : decode prog_14_method_77_code 6 = .ok (.getfield 9, 3) := ge_getfield (by decide +kernel)
theorem d_X12_book_9 : decode prog_14_method_77_code 9 = .ok (.bipush 30, 2) := ge_bipush (by decide +kernel)
theorem d_X12_book_11 : decode prog_14_method_77_code 11 = .ok (.iconst 0, 1) := ge_iconst_0 (by decide +kernel)
theorem d_X12_book_12 : decode prog_14_method_77_code 12 = .ok (.iastore, 1) := ge_iastore (by decide +kernel)
theorem d_X12_book_13 : decode prog_14_method_77_code 13 = .ok (.iconst 0, 1) := ge_iconst_0 (by decide +kernel)
theorem d_X12_book_14 : decode prog_14_method_77_code 14 = .ok (.ireturn, 1) := ge_ireturn (by decide +kernel)
theorem d_X12_book_15 : decode prog_14_method_77_code 15 = .ok (.aload_n 0, 1) := ge_aload_n_0 (by decide +kernel)
theorem d_X12_book_16 : decode prog_14_method_77_code 16 = .ok (.iload_n 1, 1) := ge_iload_n_1 (by decide +kernel)
theorem d_X12_book_17 : decode prog_14_method_77_code 17 = .ok (.invokevirtual 154, 3) := ge_invokevirtual (by decide +kernel)
theorem d_X12_book_20 : decode prog_14_method_77_code 20 = .ok (.ifCond .ne 5, 3) := ge_ifCond_ne (by decide +kernel)
theorem d_X12_book_23 : decode prog_14_method_77_code 23 = .ok (.iconst (-1), 1) := ge_iconst_m1_ (by decide +kernel)
theorem d_X12_book_24 : decode prog_14_method_77_code 24 = .ok (.ireturn, 1) := ge_ireturn (by decide +kernel)
theorem d_X12_book_25 : decode prog_14_method_77_code 25 = .ok (.iload_n 2, 1) := ge_iload_n_2 (by decide +kernel)
theorem d_X12_book_26 : decode prog_14_method_77_code 26 = .ok (.iconst 0, 1) := ge_iconst_0 (by decide +kernel)
theorem d_X12_book_27 : decode prog_14_method_77_code 27 = .ok (.sipush 999, 3) := ge_sipush (by decide +kernel)
theorem d_X12_book_30 : decode prog_14_method_77_code 30 = .ok (.invokestatic 44, 3) := ge_invokestatic (by decide +kernel)
theorem d_X12_book_33 : decode prog_14_method_77_code 33 = .ok (.ifCond .ne 6, 3) := ge_ifCond_ne (by decide +kernel)
theorem d_X12_book_36 : decode prog_14_method_77_code 36 = .ok (.bipush (-2), 2) := ge_bipush (by decide +kernel)
theorem d_X12_book_38 : decode prog_14_method_77_code 38 = .ok (.ireturn, 1) := ge_ireturn (by decide +kernel)
theorem d_X12_book_39 : decode prog_14_method_77_code 39 = .ok (.aload_n 0, 1) := ge_aload_n_0 (by decide +kernel)
theorem d_X12_book_40 : decode prog_14_method_77_code 40 = .ok (.getfield 9, 3) := ge_getfield (by decide +kernel)
theorem d_X12_book_43 : decode prog_14_method_77_code 43 = .ok (.bipush 30, 2) := ge_bipush (by decide +kernel)
theorem d_X12_book_45 : decode prog_14_method_77_code 45 = .ok (.iaload, 1) := ge_iaload (by decide +kernel)
theorem d_X12_book_46 : decode prog_14_method_77_code 46 = .ok (.bipush 8, 2) := ge_bipush (by decide +kernel)
theorem d_X12_book_48 : decode prog_14_method_77_code 48 = .ok (.if_icmp .ne 6, 3) := ge_if_icmp_ne (by decide +kernel)
theorem d_X12_book_51 : decode prog_14_method_77_code 51 = .ok (.bipush (-4), 2) := ge_bipush (by decide +kernel)
theorem d_X12_book_53 : decode prog_14_method_77_code 53 = .ok (.ireturn, 1) := ge_ireturn (by decide +kernel)
theorem d_X12_book_54 : decode prog_14_method_77_code 54 = .ok (.aload_n 0, 1) := ge_aload_n_0 (by decide +kernel)
theorem d_X12_book_55 : decode prog_14_method_77_code 55 = .ok (.getfield 9, 3) := ge_getfield (by decide +kernel)
theorem d_X12_book_58 : decode prog_14_method_77_code 58 = .ok (.bipush 94, 2) := ge_bipush (by decide +kernel)
theorem d_X12_book_60 : decode prog_14_method_77_code 60 = .ok (.aload_n 0, 1) := ge_aload_n_0 (by decide +kernel)
theorem d_X12_book_61 : decode prog_14_method_77_code 61 = .ok (.getfield 9, 3) := ge_getfield (by decide +kernel)
theorem d_X12_book_64 : decode prog_14_method_77_code 64 = .ok (.bipush 30, 2) := ge_bipush (by decide +kernel)
theorem d_X12_book_66 : decode prog_14_method_77_code 66 = .ok (.iaload, 1) := ge_iaload (by decide +kernel)
theorem d_X12_book_67 : decode prog_14_method_77_code 67 = .ok (.iadd, 1) := ge_iadd (by decide +kernel)
theorem d_X12_book_68 : decode prog_14_method_77_code 68 = .ok (.iload_n 1, 1) := ge_iload_n_1 (by decide +kernel)
theorem d_X12_book_69 : decode prog_14_method_77_code 69 = .ok (.iastore, 1) := ge_iastore (by decide +kernel)
theorem d_X12_book_70 : decode prog_14_method_77_code 70 = .ok (.aload_n 0, 1) := ge_aload_n_0 (by decide +kernel)
theorem d_X12_book_71 : decode prog_14_method_77_code 71 = .ok (.getfield 9, 3) := ge_getfield (by decide +kernel)
theorem d_X12_book_74 : decode prog_14_method_77_code 74 = .ok (.bipush 102, 2) := ge_bipush (by decide +kernel)
theorem d_X12_book_76 : decode prog_14_method_77_code 76 = .ok (.aload_n 0, 1) := ge_aload_n_0 (by decide +kernel)
theorem d_X12_book_77 : decode prog_14_method_77_code 77 = .ok (.getfield 9, 3) := ge_getfield (by decide +kernel)
theorem d_X12_book_80 : decode prog_14_method_77_code 80 = .ok (.bipush 30, 2) := ge_bipush (by decide +kernel)
theorem d_X12_book_82 : decode prog_14_method_77_code 82 = .ok (.iaload, 1) := ge_iaload (by decide +kernel)
theorem d_X12_book_83 : decode prog_14_method_77_code 83 = .ok (.iadd, 1) := ge_iadd (by decide +kernel)
theorem d_X12_book_84 : decode prog_14_method_77_code 84 = .ok (.iload_n 2, 1) := ge_iload_n_2 (by decide +kernel)
theorem d_X12_book_85 : decode prog_14_method_77_code 85 = .ok (.iastore, 1) := ge_iastore (by decide +kernel)
theorem d_X12_book_86 : decode prog_14_method_77_code 86 = .ok (.aload_n 0, 1) := ge_aload_n_0 (by decide +kernel)
theorem d_X12_book_87 : decode prog_14_method_77_code 87 = .ok (.getfield 9, 3) := ge_getfield (by decide +kernel)
theorem d_X12_book_90 : decode prog_14_method_77_code 90 = .ok (.bipush 30, 2) := ge_bipush (by decide +kernel)
theorem d_X12_book_92 : decode prog_14_method_77_code 92 = .ok (.dup2, 1) := ge_dup2 (by decide +kernel)
theorem d_X12_book_93 : decode prog_14_method_77_code 93 = .ok (.iaload, 1) := ge_iaload (by decide +kernel)
theorem d_X12_book_94 : decode prog_14_method_77_code 94 = .ok (.iconst 1, 1) := ge_iconst_1 (by decide +kernel)
theorem d_X12_book_95 : decode prog_14_method_77_code 95 = .ok (.iadd, 1) := ge_iadd (by decide +kernel)
theorem d_X12_book_96 : decode prog_14_method_77_code 96 = .ok (.iastore, 1) := ge_iastore (by decide +kernel)
theorem d_X12_book_97 : decode prog_14_method_77_code 97 = .ok (.aload_n 0, 1) := ge_aload_n_0 (by decide +kernel)
theorem d_X12_book_98 : decode prog_14_method_77_code 98 = .ok (.getfield 9, 3) := ge_getfield (by decide +kernel)
theorem d_X12_book_101 : decode prog_14_method_77_code 101 = .ok (.bipush 30, 2) := ge_bipush (by decide +kernel)
theorem d_X12_book_103 : decode prog_14_method_77_code 103 = .ok (.iaload, 1) := ge_iaload (by decide +kernel)
theorem d_X12_book_104 : decode prog_14_method_77_code 104 = .ok (.ireturn, 1) := ge_ireturn (by decide +kernel)
def f_X12_book (a0 : Nat) (a1 : Int32) (a2 : Int32) (μ : gm_M) : Option (Option Value × gm_M) := if a1 ≠ (-1 : Int32) then if gm_tag μ a0 = 17 then gm_bI (f_X12_isChild a0 a1 μ) (fun x2 m1 => if x2 ≠ 0 then gm_bI (f_X12_in a2 (0 : Int32) (999 : Int32) m1) (fun x4 m3 => if x4 ≠ 0 then gm_gR m3 [17] a0 1 (fun v5 => gm_aI m3 v5 (30 : Int32) (fun v6 => if v6 ≠ (8 : Int32) then gm_gR m3 [17] a0 1 (fun v7 => gm_gR m3 [17] a0 1 (fun v8 => gm_aI m3 v8 (30 : Int32) (fun v9 => gm_sI m3 v7 ((94 : Int32) + v9) a1 (fun m10 => gm_gR m10 [17] a0 1 (fun v11 => gm_gR m10 [17] a0 1 (fun v12 => gm_aI m10 v12 (30 : Int32) (fun v13 => gm_sI m10 v11 ((102 : Int32) + v13) a2 (fun m14 => gm_gR m14 [17] a0 1 (fun v15 => gm_aI m14 v15 (30 : Int32) (fun v16 => gm_sI m14 v15 (30 : Int32) (v16 + (1 : Int32)) (fun m17 => gm_gR m17 [17] a0 1 (fun v18 => gm_aI m17 v18 (30 : Int32) (fun v19 => some (some (.int v19), m17)))))))))))))) else some (some (.int (-4 : Int32)), m3))) else some (some (.int (-2 : Int32)), m3)) else some (some (.int (-1 : Int32)), m1)) else none else gm_gR μ [17] a0 1 (fun v20 => gm_sI μ v20 (30 : Int32) (0 : Int32) (fun m21 => some (some (.int (0 : Int32)), m21)))
set_option maxHeartbeats 4000000 in
theorem c_X12_book (a0 : Nat) (a1 : Int32) (a2 : Int32) (μ : gm_M) : gm_Call ({ cls := "GumBubbleModel", name := "book", desc := "(II)I" } : Jvm.MethodName) prog_14_method_77_code 3 (some .int) 2 0 0 [.ref a0, .int a1, .int a2] μ (f_X12_book a0 a1 a2 μ) := by
  refine gm_start PN_12 (Nat.le_of_ble_eq_true rfl) (fun res μe => ?_)
  unfold f_X12_book
  show gm_A "GumBubbleModel" (gm_nm "book") _ _ _ _ _ _ _ _ _ 0 [(0, .ref a0), (1, .int a1), (2, .int a2)] [] _ _
  refine gm_iload_n d_X12_book_0 rfl 1 rfl ?_
  refine gm_iconst (v := -1) d_X12_book_1 (by decide) ?_
  refine gm_icmp_ne (tgt := 15) d_X12_book_2 (by decide) (fun h2 => ?_) (fun h2 => ?_)
  ·
    refine gm_aload_n d_X12_book_15 rfl 0 rfl ?_
    refine gm_iload_n d_X12_book_16 rfl 1 rfl ?_
    refine gm_grd (fun g17 => ?_)
    refine gm_callV (k0 := 12) [.int a1] (c_X12_isChild a0 a1 μ) g17 rfl B_X12_isChild gw_1047 gs_40 rfl rfl rfl d_X12_book_17 (gm_kI (fun x2 m1 => ?_))
    refine gm_if_ne (tgt := 25) d_X12_book_20 (by decide) (fun h20 => ?_) (fun h20 => ?_)
    ·
      refine gm_iload_n d_X12_book_25 rfl 2 rfl ?_
      refine gm_iconst (v := 0) d_X12_book_26 (by decide) ?_
      refine gm_sipush (v := 999) d_X12_book_27 (by decide) ?_
      refine gm_callS [.int a2, .int (0 : Int32), .int (999 : Int32)] (c_X12_in a2 (0 : Int32) (999 : Int32) m1) B_X12_in gw_964 rfl rfl rfl d_X12_book_30 (gm_kI (fun x4 m3 => ?_))
      refine gm_if_ne (tgt := 39) d_X12_book_33 (by decide) (fun h33 => ?_) (fun h33 => ?_)
      ·
        refine gm_aload_n d_X12_book_39 rfl 0 rfl ?_
        refine gm_getR F_12_s gw_890 d_X12_book_40 (fun v5 _ => ?_)
        refine gm_bipush (v := 30) d_X12_book_43 (by decide) ?_
        refine gm_iald d_X12_book_45 (fun v6 _ => ?_)
        refine gm_bipush (v := 8) d_X12_book_46 (by decide) ?_
        refine gm_icmp_ne (tgt := 54) d_X12_book_48 (by decide) (fun h48 => ?_) (fun h48 => ?_)
        ·
          refine gm_aload_n d_X12_book_54 rfl 0 rfl ?_
          refine gm_getR F_12_s gw_890 d_X12_book_55 (fun v7 _ => ?_)
          refine gm_bipush (v := 94) d_X12_book_58 (by decide) ?_
          refine gm_aload_n d_X12_book_60 rfl 0 rfl ?_
          refine gm_getR F_12_s gw_890 d_X12_book_61 (fun v8 _ => ?_)
          refine gm_bipush (v := 30) d_X12_book_64 (by decide) ?_
          refine gm_iald d_X12_book_66 (fun v9 _ => ?_)
          refine gm_iadd d_X12_book_67 ?_
          refine gm_iload_n d_X12_book_68 rfl 1 rfl ?_
          refine gm_iast d_X12_book_69 (fun m10 _ => ?_)
          refine gm_aload_n d_X12_book_70 rfl 0 rfl ?_
          refine gm_getR F_12_s gw_890 d_X12_book_71 (fun v11 _ => ?_)
          refine gm_bipush (v := 102) d_X12_book_74 (by decide) ?_
          refine gm_aload_n d_X12_book_76 rfl 0 rfl ?_
          refine gm_getR F_12_s gw_890 d_X12_book_77 (fun v12 _ => ?_)
          refine gm_bipush (v := 30) d_X12_book_80 (by decide) ?_
          refine gm_iald d_X12_book_82 (fun v13 _ => ?_)
          refine gm_iadd d_X12_book_83 ?_
          refine gm_iload_n d_X12_book_84 rfl 2 rfl ?_
          refine gm_iast d_X12_book_85 (fun m14 _ => ?_)
          refine gm_aload_n d_X12_book_86 rfl 0 rfl ?_
          refine gm_getR F_12_s gw_890 d_X12_book_87 (fun v15 _ => ?_)
          refine gm_bipush (v := 30) d_X12_book_90 (by decide) ?_
          refine gm_dup2 d_X12_book_92 rfl rfl ?_
          refine gm_iald d_X12_book_93 (fun v16 _ => ?_)
          refine gm_iconst (v := 1) d_X12_book_94 (by decide) ?_
          refine gm_iadd d_X12_book_95 ?_
          refine gm_iast d_X12_book_96 (fun m17 _ => ?_)
          refine gm_aload_n d_X12_book_97 rfl 0 rfl ?_
          refine gm_getR F_12_s gw_890 d_X12_book_98 (fun v18 _ => ?_)
          refine gm_bipush (v := 30) d_X12_book_101 (by decide) ?_
          refine gm_iald d_X12_book_103 (fun v19 _ => ?_)
          exact gm_iret rfl d_X12_book_104 (Nat.le_of_ble_eq_true rfl) (Nat.le_of_ble_eq_true rfl) (fun h => h)
        ·
          refine gm_bipush (v := -4) d_X12_book_51 (by decide) ?_
          exact gm_iret rfl d_X12_book_53 (Nat.le_of_ble_eq_true rfl) (Nat.le_of_ble_eq_true rfl) (fun h => h)
      ·
        refine gm_bipush (v := -2) d_X12_book_36 (by decide) ?_
        exact gm_iret rfl d_X12_book_38 (Nat.le_of_ble_eq_true rfl) (Nat.le_of_ble_eq_true rfl) (fun h => h)
    ·
      refine gm_iconst (v := -1) d_X12_book_23 (by decide) ?_
      exact gm_iret rfl d_X12_book_24 (Nat.le_of_ble_eq_true rfl) (Nat.le_of_ble_eq_true rfl) (fun h => h)
  ·
    refine gm_aload_n d_X12_book_5 rfl 0 rfl ?_
    refine gm_getR F_12_s gw_890 d_X12_book_6 (fun v20 _ => ?_)
    refine gm_bipush (v := 30) d_X12_book_9 (by decide) ?_
    refine gm_iconst (v := 0) d_X12_book_11 (by decide) ?_
    refine gm_iast d_X12_book_12 (fun m21 _ => ?_)
    refine gm_iconst (v := 0) d_X12_book_13 (by decide) ?_
    exact gm_iret rfl d_X12_book_14 (Nat.le_of_ble_eq_true rfl) (Nat.le_of_ble_eq_true rfl) (fun h => h)
theorem d_X12_slackOf_0 : decode prog_14_method_50_code 0 = .ok (.aload_n 0, 1) := ge_aload_n_0 (by decide +kernel)
theorem d_X12_slackOf_1 : decode prog_14_method_50_code 1 = .ok (.iload_n 1, 1) := ge_iload_n_1 (by decide +kernel)
theorem d_X12_slackOf_2 : decode prog_14_method_50_code 2 = .ok (.invokevirtual 148, 3) := ge_invokevirtual (by decide +kernel)
theorem d_X12_slackOf_5 : decode prog_14_method_50_code 5 = .ok (.aload_n 0, 1) := ge_aload_n_0 (by decide +kernel)
theorem d_X12_slackOf_6 : decode prog_14_method_50_code 6 = .ok (.getfield 9, 3) := ge_getfield (by decide +kernel)
theorem d_X12_slackOf_9 : decode prog_14_method_50_code 9 = .ok (.bipush 16, 2) := ge_bipush (by decide +kernel)
theorem d_X12_slackOf_11 : decode prog_14_method_50_code 11 = .ok (.iload_n 1, 1) := ge_iload_n_1 (by decide +kernel)
theorem d_X12_slackOf_12 : decode prog_14_method_50_code 12 = .ok (.iadd, 1) := ge_iadd (by decide +kernel)
theorem d_X12_slackOf_13 : decode prog_14_method_50_code 13 = .ok (.iaload, 1) := ge_iaload (by decide +kernel)
theorem d_X12_slackOf_14 : decode prog_14_method_50_code 14 = .ok (.isub, 1) := ge_isub (by decide +kernel)
theorem d_X12_slackOf_15 : decode prog_14_method_50_code 15 = .ok (.ireturn, 1) := ge_ireturn (by decide +kernel)
def f_X12_slackOf (a0 : Nat) (a1 : Int32) (μ : gm_M) : Option (Option Value × gm_M) := if gm_tag μ a0 = 17 then gm_bI (f_X12_holdsOf a0 a1 μ) (fun x2 m1 => gm_gR m1 [17] a0 1 (fun v3 => gm_aI m1 v3 ((16 : Int32) + a1) (fun v4 => some (some (.int (x2 - v4)), m1)))) else none
set_option maxHeartbeats 4000000 in
theorem c_X12_slackOf (a0 : Nat) (a1 : Int32) (μ : gm_M) : gm_Call ({ cls := "GumBubbleModel", name := "slackOf", desc := "(I)I" } : Jvm.MethodName) prog_14_method_50_code 2 (some .int) 4 0 0 [.ref a0, .int a1] μ (f_X12_slackOf a0 a1 μ) := by
  refine gm_start PN_12 (Nat.le_of_ble_eq_true rfl) (fun res μe => ?_)
  unfold f_X12_slackOf
  show gm_A "GumBubbleModel" (gm_nm "slackOf") _ _ _ _ _ _ _ _ _ 0 [(0, .ref a0), (1, .int a1)] [] _ _
  refine gm_aload_n d_X12_slackOf_0 rfl 0 rfl ?_
  refine gm_iload_n d_X12_slackOf_1 rfl 1 rfl ?_
  refine gm_grd (fun g2 => ?_)
  refine gm_callV (k0 := 12) [.int a1] (c_X12_holdsOf a0 a1 μ) g2 rfl B_X12_holdsOf gw_1074 gs_45 rfl rfl rfl d_X12_slackOf_2 (gm_kI (fun x2 m1 => ?_))
  refine gm_aload_n d_X12_slackOf_5 rfl 0 rfl ?_
  refine gm_getR F_12_s gw_890 d_X12_slackOf_6 (fun v3 _ => ?_)
  refine gm_bipush (v := 16) d_X12_slackOf_9 (by decide) ?_
  refine gm_iload_n d_X12_slackOf_11 rfl 1 rfl ?_
  refine gm_iadd d_X12_slackOf_12 ?_
  refine gm_iald d_X12_slackOf_13 (fun v4 _ => ?_)
  refine gm_isub d_X12_slackOf_14 ?_
  exact gm_iret rfl d_X12_slackOf_15 (Nat.le_of_ble_eq_true rfl) (Nat.le_of_ble_eq_true rfl) (fun h => h)
theorem d_X12_breaths_0 : decode prog_14_method_51_code 0 = .ok (.aload_n 0, 1) := ge_aload_n_0 (by decide +kernel)
theorem d_X12_breaths_1 : decode prog_14_method_51_code 1 = .ok (.iload_n 1, 1) := ge_iload_n_1 (by decide +kernel)
theorem d_X12_breaths_2 : decode prog_14_method_51_code 2 = .ok (.invokevirtual 154, 3) := ge_invokevirtual (by decide +kernel)
theorem d_X12_breaths_5 : decode prog_14_method_51_code 5 = .ok (.ifCond .ne 5, 3) := ge_ifCond_ne (by decide +kernel)
theorem d_X12_breaths_8 : decode prog_14_method_51_code 8 = .ok (.iconst (-1), 1) := ge_iconst_m1_ (by decide +kernel)
theorem d_X12_breaths_9 : decode prog_14_method_51_code 9 = .ok (.ireturn, 1) := ge_ireturn (by decide +kernel)
theorem d_X12_breaths_10 : decode prog_14_method_51_code 10 = .ok (.iload_n 2, 1) := ge_iload_n_2 (by decide +kernel)
theorem d_X12_breaths_11 : decode prog_14_method_51_code 11 = .ok (.iconst 1, 1) := ge_iconst_1 (by decide +kernel)
theorem d_X12_breaths_12 : decode prog_14_method_51_code 12 = .ok (.bipush 99, 2) := ge_bipush (by decide +kernel)
theorem d_X12_breaths_14 : decode prog_14_method_51_code 14 = .ok (.invokestatic 44, 3) := ge_invokestatic (by decide +kernel)
theorem d_X12_breaths_17 : decode prog_14_method_51_code 17 = .ok (.ifCond .eq 16, 3) := ge_ifCond_eq (by decide +kernel)
theorem d_X12_breaths_20 : decode prog_14_method_51_code 20 = .ok (.aload_n 0, 1) := ge_aload_n_0 (by decide +kernel)
theorem d_X12_breaths_21 : decode prog_14_method_51_code 21 = .ok (.iload_n 1, 1) := ge_iload_n_1 (by decide +kernel)
theorem d_X12_breaths_22 : decode prog_14_method_51_code 22 = .ok (.invokevirtual 201, 3) := ge_invokevirtual (by decide +kernel)
theorem d_X12_breaths_25 : decode prog_14_method_51_code 25 = .ok (.invokestatic 142, 3) := ge_invokestatic (by decide +kernel)
theorem d_X12_breaths_28 : decode prog_14_method_51_code 28 = .ok (.iload_n 2, 1) := ge_iload_n_2 (by decide +kernel)
theorem d_X12_breaths_29 : decode prog_14_method_51_code 29 = .ok (.idiv, 1) := ge_idiv (by decide +kernel)
theorem d_X12_breaths_30 : decode prog_14_method_51_code 30 = .ok (.goto 5, 3) := ge_goto (by decide +kernel)
theorem d_X12_breaths_33 : decode prog_14_method_51_code 33 = .ok (.bipush (-2), 2) := ge_bipush (by decide +kernel)
theorem d_X12_breaths_35 : decode prog_14_method_51_code 35 = .ok (.ireturn, 1) := ge_ireturn (by decide +kernel)
def f_X12_breaths (a0 : Nat) (a1 : Int32) (a2 : Int32) (μ : gm_M) : Option (Option Value × gm_M) := if gm_tag μ a0 = 17 then gm_bI (f_X12_isChild a0 a1 μ) (fun x2 m1 => if x2 ≠ 0 then gm_bI (f_X12_in a2 (1 : Int32) (99 : Int32) m1) (fun x4 m3 => if x4 = 0 then some (some (.int (-2 : Int32)), m3) else if gm_tag m3 a0 = 17 then gm_bI (f_X12_slackOf a0 a1 m3) (fun x6 m5 => gm_bI (f_X12_above x6 m5) (fun x8 m7 => if a2 = 0 then none else some (some (.int (x8 / a2)), m7))) else none) else some (some (.int (-1 : Int32)), m1)) else none
set_option maxHeartbeats 4000000 in
theorem c_X12_breaths (a0 : Nat) (a1 : Int32) (a2 : Int32) (μ : gm_M) : gm_Call ({ cls := "GumBubbleModel", name := "breaths", desc := "(II)I" } : Jvm.MethodName) prog_14_method_51_code 3 (some .int) 5 0 0 [.ref a0, .int a1, .int a2] μ (f_X12_breaths a0 a1 a2 μ) := by
  refine gm_start PN_12 (Nat.le_of_ble_eq_true rfl) (fun res μe => ?_)
  unfold f_X12_breaths
  show gm_A "GumBubbleModel" (gm_nm "breaths") _ _ _ _ _ _ _ _ _ 0 [(0, .ref a0), (1, .int a1), (2, .int a2)] [] _ _
  refine gm_aload_n d_X12_breaths_0 rfl 0 rfl ?_
  refine gm_iload_n d_X12_breaths_1 rfl 1 rfl ?_
  refine gm_grd (fun g2 => ?_)
  refine gm_callV (k0 := 12) [.int a1] (c_X12_isChild a0 a1 μ) g2 rfl B_X12_isChild gw_1047 gs_40 rfl rfl rfl d_X12_breaths_2 (gm_kI (fun x2 m1 => ?_))
  refine gm_if_ne (tgt := 10) d_X12_breaths_5 (by decide) (fun h5 => ?_) (fun h5 => ?_)
  ·
    refine gm_iload_n d_X12_breaths_10 rfl 2 rfl ?_
    refine gm_iconst (v := 1) d_X12_breaths_11 (by decide) ?_
    refine gm_bipush (v := 99) d_X12_breaths_12 (by decide) ?_
    refine gm_callS [.int a2, .int (1 : Int32), .int (99 : Int32)] (c_X12_in a2 (1 : Int32) (99 : Int32) m1) B_X12_in gw_964 rfl rfl rfl d_X12_breaths_14 (gm_kI (fun x4 m3 => ?_))
    refine gm_if_eq (tgt := 33) d_X12_breaths_17 (by decide) (fun h17 => ?_) (fun h17 => ?_)
    ·
      refine gm_bipush (v := -2) d_X12_breaths_33 (by decide) ?_
      exact gm_iret rfl d_X12_breaths_35 (Nat.le_of_ble_eq_true rfl) (Nat.le_of_ble_eq_true rfl) (fun h => h)
    ·
      refine gm_aload_n d_X12_breaths_20 rfl 0 rfl ?_
      refine gm_iload_n d_X12_breaths_21 rfl 1 rfl ?_
      refine gm_grd (fun g22 => ?_)
      refine gm_callV (k0 := 12) [.int a1] (c_X12_slackOf a0 a1 m3) g22 rfl B_X12_slackOf gw_1158 gs_56 rfl rfl rfl d_X12_breaths_22 (gm_kI (fun x6 m5 => ?_))
      refine gm_callS [.int x6] (c_X12_above x6 m5) B_X12_above gw_1067 rfl rfl rfl d_X12_breaths_25 (gm_kI (fun x8 m7 => ?_))
      refine gm_iload_n d_X12_breaths_28 rfl 2 rfl ?_
      refine gm_idiv d_X12_breaths_29 ?_
      refine gm_goto (tgt := 35) d_X12_breaths_30 (by decide) ?_
      exact gm_iret rfl d_X12_breaths_35 (Nat.le_of_ble_eq_true rfl) (Nat.le_of_ble_eq_true rfl) (fun h => h)
  ·
    refine gm_iconst (v := -1) d_X12_breaths_8 (by decide) ?_
    exact gm_iret rfl d_X12_breaths_9 (Nat.le_of_ble_eq_true rfl) (Nat.le_of_ble_eq_true rfl) (fun h => h)
theorem d_X12_bubbles_0 : decode prog_14_method_37_code 0 = .ok (.iconst 0, 1) := ge_iconst_0 (by decide +kernel)
theorem d_X12_bubbles_1 : decode prog_14_method_37_code 1 = .ok (.istore_n 1, 1) := ge_istore_n_1 (by decide +kernel)
theorem d_X12_bubbles_2 : decode prog_14_method_37_code 2 = .ok (.iconst 0, 1) := ge_iconst_0 (by decide +kernel)
theorem d_X12_bubbles_3 : decode prog_14_method_37_code 3 = .ok (.istore_n 2, 1) := ge_istore_n_2 (by decide +kernel)
theorem d_X12_bubbles_4 : decode prog_14_method_37_code 4 = .ok (.iload_n 2, 1) := ge_iload_n_2 (by decide +kernel)
theorem d_X12_bubbles_5 : decode prog_14_method_37_code 5 = .ok (.aload_n 0, 1) := ge_aload_n_0 (by decide +kernel)
theorem d_X12_bubbles_6 : decode prog_14_method_37_code 6 = .ok (.getfield 9, 3) := ge_getfield (by decide +kernel)
theorem d_X12_bubbles_9 : decode prog_14_method_37_code 9 = .ok (.bipush 26, 2) := ge_bipush (by decide +kernel)
theorem d_X12_bubbles_11 : decode prog_14_method_37_code 11 = .ok (.iaload, 1) := ge_iaload (by decide +kernel)
theorem d_X12_bubbles_12 : decode prog_14_method_37_code 12 = .ok (.if_icmp .ge 31, 3) := ge_if_icmp_ge (by decide +kernel)
theorem d_X12_bubbles_15 : decode prog_14_method_37_code 15 = .ok (.iload_n 1, 1) := ge_iload_n_1 (by decide +kernel)
theorem d_X12_bubbles_16 : decode prog_14_method_37_code 16 = .ok (.aload_n 0, 1) := ge_aload_n_0 (by decide +kernel)
theorem d_X12_bubbles_17 : decode prog_14_method_37_code 17 = .ok (.getfield 9, 3) := ge_getfield (by decide +kernel)
theorem d_X12_bubbles_20 : decode prog_14_method_37_code 20 = .ok (.bipush 16, 2) := ge_bipush (by decide +kernel)
theorem d_X12_bubbles_22 : decode prog_14_method_37_code 22 = .ok (.iload_n 2, 1) := ge_iload_n_2 (by decide +kernel)
theorem d_X12_bubbles_23 : decode prog_14_method_37_code 23 = .ok (.iadd, 1) := ge_iadd (by decide +kernel)
theorem d_X12_bubbles_24 : decode prog_14_method_37_code 24 = .ok (.iaload, 1) := ge_iaload (by decide +kernel)
theorem d_X12_bubbles_25 : decode prog_14_method_37_code 25 = .ok (.ifCond .le 9, 3) := ge_ifCond_le (by decide +kernel)
theorem d_X12_bubbles_28 : decode prog_14_method_37_code 28 = .ok (.iconst 1, 1) := ge_iconst_1 (by decide +kernel)
theorem d_X12_bubbles_29 : decode prog_14_method_37_code 29 = .ok (.iload_n 2, 1) := ge_iload_n_2 (by decide +kernel)
theorem d_X12_bubbles_30 : decode prog_14_method_37_code 30 = .ok (.ishl, 1) := ge_ishl (by decide +kernel)
theorem d_X12_bubbles_31 : decode prog_14_method_37_code 31 = .ok (.goto 4, 3) := ge_goto (by decide +kernel)
theorem d_X12_bubbles_34 : decode prog_14_method_37_code 34 = .ok (.iconst 0, 1) := ge_iconst_0 (by decide +kernel)
theorem d_X12_bubbles_35 : decode prog_14_method_37_code 35 = .ok (.ior, 1) := ge_ior (by decide +kernel)
theorem d_X12_bubbles_36 : decode prog_14_method_37_code 36 = .ok (.istore_n 1, 1) := ge_istore_n_1 (by decide +kernel)
theorem d_X12_bubbles_37 : decode prog_14_method_37_code 37 = .ok (.iinc 2 1, 3) := ge_iinc (by decide +kernel)
theorem d_X12_bubbles_40 : decode prog_14_method_37_code 40 = .ok (.goto (-36), 3) := ge_goto (by decide +kernel)
theorem d_X12_bubbles_43 : decode prog_14_method_37_code 43 = .ok (.iload_n 1, 1) := ge_iload_n_1 (by decide +kernel)
theorem d_X12_bubbles_44 : decode prog_14_method_37_code 44 = .ok (.ireturn, 1) := ge_ireturn (by decide +kernel)
def f_X12_bubbles (a0 : Nat) (μ : gm_M) : Option (Option Value × gm_M) := gm_loop (fun (s1 : Int32 × Int32) => gm_gR μ [17] a0 1 (fun v2 => gm_aI μ v2 (26 : Int32) (fun v3 => if v3 ≤ s1.2 then some (Sum.inr (some (.int s1.1), μ)) else gm_gR μ [17] a0 1 (fun v4 => gm_aI μ v4 ((16 : Int32) + s1.2) (fun v5 => gm_j (fun (s6 : Int32) => some (Sum.inl ((s1.1 ||| s6), (s1.2 + (1 : Int32))))) (fun j7 => if v5 ≤ 0 then j7 (0 : Int32) else j7 ((1 : Int32) <<< (s1.2 &&& 31)))))))) 5000 ((0 : Int32), (0 : Int32))
set_option maxHeartbeats 4000000 in
theorem c_X12_bubbles (a0 : Nat) (μ : gm_M) : gm_Call ({ cls := "GumBubbleModel", name := "bubbles", desc := "()I" } : Jvm.MethodName) prog_14_method_37_code 3 (some .int) 0 0 0 [.ref a0] μ (f_X12_bubbles a0 μ) := by
  refine gm_start PN_12 (Nat.le_of_ble_eq_true rfl) (fun res μe => ?_)
  unfold f_X12_bubbles
  show gm_A "GumBubbleModel" (gm_nm "bubbles") _ _ _ _ _ _ _ _ _ 0 [(0, .ref a0)] [] _ _
  refine gm_iconst (v := 0) d_X12_bubbles_0 (by decide) ?_
  refine gm_istore_n (L' := [(1, .int (0 : Int32)), (0, .ref a0)]) d_X12_bubbles_1 rfl (Nat.le_of_ble_eq_true rfl) rfl ?_
  refine gm_iconst (v := 0) d_X12_bubbles_2 (by decide) ?_
  refine gm_istore_n (L' := [(2, .int (0 : Int32)), (1, .int (0 : Int32)), (0, .ref a0)]) d_X12_bubbles_3 rfl (Nat.le_of_ble_eq_true rfl) rfl ?_
  refine gm_sub (L' := [(0, .ref a0), (1, .int (0 : Int32)), (2, .int (0 : Int32))]) [2, 1, 0] rfl ?_
  refine gm_lp (S := Int32 × Int32) (fun _ => 0) (fun _ => 0) (fun s1 => μ) (fun s1 => [(0, .ref a0), (1, .int s1.1), (2, .int s1.2)]) (fun _ => []) (fun s1 => ?_) 5000 ((0 : Int32), (0 : Int32))
  refine gm_iload_n d_X12_bubbles_4 rfl 2 rfl ?_
  refine gm_aload_n d_X12_bubbles_5 rfl 0 rfl ?_
  refine gm_getR F_12_s gw_890 d_X12_bubbles_6 (fun v2 _ => ?_)
  refine gm_bipush (v := 26) d_X12_bubbles_9 (by decide) ?_
  refine gm_iald d_X12_bubbles_11 (fun v3 _ => ?_)
  refine gm_icmp_ge (tgt := 43) d_X12_bubbles_12 (by decide) (fun h12 => ?_) (fun h12 => ?_)
  ·
    refine gm_iload_n d_X12_bubbles_43 rfl 1 rfl ?_
    exact gm_iret rfl d_X12_bubbles_44 (Nat.le_of_ble_eq_true rfl) (Nat.le_of_ble_eq_true rfl) (fun h => h)
  ·
    refine gm_iload_n d_X12_bubbles_15 rfl 1 rfl ?_
    refine gm_aload_n d_X12_bubbles_16 rfl 0 rfl ?_
    refine gm_getR F_12_s gw_890 d_X12_bubbles_17 (fun v4 _ => ?_)
    refine gm_bipush (v := 16) d_X12_bubbles_20 (by decide) ?_
    refine gm_iload_n d_X12_bubbles_22 rfl 2 rfl ?_
    refine gm_iadd d_X12_bubbles_23 ?_
    refine gm_iald d_X12_bubbles_24 (fun v5 _ => ?_)
    refine gm_join (S := Int32) (pj := 35) (kj := 0) (nj := 0) (fun s6 => μ) (fun s6 => [(0, .ref a0), (1, .int s1.1), (2, .int s1.2)]) (fun s6 => [.int s6, .int s1.1]) (fun s6 => ?_) (fun j7 hj7 => ?_)
    ·
      refine gm_ior d_X12_bubbles_35 ?_
      refine gm_istore_n (L' := [(1, .int (s1.1 ||| s6)), (0, .ref a0), (2, .int s1.2)]) d_X12_bubbles_36 rfl (Nat.le_of_ble_eq_true rfl) rfl ?_
      refine gm_iinc (v := s1.2 + (1 : Int32)) (L' := [(2, .int (s1.2 + (1 : Int32))), (1, .int (s1.1 ||| s6)), (0, .ref a0)]) d_X12_bubbles_37 2 rfl rfl (Nat.le_of_ble_eq_true rfl) rfl ?_
      refine gm_goto (tgt := 4) d_X12_bubbles_40 (by decide) ?_
      refine gm_sub (L' := [(0, .ref a0), (1, .int (s1.1 ||| s6)), (2, .int (s1.2 + (1 : Int32)))]) [2, 1, 0] rfl ?_
      exact gm_back (fun h => h)
    ·
      refine gm_if_le (tgt := 34) d_X12_bubbles_25 (by decide) (fun h25 => ?_) (fun h25 => ?_)
      ·
        refine gm_iconst (v := 0) d_X12_bubbles_34 (by decide) ?_
        exact hj7 (0 : Int32)
      ·
        refine gm_iconst (v := 1) d_X12_bubbles_28 (by decide) ?_
        refine gm_iload_n d_X12_bubbles_29 rfl 2 rfl ?_
        refine gm_ishl d_X12_bubbles_30 ?_
        refine gm_goto (tgt := 35) d_X12_bubbles_31 (by decide) ?_
        exact hj7 ((1 : Int32) <<< (s1.2 &&& 31))
theorem d_X12_sweetNow_0 : decode prog_14_method_25_code 0 = .ok (.aload_n 0, 1) := ge_aload_n_0 (by decide +kernel)
theorem d_X12_sweetNow_1 : decode prog_14_method_25_code 1 = .ok (.sipush 215, 3) := ge_sipush (by decide +kernel)
theorem d_X12_sweetNow_4 : decode prog_14_method_25_code 4 = .ok (.bipush 20, 2) := ge_bipush (by decide +kernel)
theorem d_X12_sweetNow_6 : decode prog_14_method_25_code 6 = .ok (.invokevirtual 129, 3) := ge_invokevirtual (by decide +kernel)
theorem d_X12_sweetNow_9 : decode prog_14_method_25_code 9 = .ok (.ireturn, 1) := ge_ireturn (by decide +kernel)
def f_X12_sweetNow (a0 : Nat) (μ : gm_M) : Option (Option Value × gm_M) := if gm_tag μ a0 = 17 then gm_bI (f_X12_tellsOf a0 (215 : Int32) (20 : Int32) μ) (fun x2 m1 => some (some (.int x2), m1)) else none
set_option maxHeartbeats 4000000 in
theorem c_X12_sweetNow (a0 : Nat) (μ : gm_M) : gm_Call ({ cls := "GumBubbleModel", name := "sweetNow", desc := "()I" } : Jvm.MethodName) prog_14_method_25_code 1 (some .int) 1 0 0 [.ref a0] μ (f_X12_sweetNow a0 μ) := by
  refine gm_start PN_12 (Nat.le_of_ble_eq_true rfl) (fun res μe => ?_)
  unfold f_X12_sweetNow
  show gm_A "GumBubbleModel" (gm_nm "sweetNow") _ _ _ _ _ _ _ _ _ 0 [(0, .ref a0)] [] _ _
  refine gm_aload_n d_X12_sweetNow_0 rfl 0 rfl ?_
  refine gm_sipush (v := 215) d_X12_sweetNow_1 (by decide) ?_
  refine gm_bipush (v := 20) d_X12_sweetNow_4 (by decide) ?_
  refine gm_grd (fun g6 => ?_)
  refine gm_callV (k0 := 12) [.int (215 : Int32), .int (20 : Int32)] (c_X12_tellsOf a0 (215 : Int32) (20 : Int32) μ) g6 rfl B_X12_tellsOf gw_1039 gs_39 rfl rfl rfl d_X12_sweetNow_6 (gm_kI (fun x2 m1 => ?_))
  exact gm_iret rfl d_X12_sweetNow_9 (Nat.le_of_ble_eq_true rfl) (Nat.le_of_ble_eq_true rfl) (fun h => h)
theorem d_X12_child_0 : decode prog_14_method_32_code 0 = .ok (.iload_n 1, 1) := ge_iload_n_1 (by decide +kernel)
theorem d_X12_child_1 : decode prog_14_method_32_code 1 = .ok (.iconst 0, 1) := ge_iconst_0 (by decide +kernel)
theorem d_X12_child_2 : decode prog_14_method_32_code 2 = .ok (.bipush 6, 2) := ge_bipush (by decide +kernel)
theorem d_X12_child_4 : decode prog_14_method_32_code 4 = .ok (.invokestatic 44, 3) := ge_invokestatic (by decide +kernel)
theorem d_X12_child_7 : decode prog_14_method_32_code 7 = .ok (.ifCond .ne 5, 3) := ge_ifCond_ne (by decide +kernel)
theorem d_X12_child_10 : decode prog_14_method_32_code 10 = .ok (.iconst (-1), 1) := ge_iconst_m1_ (by decide +kernel)
theorem d_X12_child_11 : decode prog_14_method_32_code 11 = .ok (.ireturn, 1) := ge_ireturn (by decide +kernel)
theorem d_X12_child_12 : decode prog_14_method_32_code 12 = .ok (.iload_n 2, 1) := ge_iload_n_2 (by decide +kernel)
theorem d_X12_child_13 : decode prog_14_method_32_code 13 = .ok (.iconst 0, 1) := ge_iconst_0 (by decide +kernel)
theorem d_X12_child_14 : decode prog_14_method_32_code 14 = .ok (.bipush 9, 2) := ge_bipush (by decide +kernel)
theorem d_X12_child_16 : decode prog_14_method_32_code 16 = .ok (.invokestatic 44, 3) := ge_invokestatic (by decide +kernel)
theorem d_X12_child_19 : decode prog_14_method_32_code 19 = .ok (.ifCond .ne 6, 3) := ge_ifCond_ne (by decide +kernel)
theorem d_X12_child_22 : decode prog_14_method_32_code 22 = .ok (.bipush (-2), 2) := ge_bipush (by decide +kernel)
theorem d_X12_child_24 : decode prog_14_method_32_code 24 = .ok (.ireturn, 1) := ge_ireturn (by decide +kernel)
theorem d_X12_child_25 : decode prog_14_method_32_code 25 = .ok (.aload_n 0, 1) := ge_aload_n_0 (by decide +kernel)
theorem d_X12_child_26 : decode prog_14_method_32_code 26 = .ok (.getfield 9, 3) := ge_getfield (by decide +kernel)
theorem d_X12_child_29 : decode prog_14_method_32_code 29 = .ok (.bipush 26, 2) := ge_bipush (by decide +kernel)
theorem d_X12_child_31 : decode prog_14_method_32_code 31 = .ok (.iaload, 1) := ge_iaload (by decide +kernel)
theorem d_X12_child_32 : decode prog_14_method_32_code 32 = .ok (.iconst 5, 1) := ge_iconst_5 (by decide +kernel)
theorem d_X12_child_33 : decode prog_14_method_32_code 33 = .ok (.if_icmp .ne 6, 3) := ge_if_icmp_ne (by decide +kernel)
theorem d_X12_child_36 : decode prog_14_method_32_code 36 = .ok (.bipush (-4), 2) := ge_bipush (by decide +kernel)
theorem d_X12_child_38 : decode prog_14_method_32_code 38 = .ok (.ireturn, 1) := ge_ireturn (by decide +kernel)
theorem d_X12_child_39 : decode prog_14_method_32_code 39 = .ok (.aload_n 0, 1) := ge_aload_n_0 (by decide +kernel)
theorem d_X12_child_40 : decode prog_14_method_32_code 40 = .ok (.getfield 9, 3) := ge_getfield (by decide +kernel)
theorem d_X12_child_43 : decode prog_14_method_32_code 43 = .ok (.bipush 26, 2) := ge_bipush (by decide +kernel)
theorem d_X12_child_45 : decode prog_14_method_32_code 45 = .ok (.iaload, 1) := ge_iaload (by decide +kernel)
theorem d_X12_child_46 : decode prog_14_method_32_code 46 = .ok (.istore_n 3, 1) := ge_istore_n_3 (by decide +kernel)
theorem d_X12_child_47 : decode prog_14_method_32_code 47 = .ok (.aload_n 0, 1) := ge_aload_n_0 (by decide +kernel)
theorem d_X12_child_48 : decode prog_14_method_32_code 48 = .ok (.getfield 9, 3) := ge_getfield (by decide +kernel)
theorem d_X12_child_51 : decode prog_14_method_32_code 51 = .ok (.bipush 33, 2) := ge_bipush (by decide +kernel)
theorem d_X12_child_53 : decode prog_14_method_32_code 53 = .ok (.iload_n 3, 1) := ge_iload_n_3 (by decide +kernel)
theorem d_X12_child_54 : decode prog_14_method_32_code 54 = .ok (.iadd, 1) := ge_iadd (by decide +kernel)
theorem d_X12_child_55 : decode prog_14_method_32_code 55 = .ok (.iload_n 1, 1) := ge_iload_n_1 (by decide +kernel)
theorem d_X12_child_56 : decode prog_14_method_32_code 56 = .ok (.iastore, 1) := ge_iastore (by decide +kernel)
theorem d_X12_child_57 : decode prog_14_method_32_code 57 = .ok (.aload_n 0, 1) := ge_aload_n_0 (by decide +kernel)
theorem d_X12_child_58 : decode prog_14_method_32_code 58 = .ok (.getfield 9, 3) := ge_getfield (by decide +kernel)
theorem d_X12_child_61 : decode prog_14_method_32_code 61 = .ok (.bipush 38, 2) := ge_bipush (by decide +kernel)
theorem d_X12_child_63 : decode prog_14_method_32_code 63 = .ok (.iload_n 3, 1) := ge_iload_n_3 (by decide +kernel)
theorem d_X12_child_64 : decode prog_14_method_32_code 64 = .ok (.iadd, 1) := ge_iadd (by decide +kernel)
theorem d_X12_child_65 : decode prog_14_method_32_code 65 = .ok (.iload_n 2, 1) := ge_iload_n_2 (by decide +kernel)
theorem d_X12_child_66 : decode prog_14_method_32_code 66 = .ok (.iastore, 1) := ge_iastore (by decide +kernel)
theorem d_X12_child_67 : decode prog_14_method_32_code 67 = .ok (.aload_n 0, 1) := ge_aload_n_0 (by decide +kernel)
theorem d_X12_child_68 : decode prog_14_method_32_code 68 = .ok (.getfield 9, 3) := ge_getfield (by decide +kernel)
theorem d_X12_child_71 : decode prog_14_method_32_code 71 = .ok (.iconst 1, 1) := ge_iconst_1 (by decide +kernel)
theorem d_X12_child_72 : decode prog_14_method_32_code 72 = .ok (.iload_n 3, 1) := ge_iload_n_3 (by decide +kernel)
theorem d_X12_child_73 : decode prog_14_method_32_code 73 = .ok (.iadd, 1) := ge_iadd (by decide +kernel)
theorem d_X12_child_74 : decode prog_14_method_32_code 74 = .ok (.iconst 1, 1) := ge_iconst_1 (by decide +kernel)
theorem d_X12_child_75 : decode prog_14_method_32_code 75 = .ok (.iastore, 1) := ge_iastore (by decide +kernel)
theorem d_X12_child_76 : decode prog_14_method_32_code 76 = .ok (.aload_n 0, 1) := ge_aload_n_0 (by decide +kernel)
theorem d_X12_child_77 : decode prog_14_method_32_code 77 = .ok (.getfield 9, 3) := ge_getfield (by decide +kernel)
theorem d_X12_child_80 : decode prog_14_method_32_code 80 = .ok (.bipush 6, 2) := ge_bipush (by decide +kernel)
theorem d_X12_child_82 : decode prog_14_method_32_code 82 = .ok (.iload_n 3, 1) := ge_iload_n_3 (by decide +kernel)
theorem d_X12_child_83 : decode prog_14_method_32_code 83 = .ok (.iadd, 1) := ge_iadd (by decide +kernel)
theorem d_X12_child_84 : decode prog_14_method_32_code 84 = .ok (.aload_n 0, 1) := ge_aload_n_0 (by decide +kernel)
theorem d_X12_child_85 : decode prog_14_method_32_code 85 = .ok (.invokevirtual 151, 3) := ge_invokevirtual (by decide +kernel)
theorem d_X12_child_88 : decode prog_14_method_32_code 88 = .ok (.iastore, 1) := ge_iastore (by decide +kernel)
theorem d_X12_child_89 : decode prog_14_method_32_code 89 = .ok (.aload_n 0, 1) := ge_aload_n_0 (by decide +kernel)
theorem d_X12_child_90 : decode prog_14_method_32_code 90 = .ok (.getfield 9, 3) := ge_getfield (by decide +kernel)
theorem d_X12_child_93 : decode prog_14_method_32_code 93 = .ok (.bipush 11, 2) := ge_bipush (by decide +kernel)
theorem d_X12_child_95 : decode prog_14_method_32_code 95 = .ok (.iload_n 3, 1) := ge_iload_n_3 (by decide +kernel)
theorem d_X12_child_96 : decode prog_14_method_32_code 96 = .ok (.iadd, 1) := ge_iadd (by decide +kernel)
theorem d_X12_child_97 : decode prog_14_method_32_code 97 = .ok (.iconst 0, 1) := ge_iconst_0 (by decide +kernel)
theorem d_X12_child_98 : decode prog_14_method_32_code 98 = .ok (.iastore, 1) := ge_iastore (by decide +kernel)
theorem d_X12_child_99 : decode prog_14_method_32_code 99 = .ok (.aload_n 0, 1) := ge_aload_n_0 (by decide +kernel)
theorem d_X12_child_100 : decode prog_14_method_32_code 100 = .ok (.getfield 9, 3) := ge_getfield (by decide +kernel)
theorem d_X12_child_103 : decode prog_14_method_32_code 103 = .ok (.bipush 16, 2) := ge_bipush (by decide +kernel)
theorem d_X12_child_105 : decode prog_14_method_32_code 105 = .ok (.iload_n 3, 1) := ge_iload_n_3 (by decide +kernel)
theorem d_X12_child_106 : decode prog_14_method_32_code 106 = .ok (.iadd, 1) := ge_iadd (by decide +kernel)
theorem d_X12_child_107 : decode prog_14_method_32_code 107 = .ok (.iconst 0, 1) := ge_iconst_0 (by decide +kernel)
theorem d_X12_child_108 : decode prog_14_method_32_code 108 = .ok (.iastore, 1) := ge_iastore (by decide +kernel)
theorem d_X12_child_109 : decode prog_14_method_32_code 109 = .ok (.aload_n 0, 1) := ge_aload_n_0 (by decide +kernel)
theorem d_X12_child_110 : decode prog_14_method_32_code 110 = .ok (.getfield 9, 3) := ge_getfield (by decide +kernel)
theorem d_X12_child_113 : decode prog_14_method_32_code 113 = .ok (.bipush 21, 2) := ge_bipush (by decide +kernel)
theorem d_X12_child_115 : decode prog_14_method_32_code 115 = .ok (.iload_n 3, 1) := ge_iload_n_3 (by decide +kernel)
theorem d_X12_child_116 : decode prog_14_method_32_code 116 = .ok (.iadd, 1) := ge_iadd (by decide +kernel)
theorem d_X12_child_117 : decode prog_14_method_32_code 117 = .ok (.iconst 0, 1) := ge_iconst_0 (by decide +kernel)
theorem d_X12_child_118 : decode prog_14_method_32_code 118 = .ok (.iastore, 1) := ge_iastore (by decide +kernel)
theorem d_X12_child_119 : decode prog_14_method_32_code 119 = .ok (.iconst 0, 1) := ge_iconst_0 (by decide +kernel)
theorem d_X12_child_120 : decode prog_14_method_32_code 120 = .ok (.istore 4, 2) := ge_istore (by decide +kernel)
theorem d_X12_child_122 : decode prog_14_method_32_code 122 = .ok (.iload 4, 2) := ge_iload (by decide +kernel)
theorem d_X12_child_124 : decode prog_14_method_32_code 124 = .ok (.iconst 4, 1) := ge_iconst_4 (by decide +kernel)
theorem d_X12_child_125 : decode prog_14_method_32_code 125 = .ok (.if_icmp .ge 24, 3) := ge_if_icmp_ge (by decide +kernel)
theorem d_X12_child_128 : decode prog_14_method_32_code 128 = .ok (.aload_n 0, 1) := ge_aload_n_0 (by decide +kernel)
theorem d_X12_child_129 : decode prog_14_method_32_code 129 = .ok (.getfield 9, 3) := ge_getfield (by decide +kernel)
theorem d_X12_child_132 : decode prog_14_method_32_code 132 = .ok (.bipush 43, 2) := ge_bipush (by decide +kernel)
theorem d_X12_child_134 : decode prog_14_method_32_code 134 = .ok (.iconst 4, 1) := ge_iconst_4 (by decide +kernel)
theorem d_X12_child_135 : decode prog_14_method_32_code 135 = .ok (.iload_n 3, 1) := ge_iload_n_3 (by decide +kernel)
theorem d_X12_child_136 : decode prog_14_method_32_code 136 = .ok (.imul, 1) := ge_imul (by decide +kernel)
theorem d_X12_child_137 : decode prog_14_method_32_code 137 = .ok (.iadd, 1) := ge_iadd (by decide +kernel)
theorem d_X12_child_138 : decode prog_14_method_32_code 138 = .ok (.iload 4, 2) := ge_iload (by decide +kernel)
theorem d_X12_child_140 : decode prog_14_method_32_code 140 = .ok (.iadd, 1) := ge_iadd (by decide +kernel)
theorem d_X12_child_141 : decode prog_14_method_32_code 141 = .ok (.iconst 0, 1) := ge_iconst_0 (by decide +kernel)
theorem d_X12_child_142 : decode prog_14_method_32_code 142 = .ok (.iastore, 1) := ge_iastore (by decide +kernel)
theorem d_X12_child_143 : decode prog_14_method_32_code 143 = .ok (.iinc 4 1, 3) := ge_iinc (by decide +kernel)
theorem d_X12_child_146 : decode prog_14_method_32_code 146 = .ok (.goto (-24), 3) := ge_goto (by decide +kernel)
theorem d_X12_child_149 : decode prog_14_method_32_code 149 = .ok (.aload_n 0, 1) := ge_aload_n_0 (by decide +kernel)
theorem d_X12_child_150 : decode prog_14_method_32_code 150 = .ok (.getfield 9, 3) := ge_getfield (by decide +kernel)
theorem d_X12_child_153 : decode prog_14_method_32_code 153 = .ok (.bipush 26, 2) := ge_bipush (by decide +kernel)
theorem d_X12_child_155 : decode prog_14_method_32_code 155 = .ok (.dup2, 1) := ge_dup2 (by decide +kernel)
theorem d_X12_child_156 : decode prog_14_method_32_code 156 = .ok (.iaload, 1) := ge_iaload (by decide +kernel)
theorem d_X12_child_157 : decode prog_14_method_32_code 157 = .ok (.iconst 1, 1) := ge_iconst_1 (by decide +kernel)
theorem d_X12_child_158 : decode prog_14_method_32_code 158 = .ok (.iadd, 1) := ge_iadd (by decide +kernel)
theorem d_X12_child_159 : decode prog_14_method_32_code 159 = .ok (.iastore, 1) := ge_iastore (by decide +kernel)
theorem d_X12_child_160 : decode prog_14_method_32_code 160 = .ok (.iload_n 3, 1) := ge_iload_n_3 (by decide +kernel)
theorem d_X12_child_161 : decode prog_14_method_32_code 161 = .ok (.ireturn, 1) := ge_ireturn (by decide +kernel)
def f_X12_child (a0 : Nat) (a1 : Int32) (a2 : Int32) (μ : gm_M) : Option (Option Value × gm_M) := gm_bI (f_X12_in a1 (0 : Int32) (6 : Int32) μ) (fun x2 m1 => if x2 ≠ 0 then gm_bI (f_X12_in a2 (0 : Int32) (9 : Int32) m1) (fun x4 m3 => if x4 ≠ 0 then gm_gR m3 [17] a0 1 (fun v5 => gm_aI m3 v5 (26 : Int32) (fun v6 => if v6 ≠ (5 : Int32) then gm_gR m3 [17] a0 1 (fun v7 => gm_aI m3 v7 (26 : Int32) (fun v8 => gm_gR m3 [17] a0 1 (fun v9 => gm_sI m3 v9 ((33 : Int32) + v8) a1 (fun m10 => gm_gR m10 [17] a0 1 (fun v11 => gm_sI m10 v11 ((38 : Int32) + v8) a2 (fun m12 => gm_gR m12 [17] a0 1 (fun v13 => gm_sI m12 v13 ((1 : Int32) + v8) (1 : Int32) (fun m14 => gm_gR m14 [17] a0 1 (fun v15 => if gm_tag m14 a0 = 17 then gm_bI (f_X12_sweetNow a0 m14) (fun x17 m16 => gm_sI m16 v15 ((6 : Int32) + v8) x17 (fun m18 => gm_gR m18 [17] a0 1 (fun v19 => gm_sI m18 v19 ((11 : Int32) + v8) (0 : Int32) (fun m20 => gm_gR m20 [17] a0 1 (fun v21 => gm_sI m20 v21 ((16 : Int32) + v8) (0 : Int32) (fun m22 => gm_gR m22 [17] a0 1 (fun v23 => gm_sI m22 v23 ((21 : Int32) + v8) (0 : Int32) (fun m24 => gm_loop (fun (s25 : Int32 × gm_M) => if (4 : Int32) ≤ s25.1 then gm_gR s25.2 [17] a0 1 (fun v26 => gm_aI s25.2 v26 (26 : Int32) (fun v27 => gm_sI s25.2 v26 (26 : Int32) (v27 + (1 : Int32)) (fun m28 => some (Sum.inr (some (.int v8), m28))))) else gm_gR s25.2 [17] a0 1 (fun v29 => gm_sI s25.2 v29 (((43 : Int32) + ((4 : Int32) * v8)) + s25.1) (0 : Int32) (fun m30 => some (Sum.inl ((s25.1 + (1 : Int32)), m30))))) 5000 ((0 : Int32), m24))))))))) else none))))))))) else some (some (.int (-4 : Int32)), m3))) else some (some (.int (-2 : Int32)), m3)) else some (some (.int (-1 : Int32)), m1))
set_option maxHeartbeats 4000000 in
theorem c_X12_child (a0 : Nat) (a1 : Int32) (a2 : Int32) (μ : gm_M) : gm_Call ({ cls := "GumBubbleModel", name := "child", desc := "(II)I" } : Jvm.MethodName) prog_14_method_32_code 5 (some .int) 2 0 0 [.ref a0, .int a1, .int a2] μ (f_X12_child a0 a1 a2 μ) := by
  refine gm_start PN_12 (Nat.le_of_ble_eq_true rfl) (fun res μe => ?_)
  unfold f_X12_child
  show gm_A "GumBubbleModel" (gm_nm "child") _ _ _ _ _ _ _ _ _ 0 [(0, .ref a0), (1, .int a1), (2, .int a2)] [] _ _
  refine gm_iload_n d_X12_child_0 rfl 1 rfl ?_
  refine gm_iconst (v := 0) d_X12_child_1 (by decide) ?_
  refine gm_bipush (v := 6) d_X12_child_2 (by decide) ?_
  refine gm_callS [.int a1, .int (0 : Int32), .int (6 : Int32)] (c_X12_in a1 (0 : Int32) (6 : Int32) μ) B_X12_in gw_964 rfl rfl rfl d_X12_child_4 (gm_kI (fun x2 m1 => ?_))
  refine gm_if_ne (tgt := 12) d_X12_child_7 (by decide) (fun h7 => ?_) (fun h7 => ?_)
  ·
    refine gm_iload_n d_X12_child_12 rfl 2 rfl ?_
    refine gm_iconst (v := 0) d_X12_child_13 (by decide) ?_
    refine gm_bipush (v := 9) d_X12_child_14 (by decide) ?_
    refine gm_callS [.int a2, .int (0 : Int32), .int (9 : Int32)] (c_X12_in a2 (0 : Int32) (9 : Int32) m1) B_X12_in gw_964 rfl rfl rfl d_X12_child_16 (gm_kI (fun x4 m3 => ?_))
    refine gm_if_ne (tgt := 25) d_X12_child_19 (by decide) (fun h19 => ?_) (fun h19 => ?_)
    ·
      refine gm_aload_n d_X12_child_25 rfl 0 rfl ?_
      refine gm_getR F_12_s gw_890 d_X12_child_26 (fun v5 _ => ?_)
      refine gm_bipush (v := 26) d_X12_child_29 (by decide) ?_
      refine gm_iald d_X12_child_31 (fun v6 _ => ?_)
      refine gm_iconst (v := 5) d_X12_child_32 (by decide) ?_
      refine gm_icmp_ne (tgt := 39) d_X12_child_33 (by decide) (fun h33 => ?_) (fun h33 => ?_)
      ·
        refine gm_aload_n d_X12_child_39 rfl 0 rfl ?_
        refine gm_getR F_12_s gw_890 d_X12_child_40 (fun v7 _ => ?_)
        refine gm_bipush (v := 26) d_X12_child_43 (by decide) ?_
        refine gm_iald d_X12_child_45 (fun v8 _ => ?_)
        refine gm_istore_n (L' := [(3, .int v8), (0, .ref a0), (1, .int a1), (2, .int a2)]) d_X12_child_46 rfl (Nat.le_of_ble_eq_true rfl) rfl ?_
        refine gm_aload_n d_X12_child_47 rfl 1 rfl ?_
        refine gm_getR F_12_s gw_890 d_X12_child_48 (fun v9 _ => ?_)
        refine gm_bipush (v := 33) d_X12_child_51 (by decide) ?_
        refine gm_iload_n d_X12_child_53 rfl 0 rfl ?_
        refine gm_iadd d_X12_child_54 ?_
        refine gm_iload_n d_X12_child_55 rfl 2 rfl ?_
        refine gm_iast d_X12_child_56 (fun m10 _ => ?_)
        refine gm_aload_n d_X12_child_57 rfl 1 rfl ?_
        refine gm_getR F_12_s gw_890 d_X12_child_58 (fun v11 _ => ?_)
        refine gm_bipush (v := 38) d_X12_child_61 (by decide) ?_
        refine gm_iload_n d_X12_child_63 rfl 0 rfl ?_
        refine gm_iadd d_X12_child_64 ?_
        refine gm_iload_n d_X12_child_65 rfl 3 rfl ?_
        refine gm_iast d_X12_child_66 (fun m12 _ => ?_)
        refine gm_aload_n d_X12_child_67 rfl 1 rfl ?_
        refine gm_getR F_12_s gw_890 d_X12_child_68 (fun v13 _ => ?_)
        refine gm_iconst (v := 1) d_X12_child_71 (by decide) ?_
        refine gm_iload_n d_X12_child_72 rfl 0 rfl ?_
        refine gm_iadd d_X12_child_73 ?_
        refine gm_iconst (v := 1) d_X12_child_74 (by decide) ?_
        refine gm_iast d_X12_child_75 (fun m14 _ => ?_)
        refine gm_aload_n d_X12_child_76 rfl 1 rfl ?_
        refine gm_getR F_12_s gw_890 d_X12_child_77 (fun v15 _ => ?_)
        refine gm_bipush (v := 6) d_X12_child_80 (by decide) ?_
        refine gm_iload_n d_X12_child_82 rfl 0 rfl ?_
        refine gm_iadd d_X12_child_83 ?_
        refine gm_aload_n d_X12_child_84 rfl 1 rfl ?_
        refine gm_grd (fun g85 => ?_)
        refine gm_callV (k0 := 12) [] (c_X12_sweetNow a0 m14) g85 rfl B_X12_sweetNow gw_1035 gs_38 rfl rfl rfl d_X12_child_85 (gm_kI (fun x17 m16 => ?_))
        refine gm_iast d_X12_child_88 (fun m18 _ => ?_)
        refine gm_aload_n d_X12_child_89 rfl 1 rfl ?_
        refine gm_getR F_12_s gw_890 d_X12_child_90 (fun v19 _ => ?_)
        refine gm_bipush (v := 11) d_X12_child_93 (by decide) ?_
        refine gm_iload_n d_X12_child_95 rfl 0 rfl ?_
        refine gm_iadd d_X12_child_96 ?_
        refine gm_iconst (v := 0) d_X12_child_97 (by decide) ?_
        refine gm_iast d_X12_child_98 (fun m20 _ => ?_)
        refine gm_aload_n d_X12_child_99 rfl 1 rfl ?_
        refine gm_getR F_12_s gw_890 d_X12_child_100 (fun v21 _ => ?_)
        refine gm_bipush (v := 16) d_X12_child_103 (by decide) ?_
        refine gm_iload_n d_X12_child_105 rfl 0 rfl ?_
        refine gm_iadd d_X12_child_106 ?_
        refine gm_iconst (v := 0) d_X12_child_107 (by decide) ?_
        refine gm_iast d_X12_child_108 (fun m22 _ => ?_)
        refine gm_aload_n d_X12_child_109 rfl 1 rfl ?_
        refine gm_getR F_12_s gw_890 d_X12_child_110 (fun v23 _ => ?_)
        refine gm_bipush (v := 21) d_X12_child_113 (by decide) ?_
        refine gm_iload_n d_X12_child_115 rfl 0 rfl ?_
        refine gm_iadd d_X12_child_116 ?_
        refine gm_iconst (v := 0) d_X12_child_117 (by decide) ?_
        refine gm_iast d_X12_child_118 (fun m24 _ => ?_)
        refine gm_iconst (v := 0) d_X12_child_119 (by decide) ?_
        refine gm_istore (L' := [(4, .int (0 : Int32)), (3, .int v8), (0, .ref a0), (1, .int a1), (2, .int a2)]) d_X12_child_120 (Nat.le_of_ble_eq_true rfl) rfl ?_
        refine gm_sub (L' := [(0, .ref a0), (1, .int a1), (2, .int a2), (3, .int v8), (4, .int (0 : Int32))]) [2, 3, 4, 1, 0] rfl ?_
        refine gm_lp (S := Int32 × gm_M) (fun _ => 0) (fun _ => 0) (fun s25 => s25.2) (fun s25 => [(0, .ref a0), (1, .int a1), (2, .int a2), (3, .int v8), (4, .int s25.1)]) (fun _ => []) (fun s25 => ?_) 5000 ((0 : Int32), m24)
        refine gm_iload d_X12_child_122 4 rfl ?_
        refine gm_iconst (v := 4) d_X12_child_124 (by decide) ?_
        refine gm_icmp_ge (tgt := 149) d_X12_child_125 (by decide) (fun h125 => ?_) (fun h125 => ?_)
        ·
          refine gm_aload_n d_X12_child_149 rfl 0 rfl ?_
          refine gm_getR F_12_s gw_890 d_X12_child_150 (fun v26 _ => ?_)
          refine gm_bipush (v := 26) d_X12_child_153 (by decide) ?_
          refine gm_dup2 d_X12_child_155 rfl rfl ?_
          refine gm_iald d_X12_child_156 (fun v27 _ => ?_)
          refine gm_iconst (v := 1) d_X12_child_157 (by decide) ?_
          refine gm_iadd d_X12_child_158 ?_
          refine gm_iast d_X12_child_159 (fun m28 _ => ?_)
          refine gm_iload_n d_X12_child_160 rfl 3 rfl ?_
          exact gm_iret rfl d_X12_child_161 (Nat.le_of_ble_eq_true rfl) (Nat.le_of_ble_eq_true rfl) (fun h => h)
        ·
          refine gm_aload_n d_X12_child_128 rfl 0 rfl ?_
          refine gm_getR F_12_s gw_890 d_X12_child_129 (fun v29 _ => ?_)
          refine gm_bipush (v := 43) d_X12_child_132 (by decide) ?_
          refine gm_iconst (v := 4) d_X12_child_134 (by decide) ?_
          refine gm_iload_n d_X12_child_135 rfl 3 rfl ?_
          refine gm_imul d_X12_child_136 ?_
          refine gm_iadd d_X12_child_137 ?_
          refine gm_iload d_X12_child_138 4 rfl ?_
          refine gm_iadd d_X12_child_140 ?_
          refine gm_iconst (v := 0) d_X12_child_141 (by decide) ?_
          refine gm_iast d_X12_child_142 (fun m30 _ => ?_)
          refine gm_iinc (v := s25.1 + (1 : Int32)) (L' := [(4, .int (s25.1 + (1 : Int32))), (0, .ref a0), (1, .int a1), (2, .int a2), (3, .int v8)]) d_X12_child_143 4 rfl rfl (Nat.le_of_ble_eq_true rfl) rfl ?_
          refine gm_goto (tgt := 122) d_X12_child_146 (by decide) ?_
          refine gm_sub (L' := [(0, .ref a0), (1, .int a1), (2, .int a2), (3, .int v8), (4, .int (s25.1 + (1 : Int32)))]) [1, 2, 3, 4, 0] rfl ?_
          exact gm_back (fun h => h)
      ·
        refine gm_bipush (v := -4) d_X12_child_36 (by decide) ?_
        exact gm_iret rfl d_X12_child_38 (Nat.le_of_ble_eq_true rfl) (Nat.le_of_ble_eq_true rfl) (fun h => h)
    ·
      refine gm_bipush (v := -2) d_X12_child_22 (by decide) ?_
      exact gm_iret rfl d_X12_child_24 (Nat.le_of_ble_eq_true rfl) (Nat.le_of_ble_eq_true rfl) (fun h => h)
  ·
    refine gm_iconst (v := -1) d_X12_child_10 (by decide) ?_
    exact gm_iret rfl d_X12_child_11 (Nat.le_of_ble_eq_true rfl) (Nat.le_of_ble_eq_true rfl) (fun h => h)
theorem d_X12_clean_0 : decode prog_14_method_65_code 0 = .ok (.aload_n 0, 1) := ge_aload_n_0 (by decide +kernel)
theorem d_X12_clean_1 : decode prog_14_method_65_code 1 = .ok (.iload_n 1, 1) := ge_iload_n_1 (by decide +kernel)
theorem d_X12_clean_2 : decode prog_14_method_65_code 2 = .ok (.invokevirtual 154, 3) := ge_invokevirtual (by decide +kernel)
theorem d_X12_clean_5 : decode prog_14_method_65_code 5 = .ok (.ifCond .ne 5, 3) := ge_ifCond_ne (by decide +kernel)
theorem d_X12_clean_8 : decode prog_14_method_65_code 8 = .ok (.iconst (-1), 1) := ge_iconst_m1_ (by decide +kernel)
theorem d_X12_clean_9 : decode prog_14_method_65_code 9 = .ok (.ireturn, 1) := ge_ireturn (by decide +kernel)
theorem d_X12_clean_10 : decode prog_14_method_65_code 10 = .ok (.iload_n 2, 1) := ge_iload_n_2 (by decide +kernel)
theorem d_X12_clean_11 : decode prog_14_method_65_code 11 = .ok (.iconst 1, 1) := ge_iconst_1 (by decide +kernel)
theorem d_X12_clean_12 : decode prog_14_method_65_code 12 = .ok (.bipush 99, 2) := ge_bipush (by decide +kernel)
theorem d_X12_clean_14 : decode prog_14_method_65_code 14 = .ok (.invokestatic 44, 3) := ge_invokestatic (by decide +kernel)
theorem d_X12_clean_17 : decode prog_14_method_65_code 17 = .ok (.ifCond .eq 21, 3) := ge_ifCond_eq (by decide +kernel)
theorem d_X12_clean_20 : decode prog_14_method_65_code 20 = .ok (.aload_n 0, 1) := ge_aload_n_0 (by decide +kernel)
theorem d_X12_clean_21 : decode prog_14_method_65_code 21 = .ok (.getfield 9, 3) := ge_getfield (by decide +kernel)
theorem d_X12_clean_24 : decode prog_14_method_65_code 24 = .ok (.bipush 21, 2) := ge_bipush (by decide +kernel)
theorem d_X12_clean_26 : decode prog_14_method_65_code 26 = .ok (.iload_n 1, 1) := ge_iload_n_1 (by decide +kernel)
theorem d_X12_clean_27 : decode prog_14_method_65_code 27 = .ok (.iadd, 1) := ge_iadd (by decide +kernel)
theorem d_X12_clean_28 : decode prog_14_method_65_code 28 = .ok (.iaload, 1) := ge_iaload (by decide +kernel)
theorem d_X12_clean_29 : decode prog_14_method_65_code 29 = .ok (.iload_n 2, 1) := ge_iload_n_2 (by decide +kernel)
theorem d_X12_clean_30 : decode prog_14_method_65_code 30 = .ok (.iadd, 1) := ge_iadd (by decide +kernel)
theorem d_X12_clean_31 : decode prog_14_method_65_code 31 = .ok (.iconst 1, 1) := ge_iconst_1 (by decide +kernel)
theorem d_X12_clean_32 : decode prog_14_method_65_code 32 = .ok (.isub, 1) := ge_isub (by decide +kernel)
theorem d_X12_clean_33 : decode prog_14_method_65_code 33 = .ok (.iload_n 2, 1) := ge_iload_n_2 (by decide +kernel)
theorem d_X12_clean_34 : decode prog_14_method_65_code 34 = .ok (.idiv, 1) := ge_idiv (by decide +kernel)
theorem d_X12_clean_35 : decode prog_14_method_65_code 35 = .ok (.goto 5, 3) := ge_goto (by decide +kernel)
theorem d_X12_clean_38 : decode prog_14_method_65_code 38 = .ok (.bipush (-2), 2) := ge_bipush (by decide +kernel)
theorem d_X12_clean_40 : decode prog_14_method_65_code 40 = .ok (.ireturn, 1) := ge_ireturn (by decide +kernel)
def f_X12_clean (a0 : Nat) (a1 : Int32) (a2 : Int32) (μ : gm_M) : Option (Option Value × gm_M) := if gm_tag μ a0 = 17 then gm_bI (f_X12_isChild a0 a1 μ) (fun x2 m1 => if x2 ≠ 0 then gm_bI (f_X12_in a2 (1 : Int32) (99 : Int32) m1) (fun x4 m3 => if x4 = 0 then some (some (.int (-2 : Int32)), m3) else gm_gR m3 [17] a0 1 (fun v5 => gm_aI m3 v5 ((21 : Int32) + a1) (fun v6 => if a2 = 0 then none else some (some (.int (((v6 + a2) - (1 : Int32)) / a2)), m3)))) else some (some (.int (-1 : Int32)), m1)) else none
set_option maxHeartbeats 4000000 in
theorem c_X12_clean (a0 : Nat) (a1 : Int32) (a2 : Int32) (μ : gm_M) : gm_Call ({ cls := "GumBubbleModel", name := "clean", desc := "(II)I" } : Jvm.MethodName) prog_14_method_65_code 3 (some .int) 2 0 0 [.ref a0, .int a1, .int a2] μ (f_X12_clean a0 a1 a2 μ) := by
  refine gm_start PN_12 (Nat.le_of_ble_eq_true rfl) (fun res μe => ?_)
  unfold f_X12_clean
  show gm_A "GumBubbleModel" (gm_nm "clean") _ _ _ _ _ _ _ _ _ 0 [(0, .ref a0), (1, .int a1), (2, .int a2)] [] _ _
  refine gm_aload_n d_X12_clean_0 rfl 0 rfl ?_
  refine gm_iload_n d_X12_clean_1 rfl 1 rfl ?_
  refine gm_grd (fun g2 => ?_)
  refine gm_callV (k0 := 12) [.int a1] (c_X12_isChild a0 a1 μ) g2 rfl B_X12_isChild gw_1047 gs_40 rfl rfl rfl d_X12_clean_2 (gm_kI (fun x2 m1 => ?_))
  refine gm_if_ne (tgt := 10) d_X12_clean_5 (by decide) (fun h5 => ?_) (fun h5 => ?_)
  ·
    refine gm_iload_n d_X12_clean_10 rfl 2 rfl ?_
    refine gm_iconst (v := 1) d_X12_clean_11 (by decide) ?_
    refine gm_bipush (v := 99) d_X12_clean_12 (by decide) ?_
    refine gm_callS [.int a2, .int (1 : Int32), .int (99 : Int32)] (c_X12_in a2 (1 : Int32) (99 : Int32) m1) B_X12_in gw_964 rfl rfl rfl d_X12_clean_14 (gm_kI (fun x4 m3 => ?_))
    refine gm_if_eq (tgt := 38) d_X12_clean_17 (by decide) (fun h17 => ?_) (fun h17 => ?_)
    ·
      refine gm_bipush (v := -2) d_X12_clean_38 (by decide) ?_
      exact gm_iret rfl d_X12_clean_40 (Nat.le_of_ble_eq_true rfl) (Nat.le_of_ble_eq_true rfl) (fun h => h)
    ·
      refine gm_aload_n d_X12_clean_20 rfl 0 rfl ?_
      refine gm_getR F_12_s gw_890 d_X12_clean_21 (fun v5 _ => ?_)
      refine gm_bipush (v := 21) d_X12_clean_24 (by decide) ?_
      refine gm_iload_n d_X12_clean_26 rfl 1 rfl ?_
      refine gm_iadd d_X12_clean_27 ?_
      refine gm_iald d_X12_clean_28 (fun v6 _ => ?_)
      refine gm_iload_n d_X12_clean_29 rfl 2 rfl ?_
      refine gm_iadd d_X12_clean_30 ?_
      refine gm_iconst (v := 1) d_X12_clean_31 (by decide) ?_
      refine gm_isub d_X12_clean_32 ?_
      refine gm_iload_n d_X12_clean_33 rfl 2 rfl ?_
      refine gm_idiv d_X12_clean_34 ?_
      refine gm_goto (tgt := 40) d_X12_clean_35 (by decide) ?_
      exact gm_iret rfl d_X12_clean_40 (Nat.le_of_ble_eq_true rfl) (Nat.le_of_ble_eq_true rfl) (fun h => h)
  ·
    refine gm_iconst (v := -1) d_X12_clean_8 (by decide) ?_
    exact gm_iret rfl d_X12_clean_9 (Nat.le_of_ble_eq_true rfl) (Nat.le_of_ble_eq_true rfl) (fun h => h)
theorem d_X12_count_0 : decode prog_14_method_92_code 0 = .ok (.iload_n 1, 1) := ge_iload_n_1 (by decide +kernel)
theorem d_X12_count_1 : decode prog_14_method_92_code 1 = .ok (.bipush 6, 2) := ge_bipush (by decide +kernel)
theorem d_X12_count_3 : decode prog_14_method_92_code 3 = .ok (.if_icmp .ne 10, 3) := ge_if_icmp_ne (by decide +kernel)
theorem d_X12_count_6 : decode prog_14_method_92_code 6 = .ok (.aload_n 0, 1) := ge_aload_n_0 (by decide +kernel)
theorem d_X12_count_7 : decode prog_14_method_92_code 7 = .ok (.getfield 247, 3) := ge_getfield (by decide +kernel)
theorem d_X12_count_10 : decode prog_14_method_92_code 10 = .ok (.goto 25, 3) := ge_goto (by decide +kernel)
theorem d_X12_count_13 : decode prog_14_method_92_code 13 = .ok (.iload_n 1, 1) := ge_iload_n_1 (by decide +kernel)
theorem d_X12_count_14 : decode prog_14_method_92_code 14 = .ok (.iconst 0, 1) := ge_iconst_0 (by decide +kernel)
theorem d_X12_count_15 : decode prog_14_method_92_code 15 = .ok (.iconst 5, 1) := ge_iconst_5 (by decide +kernel)
theorem d_X12_count_16 : decode prog_14_method_92_code 16 = .ok (.invokestatic 44, 3) := ge_invokestatic (by decide +kernel)
theorem d_X12_count_19 : decode prog_14_method_92_code 19 = .ok (.ifCond .eq 15, 3) := ge_ifCond_eq (by decide +kernel)
theorem d_X12_count_22 : decode prog_14_method_92_code 22 = .ok (.aload_n 0, 1) := ge_aload_n_0 (by decide +kernel)
theorem d_X12_count_23 : decode prog_14_method_92_code 23 = .ok (.getfield 9, 3) := ge_getfield (by decide +kernel)
theorem d_X12_count_26 : decode prog_14_method_92_code 26 = .ok (.bipush 26, 2) := ge_bipush (by decide +kernel)
theorem d_X12_count_28 : decode prog_14_method_92_code 28 = .ok (.iload_n 1, 1) := ge_iload_n_1 (by decide +kernel)
theorem d_X12_count_29 : decode prog_14_method_92_code 29 = .ok (.iadd, 1) := ge_iadd (by decide +kernel)
theorem d_X12_count_30 : decode prog_14_method_92_code 30 = .ok (.iaload, 1) := ge_iaload (by decide +kernel)
theorem d_X12_count_31 : decode prog_14_method_92_code 31 = .ok (.goto 4, 3) := ge_goto (by decide +kernel)
theorem d_X12_count_34 : decode prog_14_method_92_code 34 = .ok (.iconst (-1), 1) := ge_iconst_m1_ (by decide +kernel)
theorem d_X12_count_35 : decode prog_14_method_92_code 35 = .ok (.ireturn, 1) := ge_ireturn (by decide +kernel)
def f_X12_count (a0 : Nat) (a1 : Int32) (μ : gm_M) : Option (Option Value × gm_M) := if a1 ≠ (6 : Int32) then gm_bI (f_X12_in a1 (0 : Int32) (5 : Int32) μ) (fun x2 m1 => if x2 = 0 then some (some (.int (-1 : Int32)), m1) else gm_gR m1 [17] a0 1 (fun v3 => gm_aI m1 v3 ((26 : Int32) + a1) (fun v4 => some (some (.int v4), m1)))) else gm_gI μ [17] a0 19 (fun v5 => some (some (.int v5), μ))
set_option maxHeartbeats 4000000 in
theorem c_X12_count (a0 : Nat) (a1 : Int32) (μ : gm_M) : gm_Call ({ cls := "GumBubbleModel", name := "count", desc := "(I)I" } : Jvm.MethodName) prog_14_method_92_code 2 (some .int) 1 0 0 [.ref a0, .int a1] μ (f_X12_count a0 a1 μ) := by
  refine gm_start PN_12 (Nat.le_of_ble_eq_true rfl) (fun res μe => ?_)
  unfold f_X12_count
  show gm_A "GumBubbleModel" (gm_nm "count") _ _ _ _ _ _ _ _ _ 0 [(0, .ref a0), (1, .int a1)] [] _ _
  refine gm_iload_n d_X12_count_0 rfl 1 rfl ?_
  refine gm_bipush (v := 6) d_X12_count_1 (by decide) ?_
  refine gm_icmp_ne (tgt := 13) d_X12_count_3 (by decide) (fun h3 => ?_) (fun h3 => ?_)
  ·
    refine gm_iload_n d_X12_count_13 rfl 1 rfl ?_
    refine gm_iconst (v := 0) d_X12_count_14 (by decide) ?_
    refine gm_iconst (v := 5) d_X12_count_15 (by decide) ?_
    refine gm_callS [.int a1, .int (0 : Int32), .int (5 : Int32)] (c_X12_in a1 (0 : Int32) (5 : Int32) μ) B_X12_in gw_964 rfl rfl rfl d_X12_count_16 (gm_kI (fun x2 m1 => ?_))
    refine gm_if_eq (tgt := 34) d_X12_count_19 (by decide) (fun h19 => ?_) (fun h19 => ?_)
    ·
      refine gm_iconst (v := -1) d_X12_count_34 (by decide) ?_
      exact gm_iret rfl d_X12_count_35 (Nat.le_of_ble_eq_true rfl) (Nat.le_of_ble_eq_true rfl) (fun h => h)
    ·
      refine gm_aload_n d_X12_count_22 rfl 0 rfl ?_
      refine gm_getR F_12_s gw_890 d_X12_count_23 (fun v3 _ => ?_)
      refine gm_bipush (v := 26) d_X12_count_26 (by decide) ?_
      refine gm_iload_n d_X12_count_28 rfl 1 rfl ?_
      refine gm_iadd d_X12_count_29 ?_
      refine gm_iald d_X12_count_30 (fun v4 _ => ?_)
      refine gm_goto (tgt := 35) d_X12_count_31 (by decide) ?_
      exact gm_iret rfl d_X12_count_35 (Nat.le_of_ble_eq_true rfl) (Nat.le_of_ble_eq_true rfl) (fun h => h)
  ·
    refine gm_aload_n d_X12_count_6 rfl 0 rfl ?_
    refine gm_getI F_12_ran gw_908 d_X12_count_7 (fun v5 _ => ?_)
    refine gm_goto (tgt := 35) d_X12_count_10 (by decide) ?_
    exact gm_iret rfl d_X12_count_35 (Nat.le_of_ble_eq_true rfl) (Nat.le_of_ble_eq_true rfl) (fun h => h)
theorem d_X12_likelyOf_0 : decode prog_14_method_55_code 0 = .ok (.iconst 0, 1) := ge_iconst_0 (by decide +kernel)
theorem d_X12_likelyOf_1 : decode prog_14_method_55_code 1 = .ok (.istore_n 2, 1) := ge_istore_n_2 (by decide +kernel)
theorem d_X12_likelyOf_2 : decode prog_14_method_55_code 2 = .ok (.iconst 0, 1) := ge_iconst_0 (by decide +kernel)
theorem d_X12_likelyOf_3 : decode prog_14_method_55_code 3 = .ok (.istore_n 3, 1) := ge_istore_n_3 (by decide +kernel)
theorem d_X12_likelyOf_4 : decode prog_14_method_55_code 4 = .ok (.iload_n 3, 1) := ge_iload_n_3 (by decide +kernel)
theorem d_X12_likelyOf_5 : decode prog_14_method_55_code 5 = .ok (.bipush 10, 2) := ge_bipush (by decide +kernel)
theorem d_X12_likelyOf_7 : decode prog_14_method_55_code 7 = .ok (.if_icmp .ge 26, 3) := ge_if_icmp_ge (by decide +kernel)
theorem d_X12_likelyOf_10 : decode prog_14_method_55_code 10 = .ok (.iload_n 2, 1) := ge_iload_n_2 (by decide +kernel)
theorem d_X12_likelyOf_11 : decode prog_14_method_55_code 11 = .ok (.iload_n 1, 1) := ge_iload_n_1 (by decide +kernel)
theorem d_X12_likelyOf_12 : decode prog_14_method_55_code 12 = .ok (.iload_n 0, 1) := ge_iload_n_0 (by decide +kernel)
theorem d_X12_likelyOf_13 : decode prog_14_method_55_code 13 = .ok (.iload_n 3, 1) := ge_iload_n_3 (by decide +kernel)
theorem d_X12_likelyOf_14 : decode prog_14_method_55_code 14 = .ok (.invokestatic 204, 3) := ge_invokestatic (by decide +kernel)
theorem d_X12_likelyOf_17 : decode prog_14_method_55_code 17 = .ok (.if_icmp .gt 7, 3) := ge_if_icmp_gt (by decide +kernel)
theorem d_X12_likelyOf_20 : decode prog_14_method_55_code 20 = .ok (.iconst 1, 1) := ge_iconst_1 (by decide +kernel)
theorem d_X12_likelyOf_21 : decode prog_14_method_55_code 21 = .ok (.goto 4, 3) := ge_goto (by decide +kernel)
theorem d_X12_likelyOf_24 : decode prog_14_method_55_code 24 = .ok (.iconst 0, 1) := ge_iconst_0 (by decide +kernel)
theorem d_X12_likelyOf_25 : decode prog_14_method_55_code 25 = .ok (.iadd, 1) := ge_iadd (by decide +kernel)
theorem d_X12_likelyOf_26 : decode prog_14_method_55_code 26 = .ok (.istore_n 2, 1) := ge_istore_n_2 (by decide +kernel)
theorem d_X12_likelyOf_27 : decode prog_14_method_55_code 27 = .ok (.iinc 3 1, 3) := ge_iinc (by decide +kernel)
theorem d_X12_likelyOf_30 : decode prog_14_method_55_code 30 = .ok (.goto (-26), 3) := ge_goto (by decide +kernel)
theorem d_X12_likelyOf_33 : decode prog_14_method_55_code 33 = .ok (.iload_n 2, 1) := ge_iload_n_2 (by decide +kernel)
theorem d_X12_likelyOf_34 : decode prog_14_method_55_code 34 = .ok (.ireturn, 1) := ge_ireturn (by decide +kernel)
def f_X12_likelyOf (a0 : Int32) (a1 : Int32) (μ : gm_M) : Option (Option Value × gm_M) := gm_loop (fun (s1 : Int32 × Int32 × gm_M) => if (10 : Int32) ≤ s1.2.1 then some (Sum.inr (some (.int s1.1), s1.2.2)) else gm_bI (f_X12_thin a0 s1.2.1 s1.2.2) (fun x3 m2 => gm_j (fun (s4 : Int32) => some (Sum.inl ((s1.1 + s4), (s1.2.1 + (1 : Int32)), m2))) (fun j5 => if x3 < a1 then j5 (0 : Int32) else j5 (1 : Int32)))) 5000 ((0 : Int32), (0 : Int32), μ)
set_option maxHeartbeats 4000000 in
theorem c_X12_likelyOf (a0 : Int32) (a1 : Int32) (μ : gm_M) : gm_Call ({ cls := "GumBubbleModel", name := "likelyOf", desc := "(II)I" } : Jvm.MethodName) prog_14_method_55_code 4 (some .int) 2 0 0 [.int a0, .int a1] μ (f_X12_likelyOf a0 a1 μ) := by
  refine gm_start PN_12 (Nat.le_of_ble_eq_true rfl) (fun res μe => ?_)
  unfold f_X12_likelyOf
  show gm_A "GumBubbleModel" (gm_nm "likelyOf") _ _ _ _ _ _ _ _ _ 0 [(0, .int a0), (1, .int a1)] [] _ _
  refine gm_iconst (v := 0) d_X12_likelyOf_0 (by decide) ?_
  refine gm_istore_n (L' := [(2, .int (0 : Int32)), (0, .int a0), (1, .int a1)]) d_X12_likelyOf_1 rfl (Nat.le_of_ble_eq_true rfl) rfl ?_
  refine gm_iconst (v := 0) d_X12_likelyOf_2 (by decide) ?_
  refine gm_istore_n (L' := [(3, .int (0 : Int32)), (2, .int (0 : Int32)), (0, .int a0), (1, .int a1)]) d_X12_likelyOf_3 rfl (Nat.le_of_ble_eq_true rfl) rfl ?_
  refine gm_sub (L' := [(0, .int a0), (1, .int a1), (2, .int (0 : Int32)), (3, .int (0 : Int32))]) [2, 3, 1, 0] rfl ?_
  refine gm_lp (S := Int32 × Int32 × gm_M) (fun _ => 0) (fun _ => 0) (fun s1 => s1.2.2) (fun s1 => [(0, .int a0), (1, .int a1), (2, .int s1.1), (3, .int s1.2.1)]) (fun _ => []) (fun s1 => ?_) 5000 ((0 : Int32), (0 : Int32), μ)
  refine gm_iload_n d_X12_likelyOf_4 rfl 3 rfl ?_
  refine gm_bipush (v := 10) d_X12_likelyOf_5 (by decide) ?_
  refine gm_icmp_ge (tgt := 33) d_X12_likelyOf_7 (by decide) (fun h7 => ?_) (fun h7 => ?_)
  ·
    refine gm_iload_n d_X12_likelyOf_33 rfl 2 rfl ?_
    exact gm_iret rfl d_X12_likelyOf_34 (Nat.le_of_ble_eq_true rfl) (Nat.le_of_ble_eq_true rfl) (fun h => h)
  ·
    refine gm_iload_n d_X12_likelyOf_10 rfl 2 rfl ?_
    refine gm_iload_n d_X12_likelyOf_11 rfl 1 rfl ?_
    refine gm_iload_n d_X12_likelyOf_12 rfl 0 rfl ?_
    refine gm_iload_n d_X12_likelyOf_13 rfl 3 rfl ?_
    refine gm_callS [.int a0, .int s1.2.1] (c_X12_thin a0 s1.2.1 s1.2.2) B_X12_thin gw_1174 rfl rfl rfl d_X12_likelyOf_14 (gm_kI (fun x3 m2 => ?_))
    refine gm_join (S := Int32) (pj := 25) (kj := 0) (nj := 0) (fun s4 => m2) (fun s4 => [(0, .int a0), (1, .int a1), (2, .int s1.1), (3, .int s1.2.1)]) (fun s4 => [.int s4, .int s1.1]) (fun s4 => ?_) (fun j5 hj5 => ?_)
    ·
      refine gm_iadd d_X12_likelyOf_25 ?_
      refine gm_istore_n (L' := [(2, .int (s1.1 + s4)), (0, .int a0), (1, .int a1), (3, .int s1.2.1)]) d_X12_likelyOf_26 rfl (Nat.le_of_ble_eq_true rfl) rfl ?_
      refine gm_iinc (v := s1.2.1 + (1 : Int32)) (L' := [(3, .int (s1.2.1 + (1 : Int32))), (2, .int (s1.1 + s4)), (0, .int a0), (1, .int a1)]) d_X12_likelyOf_27 3 rfl rfl (Nat.le_of_ble_eq_true rfl) rfl ?_
      refine gm_goto (tgt := 4) d_X12_likelyOf_30 (by decide) ?_
      refine gm_sub (L' := [(0, .int a0), (1, .int a1), (2, .int (s1.1 + s4)), (3, .int (s1.2.1 + (1 : Int32)))]) [2, 3, 1, 0] rfl ?_
      exact gm_back (fun h => h)
    ·
      refine gm_icmp_gt (tgt := 24) d_X12_likelyOf_17 (by decide) (fun h17 => ?_) (fun h17 => ?_)
      ·
        refine gm_iconst (v := 0) d_X12_likelyOf_24 (by decide) ?_
        exact hj5 (0 : Int32)
      ·
        refine gm_iconst (v := 1) d_X12_likelyOf_20 (by decide) ?_
        refine gm_goto (tgt := 25) d_X12_likelyOf_21 (by decide) ?_
        exact hj5 (1 : Int32)
theorem d_X12_dare_0 : decode prog_14_method_57_code 0 = .ok (.aload_n 0, 1) := ge_aload_n_0 (by decide +kernel)
theorem d_X12_dare_1 : decode prog_14_method_57_code 1 = .ok (.iload_n 1, 1) := ge_iload_n_1 (by decide +kernel)
theorem d_X12_dare_2 : decode prog_14_method_57_code 2 = .ok (.invokevirtual 154, 3) := ge_invokevirtual (by decide +kernel)
theorem d_X12_dare_5 : decode prog_14_method_57_code 5 = .ok (.ifCond .ne 5, 3) := ge_ifCond_ne (by decide +kernel)
theorem d_X12_dare_8 : decode prog_14_method_57_code 8 = .ok (.iconst (-1), 1) := ge_iconst_m1_ (by decide +kernel)
theorem d_X12_dare_9 : decode prog_14_method_57_code 9 = .ok (.ireturn, 1) := ge_ireturn (by decide +kernel)
theorem d_X12_dare_10 : decode prog_14_method_57_code 10 = .ok (.aload_n 0, 1) := ge_aload_n_0 (by decide +kernel)
theorem d_X12_dare_11 : decode prog_14_method_57_code 11 = .ok (.iload_n 1, 1) := ge_iload_n_1 (by decide +kernel)
theorem d_X12_dare_12 : decode prog_14_method_57_code 12 = .ok (.invokevirtual 148, 3) := ge_invokevirtual (by decide +kernel)
theorem d_X12_dare_15 : decode prog_14_method_57_code 15 = .ok (.istore_n 2, 1) := ge_istore_n_2 (by decide +kernel)
theorem d_X12_dare_16 : decode prog_14_method_57_code 16 = .ok (.iconst 0, 1) := ge_iconst_0 (by decide +kernel)
theorem d_X12_dare_17 : decode prog_14_method_57_code 17 = .ok (.istore_n 3, 1) := ge_istore_n_3 (by decide +kernel)
theorem d_X12_dare_18 : decode prog_14_method_57_code 18 = .ok (.iconst (-1), 1) := ge_iconst_m1_ (by decide +kernel)
theorem d_X12_dare_19 : decode prog_14_method_57_code 19 = .ok (.istore 4, 2) := ge_istore (by decide +kernel)
theorem d_X12_dare_21 : decode prog_14_method_57_code 21 = .ok (.iconst 0, 1) := ge_iconst_0 (by decide +kernel)
theorem d_X12_dare_22 : decode prog_14_method_57_code 22 = .ok (.istore 5, 2) := ge_istore (by decide +kernel)
theorem d_X12_dare_24 : decode prog_14_method_57_code 24 = .ok (.iload 5, 2) := ge_iload (by decide +kernel)
theorem d_X12_dare_26 : decode prog_14_method_57_code 26 = .ok (.sipush 1000, 3) := ge_sipush (by decide +kernel)
theorem d_X12_dare_29 : decode prog_14_method_57_code 29 = .ok (.if_icmp .ge 50, 3) := ge_if_icmp_ge (by decide +kernel)
theorem d_X12_dare_32 : decode prog_14_method_57_code 32 = .ok (.iload 5, 2) := ge_iload (by decide +kernel)
theorem d_X12_dare_34 : decode prog_14_method_57_code 34 = .ok (.iload_n 2, 1) := ge_iload_n_2 (by decide +kernel)
theorem d_X12_dare_35 : decode prog_14_method_57_code 35 = .ok (.iload 5, 2) := ge_iload (by decide +kernel)
theorem d_X12_dare_37 : decode prog_14_method_57_code 37 = .ok (.invokestatic 209, 3) := ge_invokestatic (by decide +kernel)
theorem d_X12_dare_40 : decode prog_14_method_57_code 40 = .ok (.imul, 1) := ge_imul (by decide +kernel)
theorem d_X12_dare_41 : decode prog_14_method_57_code 41 = .ok (.istore 6, 2) := ge_istore (by decide +kernel)
theorem d_X12_dare_43 : decode prog_14_method_57_code 43 = .ok (.iload 6, 2) := ge_iload (by decide +kernel)
theorem d_X12_dare_45 : decode prog_14_method_57_code 45 = .ok (.iload 4, 2) := ge_iload (by decide +kernel)
theorem d_X12_dare_47 : decode prog_14_method_57_code 47 = .ok (.if_icmp .le 8, 3) := ge_if_icmp_le (by decide +kernel)
theorem d_X12_dare_50 : decode prog_14_method_57_code 50 = .ok (.iload 5, 2) := ge_iload (by decide +kernel)
theorem d_X12_dare_52 : decode prog_14_method_57_code 52 = .ok (.goto 4, 3) := ge_goto (by decide +kernel)
theorem d_X12_dare_55 : decode prog_14_method_57_code 55 = .ok (.iload_n 3, 1) := ge_iload_n_3 (by decide +kernel)
theorem d_X12_dare_56 : decode prog_14_method_57_code 56 = .ok (.istore_n 3, 1) := ge_istore_n_3 (by decide +kernel)
theorem d_X12_dare_57 : decode prog_14_method_57_code 57 = .ok (.iload 6, 2) := ge_iload (by decide +kernel)
theorem d_X12_dare_59 : decode prog_14_method_57_code 59 = .ok (.iload 4, 2) := ge_iload (by decide +kernel)
theorem d_X12_dare_61 : decode prog_14_method_57_code 61 = .ok (.if_icmp .le 8, 3) := ge_if_icmp_le (by decide +kernel)
theorem d_X12_dare_64 : decode prog_14_method_57_code 64 = .ok (.iload 6, 2) := ge_iload (by decide +kernel)
theorem d_X12_dare_66 : decode prog_14_method_57_code 66 = .ok (.goto 5, 3) := ge_goto (by decide +kernel)
theorem d_X12_dare_69 : decode prog_14_method_57_code 69 = .ok (.iload 4, 2) := ge_iload (by decide +kernel)
theorem d_X12_dare_71 : decode prog_14_method_57_code 71 = .ok (.istore 4, 2) := ge_istore (by decide +kernel)
theorem d_X12_dare_73 : decode prog_14_method_57_code 73 = .ok (.iinc 5 1, 3) := ge_iinc (by decide +kernel)
theorem d_X12_dare_76 : decode prog_14_method_57_code 76 = .ok (.goto (-52), 3) := ge_goto (by decide +kernel)
theorem d_X12_dare_79 : decode prog_14_method_57_code 79 = .ok (.iload_n 3, 1) := ge_iload_n_3 (by decide +kernel)
theorem d_X12_dare_80 : decode prog_14_method_57_code 80 = .ok (.ireturn, 1) := ge_ireturn (by decide +kernel)
def f_X12_dare (a0 : Nat) (a1 : Int32) (μ : gm_M) : Option (Option Value × gm_M) := if gm_tag μ a0 = 17 then gm_bI (f_X12_isChild a0 a1 μ) (fun x2 m1 => if x2 ≠ 0 then if gm_tag m1 a0 = 17 then gm_bI (f_X12_holdsOf a0 a1 m1) (fun x4 m3 => gm_loop (fun (s5 : Int32 × Int32 × Int32 × gm_M) => if (1000 : Int32) ≤ s5.2.2.1 then some (Sum.inr (some (.int s5.1), s5.2.2.2)) else gm_bI (f_X12_likelyOf x4 s5.2.2.1 s5.2.2.2) (fun x7 m6 => gm_j (fun (s8 : Int32) => gm_j (fun (s10 : Int32) => some (Sum.inl (s8, s10, (s5.2.2.1 + (1 : Int32)), m6))) (fun j11 => if (s5.2.2.1 * x7) ≤ s5.2.1 then j11 s5.2.1 else j11 (s5.2.2.1 * x7))) (fun j9 => if (s5.2.2.1 * x7) ≤ s5.2.1 then j9 s5.1 else j9 s5.2.2.1))) 5000 ((0 : Int32), (-1 : Int32), (0 : Int32), m3)) else none else some (some (.int (-1 : Int32)), m1)) else none
set_option maxHeartbeats 4000000 in
theorem c_X12_dare (a0 : Nat) (a1 : Int32) (μ : gm_M) : gm_Call ({ cls := "GumBubbleModel", name := "dare", desc := "(I)I" } : Jvm.MethodName) prog_14_method_57_code 7 (some .int) 4 0 0 [.ref a0, .int a1] μ (f_X12_dare a0 a1 μ) := by
  refine gm_start PN_12 (Nat.le_of_ble_eq_true rfl) (fun res μe => ?_)
  unfold f_X12_dare
  show gm_A "GumBubbleModel" (gm_nm "dare") _ _ _ _ _ _ _ _ _ 0 [(0, .ref a0), (1, .int a1)] [] _ _
  refine gm_aload_n d_X12_dare_0 rfl 0 rfl ?_
  refine gm_iload_n d_X12_dare_1 rfl 1 rfl ?_
  refine gm_grd (fun g2 => ?_)
  refine gm_callV (k0 := 12) [.int a1] (c_X12_isChild a0 a1 μ) g2 rfl B_X12_isChild gw_1047 gs_40 rfl rfl rfl d_X12_dare_2 (gm_kI (fun x2 m1 => ?_))
  refine gm_if_ne (tgt := 10) d_X12_dare_5 (by decide) (fun h5 => ?_) (fun h5 => ?_)
  ·
    refine gm_aload_n d_X12_dare_10 rfl 0 rfl ?_
    refine gm_iload_n d_X12_dare_11 rfl 1 rfl ?_
    refine gm_grd (fun g12 => ?_)
    refine gm_callV (k0 := 12) [.int a1] (c_X12_holdsOf a0 a1 m1) g12 rfl B_X12_holdsOf gw_1074 gs_45 rfl rfl rfl d_X12_dare_12 (gm_kI (fun x4 m3 => ?_))
    refine gm_istore_n (L' := [(2, .int x4), (0, .ref a0), (1, .int a1)]) d_X12_dare_15 rfl (Nat.le_of_ble_eq_true rfl) rfl ?_
    refine gm_iconst (v := 0) d_X12_dare_16 (by decide) ?_
    refine gm_istore_n (L' := [(3, .int (0 : Int32)), (2, .int x4), (0, .ref a0), (1, .int a1)]) d_X12_dare_17 rfl (Nat.le_of_ble_eq_true rfl) rfl ?_
    refine gm_iconst (v := -1) d_X12_dare_18 (by decide) ?_
    refine gm_istore (L' := [(4, .int (-1 : Int32)), (3, .int (0 : Int32)), (2, .int x4), (0, .ref a0), (1, .int a1)]) d_X12_dare_19 (Nat.le_of_ble_eq_true rfl) rfl ?_
    refine gm_iconst (v := 0) d_X12_dare_21 (by decide) ?_
    refine gm_istore (L' := [(5, .int (0 : Int32)), (4, .int (-1 : Int32)), (3, .int (0 : Int32)), (2, .int x4), (0, .ref a0), (1, .int a1)]) d_X12_dare_22 (Nat.le_of_ble_eq_true rfl) rfl ?_
    refine gm_sub (L' := [(0, .ref a0), (1, .int a1), (2, .int x4), (3, .int (0 : Int32)), (4, .int (-1 : Int32)), (5, .int (0 : Int32))]) [4, 5, 3, 2, 1, 0] rfl ?_
    refine gm_lp (S := Int32 × Int32 × Int32 × gm_M) (fun _ => 0) (fun _ => 0) (fun s5 => s5.2.2.2) (fun s5 => [(0, .ref a0), (1, .int a1), (2, .int x4), (3, .int s5.1), (4, .int s5.2.1), (5, .int s5.2.2.1)]) (fun _ => []) (fun s5 => ?_) 5000 ((0 : Int32), (-1 : Int32), (0 : Int32), m3)
    refine gm_iload d_X12_dare_24 5 rfl ?_
    refine gm_sipush (v := 1000) d_X12_dare_26 (by decide) ?_
    refine gm_icmp_ge (tgt := 79) d_X12_dare_29 (by decide) (fun h29 => ?_) (fun h29 => ?_)
    ·
      refine gm_iload_n d_X12_dare_79 rfl 3 rfl ?_
      exact gm_iret rfl d_X12_dare_80 (Nat.le_of_ble_eq_true rfl) (Nat.le_of_ble_eq_true rfl) (fun h => h)
    ·
      refine gm_iload d_X12_dare_32 5 rfl ?_
      refine gm_iload_n d_X12_dare_34 rfl 2 rfl ?_
      refine gm_iload d_X12_dare_35 5 rfl ?_
      refine gm_callS [.int x4, .int s5.2.2.1] (c_X12_likelyOf x4 s5.2.2.1 s5.2.2.2) B_X12_likelyOf gw_1171 rfl rfl rfl d_X12_dare_37 (gm_kI (fun x7 m6 => ?_))
      refine gm_imul d_X12_dare_40 ?_
      refine gm_istore (L' := [(6, .int (s5.2.2.1 * x7)), (0, .ref a0), (1, .int a1), (2, .int x4), (3, .int s5.1), (4, .int s5.2.1), (5, .int s5.2.2.1)]) d_X12_dare_41 (Nat.le_of_ble_eq_true rfl) rfl ?_
      refine gm_iload d_X12_dare_43 0 rfl ?_
      refine gm_iload d_X12_dare_45 5 rfl ?_
      refine gm_join (S := Int32) (pj := 56) (kj := 0) (nj := 0) (fun s8 => m6) (fun s8 => [(0, .ref a0), (1, .int a1), (2, .int x4), (3, .int s5.1), (4, .int s5.2.1), (5, .int s5.2.2.1), (6, .int (s5.2.2.1 * x7))]) (fun s8 => [.int s8]) (fun s8 => ?_) (fun j9 hj9 => ?_)
      ·
        refine gm_istore_n (L' := [(3, .int s8), (0, .ref a0), (1, .int a1), (2, .int x4), (4, .int s5.2.1), (5, .int s5.2.2.1), (6, .int (s5.2.2.1 * x7))]) d_X12_dare_56 rfl (Nat.le_of_ble_eq_true rfl) rfl ?_
        refine gm_iload d_X12_dare_57 6 rfl ?_
        refine gm_iload d_X12_dare_59 4 rfl ?_
        refine gm_join (S := Int32) (pj := 71) (kj := 0) (nj := 0) (fun s10 => m6) (fun s10 => [(0, .ref a0), (1, .int a1), (2, .int x4), (3, .int s8), (4, .int s5.2.1), (5, .int s5.2.2.1), (6, .int (s5.2.2.1 * x7))]) (fun s10 => [.int s10]) (fun s10 => ?_) (fun j11 hj11 => ?_)
        ·
          refine gm_istore (L' := [(4, .int s10), (0, .ref a0), (1, .int a1), (2, .int x4), (3, .int s8), (5, .int s5.2.2.1), (6, .int (s5.2.2.1 * x7))]) d_X12_dare_71 (Nat.le_of_ble_eq_true rfl) rfl ?_
          refine gm_iinc (v := s5.2.2.1 + (1 : Int32)) (L' := [(5, .int (s5.2.2.1 + (1 : Int32))), (4, .int s10), (0, .ref a0), (1, .int a1), (2, .int x4), (3, .int s8), (6, .int (s5.2.2.1 * x7))]) d_X12_dare_73 5 rfl rfl (Nat.le_of_ble_eq_true rfl) rfl ?_
          refine gm_goto (tgt := 24) d_X12_dare_76 (by decide) ?_
          refine gm_sub (L' := [(0, .ref a0), (1, .int a1), (2, .int x4), (3, .int s8), (4, .int s10), (5, .int (s5.2.2.1 + (1 : Int32)))]) [2, 3, 4, 5, 1, 0] rfl ?_
          exact gm_back (fun h => h)
        ·
          refine gm_icmp_le (tgt := 69) d_X12_dare_61 (by decide) (fun h61 => ?_) (fun h61 => ?_)
          ·
            refine gm_iload d_X12_dare_69 4 rfl ?_
            refine gm_sub (L' := [(0, .ref a0), (1, .int a1), (2, .int x4), (3, .int s8), (4, .int s5.2.1), (5, .int s5.2.2.1), (6, .int (s5.2.2.1 * x7))]) [1, 2, 3, 0, 4, 5, 6] rfl ?_
            exact hj11 s5.2.1
          ·
            refine gm_iload d_X12_dare_64 6 rfl ?_
            refine gm_goto (tgt := 71) d_X12_dare_66 (by decide) ?_
            refine gm_sub (L' := [(0, .ref a0), (1, .int a1), (2, .int x4), (3, .int s8), (4, .int s5.2.1), (5, .int s5.2.2.1), (6, .int (s5.2.2.1 * x7))]) [1, 2, 3, 0, 4, 5, 6] rfl ?_
            exact hj11 (s5.2.2.1 * x7)
      ·
        refine gm_icmp_le (tgt := 55) d_X12_dare_47 (by decide) (fun h47 => ?_) (fun h47 => ?_)
        ·
          refine gm_iload_n d_X12_dare_55 rfl 4 rfl ?_
          refine gm_sub (L' := [(0, .ref a0), (1, .int a1), (2, .int x4), (3, .int s5.1), (4, .int s5.2.1), (5, .int s5.2.2.1), (6, .int (s5.2.2.1 * x7))]) [1, 2, 3, 4, 5, 6, 0] rfl ?_
          exact hj9 s5.1
        ·
          refine gm_iload d_X12_dare_50 6 rfl ?_
          refine gm_goto (tgt := 56) d_X12_dare_52 (by decide) ?_
          refine gm_sub (L' := [(0, .ref a0), (1, .int a1), (2, .int x4), (3, .int s5.1), (4, .int s5.2.1), (5, .int s5.2.2.1), (6, .int (s5.2.2.1 * x7))]) [1, 2, 3, 4, 5, 6, 0] rfl ?_
          exact hj9 s5.2.2.1
  ·
    refine gm_iconst (v := -1) d_X12_dare_8 (by decide) ?_
    exact gm_iret rfl d_X12_dare_9 (Nat.le_of_ble_eq_true rfl) (Nat.le_of_ble_eq_true rfl) (fun h => h)
theorem d_X12_does_0 : decode prog_14_method_74_code 0 = .ok (.iload_n 1, 1) := ge_iload_n_1 (by decide +kernel)
theorem d_X12_does_1 : decode prog_14_method_74_code 1 = .ok (.tableswitch 123 0 2 #[27, 34, 91], 27) := by decide +kernel
theorem d_X12_does_28 : decode prog_14_method_74_code 28 = .ok (.aload_n 0, 1) := ge_aload_n_0 (by decide +kernel)
theorem d_X12_does_29 : decode prog_14_method_74_code 29 = .ok (.invokevirtual 177, 3) := ge_invokevirtual (by decide +kernel)
theorem d_X12_does_32 : decode prog_14_method_74_code 32 = .ok (.goto 111, 3) := ge_goto (by decide +kernel)
theorem d_X12_does_35 : decode prog_14_method_74_code 35 = .ok (.aload_n 0, 1) := ge_aload_n_0 (by decide +kernel)
theorem d_X12_does_36 : decode prog_14_method_74_code 36 = .ok (.getfield 9, 3) := ge_getfield (by decide +kernel)
theorem d_X12_does_39 : decode prog_14_method_74_code 39 = .ok (.iconst 1, 1) := ge_iconst_1 (by decide +kernel)
theorem d_X12_does_40 : decode prog_14_method_74_code 40 = .ok (.iload_n 2, 1) := ge_iload_n_2 (by decide +kernel)
theorem d_X12_does_41 : decode prog_14_method_74_code 41 = .ok (.iadd, 1) := ge_iadd (by decide +kernel)
theorem d_X12_does_42 : decode prog_14_method_74_code 42 = .ok (.aload_n 0, 1) := ge_aload_n_0 (by decide +kernel)
theorem d_X12_does_43 : decode prog_14_method_74_code 43 = .ok (.getfield 9, 3) := ge_getfield (by decide +kernel)
theorem d_X12_does_46 : decode prog_14_method_74_code 46 = .ok (.iconst 1, 1) := ge_iconst_1 (by decide +kernel)
theorem d_X12_does_47 : decode prog_14_method_74_code 47 = .ok (.iload_n 2, 1) := ge_iload_n_2 (by decide +kernel)
theorem d_X12_does_48 : decode prog_14_method_74_code 48 = .ok (.iadd, 1) := ge_iadd (by decide +kernel)
theorem d_X12_does_49 : decode prog_14_method_74_code 49 = .ok (.iaload, 1) := ge_iaload (by decide +kernel)
theorem d_X12_does_50 : decode prog_14_method_74_code 50 = .ok (.iconst 1, 1) := ge_iconst_1 (by decide +kernel)
theorem d_X12_does_51 : decode prog_14_method_74_code 51 = .ok (.iadd, 1) := ge_iadd (by decide +kernel)
theorem d_X12_does_52 : decode prog_14_method_74_code 52 = .ok (.iconst 0, 1) := ge_iconst_0 (by decide +kernel)
theorem d_X12_does_53 : decode prog_14_method_74_code 53 = .ok (.bipush 6, 2) := ge_bipush (by decide +kernel)
theorem d_X12_does_55 : decode prog_14_method_74_code 55 = .ok (.invokestatic 138, 3) := ge_invokestatic (by decide +kernel)
theorem d_X12_does_58 : decode prog_14_method_74_code 58 = .ok (.iastore, 1) := ge_iastore (by decide +kernel)
theorem d_X12_does_59 : decode prog_14_method_74_code 59 = .ok (.aload_n 0, 1) := ge_aload_n_0 (by decide +kernel)
theorem d_X12_does_60 : decode prog_14_method_74_code 60 = .ok (.getfield 9, 3) := ge_getfield (by decide +kernel)
theorem d_X12_does_63 : decode prog_14_method_74_code 63 = .ok (.bipush 6, 2) := ge_bipush (by decide +kernel)
theorem d_X12_does_65 : decode prog_14_method_74_code 65 = .ok (.iload_n 2, 1) := ge_iload_n_2 (by decide +kernel)
theorem d_X12_does_66 : decode prog_14_method_74_code 66 = .ok (.iadd, 1) := ge_iadd (by decide +kernel)
theorem d_X12_does_67 : decode prog_14_method_74_code 67 = .ok (.aload_n 0, 1) := ge_aload_n_0 (by decide +kernel)
theorem d_X12_does_68 : decode prog_14_method_74_code 68 = .ok (.getfield 9, 3) := ge_getfield (by decide +kernel)
theorem d_X12_does_71 : decode prog_14_method_74_code 71 = .ok (.bipush 6, 2) := ge_bipush (by decide +kernel)
theorem d_X12_does_73 : decode prog_14_method_74_code 73 = .ok (.iload_n 2, 1) := ge_iload_n_2 (by decide +kernel)
theorem d_X12_does_74 : decode prog_14_method_74_code 74 = .ok (.iadd, 1) := ge_iadd (by decide +kernel)
theorem d_X12_does_75 : decode prog_14_method_74_code 75 = .ok (.iaload, 1) := ge_iaload (by decide +kernel)
theorem d_X12_does_76 : decode prog_14_method_74_code 76 = .ok (.aload_n 0, 1) := ge_aload_n_0 (by decide +kernel)
theorem d_X12_does_77 : decode prog_14_method_74_code 77 = .ok (.invokevirtual 151, 3) := ge_invokevirtual (by decide +kernel)
theorem d_X12_does_80 : decode prog_14_method_74_code 80 = .ok (.iadd, 1) := ge_iadd (by decide +kernel)
theorem d_X12_does_81 : decode prog_14_method_74_code 81 = .ok (.iconst 0, 1) := ge_iconst_0 (by decide +kernel)
theorem d_X12_does_82 : decode prog_14_method_74_code 82 = .ok (.sipush 999, 3) := ge_sipush (by decide +kernel)
theorem d_X12_does_85 : decode prog_14_method_74_code 85 = .ok (.invokestatic 138, 3) := ge_invokestatic (by decide +kernel)
theorem d_X12_does_88 : decode prog_14_method_74_code 88 = .ok (.iastore, 1) := ge_iastore (by decide +kernel)
theorem d_X12_does_89 : decode prog_14_method_74_code 89 = .ok (.goto 54, 3) := ge_goto (by decide +kernel)
theorem d_X12_does_92 : decode prog_14_method_74_code 92 = .ok (.aload_n 0, 1) := ge_aload_n_0 (by decide +kernel)
theorem d_X12_does_93 : decode prog_14_method_74_code 93 = .ok (.getfield 9, 3) := ge_getfield (by decide +kernel)
theorem d_X12_does_96 : decode prog_14_method_74_code 96 = .ok (.iconst 1, 1) := ge_iconst_1 (by decide +kernel)
theorem d_X12_does_97 : decode prog_14_method_74_code 97 = .ok (.iload_n 2, 1) := ge_iload_n_2 (by decide +kernel)
theorem d_X12_does_98 : decode prog_14_method_74_code 98 = .ok (.iadd, 1) := ge_iadd (by decide +kernel)
theorem d_X12_does_99 : decode prog_14_method_74_code 99 = .ok (.iconst 0, 1) := ge_iconst_0 (by decide +kernel)
theorem d_X12_does_100 : decode prog_14_method_74_code 100 = .ok (.iastore, 1) := ge_iastore (by decide +kernel)
theorem d_X12_does_101 : decode prog_14_method_74_code 101 = .ok (.aload_n 0, 1) := ge_aload_n_0 (by decide +kernel)
theorem d_X12_does_102 : decode prog_14_method_74_code 102 = .ok (.getfield 9, 3) := ge_getfield (by decide +kernel)
theorem d_X12_does_105 : decode prog_14_method_74_code 105 = .ok (.bipush 6, 2) := ge_bipush (by decide +kernel)
theorem d_X12_does_107 : decode prog_14_method_74_code 107 = .ok (.iload_n 2, 1) := ge_iload_n_2 (by decide +kernel)
theorem d_X12_does_108 : decode prog_14_method_74_code 108 = .ok (.iadd, 1) := ge_iadd (by decide +kernel)
theorem d_X12_does_109 : decode prog_14_method_74_code 109 = .ok (.iconst 0, 1) := ge_iconst_0 (by decide +kernel)
theorem d_X12_does_110 : decode prog_14_method_74_code 110 = .ok (.iastore, 1) := ge_iastore (by decide +kernel)
theorem d_X12_does_111 : decode prog_14_method_74_code 111 = .ok (.aload_n 0, 1) := ge_aload_n_0 (by decide +kernel)
theorem d_X12_does_112 : decode prog_14_method_74_code 112 = .ok (.getfield 9, 3) := ge_getfield (by decide +kernel)
theorem d_X12_does_115 : decode prog_14_method_74_code 115 = .ok (.bipush 16, 2) := ge_bipush (by decide +kernel)
theorem d_X12_does_117 : decode prog_14_method_74_code 117 = .ok (.iload_n 2, 1) := ge_iload_n_2 (by decide +kernel)
theorem d_X12_does_118 : decode prog_14_method_74_code 118 = .ok (.iadd, 1) := ge_iadd (by decide +kernel)
theorem d_X12_does_119 : decode prog_14_method_74_code 119 = .ok (.iconst 0, 1) := ge_iconst_0 (by decide +kernel)
theorem d_X12_does_120 : decode prog_14_method_74_code 120 = .ok (.iastore, 1) := ge_iastore (by decide +kernel)
theorem d_X12_does_121 : decode prog_14_method_74_code 121 = .ok (.goto 22, 3) := ge_goto (by decide +kernel)
theorem d_X12_does_124 : decode prog_14_method_74_code 124 = .ok (.aload_n 0, 1) := ge_aload_n_0 (by decide +kernel)
theorem d_X12_does_125 : decode prog_14_method_74_code 125 = .ok (.getfield 9, 3) := ge_getfield (by decide +kernel)
theorem d_X12_does_128 : decode prog_14_method_74_code 128 = .ok (.iconst 1, 1) := ge_iconst_1 (by decide +kernel)
theorem d_X12_does_129 : decode prog_14_method_74_code 129 = .ok (.iload_n 2, 1) := ge_iload_n_2 (by decide +kernel)
theorem d_X12_does_130 : decode prog_14_method_74_code 130 = .ok (.iadd, 1) := ge_iadd (by decide +kernel)
theorem d_X12_does_131 : decode prog_14_method_74_code 131 = .ok (.iaload, 1) := ge_iaload (by decide +kernel)
theorem d_X12_does_132 : decode prog_14_method_74_code 132 = .ok (.ifCond .le 11, 3) := ge_ifCond_le (by decide +kernel)
theorem d_X12_does_135 : decode prog_14_method_74_code 135 = .ok (.aload_n 0, 1) := ge_aload_n_0 (by decide +kernel)
theorem d_X12_does_136 : decode prog_14_method_74_code 136 = .ok (.iload_n 2, 1) := ge_iload_n_2 (by decide +kernel)
theorem d_X12_does_137 : decode prog_14_method_74_code 137 = .ok (.bipush 10, 2) := ge_bipush (by decide +kernel)
theorem d_X12_does_139 : decode prog_14_method_74_code 139 = .ok (.invokevirtual 170, 3) := ge_invokevirtual (by decide +kernel)
theorem d_X12_does_142 : decode prog_14_method_74_code 142 = .ok (.pop, 1) := ge_pop (by decide +kernel)
theorem d_X12_does_143 : decode prog_14_method_74_code 143 = .ok (.return_, 1) := ge_return_ (by decide +kernel)
def f_X12_does (a0 : Nat) (a1 : Int32) (a2 : Int32) (μ : gm_M) : Option (Option Value × gm_M) := if a1 = 0 then if gm_tag μ a0 = 17 then gm_bV (f_X12_goes a0 μ) (fun m1 => some (none, m1)) else none else if a1 = 1 then gm_gR μ [17] a0 1 (fun v3 => gm_gR μ [17] a0 1 (fun v4 => gm_aI μ v4 ((1 : Int32) + a2) (fun v5 => gm_bI (f_X12_within (v5 + (1 : Int32)) (0 : Int32) (6 : Int32) μ) (fun x7 m6 => gm_sI m6 v3 ((1 : Int32) + a2) x7 (fun m8 => gm_gR m8 [17] a0 1 (fun v9 => gm_gR m8 [17] a0 1 (fun v10 => gm_aI m8 v10 ((6 : Int32) + a2) (fun v11 => if gm_tag m8 a0 = 17 then gm_bI (f_X12_sweetNow a0 m8) (fun x13 m12 => gm_bI (f_X12_within (v11 + x13) (0 : Int32) (999 : Int32) m12) (fun x15 m14 => gm_sI m14 v9 ((6 : Int32) + a2) x15 (fun m16 => some (none, m16)))) else none)))))))) else if a1 = 2 then gm_gR μ [17] a0 1 (fun v17 => gm_sI μ v17 ((1 : Int32) + a2) (0 : Int32) (fun m18 => gm_gR m18 [17] a0 1 (fun v19 => gm_sI m18 v19 ((6 : Int32) + a2) (0 : Int32) (fun m20 => gm_gR m20 [17] a0 1 (fun v21 => gm_sI m20 v21 ((16 : Int32) + a2) (0 : Int32) (fun m22 => some (none, m22))))))) else gm_gR μ [17] a0 1 (fun v23 => gm_aI μ v23 ((1 : Int32) + a2) (fun v24 => if v24 ≤ 0 then some (none, μ) else if gm_tag μ a0 = 17 then gm_bI (f_X12_blows a0 a2 (10 : Int32) μ) (fun x26 m25 => some (none, m25)) else none))
set_option maxHeartbeats 4000000 in
theorem c_X12_does (a0 : Nat) (a1 : Int32) (a2 : Int32) (μ : gm_M) : gm_Call ({ cls := "GumBubbleModel", name := "does", desc := "(II)V" } : Jvm.MethodName) prog_14_method_74_code 3 none 5 0 0 [.ref a0, .int a1, .int a2] μ (f_X12_does a0 a1 a2 μ) := by
  refine gm_start PN_12 (Nat.le_of_ble_eq_true rfl) (fun res μe => ?_)
  unfold f_X12_does
  show gm_A "GumBubbleModel" (gm_nm "does") _ _ _ _ _ _ _ _ _ 0 [(0, .ref a0), (1, .int a1), (2, .int a2)] [] _ _
  refine gm_iload_n d_X12_does_0 rfl 1 rfl ?_
  refine gm_ite (P := a1 = 0) (fun h1_0 => ?_) (fun h1_0 => ?_)
  ·
    refine gm_swIn (v := 0) (off := 27) (tgt := 28) d_X12_does_1 (by rw [h1_0] <;> rfl) (by decide) (by decide) (by decide) (by decide) ?_
    refine gm_aload_n d_X12_does_28 rfl 0 rfl ?_
    refine gm_grd (fun g29 => ?_)
    refine gm_callV (k0 := 12) [] (c_X12_goes a0 μ) g29 rfl B_X12_goes gw_1114 gs_50 rfl rfl rfl d_X12_does_29 (gm_kV (fun m1 => ?_))
    refine gm_goto (tgt := 143) d_X12_does_32 (by decide) ?_
    exact gm_vret rfl d_X12_does_143 (Nat.le_of_ble_eq_true rfl) (Nat.le_of_ble_eq_true rfl) (fun h => h)
  ·
    refine gm_ite (P := a1 = 1) (fun h1_1 => ?_) (fun h1_1 => ?_)
    ·
      refine gm_swIn (v := 1) (off := 34) (tgt := 35) d_X12_does_1 (by rw [h1_1] <;> rfl) (by decide) (by decide) (by decide) (by decide) ?_
      refine gm_aload_n d_X12_does_35 rfl 0 rfl ?_
      refine gm_getR F_12_s gw_890 d_X12_does_36 (fun v3 _ => ?_)
      refine gm_iconst (v := 1) d_X12_does_39 (by decide) ?_
      refine gm_iload_n d_X12_does_40 rfl 2 rfl ?_
      refine gm_iadd d_X12_does_41 ?_
      refine gm_aload_n d_X12_does_42 rfl 0 rfl ?_
      refine gm_getR F_12_s gw_890 d_X12_does_43 (fun v4 _ => ?_)
      refine gm_iconst (v := 1) d_X12_does_46 (by decide) ?_
      refine gm_iload_n d_X12_does_47 rfl 2 rfl ?_
      refine gm_iadd d_X12_does_48 ?_
      refine gm_iald d_X12_does_49 (fun v5 _ => ?_)
      refine gm_iconst (v := 1) d_X12_does_50 (by decide) ?_
      refine gm_iadd d_X12_does_51 ?_
      refine gm_iconst (v := 0) d_X12_does_52 (by decide) ?_
      refine gm_bipush (v := 6) d_X12_does_53 (by decide) ?_
      refine gm_callS [.int (v5 + (1 : Int32)), .int (0 : Int32), .int (6 : Int32)] (c_X12_within (v5 + (1 : Int32)) (0 : Int32) (6 : Int32) μ) B_X12_within gw_1060 rfl rfl rfl d_X12_does_55 (gm_kI (fun x7 m6 => ?_))
      refine gm_iast d_X12_does_58 (fun m8 _ => ?_)
      refine gm_aload_n d_X12_does_59 rfl 0 rfl ?_
      refine gm_getR F_12_s gw_890 d_X12_does_60 (fun v9 _ => ?_)
      refine gm_bipush (v := 6) d_X12_does_63 (by decide) ?_
      refine gm_iload_n d_X12_does_65 rfl 2 rfl ?_
      refine gm_iadd d_X12_does_66 ?_
      refine gm_aload_n d_X12_does_67 rfl 0 rfl ?_
      refine gm_getR F_12_s gw_890 d_X12_does_68 (fun v10 _ => ?_)
      refine gm_bipush (v := 6) d_X12_does_71 (by decide) ?_
      refine gm_iload_n d_X12_does_73 rfl 2 rfl ?_
      refine gm_iadd d_X12_does_74 ?_
      refine gm_iald d_X12_does_75 (fun v11 _ => ?_)
      refine gm_aload_n d_X12_does_76 rfl 0 rfl ?_
      refine gm_grd (fun g77 => ?_)
      refine gm_callV (k0 := 12) [] (c_X12_sweetNow a0 m8) g77 rfl B_X12_sweetNow gw_1035 gs_38 rfl rfl rfl d_X12_does_77 (gm_kI (fun x13 m12 => ?_))
      refine gm_iadd d_X12_does_80 ?_
      refine gm_iconst (v := 0) d_X12_does_81 (by decide) ?_
      refine gm_sipush (v := 999) d_X12_does_82 (by decide) ?_
      refine gm_callS [.int (v11 + x13), .int (0 : Int32), .int (999 : Int32)] (c_X12_within (v11 + x13) (0 : Int32) (999 : Int32) m12) B_X12_within gw_1060 rfl rfl rfl d_X12_does_85 (gm_kI (fun x15 m14 => ?_))
      refine gm_iast d_X12_does_88 (fun m16 _ => ?_)
      refine gm_goto (tgt := 143) d_X12_does_89 (by decide) ?_
      exact gm_vret rfl d_X12_does_143 (Nat.le_of_ble_eq_true rfl) (Nat.le_of_ble_eq_true rfl) (fun h => h)
    ·
      refine gm_ite (P := a1 = 2) (fun h1_2 => ?_) (fun h1_2 => ?_)
      ·
        refine gm_swIn (v := 2) (off := 91) (tgt := 92) d_X12_does_1 (by rw [h1_2] <;> rfl) (by decide) (by decide) (by decide) (by decide) ?_
        refine gm_aload_n d_X12_does_92 rfl 0 rfl ?_
        refine gm_getR F_12_s gw_890 d_X12_does_93 (fun v17 _ => ?_)
        refine gm_iconst (v := 1) d_X12_does_96 (by decide) ?_
        refine gm_iload_n d_X12_does_97 rfl 2 rfl ?_
        refine gm_iadd d_X12_does_98 ?_
        refine gm_iconst (v := 0) d_X12_does_99 (by decide) ?_
        refine gm_iast d_X12_does_100 (fun m18 _ => ?_)
        refine gm_aload_n d_X12_does_101 rfl 0 rfl ?_
        refine gm_getR F_12_s gw_890 d_X12_does_102 (fun v19 _ => ?_)
        refine gm_bipush (v := 6) d_X12_does_105 (by decide) ?_
        refine gm_iload_n d_X12_does_107 rfl 2 rfl ?_
        refine gm_iadd d_X12_does_108 ?_
        refine gm_iconst (v := 0) d_X12_does_109 (by decide) ?_
        refine gm_iast d_X12_does_110 (fun m20 _ => ?_)
        refine gm_aload_n d_X12_does_111 rfl 0 rfl ?_
        refine gm_getR F_12_s gw_890 d_X12_does_112 (fun v21 _ => ?_)
        refine gm_bipush (v := 16) d_X12_does_115 (by decide) ?_
        refine gm_iload_n d_X12_does_117 rfl 2 rfl ?_
        refine gm_iadd d_X12_does_118 ?_
        refine gm_iconst (v := 0) d_X12_does_119 (by decide) ?_
        refine gm_iast d_X12_does_120 (fun m22 _ => ?_)
        refine gm_goto (tgt := 143) d_X12_does_121 (by decide) ?_
        exact gm_vret rfl d_X12_does_143 (Nat.le_of_ble_eq_true rfl) (Nat.le_of_ble_eq_true rfl) (fun h => h)
      ·
        refine gm_swOut (tgt := 124) d_X12_does_1 (by have g0 := lv_neT h1_0 (show (0 : Int32).toInt = 0 from rfl); have g1 := lv_neT h1_1 (show (1 : Int32).toInt = 1 from rfl); have g2 := lv_neT h1_2 (show (2 : Int32).toInt = 2 from rfl); omega) (by decide) ?_
        refine gm_aload_n d_X12_does_124 rfl 0 rfl ?_
        refine gm_getR F_12_s gw_890 d_X12_does_125 (fun v23 _ => ?_)
        refine gm_iconst (v := 1) d_X12_does_128 (by decide) ?_
        refine gm_iload_n d_X12_does_129 rfl 2 rfl ?_
        refine gm_iadd d_X12_does_130 ?_
        refine gm_iald d_X12_does_131 (fun v24 _ => ?_)
        refine gm_if_le (tgt := 143) d_X12_does_132 (by decide) (fun h132 => ?_) (fun h132 => ?_)
        ·
          exact gm_vret rfl d_X12_does_143 (Nat.le_of_ble_eq_true rfl) (Nat.le_of_ble_eq_true rfl) (fun h => h)
        ·
          refine gm_aload_n d_X12_does_135 rfl 0 rfl ?_
          refine gm_iload_n d_X12_does_136 rfl 2 rfl ?_
          refine gm_bipush (v := 10) d_X12_does_137 (by decide) ?_
          refine gm_grd (fun g139 => ?_)
          refine gm_callV (k0 := 12) [.int a2, .int (10 : Int32)] (c_X12_blows a0 a2 (10 : Int32) μ) g139 rfl B_X12_blows gw_1102 gs_48 rfl rfl rfl d_X12_does_139 (gm_kI (fun x26 m25 => ?_))
          refine gm_pop d_X12_does_142 rfl ?_
          exact gm_vret rfl d_X12_does_143 (Nat.le_of_ble_eq_true rfl) (Nat.le_of_ble_eq_true rfl) (fun h => h)
theorem d_X12_keeps_0 : decode prog_14_method_7_code 0 = .ok (.iconst 0, 1) := ge_iconst_0 (by decide +kernel)
theorem d_X12_keeps_1 : decode prog_14_method_7_code 1 = .ok (.istore_n 1, 1) := ge_istore_n_1 (by decide +kernel)
theorem d_X12_keeps_2 : decode prog_14_method_7_code 2 = .ok (.iload_n 1, 1) := ge_iload_n_1 (by decide +kernel)
theorem d_X12_keeps_3 : decode prog_14_method_7_code 3 = .ok (.bipush 26, 2) := ge_bipush (by decide +kernel)
theorem d_X12_keeps_5 : decode prog_14_method_7_code 5 = .ok (.if_icmp .ge 21, 3) := ge_if_icmp_ge (by decide +kernel)
theorem d_X12_keeps_8 : decode prog_14_method_7_code 8 = .ok (.aload_n 0, 1) := ge_aload_n_0 (by decide +kernel)
theorem d_X12_keeps_9 : decode prog_14_method_7_code 9 = .ok (.getfield 18, 3) := ge_getfield (by decide +kernel)
theorem d_X12_keeps_12 : decode prog_14_method_7_code 12 = .ok (.iload_n 1, 1) := ge_iload_n_1 (by decide +kernel)
theorem d_X12_keeps_13 : decode prog_14_method_7_code 13 = .ok (.aload_n 0, 1) := ge_aload_n_0 (by decide +kernel)
theorem d_X12_keeps_14 : decode prog_14_method_7_code 14 = .ok (.getfield 9, 3) := ge_getfield (by decide +kernel)
theorem d_X12_keeps_17 : decode prog_14_method_7_code 17 = .ok (.iload_n 1, 1) := ge_iload_n_1 (by decide +kernel)
theorem d_X12_keeps_18 : decode prog_14_method_7_code 18 = .ok (.iaload, 1) := ge_iaload (by decide +kernel)
theorem d_X12_keeps_19 : decode prog_14_method_7_code 19 = .ok (.iastore, 1) := ge_iastore (by decide +kernel)
theorem d_X12_keeps_20 : decode prog_14_method_7_code 20 = .ok (.iinc 1 1, 3) := ge_iinc (by decide +kernel)
theorem d_X12_keeps_23 : decode prog_14_method_7_code 23 = .ok (.goto (-21), 3) := ge_goto (by decide +kernel)
theorem d_X12_keeps_26 : decode prog_14_method_7_code 26 = .ok (.return_, 1) := ge_return_ (by decide +kernel)
def f_X12_keeps (a0 : Nat) (μ : gm_M) : Option (Option Value × gm_M) := gm_loop (fun (s1 : Int32 × gm_M) => if (26 : Int32) ≤ s1.1 then some (Sum.inr (none, s1.2)) else gm_gR s1.2 [17] a0 3 (fun v2 => gm_gR s1.2 [17] a0 1 (fun v3 => gm_aI s1.2 v3 s1.1 (fun v4 => gm_sI s1.2 v2 s1.1 v4 (fun m5 => some (Sum.inl ((s1.1 + (1 : Int32)), m5))))))) 5000 ((0 : Int32), μ)
set_option maxHeartbeats 4000000 in
theorem c_X12_keeps (a0 : Nat) (μ : gm_M) : gm_Call ({ cls := "GumBubbleModel", name := "keeps", desc := "()V" } : Jvm.MethodName) prog_14_method_7_code 2 none 0 0 0 [.ref a0] μ (f_X12_keeps a0 μ) := by
  refine gm_start PN_12 (Nat.le_of_ble_eq_true rfl) (fun res μe => ?_)
  unfold f_X12_keeps
  show gm_A "GumBubbleModel" (gm_nm "keeps") _ _ _ _ _ _ _ _ _ 0 [(0, .ref a0)] [] _ _
  refine gm_iconst (v := 0) d_X12_keeps_0 (by decide) ?_
  refine gm_istore_n (L' := [(1, .int (0 : Int32)), (0, .ref a0)]) d_X12_keeps_1 rfl (Nat.le_of_ble_eq_true rfl) rfl ?_
  refine gm_sub (L' := [(0, .ref a0), (1, .int (0 : Int32))]) [1, 0] rfl ?_
  refine gm_lp (S := Int32 × gm_M) (fun _ => 0) (fun _ => 0) (fun s1 => s1.2) (fun s1 => [(0, .ref a0), (1, .int s1.1)]) (fun _ => []) (fun s1 => ?_) 5000 ((0 : Int32), μ)
  refine gm_iload_n d_X12_keeps_2 rfl 1 rfl ?_
  refine gm_bipush (v := 26) d_X12_keeps_3 (by decide) ?_
  refine gm_icmp_ge (tgt := 26) d_X12_keeps_5 (by decide) (fun h5 => ?_) (fun h5 => ?_)
  ·
    exact gm_vret rfl d_X12_keeps_26 (Nat.le_of_ble_eq_true rfl) (Nat.le_of_ble_eq_true rfl) (fun h => h)
  ·
    refine gm_aload_n d_X12_keeps_8 rfl 0 rfl ?_
    refine gm_getR F_12_frame gw_892 d_X12_keeps_9 (fun v2 _ => ?_)
    refine gm_iload_n d_X12_keeps_12 rfl 1 rfl ?_
    refine gm_aload_n d_X12_keeps_13 rfl 0 rfl ?_
    refine gm_getR F_12_s gw_890 d_X12_keeps_14 (fun v3 _ => ?_)
    refine gm_iload_n d_X12_keeps_17 rfl 1 rfl ?_
    refine gm_iald d_X12_keeps_18 (fun v4 _ => ?_)
    refine gm_iast d_X12_keeps_19 (fun m5 _ => ?_)
    refine gm_iinc (v := s1.1 + (1 : Int32)) (L' := [(1, .int (s1.1 + (1 : Int32))), (0, .ref a0)]) d_X12_keeps_20 1 rfl rfl (Nat.le_of_ble_eq_true rfl) rfl ?_
    refine gm_goto (tgt := 2) d_X12_keeps_23 (by decide) ?_
    refine gm_sub (L' := [(0, .ref a0), (1, .int (s1.1 + (1 : Int32)))]) [1, 0] rfl ?_
    exact gm_back (fun h => h)
end
