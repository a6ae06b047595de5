theorem d_X12_act_0 : decode prog_14_method_87_code 0 = .ok (.aload_n 0, 1) := by decide +kernel
theorem d_X12_act_1 : decode prog_14_method_87_code 1 = .ok (.iconst 0, 1) := by decide +kernel
theorem d_X12_act_2 : decode prog_14_method_87_code 2 = .ok (.putfield 247, 3) := by decide +kernel
theorem d_X12_act_5 : decode prog_14_method_87_code 5 = .ok (.aload_n 0, 1) := by decide +kernel
theorem d_X12_act_6 : decode prog_14_method_87_code 6 = .ok (.iload_n 1, 1) := by decide +kernel
theorem d_X12_act_7 : decode prog_14_method_87_code 7 = .ok (.invokevirtual 154, 3) := by decide +kernel
theorem d_X12_act_10 : decode prog_14_method_87_code 10 = .ok (.ifCond .eq 12, 3) := by decide +kernel
theorem d_X12_act_13 : decode prog_14_method_87_code 13 = .ok (.iload_n 2, 1) := by decide +kernel
theorem d_X12_act_14 : decode prog_14_method_87_code 14 = .ok (.iconst 0, 1) := by decide +kernel
theorem d_X12_act_15 : decode prog_14_method_87_code 15 = .ok (.iconst 2, 1) := by decide +kernel
theorem d_X12_act_16 : decode prog_14_method_87_code 16 = .ok (.invokestatic 44, 3) := by decide +kernel
theorem d_X12_act_19 : decode prog_14_method_87_code 19 = .ok (.ifCond .ne 5, 3) := by decide +kernel
theorem d_X12_act_22 : decode prog_14_method_87_code 22 = .ok (.iconst 0, 1) := by decide +kernel
theorem d_X12_act_23 : decode prog_14_method_87_code 23 = .ok (.ireturn, 1) := by decide +kernel
theorem d_X12_act_24 : decode prog_14_method_87_code 24 = .ok (.aload_n 0, 1) := by decide +kernel
theorem d_X12_act_25 : decode prog_14_method_87_code 25 = .ok (.aload_n 0, 1) := by decide +kernel
theorem d_X12_act_26 : decode prog_14_method_87_code 26 = .ok (.getfield 9, 3) := by decide +kernel
theorem d_X12_act_29 : decode prog_14_method_87_code 29 = .ok (.bipush 33, 2) := by decide +kernel
theorem d_X12_act_31 : decode prog_14_method_87_code 31 = .ok (.iload_n 1, 1) := by decide +kernel
theorem d_X12_act_32 : decode prog_14_method_87_code 32 = .ok (.iadd, 1) := by decide +kernel
theorem d_X12_act_33 : decode prog_14_method_87_code 33 = .ok (.iaload, 1) := by decide +kernel
theorem d_X12_act_34 : decode prog_14_method_87_code 34 = .ok (.putfield 256, 3) := by decide +kernel
theorem d_X12_act_37 : decode prog_14_method_87_code 37 = .ok (.aload_n 0, 1) := by decide +kernel
theorem d_X12_act_38 : decode prog_14_method_87_code 38 = .ok (.iload_n 1, 1) := by decide +kernel
theorem d_X12_act_39 : decode prog_14_method_87_code 39 = .ok (.putfield 253, 3) := by decide +kernel
theorem d_X12_act_42 : decode prog_14_method_87_code 42 = .ok (.aload_n 0, 1) := by decide +kernel
theorem d_X12_act_43 : decode prog_14_method_87_code 43 = .ok (.aload_n 0, 1) := by decide +kernel
theorem d_X12_act_44 : decode prog_14_method_87_code 44 = .ok (.getfield 9, 3) := by decide +kernel
theorem d_X12_act_47 : decode prog_14_method_87_code 47 = .ok (.bipush 38, 2) := by decide +kernel
theorem d_X12_act_49 : decode prog_14_method_87_code 49 = .ok (.iload_n 1, 1) := by decide +kernel
theorem d_X12_act_50 : decode prog_14_method_87_code 50 = .ok (.iadd, 1) := by decide +kernel
theorem d_X12_act_51 : decode prog_14_method_87_code 51 = .ok (.iaload, 1) := by decide +kernel
theorem d_X12_act_52 : decode prog_14_method_87_code 52 = .ok (.putfield 268, 3) := by decide +kernel
theorem d_X12_act_55 : decode prog_14_method_87_code 55 = .ok (.iload_n 2, 1) := by decide +kernel
theorem d_X12_act_56 : decode prog_14_method_87_code 56 = .ok (.ifCond .ne 11, 3) := by decide +kernel
theorem d_X12_act_59 : decode prog_14_method_87_code 59 = .ok (.aload_n 0, 1) := by decide +kernel
theorem d_X12_act_60 : decode prog_14_method_87_code 60 = .ok (.iload_n 3, 1) := by decide +kernel
theorem d_X12_act_61 : decode prog_14_method_87_code 61 = .ok (.invokevirtual 265, 3) := by decide +kernel
theorem d_X12_act_64 : decode prog_14_method_87_code 64 = .ok (.goto 21, 3) := by decide +kernel
theorem d_X12_act_67 : decode prog_14_method_87_code 67 = .ok (.iload_n 2, 1) := by decide +kernel
theorem d_X12_act_68 : decode prog_14_method_87_code 68 = .ok (.iconst 1, 1) := by decide +kernel
theorem d_X12_act_69 : decode prog_14_method_87_code 69 = .ok (.if_icmp .ne 11, 3) := by decide +kernel
theorem d_X12_act_72 : decode prog_14_method_87_code 72 = .ok (.aload_n 0, 1) := by decide +kernel
theorem d_X12_act_73 : decode prog_14_method_87_code 73 = .ok (.iload_n 3, 1) := by decide +kernel
theorem d_X12_act_74 : decode prog_14_method_87_code 74 = .ok (.invokevirtual 274, 3) := by decide +kernel
theorem d_X12_act_77 : decode prog_14_method_87_code 77 = .ok (.goto 8, 3) := by decide +kernel
theorem d_X12_act_80 : decode prog_14_method_87_code 80 = .ok (.aload_n 0, 1) := by decide +kernel
theorem d_X12_act_81 : decode prog_14_method_87_code 81 = .ok (.iload_n 3, 1) := by decide +kernel
theorem d_X12_act_82 : decode prog_14_method_87_code 82 = .ok (.invokevirtual 280, 3) := by decide +kernel
theorem d_X12_act_85 : decode prog_14_method_87_code 85 = .ok (.ireturn, 1) := by decide +kernel
def f_X12_act (a0 : Nat) (a1 : Int32) (a2 : Int32) (a3 : Int32) (μ : gm_M) : Option (Option Value × gm_M) := gm_pI μ [17] a0 19 (0 : Int32) (fun m1 => if gm_tag m1 a0 = 17 then gm_bI (f_X12_isChild a0 a1 m1) (fun x3 m2 => if x3 = 0 then some (some (.int (0 : Int32)), m2) else gm_bI (f_X12_in a2 (0 : Int32) (2 : Int32) m2) (fun x5 m4 => if x5 ≠ 0 then gm_gR m4 [17] a0 1 (fun v6 => gm_aI m4 v6 ((33 : Int32) + a1) (fun v7 => gm_pI m4 [17] a0 20 v7 (fun m8 => gm_pI m8 [17] a0 21 a1 (fun m9 => gm_gR m9 [17] a0 1 (fun v10 => gm_aI m9 v10 ((38 : Int32) + a1) (fun v11 => gm_pI m9 [17] a0 22 v11 (fun m12 => if a2 ≠ 0 then if a2 ≠ (1 : Int32) then if gm_tag m12 a0 = 17 then gm_bI (f_X12_tellsActs a0 a3 m12) (fun x14 m13 => some (some (.int x14), m13)) else none else if gm_tag m12 a0 = 17 then gm_bI (f_X12_blowsActs a0 a3 m12) (fun x16 m15 => some (some (.int x16), m15)) else none else if gm_tag m12 a0 = 17 then gm_bI (f_X12_chewsActs a0 a3 m12) (fun x18 m17 => some (some (.int x18), m17)) else none))))))) else some (some (.int (0 : Int32)), m4))) else none)
set_option maxHeartbeats 4000000 in
theorem c_X12_act (a0 : Nat) (a1 : Int32) (a2 : Int32) (a3 : Int32) (μ : gm_M) : gm_Call ({ cls := "GumBubbleModel", name := "act", desc := "(III)I" } : Jvm.MethodName) prog_14_method_87_code 4 (some .int) 7 0 0 [.ref a0, .int a1, .int a2, .int a3] μ (f_X12_act a0 a1 a2 a3 μ) := by
  refine gm_start PN_12 (Nat.le_of_ble_eq_true rfl) (fun res μe => ?_)
  unfold f_X12_act
  show gm_A "GumBubbleModel" (gm_nm "act") _ _ _ _ _ _ _ _ _ 0 [(0, .ref a0), (1, .int a1), (2, .int a2), (3, .int a3)] [] _ _
  refine gm_aload_n d_X12_act_0 rfl 0 rfl ?_
  refine gm_iconst (v := 0) d_X12_act_1 (by decide) ?_
  refine gm_putI F_12_ran (Or.inl rfl) gw_908 d_X12_act_2 (fun m1 _ => ?_)
  refine gm_aload_n d_X12_act_5 rfl 0 rfl ?_
  refine gm_iload_n d_X12_act_6 rfl 1 rfl ?_
  refine gm_grd (fun g7 => ?_)
  refine gm_callV (k0 := 12) [.int a1] (c_X12_isChild a0 a1 m1) g7 rfl B_X12_isChild gw_1047 gs_40 rfl rfl rfl d_X12_act_7 (gm_kI (fun x3 m2 => ?_))
  refine gm_if_eq (tgt := 22) d_X12_act_10 (by decide) (fun h10 => ?_) (fun h10 => ?_)
  ·
    refine gm_iconst (v := 0) d_X12_act_22 (by decide) ?_
    exact gm_iret rfl d_X12_act_23 (Nat.le_of_ble_eq_true rfl) (Nat.le_of_ble_eq_true rfl) (fun h => h)
  ·
    refine gm_iload_n d_X12_act_13 rfl 2 rfl ?_
    refine gm_iconst (v := 0) d_X12_act_14 (by decide) ?_
    refine gm_iconst (v := 2) d_X12_act_15 (by decide) ?_
    refine gm_callS [.int a2, .int (0 : Int32), .int (2 : Int32)] (c_X12_in a2 (0 : Int32) (2 : Int32) m2) B_X12_in gw_964 rfl rfl rfl d_X12_act_16 (gm_kI (fun x5 m4 => ?_))
    refine gm_if_ne (tgt := 24) d_X12_act_19 (by decide) (fun h19 => ?_) (fun h19 => ?_)
    ·
      refine gm_aload_n d_X12_act_24 rfl 0 rfl ?_
      refine gm_aload_n d_X12_act_25 rfl 0 rfl ?_
      refine gm_getR F_12_s gw_890 d_X12_act_26 (fun v6 _ => ?_)
      refine gm_bipush (v := 33) d_X12_act_29 (by decide) ?_
      refine gm_iload_n d_X12_act_31 rfl 1 rfl ?_
      refine gm_iadd d_X12_act_32 ?_
      refine gm_iald d_X12_act_33 (fun v7 _ => ?_)
      refine gm_putI F_12_kind (Or.inl rfl) gw_909 d_X12_act_34 (fun m8 _ => ?_)
      refine gm_aload_n d_X12_act_37 rfl 0 rfl ?_
      refine gm_iload_n d_X12_act_38 rfl 1 rfl ?_
      refine gm_putI F_12_number (Or.inl rfl) gw_910 d_X12_act_39 (fun m9 _ => ?_)
      refine gm_aload_n d_X12_act_42 rfl 0 rfl ?_
      refine gm_aload_n d_X12_act_43 rfl 0 rfl ?_
      refine gm_getR F_12_s gw_890 d_X12_act_44 (fun v10 _ => ?_)
      refine gm_bipush (v := 38) d_X12_act_47 (by decide) ?_
      refine gm_iload_n d_X12_act_49 rfl 1 rfl ?_
      refine gm_iadd d_X12_act_50 ?_
      refine gm_iald d_X12_act_51 (fun v11 _ => ?_)
      refine gm_putI F_12_tellsV (Or.inl rfl) gw_911 d_X12_act_52 (fun m12 _ => ?_)
      refine gm_iload_n d_X12_act_55 rfl 2 rfl ?_
      refine gm_if_ne (tgt := 67) d_X12_act_56 (by decide) (fun h56 => ?_) (fun h56 => ?_)
      ·
        refine gm_iload_n d_X12_act_67 rfl 2 rfl ?_
        refine gm_iconst (v := 1) d_X12_act_68 (by decide) ?_
        refine gm_icmp_ne (tgt := 80) d_X12_act_69 (by decide) (fun h69 => ?_) (fun h69 => ?_)
        ·
          refine gm_aload_n d_X12_act_80 rfl 0 rfl ?_
          refine gm_iload_n d_X12_act_81 rfl 3 rfl ?_
          refine gm_grd (fun g82 => ?_)
          refine gm_callV (k0 := 12) [.int a3] (c_X12_tellsActs a0 a3 m12) g82 rfl B_X12_tellsActs gw_1297 gs_69 rfl rfl rfl d_X12_act_82 (gm_kI (fun x14 m13 => ?_))
          exact gm_iret rfl d_X12_act_85 (Nat.le_of_ble_eq_true rfl) (Nat.le_of_ble_eq_true rfl) (fun h => h)
        ·
          refine gm_aload_n d_X12_act_72 rfl 0 rfl ?_
          refine gm_iload_n d_X12_act_73 rfl 3 rfl ?_
          refine gm_grd (fun g74 => ?_)
          refine gm_callV (k0 := 12) [.int a3] (c_X12_blowsActs a0 a3 m12) g74 rfl B_X12_blowsActs gw_1289 gs_67 rfl rfl rfl d_X12_act_74 (gm_kI (fun x16 m15 => ?_))
          refine gm_goto (tgt := 85) d_X12_act_77 (by decide) ?_
          exact gm_iret rfl d_X12_act_85 (Nat.le_of_ble_eq_true rfl) (Nat.le_of_ble_eq_true rfl) (fun h => h)
      ·
        refine gm_aload_n d_X12_act_59 rfl 0 rfl ?_
        refine gm_iload_n d_X12_act_60 rfl 3 rfl ?_
        refine gm_grd (fun g61 => ?_)
        refine gm_callV (k0 := 12) [.int a3] (c_X12_chewsActs a0 a3 m12) g61 rfl B_X12_chewsActs gw_1274 gs_64 rfl rfl rfl d_X12_act_61 (gm_kI (fun x18 m17 => ?_))
        refine gm_goto (tgt := 85) d_X12_act_64 (by decide) ?_
        exact gm_iret rfl d_X12_act_85 (Nat.le_of_ble_eq_true rfl) (Nat.le_of_ble_eq_true rfl) (fun h => h)
    ·
      refine gm_iconst (v := 0) d_X12_act_22 (by decide) ?_
      exact gm_iret rfl d_X12_act_23 (Nat.le_of_ble_eq_true rfl) (Nat.le_of_ble_eq_true rfl) (fun h => h)
theorem d_X12_here_0 : decode prog_14_method_10_code 0 = .ok (.aload_n 0, 1) := by decide +kernel
theorem d_X12_here_1 : decode prog_14_method_10_code 1 = .ok (.getfield 48, 3) := by decide +kernel
theorem d_X12_here_4 : decode prog_14_method_10_code 4 = .ok (.aload_n 0, 1) := by decide +kernel
theorem d_X12_here_5 : decode prog_14_method_10_code 5 = .ok (.getfield 51, 3) := by decide +kernel
theorem d_X12_here_8 : decode prog_14_method_10_code 8 = .ok (.if_icmp .ge 18, 3) := by decide +kernel
theorem d_X12_here_11 : decode prog_14_method_10_code 11 = .ok (.aload_n 0, 1) := by decide +kernel
theorem d_X12_here_12 : decode prog_14_method_10_code 12 = .ok (.getfield 9, 3) := by decide +kernel
theorem d_X12_here_15 : decode prog_14_method_10_code 15 = .ok (.bipush 110, 2) := by decide +kernel
theorem d_X12_here_17 : decode prog_14_method_10_code 17 = .ok (.aload_n 0, 1) := by decide +kernel
theorem d_X12_here_18 : decode prog_14_method_10_code 18 = .ok (.getfield 48, 3) := by decide +kernel
theorem d_X12_here_21 : decode prog_14_method_10_code 21 = .ok (.iadd, 1) := by decide +kernel
theorem d_X12_here_22 : decode prog_14_method_10_code 22 = .ok (.iaload, 1) := by decide +kernel
theorem d_X12_here_23 : decode prog_14_method_10_code 23 = .ok (.goto 4, 3) := by decide +kernel
theorem d_X12_here_26 : decode prog_14_method_10_code 26 = .ok (.iconst (-1), 1) := by decide +kernel
theorem d_X12_here_27 : decode prog_14_method_10_code 27 = .ok (.ireturn, 1) := by decide +kernel
def f_X12_here (a0 : Nat) (μ : gm_M) : Option (Option Value × gm_M) := gm_gI μ [17] a0 6 (fun v1 => gm_gI μ [17] a0 7 (fun v2 => if v2 ≤ v1 then some (some (.int (-1 : Int32)), μ) else gm_gR μ [17] a0 1 (fun v3 => gm_gI μ [17] a0 6 (fun v4 => gm_aI μ v3 ((110 : Int32) + v4) (fun v5 => some (some (.int v5), μ))))))
set_option maxHeartbeats 4000000 in
theorem c_X12_here (a0 : Nat) (μ : gm_M) : gm_Call ({ cls := "GumBubbleModel", name := "here", desc := "()I" } : Jvm.MethodName) prog_14_method_10_code 1 (some .int) 0 0 0 [.ref a0] μ (f_X12_here a0 μ) := by
  refine gm_start PN_12 (Nat.le_of_ble_eq_true rfl) (fun res μe => ?_)
  unfold f_X12_here
  show gm_A "GumBubbleModel" (gm_nm "here") _ _ _ _ _ _ _ _ _ 0 [(0, .ref a0)] [] _ _
  refine gm_aload_n d_X12_here_0 rfl 0 rfl ?_
  refine gm_getI F_12_spot gw_895 d_X12_here_1 (fun v1 _ => ?_)
  refine gm_aload_n d_X12_here_4 rfl 0 rfl ?_
  refine gm_getI F_12_end gw_896 d_X12_here_5 (fun v2 _ => ?_)
  refine gm_icmp_ge (tgt := 26) d_X12_here_8 (by decide) (fun h8 => ?_) (fun h8 => ?_)
  ·
    refine gm_iconst (v := -1) d_X12_here_26 (by decide) ?_
    exact gm_iret rfl d_X12_here_27 (Nat.le_of_ble_eq_true rfl) (Nat.le_of_ble_eq_true rfl) (fun h => h)
  ·
    refine gm_aload_n d_X12_here_11 rfl 0 rfl ?_
    refine gm_getR F_12_s gw_890 d_X12_here_12 (fun v3 _ => ?_)
    refine gm_bipush (v := 110) d_X12_here_15 (by decide) ?_
    refine gm_aload_n d_X12_here_17 rfl 0 rfl ?_
    refine gm_getI F_12_spot gw_895 d_X12_here_18 (fun v4 _ => ?_)
    refine gm_iadd d_X12_here_21 ?_
    refine gm_iald d_X12_here_22 (fun v5 _ => ?_)
    refine gm_goto (tgt := 27) d_X12_here_23 (by decide) ?_
    exact gm_iret rfl d_X12_here_27 (Nat.le_of_ble_eq_true rfl) (Nat.le_of_ble_eq_true rfl) (fun h => h)
theorem d_X12_figures_0 : decode prog_14_method_13_code 0 = .ok (.aload_n 0, 1) := by decide +kernel
theorem d_X12_figures_1 : decode prog_14_method_13_code 1 = .ok (.aload_n 0, 1) := by decide +kernel
theorem d_X12_figures_2 : decode prog_14_method_13_code 2 = .ok (.getfield 54, 3) := by decide +kernel
theorem d_X12_figures_5 : decode prog_14_method_13_code 5 = .ok (.ifCond .ne 17, 3) := by decide +kernel
theorem d_X12_figures_8 : decode prog_14_method_13_code 8 = .ok (.aload_n 0, 1) := by decide +kernel
theorem d_X12_figures_9 : decode prog_14_method_13_code 9 = .ok (.invokevirtual 58, 3) := by decide +kernel
theorem d_X12_figures_12 : decode prog_14_method_13_code 12 = .ok (.bipush 48, 2) := by decide +kernel
theorem d_X12_figures_14 : decode prog_14_method_13_code 14 = .ok (.bipush 57, 2) := by decide +kernel
theorem d_X12_figures_16 : decode prog_14_method_13_code 16 = .ok (.invokestatic 44, 3) := by decide +kernel
theorem d_X12_figures_19 : decode prog_14_method_13_code 19 = .ok (.ifCond .ne 7, 3) := by decide +kernel
theorem d_X12_figures_22 : decode prog_14_method_13_code 22 = .ok (.iconst 1, 1) := by decide +kernel
theorem d_X12_figures_23 : decode prog_14_method_13_code 23 = .ok (.goto 4, 3) := by decide +kernel
theorem d_X12_figures_26 : decode prog_14_method_13_code 26 = .ok (.iconst 0, 1) := by decide +kernel
theorem d_X12_figures_27 : decode prog_14_method_13_code 27 = .ok (.putfield 54, 3) := by decide +kernel
theorem d_X12_figures_30 : decode prog_14_method_13_code 30 = .ok (.iconst 0, 1) := by decide +kernel
theorem d_X12_figures_31 : decode prog_14_method_13_code 31 = .ok (.istore_n 1, 1) := by decide +kernel
theorem d_X12_figures_32 : decode prog_14_method_13_code 32 = .ok (.iconst 0, 1) := by decide +kernel
theorem d_X12_figures_33 : decode prog_14_method_13_code 33 = .ok (.istore_n 2, 1) := by decide +kernel
theorem d_X12_figures_34 : decode prog_14_method_13_code 34 = .ok (.iload_n 2, 1) := by decide +kernel
theorem d_X12_figures_35 : decode prog_14_method_13_code 35 = .ok (.iconst 2, 1) := by decide +kernel
theorem d_X12_figures_36 : decode prog_14_method_13_code 36 = .ok (.if_icmp .ge 61, 3) := by decide +kernel
theorem d_X12_figures_39 : decode prog_14_method_13_code 39 = .ok (.aload_n 0, 1) := by decide +kernel
theorem d_X12_figures_40 : decode prog_14_method_13_code 40 = .ok (.getfield 54, 3) := by decide +kernel
theorem d_X12_figures_43 : decode prog_14_method_13_code 43 = .ok (.ifCond .ne 54, 3) := by decide +kernel
theorem d_X12_figures_46 : decode prog_14_method_13_code 46 = .ok (.aload_n 0, 1) := by decide +kernel
theorem d_X12_figures_47 : decode prog_14_method_13_code 47 = .ok (.invokevirtual 58, 3) := by decide +kernel
theorem d_X12_figures_50 : decode prog_14_method_13_code 50 = .ok (.bipush 48, 2) := by decide +kernel
theorem d_X12_figures_52 : decode prog_14_method_13_code 52 = .ok (.bipush 57, 2) := by decide +kernel
theorem d_X12_figures_54 : decode prog_14_method_13_code 54 = .ok (.invokestatic 44, 3) := by decide +kernel
theorem d_X12_figures_57 : decode prog_14_method_13_code 57 = .ok (.ifCond .eq 40, 3) := by decide +kernel
theorem d_X12_figures_60 : decode prog_14_method_13_code 60 = .ok (.iload_n 2, 1) := by decide +kernel
theorem d_X12_figures_61 : decode prog_14_method_13_code 61 = .ok (.ifCond .eq 7, 3) := by decide +kernel
theorem d_X12_figures_64 : decode prog_14_method_13_code 64 = .ok (.iload_n 1, 1) := by decide +kernel
theorem d_X12_figures_65 : decode prog_14_method_13_code 65 = .ok (.ifCond .le 32, 3) := by decide +kernel
theorem d_X12_figures_68 : decode prog_14_method_13_code 68 = .ok (.bipush 10, 2) := by decide +kernel
theorem d_X12_figures_70 : decode prog_14_method_13_code 70 = .ok (.iload_n 1, 1) := by decide +kernel
theorem d_X12_figures_71 : decode prog_14_method_13_code 71 = .ok (.imul, 1) := by decide +kernel
theorem d_X12_figures_72 : decode prog_14_method_13_code 72 = .ok (.aload_n 0, 1) := by decide +kernel
theorem d_X12_figures_73 : decode prog_14_method_13_code 73 = .ok (.invokevirtual 58, 3) := by decide +kernel
theorem d_X12_figures_76 : decode prog_14_method_13_code 76 = .ok (.iadd, 1) := by decide +kernel
theorem d_X12_figures_77 : decode prog_14_method_13_code 77 = .ok (.bipush 48, 2) := by decide +kernel
theorem d_X12_figures_79 : decode prog_14_method_13_code 79 = .ok (.isub, 1) := by decide +kernel
theorem d_X12_figures_80 : decode prog_14_method_13_code 80 = .ok (.istore_n 1, 1) := by decide +kernel
theorem d_X12_figures_81 : decode prog_14_method_13_code 81 = .ok (.aload_n 0, 1) := by decide +kernel
theorem d_X12_figures_82 : decode prog_14_method_13_code 82 = .ok (.dup, 1) := by decide +kernel
theorem d_X12_figures_83 : decode prog_14_method_13_code 83 = .ok (.getfield 48, 3) := by decide +kernel
theorem d_X12_figures_86 : decode prog_14_method_13_code 86 = .ok (.iconst 1, 1) := by decide +kernel
theorem d_X12_figures_87 : decode prog_14_method_13_code 87 = .ok (.iadd, 1) := by decide +kernel
theorem d_X12_figures_88 : decode prog_14_method_13_code 88 = .ok (.putfield 48, 3) := by decide +kernel
theorem d_X12_figures_91 : decode prog_14_method_13_code 91 = .ok (.iinc 2 1, 3) := by decide +kernel
theorem d_X12_figures_94 : decode prog_14_method_13_code 94 = .ok (.goto (-60), 3) := by decide +kernel
theorem d_X12_figures_97 : decode prog_14_method_13_code 97 = .ok (.iload_n 1, 1) := by decide +kernel
theorem d_X12_figures_98 : decode prog_14_method_13_code 98 = .ok (.ireturn, 1) := by decide +kernel
def f_X12_figures (a0 : Nat) (μ : gm_M) : Option (Option Value × gm_M) := gm_gI μ [17] a0 8 (fun v1 => gm_j (fun (s2 : Int32 × gm_M) => gm_pZ s2.2 [17] a0 8 s2.1 (fun m4 => gm_loop (fun (s5 : Int32 × Int32 × gm_M) => if (2 : Int32) ≤ s5.2.1 then some (Sum.inr (some (.int s5.1), s5.2.2)) else gm_gI s5.2.2 [17] a0 8 (fun v6 => if v6 ≠ 0 then some (Sum.inr (some (.int s5.1), s5.2.2)) else if gm_tag s5.2.2 a0 = 17 then gm_bI (f_X12_here a0 s5.2.2) (fun x8 m7 => gm_bI (f_X12_in x8 (48 : Int32) (57 : Int32) m7) (fun x10 m9 => if x10 = 0 then some (Sum.inr (some (.int s5.1), m9)) else gm_j (fun (s11 : Unit) => if gm_tag m9 a0 = 17 then gm_bI (f_X12_here a0 m9) (fun x14 m13 => gm_gI m13 [17] a0 6 (fun v15 => gm_pI m13 [17] a0 6 (v15 + (1 : Int32)) (fun m16 => some (Sum.inl (((((10 : Int32) * s5.1) + x14) - (48 : Int32)), (s5.2.1 + (1 : Int32)), m16))))) else none) (fun j12 => if s5.2.1 = 0 then j12 () else if s5.1 ≤ 0 then some (Sum.inr (some (.int s5.1), m9)) else j12 ()))) else none)) 5000 ((0 : Int32), (0 : Int32), m4))) (fun j3 => gm_j (fun (s17 : gm_M) => j3 ((1 : Int32), s17)) (fun j18 => if v1 ≠ 0 then j18 μ else if gm_tag μ a0 = 17 then gm_bI (f_X12_here a0 μ) (fun x20 m19 => gm_bI (f_X12_in x20 (48 : Int32) (57 : Int32) m19) (fun x22 m21 => if x22 ≠ 0 then j3 ((0 : Int32), m21) else j18 m21)) else none)))
set_option maxHeartbeats 4000000 in
theorem c_X12_figures (a0 : Nat) (μ : gm_M) : gm_Call ({ cls := "GumBubbleModel", name := "figures", desc := "()I" } : Jvm.MethodName) prog_14_method_13_code 3 (some .int) 1 0 0 [.ref a0] μ (f_X12_figures a0 μ) := by
  refine gm_start PN_12 (Nat.le_of_ble_eq_true rfl) (fun res μe => ?_)
  unfold f_X12_figures
  show gm_A "GumBubbleModel" (gm_nm "figures") _ _ _ _ _ _ _ _ _ 0 [(0, .ref a0)] [] _ _
  refine gm_aload_n d_X12_figures_0 rfl 0 rfl ?_
  refine gm_aload_n d_X12_figures_1 rfl 0 rfl ?_
  refine gm_getI F_12_isWrong gw_897 d_X12_figures_2 (fun v1 _ => ?_)
  refine gm_join (S := Int32 × gm_M) (pj := 27) (kj := 0) (nj := 0) (fun s2 => s2.2) (fun s2 => [(0, .ref a0)]) (fun s2 => [.int s2.1, .ref a0]) (fun s2 => ?_) (fun j3 hj3 => ?_)
  ·
    refine gm_putZ F_12_isWrong (Or.inl rfl) gw_897 d_X12_figures_27 (fun m4 _ => ?_)
    refine gm_iconst (v := 0) d_X12_figures_30 (by decide) ?_
    refine gm_istore_n (L' := [(1, .int (0 : Int32)), (0, .ref a0)]) d_X12_figures_31 rfl (Nat.le_of_ble_eq_true rfl) rfl ?_
    refine gm_iconst (v := 0) d_X12_figures_32 (by decide) ?_
    refine gm_istore_n (L' := [(2, .int (0 : Int32)), (1, .int (0 : Int32)), (0, .ref a0)]) d_X12_figures_33 rfl (Nat.le_of_ble_eq_true rfl) rfl ?_
    refine gm_sub (L' := [(0, .ref a0), (1, .int (0 : Int32)), (2, .int (0 : Int32))]) [2, 1, 0] rfl ?_
    refine gm_lp (S := Int32 × Int32 × gm_M) (fun _ => 0) (fun _ => 0) (fun s5 => s5.2.2) (fun s5 => [(0, .ref a0), (1, .int s5.1), (2, .int s5.2.1)]) (fun _ => []) (fun s5 => ?_) 5000 ((0 : Int32), (0 : Int32), m4)
    refine gm_iload_n d_X12_figures_34 rfl 2 rfl ?_
    refine gm_iconst (v := 2) d_X12_figures_35 (by decide) ?_
    refine gm_icmp_ge (tgt := 97) d_X12_figures_36 (by decide) (fun h36 => ?_) (fun h36 => ?_)
    ·
      refine gm_iload_n d_X12_figures_97 rfl 1 rfl ?_
      exact gm_iret rfl d_X12_figures_98 (Nat.le_of_ble_eq_true rfl) (Nat.le_of_ble_eq_true rfl) (fun h => h)
    ·
      refine gm_aload_n d_X12_figures_39 rfl 0 rfl ?_
      refine gm_getI F_12_isWrong gw_897 d_X12_figures_40 (fun v6 _ => ?_)
      refine gm_if_ne (tgt := 97) d_X12_figures_43 (by decide) (fun h43 => ?_) (fun h43 => ?_)
      ·
        refine gm_iload_n d_X12_figures_97 rfl 1 rfl ?_
        exact gm_iret rfl d_X12_figures_98 (Nat.le_of_ble_eq_true rfl) (Nat.le_of_ble_eq_true rfl) (fun h => h)
      ·
        refine gm_aload_n d_X12_figures_46 rfl 0 rfl ?_
        refine gm_grd (fun g47 => ?_)
        refine gm_callV (k0 := 12) [] (c_X12_here a0 s5.2.2) g47 rfl B_X12_here gw_975 gs_26 rfl rfl rfl d_X12_figures_47 (gm_kI (fun x8 m7 => ?_))
        refine gm_bipush (v := 48) d_X12_figures_50 (by decide) ?_
        refine gm_bipush (v := 57) d_X12_figures_52 (by decide) ?_
        refine gm_callS [.int x8, .int (48 : Int32), .int (57 : Int32)] (c_X12_in x8 (48 : Int32) (57 : Int32) m7) B_X12_in gw_964 rfl rfl rfl d_X12_figures_54 (gm_kI (fun x10 m9 => ?_))
        refine gm_if_eq (tgt := 97) d_X12_figures_57 (by decide) (fun h57 => ?_) (fun h57 => ?_)
        ·
          refine gm_iload_n d_X12_figures_97 rfl 1 rfl ?_
          exact gm_iret rfl d_X12_figures_98 (Nat.le_of_ble_eq_true rfl) (Nat.le_of_ble_eq_true rfl) (fun h => h)
        ·
          refine gm_iload_n d_X12_figures_60 rfl 2 rfl ?_
          refine gm_join (S := Unit) (pj := 68) (kj := 0) (nj := 0) (fun s11 => m9) (fun s11 => [(0, .ref a0), (1, .int s5.1), (2, .int s5.2.1)]) (fun s11 => []) (fun s11 => ?_) (fun j12 hj12 => ?_)
          ·
            refine gm_bipush (v := 10) d_X12_figures_68 (by decide) ?_
            refine gm_iload_n d_X12_figures_70 rfl 1 rfl ?_
            refine gm_imul d_X12_figures_71 ?_
            refine gm_aload_n d_X12_figures_72 rfl 0 rfl ?_
            refine gm_grd (fun g73 => ?_)
            refine gm_callV (k0 := 12) [] (c_X12_here a0 m9) g73 rfl B_X12_here gw_975 gs_26 rfl rfl rfl d_X12_figures_73 (gm_kI (fun x14 m13 => ?_))
            refine gm_iadd d_X12_figures_76 ?_
            refine gm_bipush (v := 48) d_X12_figures_77 (by decide) ?_
            refine gm_isub d_X12_figures_79 ?_
            refine gm_istore_n (L' := [(1, .int ((((10 : Int32) * s5.1) + x14) - (48 : Int32))), (0, .ref a0), (2, .int s5.2.1)]) d_X12_figures_80 rfl (Nat.le_of_ble_eq_true rfl) rfl ?_
            refine gm_aload_n d_X12_figures_81 rfl 1 rfl ?_
            refine gm_dup d_X12_figures_82 rfl ?_
            refine gm_getI F_12_spot gw_895 d_X12_figures_83 (fun v15 _ => ?_)
            refine gm_iconst (v := 1) d_X12_figures_86 (by decide) ?_
            refine gm_iadd d_X12_figures_87 ?_
            refine gm_putI F_12_spot (Or.inl rfl) gw_895 d_X12_figures_88 (fun m16 _ => ?_)
            refine gm_iinc (v := s5.2.1 + (1 : Int32)) (L' := [(2, .int (s5.2.1 + (1 : Int32))), (1, .int ((((10 : Int32) * s5.1) + x14) - (48 : Int32))), (0, .ref a0)]) d_X12_figures_91 2 rfl rfl (Nat.le_of_ble_eq_true rfl) rfl ?_
            refine gm_goto (tgt := 34) d_X12_figures_94 (by decide) ?_
            refine gm_sub (L' := [(0, .ref a0), (1, .int ((((10 : Int32) * s5.1) + x14) - (48 : Int32))), (2, .int (s5.2.1 + (1 : Int32)))]) [2, 1, 0] rfl ?_
            exact gm_back (fun h => h)
          ·
            refine gm_if_eq (tgt := 68) d_X12_figures_61 (by decide) (fun h61 => ?_) (fun h61 => ?_)
            ·
              exact hj12 ()
            ·
              refine gm_iload_n d_X12_figures_64 rfl 1 rfl ?_
              refine gm_if_le (tgt := 97) d_X12_figures_65 (by decide) (fun h65 => ?_) (fun h65 => ?_)
              ·
                refine gm_iload_n d_X12_figures_97 rfl 1 rfl ?_
                exact gm_iret rfl d_X12_figures_98 (Nat.le_of_ble_eq_true rfl) (Nat.le_of_ble_eq_true rfl) (fun h => h)
              ·
                exact hj12 ()
  ·
    refine gm_join (S := gm_M) (pj := 22) (kj := 0) (nj := 0) (fun s17 => s17) (fun s17 => [(0, .ref a0)]) (fun s17 => [.ref a0]) (fun s17 => ?_) (fun j18 hj18 => ?_)
    ·
      refine gm_iconst (v := 1) d_X12_figures_22 (by decide) ?_
      refine gm_goto (tgt := 27) d_X12_figures_23 (by decide) ?_
      exact hj3 ((1 : Int32), s17)
    ·
      refine gm_if_ne (tgt := 22) d_X12_figures_5 (by decide) (fun h5 => ?_) (fun h5 => ?_)
      ·
        exact hj18 μ
      ·
        refine gm_aload_n d_X12_figures_8 rfl 0 rfl ?_
        refine gm_grd (fun g9 => ?_)
        refine gm_callV (k0 := 12) [] (c_X12_here a0 μ) g9 rfl B_X12_here gw_975 gs_26 rfl rfl rfl d_X12_figures_9 (gm_kI (fun x20 m19 => ?_))
        refine gm_bipush (v := 48) d_X12_figures_12 (by decide) ?_
        refine gm_bipush (v := 57) d_X12_figures_14 (by decide) ?_
        refine gm_callS [.int x20, .int (48 : Int32), .int (57 : Int32)] (c_X12_in x20 (48 : Int32) (57 : Int32) m19) B_X12_in gw_964 rfl rfl rfl d_X12_figures_16 (gm_kI (fun x22 m21 => ?_))
        refine gm_if_ne (tgt := 26) d_X12_figures_19 (by decide) (fun h19 => ?_) (fun h19 => ?_)
        ·
          refine gm_iconst (v := 0) d_X12_figures_26 (by decide) ?_
          exact hj3 ((0 : Int32), m21)
        ·
          exact hj18 m21
def f_X12_spells (a0 : Nat) (a1 : Nat) (μ : gm_M) : Option (Option Value × gm_M) := none
set_option maxHeartbeats 4000000 in
theorem c_X12_spells (a0 : Nat) (a1 : Nat) (μ : gm_M) : gm_Call ({ cls := "GumBubbleModel", name := "spells", desc := "(Ljava/lang/String;)V" } : Jvm.MethodName) prog_14_method_12_code 3 none 0 0 0 [.ref a0, .ref a1] μ (f_X12_spells a0 a1 μ) := by
  intro res μe h
  cases h
theorem d_X12_tellsHere_0 : decode prog_14_method_20_code 0 = .ok (.aload_n 0, 1) := by decide +kernel
theorem d_X12_tellsHere_1 : decode prog_14_method_20_code 1 = .ok (.aload_n 2, 1) := by decide +kernel
theorem d_X12_tellsHere_2 : decode prog_14_method_20_code 2 = .ok (.invokevirtual 104, 3) := by decide +kernel
theorem d_X12_tellsHere_5 : decode prog_14_method_20_code 5 = .ok (.aload_n 0, 1) := by decide +kernel
theorem d_X12_tellsHere_6 : decode prog_14_method_20_code 6 = .ok (.invokevirtual 98, 3) := by decide +kernel
theorem d_X12_tellsHere_9 : decode prog_14_method_20_code 9 = .ok (.istore_n 3, 1) := by decide +kernel
theorem d_X12_tellsHere_10 : decode prog_14_method_20_code 10 = .ok (.aload_n 0, 1) := by decide +kernel
theorem d_X12_tellsHere_11 : decode prog_14_method_20_code 11 = .ok (.getfield 54, 3) := by decide +kernel
theorem d_X12_tellsHere_14 : decode prog_14_method_20_code 14 = .ok (.ifCond .ne 15, 3) := by decide +kernel
theorem d_X12_tellsHere_17 : decode prog_14_method_20_code 17 = .ok (.aload_n 0, 1) := by decide +kernel
theorem d_X12_tellsHere_18 : decode prog_14_method_20_code 18 = .ok (.getfield 9, 3) := by decide +kernel
theorem d_X12_tellsHere_21 : decode prog_14_method_20_code 21 = .ok (.iload_n 1, 1) := by decide +kernel
theorem d_X12_tellsHere_22 : decode prog_14_method_20_code 22 = .ok (.aload_n 0, 1) := by decide +kernel
theorem d_X12_tellsHere_23 : decode prog_14_method_20_code 23 = .ok (.getfield 75, 3) := by decide +kernel
theorem d_X12_tellsHere_26 : decode prog_14_method_20_code 26 = .ok (.iadd, 1) := by decide +kernel
theorem d_X12_tellsHere_27 : decode prog_14_method_20_code 27 = .ok (.iload_n 3, 1) := by decide +kernel
theorem d_X12_tellsHere_28 : decode prog_14_method_20_code 28 = .ok (.iastore, 1) := by decide +kernel
theorem d_X12_tellsHere_29 : decode prog_14_method_20_code 29 = .ok (.return_, 1) := by decide +kernel
def f_X12_tellsHere (a0 : Nat) (a1 : Int32) (a2 : Nat) (μ : gm_M) : Option (Option Value × gm_M) := if gm_tag μ a0 = 17 then gm_bV (f_X12_spells a0 a2 μ) (fun m1 => if gm_tag m1 a0 = 17 then gm_bI (f_X12_figures a0 m1) (fun x4 m3 => gm_gI m3 [17] a0 8 (fun v5 => if v5 ≠ 0 then some (none, m3) else gm_gR m3 [17] a0 1 (fun v6 => gm_gI m3 [17] a0 5 (fun v7 => gm_sI m3 v6 (a1 + v7) x4 (fun m8 => some (none, m8)))))) else none) else none
set_option maxHeartbeats 4000000 in
theorem c_X12_tellsHere (a0 : Nat) (a1 : Int32) (a2 : Nat) (μ : gm_M) : gm_Call ({ cls := "GumBubbleModel", name := "tellsHere", desc := "(ILjava/lang/String;)V" } : Jvm.MethodName) prog_14_method_20_code 4 none 2 0 0 [.ref a0, .int a1, .ref a2] μ (f_X12_tellsHere a0 a1 a2 μ) := by
  refine gm_start PN_12 (Nat.le_of_ble_eq_true rfl) (fun res μe => ?_)
  unfold f_X12_tellsHere
  show gm_A "GumBubbleModel" (gm_nm "tellsHere") _ _ _ _ _ _ _ _ _ 0 [(0, .ref a0), (1, .int a1), (2, .ref a2)] [] _ _
  refine gm_aload_n d_X12_tellsHere_0 rfl 0 rfl ?_
  refine gm_aload_n d_X12_tellsHere_1 rfl 2 rfl ?_
  refine gm_grd (fun g2 => ?_)
  refine gm_callV (k0 := 12) [.ref a2] (c_X12_spells a0 a2 μ) g2 rfl B_X12_spells gw_984 gs_28 rfl rfl rfl d_X12_tellsHere_2 (gm_kV (fun m1 => ?_))
  refine gm_aload_n d_X12_tellsHere_5 rfl 0 rfl ?_
  refine gm_grd (fun g6 => ?_)
  refine gm_callV (k0 := 12) [] (c_X12_figures a0 m1) g6 rfl B_X12_figures gw_994 gs_30 rfl rfl rfl d_X12_tellsHere_6 (gm_kI (fun x4 m3 => ?_))
  refine gm_istore_n (L' := [(3, .int x4), (0, .ref a0), (1, .int a1), (2, .ref a2)]) d_X12_tellsHere_9 rfl (Nat.le_of_ble_eq_true rfl) rfl ?_
  refine gm_aload_n d_X12_tellsHere_10 rfl 1 rfl ?_
  refine gm_getI F_12_isWrong gw_897 d_X12_tellsHere_11 (fun v5 _ => ?_)
  refine gm_if_ne (tgt := 29) d_X12_tellsHere_14 (by decide) (fun h14 => ?_) (fun h14 => ?_)
  ·
    exact gm_vret rfl d_X12_tellsHere_29 (Nat.le_of_ble_eq_true rfl) (Nat.le_of_ble_eq_true rfl) (fun h => h)
  ·
    refine gm_aload_n d_X12_tellsHere_17 rfl 1 rfl ?_
    refine gm_getR F_12_s gw_890 d_X12_tellsHere_18 (fun v6 _ => ?_)
    refine gm_iload_n d_X12_tellsHere_21 rfl 2 rfl ?_
    refine gm_aload_n d_X12_tellsHere_22 rfl 1 rfl ?_
    refine gm_getI F_12_act gw_894 d_X12_tellsHere_23 (fun v7 _ => ?_)
    refine gm_iadd d_X12_tellsHere_26 ?_
    refine gm_iload_n d_X12_tellsHere_27 rfl 0 rfl ?_
    refine gm_iast d_X12_tellsHere_28 (fun m8 _ => ?_)
    exact gm_vret rfl d_X12_tellsHere_29 (Nat.le_of_ble_eq_true rfl) (Nat.le_of_ble_eq_true rfl) (fun h => h)
theorem d_X12_emits_0 : decode prog_14_method_15_code 0 = .ok (.aload_n 0, 1) := by decide +kernel
theorem d_X12_emits_1 : decode prog_14_method_15_code 1 = .ok (.getfield 54, 3) := by decide +kernel
theorem d_X12_emits_4 : decode prog_14_method_15_code 4 = .ok (.ifCond .ne 52, 3) := by decide +kernel
theorem d_X12_emits_7 : decode prog_14_method_15_code 7 = .ok (.aload_n 0, 1) := by decide +kernel
theorem d_X12_emits_8 : decode prog_14_method_15_code 8 = .ok (.getfield 9, 3) := by decide +kernel
theorem d_X12_emits_11 : decode prog_14_method_15_code 11 = .ok (.sipush 225, 3) := by decide +kernel
theorem d_X12_emits_14 : decode prog_14_method_15_code 14 = .ok (.sipush 140, 3) := by decide +kernel
theorem d_X12_emits_17 : decode prog_14_method_15_code 17 = .ok (.aload_n 0, 1) := by decide +kernel
theorem d_X12_emits_18 : decode prog_14_method_15_code 18 = .ok (.getfield 75, 3) := by decide +kernel
theorem d_X12_emits_21 : decode prog_14_method_15_code 21 = .ok (.imul, 1) := by decide +kernel
theorem d_X12_emits_22 : decode prog_14_method_15_code 22 = .ok (.iadd, 1) := by decide +kernel
theorem d_X12_emits_23 : decode prog_14_method_15_code 23 = .ok (.aload_n 0, 1) := by decide +kernel
theorem d_X12_emits_24 : decode prog_14_method_15_code 24 = .ok (.getfield 9, 3) := by decide +kernel
theorem d_X12_emits_27 : decode prog_14_method_15_code 27 = .ok (.sipush 220, 3) := by decide +kernel
theorem d_X12_emits_30 : decode prog_14_method_15_code 30 = .ok (.aload_n 0, 1) := by decide +kernel
theorem d_X12_emits_31 : decode prog_14_method_15_code 31 = .ok (.getfield 75, 3) := by decide +kernel
theorem d_X12_emits_34 : decode prog_14_method_15_code 34 = .ok (.iadd, 1) := by decide +kernel
theorem d_X12_emits_35 : decode prog_14_method_15_code 35 = .ok (.iaload, 1) := by decide +kernel
theorem d_X12_emits_36 : decode prog_14_method_15_code 36 = .ok (.iadd, 1) := by decide +kernel
theorem d_X12_emits_37 : decode prog_14_method_15_code 37 = .ok (.iload_n 1, 1) := by decide +kernel
theorem d_X12_emits_38 : decode prog_14_method_15_code 38 = .ok (.iastore, 1) := by decide +kernel
theorem d_X12_emits_39 : decode prog_14_method_15_code 39 = .ok (.aload_n 0, 1) := by decide +kernel
theorem d_X12_emits_40 : decode prog_14_method_15_code 40 = .ok (.getfield 9, 3) := by decide +kernel
theorem d_X12_emits_43 : decode prog_14_method_15_code 43 = .ok (.sipush 220, 3) := by decide +kernel
theorem d_X12_emits_46 : decode prog_14_method_15_code 46 = .ok (.aload_n 0, 1) := by decide +kernel
theorem d_X12_emits_47 : decode prog_14_method_15_code 47 = .ok (.getfield 75, 3) := by decide +kernel
theorem d_X12_emits_50 : decode prog_14_method_15_code 50 = .ok (.iadd, 1) := by decide +kernel
theorem d_X12_emits_51 : decode prog_14_method_15_code 51 = .ok (.dup2, 1) := by decide +kernel
theorem d_X12_emits_52 : decode prog_14_method_15_code 52 = .ok (.iaload, 1) := by decide +kernel
theorem d_X12_emits_53 : decode prog_14_method_15_code 53 = .ok (.iconst 1, 1) := by decide +kernel
theorem d_X12_emits_54 : decode prog_14_method_15_code 54 = .ok (.iadd, 1) := by decide +kernel
theorem d_X12_emits_55 : decode prog_14_method_15_code 55 = .ok (.iastore, 1) := by decide +kernel
theorem d_X12_emits_56 : decode prog_14_method_15_code 56 = .ok (.return_, 1) := by decide +kernel
def f_X12_emits (a0 : Nat) (a1 : Int32) (μ : gm_M) : Option (Option Value × gm_M) := gm_gI μ [17] a0 8 (fun v1 => if v1 ≠ 0 then some (none, μ) else gm_gR μ [17] a0 1 (fun v2 => gm_gI μ [17] a0 5 (fun v3 => gm_gR μ [17] a0 1 (fun v4 => gm_gI μ [17] a0 5 (fun v5 => gm_aI μ v4 ((220 : Int32) + v5) (fun v6 => gm_sI μ v2 (((225 : Int32) + ((140 : Int32) * v3)) + v6) a1 (fun m7 => gm_gR m7 [17] a0 1 (fun v8 => gm_gI m7 [17] a0 5 (fun v9 => gm_aI m7 v8 ((220 : Int32) + v9) (fun v10 => gm_sI m7 v8 ((220 : Int32) + v9) (v10 + (1 : Int32)) (fun m11 => some (none, m11))))))))))))
set_option maxHeartbeats 4000000 in
theorem c_X12_emits (a0 : Nat) (a1 : Int32) (μ : gm_M) : gm_Call ({ cls := "GumBubbleModel", name := "emits", desc := "(I)V" } : Jvm.MethodName) prog_14_method_15_code 2 none 0 0 0 [.ref a0, .int a1] μ (f_X12_emits a0 a1 μ) := by
  refine gm_start PN_12 (Nat.le_of_ble_eq_true rfl) (fun res μe => ?_)
  unfold f_X12_emits
  show gm_A "GumBubbleModel" (gm_nm "emits") _ _ _ _ _ _ _ _ _ 0 [(0, .ref a0), (1, .int a1)] [] _ _
  refine gm_aload_n d_X12_emits_0 rfl 0 rfl ?_
  refine gm_getI F_12_isWrong gw_897 d_X12_emits_1 (fun v1 _ => ?_)
  refine gm_if_ne (tgt := 56) d_X12_emits_4 (by decide) (fun h4 => ?_) (fun h4 => ?_)
  ·
    exact gm_vret rfl d_X12_emits_56 (Nat.le_of_ble_eq_true rfl) (Nat.le_of_ble_eq_true rfl) (fun h => h)
  ·
    refine gm_aload_n d_X12_emits_7 rfl 0 rfl ?_
    refine gm_getR F_12_s gw_890 d_X12_emits_8 (fun v2 _ => ?_)
    refine gm_sipush (v := 225) d_X12_emits_11 (by decide) ?_
    refine gm_sipush (v := 140) d_X12_emits_14 (by decide) ?_
    refine gm_aload_n d_X12_emits_17 rfl 0 rfl ?_
    refine gm_getI F_12_act gw_894 d_X12_emits_18 (fun v3 _ => ?_)
    refine gm_imul d_X12_emits_21 ?_
    refine gm_iadd d_X12_emits_22 ?_
    refine gm_aload_n d_X12_emits_23 rfl 0 rfl ?_
    refine gm_getR F_12_s gw_890 d_X12_emits_24 (fun v4 _ => ?_)
    refine gm_sipush (v := 220) d_X12_emits_27 (by decide) ?_
    refine gm_aload_n d_X12_emits_30 rfl 0 rfl ?_
    refine gm_getI F_12_act gw_894 d_X12_emits_31 (fun v5 _ => ?_)
    refine gm_iadd d_X12_emits_34 ?_
    refine gm_iald d_X12_emits_35 (fun v6 _ => ?_)
    refine gm_iadd d_X12_emits_36 ?_
    refine gm_iload_n d_X12_emits_37 rfl 1 rfl ?_
    refine gm_iast d_X12_emits_38 (fun m7 _ => ?_)
    refine gm_aload_n d_X12_emits_39 rfl 0 rfl ?_
    refine gm_getR F_12_s gw_890 d_X12_emits_40 (fun v8 _ => ?_)
    refine gm_sipush (v := 220) d_X12_emits_43 (by decide) ?_
    refine gm_aload_n d_X12_emits_46 rfl 0 rfl ?_
    refine gm_getI F_12_act gw_894 d_X12_emits_47 (fun v9 _ => ?_)
    refine gm_iadd d_X12_emits_50 ?_
    refine gm_dup2 d_X12_emits_51 rfl rfl ?_
    refine gm_iald d_X12_emits_52 (fun v10 _ => ?_)
    refine gm_iconst (v := 1) d_X12_emits_53 (by decide) ?_
    refine gm_iadd d_X12_emits_54 ?_
    refine gm_iast d_X12_emits_55 (fun m11 _ => ?_)
    exact gm_vret rfl d_X12_emits_56 (Nat.le_of_ble_eq_true rfl) (Nat.le_of_ble_eq_true rfl) (fun h => h)
theorem d_X12_must_0 : decode prog_14_method_11_code 0 = .ok (.aload_n 0, 1) := by decide +kernel
theorem d_X12_must_1 : decode prog_14_method_11_code 1 = .ok (.aload_n 0, 1) := by decide +kernel
theorem d_X12_must_2 : decode prog_14_method_11_code 2 = .ok (.getfield 54, 3) := by decide +kernel
theorem d_X12_must_5 : decode prog_14_method_11_code 5 = .ok (.ifCond .ne 11, 3) := by decide +kernel
theorem d_X12_must_8 : decode prog_14_method_11_code 8 = .ok (.aload_n 0, 1) := by decide +kernel
theorem d_X12_must_9 : decode prog_14_method_11_code 9 = .ok (.invokevirtual 58, 3) := by decide +kernel
theorem d_X12_must_12 : decode prog_14_method_11_code 12 = .ok (.iload_n 1, 1) := by decide +kernel
theorem d_X12_must_13 : decode prog_14_method_11_code 13 = .ok (.if_icmp .eq 7, 3) := by decide +kernel
theorem d_X12_must_16 : decode prog_14_method_11_code 16 = .ok (.iconst 1, 1) := by decide +kernel
theorem d_X12_must_17 : decode prog_14_method_11_code 17 = .ok (.goto 4, 3) := by decide +kernel
theorem d_X12_must_20 : decode prog_14_method_11_code 20 = .ok (.iconst 0, 1) := by decide +kernel
theorem d_X12_must_21 : decode prog_14_method_11_code 21 = .ok (.putfield 54, 3) := by decide +kernel
theorem d_X12_must_24 : decode prog_14_method_11_code 24 = .ok (.aload_n 0, 1) := by decide +kernel
theorem d_X12_must_25 : decode prog_14_method_11_code 25 = .ok (.dup, 1) := by decide +kernel
theorem d_X12_must_26 : decode prog_14_method_11_code 26 = .ok (.getfield 48, 3) := by decide +kernel
theorem d_X12_must_29 : decode prog_14_method_11_code 29 = .ok (.aload_n 0, 1) := by decide +kernel
theorem d_X12_must_30 : decode prog_14_method_11_code 30 = .ok (.getfield 54, 3) := by decide +kernel
theorem d_X12_must_33 : decode prog_14_method_11_code 33 = .ok (.ifCond .eq 7, 3) := by decide +kernel
theorem d_X12_must_36 : decode prog_14_method_11_code 36 = .ok (.iconst 0, 1) := by decide +kernel
theorem d_X12_must_37 : decode prog_14_method_11_code 37 = .ok (.goto 4, 3) := by decide +kernel
theorem d_X12_must_40 : decode prog_14_method_11_code 40 = .ok (.iconst 1, 1) := by decide +kernel
theorem d_X12_must_41 : decode prog_14_method_11_code 41 = .ok (.iadd, 1) := by decide +kernel
theorem d_X12_must_42 : decode prog_14_method_11_code 42 = .ok (.putfield 48, 3) := by decide +kernel
theorem d_X12_must_45 : decode prog_14_method_11_code 45 = .ok (.return_, 1) := by decide +kernel
def f_X12_must (a0 : Nat) (a1 : Int32) (μ : gm_M) : Option (Option Value × gm_M) := gm_gI μ [17] a0 8 (fun v1 => gm_j (fun (s2 : Int32 × gm_M) => gm_pZ s2.2 [17] a0 8 s2.1 (fun m4 => gm_gI m4 [17] a0 6 (fun v5 => gm_gI m4 [17] a0 8 (fun v6 => gm_j (fun (s7 : Int32) => gm_pI m4 [17] a0 6 (v5 + s7) (fun m9 => some (none, m9))) (fun j8 => if v6 = 0 then j8 (1 : Int32) else j8 (0 : Int32)))))) (fun j3 => gm_j (fun (s10 : gm_M) => j3 ((1 : Int32), s10)) (fun j11 => if v1 ≠ 0 then j11 μ else if gm_tag μ a0 = 17 then gm_bI (f_X12_here a0 μ) (fun x13 m12 => if x13 = a1 then j3 ((0 : Int32), m12) else j11 m12) else none)))
set_option maxHeartbeats 4000000 in
theorem c_X12_must (a0 : Nat) (a1 : Int32) (μ : gm_M) : gm_Call ({ cls := "GumBubbleModel", name := "must", desc := "(I)V" } : Jvm.MethodName) prog_14_method_11_code 2 none 1 0 0 [.ref a0, .int a1] μ (f_X12_must a0 a1 μ) := by
  refine gm_start PN_12 (Nat.le_of_ble_eq_true rfl) (fun res μe => ?_)
  unfold f_X12_must
  show gm_A "GumBubbleModel" (gm_nm "must") _ _ _ _ _ _ _ _ _ 0 [(0, .ref a0), (1, .int a1)] [] _ _
  refine gm_aload_n d_X12_must_0 rfl 0 rfl ?_
  refine gm_aload_n d_X12_must_1 rfl 0 rfl ?_
  refine gm_getI F_12_isWrong gw_897 d_X12_must_2 (fun v1 _ => ?_)
  refine gm_join (S := Int32 × gm_M) (pj := 21) (kj := 0) (nj := 0) (fun s2 => s2.2) (fun s2 => [(0, .ref a0), (1, .int a1)]) (fun s2 => [.int s2.1, .ref a0]) (fun s2 => ?_) (fun j3 hj3 => ?_)
  ·
    refine gm_putZ F_12_isWrong (Or.inl rfl) gw_897 d_X12_must_21 (fun m4 _ => ?_)
    refine gm_aload_n d_X12_must_24 rfl 0 rfl ?_
    refine gm_dup d_X12_must_25 rfl ?_
    refine gm_getI F_12_spot gw_895 d_X12_must_26 (fun v5 _ => ?_)
    refine gm_aload_n d_X12_must_29 rfl 0 rfl ?_
    refine gm_getI F_12_isWrong gw_897 d_X12_must_30 (fun v6 _ => ?_)
    refine gm_join (S := Int32) (pj := 41) (kj := 0) (nj := 0) (fun s7 => m4) (fun s7 => [(0, .ref a0), (1, .int a1)]) (fun s7 => [.int s7, .int v5, .ref a0]) (fun s7 => ?_) (fun j8 hj8 => ?_)
    ·
      refine gm_iadd d_X12_must_41 ?_
      refine gm_putI F_12_spot (Or.inl rfl) gw_895 d_X12_must_42 (fun m9 _ => ?_)
      exact gm_vret rfl d_X12_must_45 (Nat.le_of_ble_eq_true rfl) (Nat.le_of_ble_eq_true rfl) (fun h => h)
    ·
      refine gm_if_eq (tgt := 40) d_X12_must_33 (by decide) (fun h33 => ?_) (fun h33 => ?_)
      ·
        refine gm_iconst (v := 1) d_X12_must_40 (by decide) ?_
        exact hj8 (1 : Int32)
      ·
        refine gm_iconst (v := 0) d_X12_must_36 (by decide) ?_
        refine gm_goto (tgt := 41) d_X12_must_37 (by decide) ?_
        exact hj8 (0 : Int32)
  ·
    refine gm_join (S := gm_M) (pj := 16) (kj := 0) (nj := 0) (fun s10 => s10) (fun s10 => [(0, .ref a0), (1, .int a1)]) (fun s10 => [.ref a0]) (fun s10 => ?_) (fun j11 hj11 => ?_)
    ·
      refine gm_iconst (v := 1) d_X12_must_16 (by decide) ?_
      refine gm_goto (tgt := 21) d_X12_must_17 (by decide) ?_
      exact hj3 ((1 : Int32), s10)
    ·
      refine gm_if_ne (tgt := 16) d_X12_must_5 (by decide) (fun h5 => ?_) (fun h5 => ?_)
      ·
        exact hj11 μ
      ·
        refine gm_aload_n d_X12_must_8 rfl 0 rfl ?_
        refine gm_grd (fun g9 => ?_)
        refine gm_callV (k0 := 12) [] (c_X12_here a0 μ) g9 rfl B_X12_here gw_975 gs_26 rfl rfl rfl d_X12_must_9 (gm_kI (fun x13 m12 => ?_))
        refine gm_iload_n d_X12_must_12 rfl 1 rfl ?_
        refine gm_icmp_eq (tgt := 20) d_X12_must_13 (by decide) (fun h13 => ?_) (fun h13 => ?_)
        ·
          refine gm_iconst (v := 0) d_X12_must_20 (by decide) ?_
          exact hj3 ((0 : Int32), m12)
        ·
          exact hj11 m12
def f_X12_among (a0 : Nat) (a1 : Nat) (μ : gm_M) : Option (Option Value × gm_M) := none
set_option maxHeartbeats 4000000 in
theorem c_X12_among (a0 : Nat) (a1 : Nat) (μ : gm_M) : gm_Call ({ cls := "GumBubbleModel", name := "among", desc := "(Ljava/lang/String;)I" } : Jvm.MethodName) prog_14_method_14_code 3 (some .int) 0 0 0 [.ref a0, .ref a1] μ (f_X12_among a0 a1 μ) := by
  intro res μe h
  cases h
theorem d_X12_every_0 : decode prog_14_method_17_code 0 = .ok (.aload_n 0, 1) := by decide +kernel
theorem d_X12_every_1 : decode prog_14_method_17_code 1 = .ok (.invokevirtual 81, 3) := by decide +kernel
theorem d_X12_every_4 : decode prog_14_method_17_code 4 = .ok (.aload_n 0, 1) := by decide +kernel
theorem d_X12_every_5 : decode prog_14_method_17_code 5 = .ok (.getfield 54, 3) := by decide +kernel
theorem d_X12_every_8 : decode prog_14_method_17_code 8 = .ok (.ifCond .ne 35, 3) := by decide +kernel
theorem d_X12_every_11 : decode prog_14_method_17_code 11 = .ok (.aload_n 0, 1) := by decide +kernel
theorem d_X12_every_12 : decode prog_14_method_17_code 12 = .ok (.invokevirtual 58, 3) := by decide +kernel
theorem d_X12_every_15 : decode prog_14_method_17_code 15 = .ok (.bipush 38, 2) := by decide +kernel
theorem d_X12_every_17 : decode prog_14_method_17_code 17 = .ok (.if_icmp .ne 26, 3) := by decide +kernel
theorem d_X12_every_20 : decode prog_14_method_17_code 20 = .ok (.aload_n 0, 1) := by decide +kernel
theorem d_X12_every_21 : decode prog_14_method_17_code 21 = .ok (.dup, 1) := by decide +kernel
theorem d_X12_every_22 : decode prog_14_method_17_code 22 = .ok (.getfield 48, 3) := by decide +kernel
theorem d_X12_every_25 : decode prog_14_method_17_code 25 = .ok (.iconst 1, 1) := by decide +kernel
theorem d_X12_every_26 : decode prog_14_method_17_code 26 = .ok (.iadd, 1) := by decide +kernel
theorem d_X12_every_27 : decode prog_14_method_17_code 27 = .ok (.putfield 48, 3) := by decide +kernel
theorem d_X12_every_30 : decode prog_14_method_17_code 30 = .ok (.aload_n 0, 1) := by decide +kernel
theorem d_X12_every_31 : decode prog_14_method_17_code 31 = .ok (.invokevirtual 81, 3) := by decide +kernel
theorem d_X12_every_34 : decode prog_14_method_17_code 34 = .ok (.aload_n 0, 1) := by decide +kernel
theorem d_X12_every_35 : decode prog_14_method_17_code 35 = .ok (.bipush (-2), 2) := by decide +kernel
theorem d_X12_every_37 : decode prog_14_method_17_code 37 = .ok (.invokevirtual 84, 3) := by decide +kernel
theorem d_X12_every_40 : decode prog_14_method_17_code 40 = .ok (.goto (-36), 3) := by decide +kernel
theorem d_X12_every_43 : decode prog_14_method_17_code 43 = .ok (.return_, 1) := by decide +kernel
theorem d_X12_factor_0 : decode prog_14_method_16_code 0 = .ok (.aload_n 0, 1) := by decide +kernel
theorem d_X12_factor_1 : decode prog_14_method_16_code 1 = .ok (.getfield 54, 3) := by decide +kernel
theorem d_X12_factor_4 : decode prog_14_method_16_code 4 = .ok (.ifCond .eq 4, 3) := by decide +kernel
theorem d_X12_factor_7 : decode prog_14_method_16_code 7 = .ok (.return_, 1) := by decide +kernel
theorem d_X12_factor_8 : decode prog_14_method_16_code 8 = .ok (.aload_n 0, 1) := by decide +kernel
theorem d_X12_factor_9 : decode prog_14_method_16_code 9 = .ok (.invokevirtual 58, 3) := by decide +kernel
theorem d_X12_factor_12 : decode prog_14_method_16_code 12 = .ok (.istore_n 1, 1) := by decide +kernel
theorem d_X12_factor_13 : decode prog_14_method_16_code 13 = .ok (.iload_n 1, 1) := by decide +kernel
theorem d_X12_factor_14 : decode prog_14_method_16_code 14 = .ok (.bipush 33, 2) := by decide +kernel
theorem d_X12_factor_16 : decode prog_14_method_16_code 16 = .ok (.if_icmp .eq 9, 3) := by decide +kernel
theorem d_X12_factor_19 : decode prog_14_method_16_code 19 = .ok (.iload_n 1, 1) := by decide +kernel
theorem d_X12_factor_20 : decode prog_14_method_16_code 20 = .ok (.bipush 40, 2) := by decide +kernel
theorem d_X12_factor_22 : decode prog_14_method_16_code 22 = .ok (.if_icmp .ne 90, 3) := by decide +kernel
theorem d_X12_factor_25 : decode prog_14_method_16_code 25 = .ok (.aload_n 0, 1) := by decide +kernel
theorem d_X12_factor_26 : decode prog_14_method_16_code 26 = .ok (.aload_n 0, 1) := by decide +kernel
theorem d_X12_factor_27 : decode prog_14_method_16_code 27 = .ok (.getfield 78, 3) := by decide +kernel
theorem d_X12_factor_30 : decode prog_14_method_16_code 30 = .ok (.iconst 5, 1) := by decide +kernel
theorem d_X12_factor_31 : decode prog_14_method_16_code 31 = .ok (.if_icmp .ne 7, 3) := by decide +kernel
theorem d_X12_factor_34 : decode prog_14_method_16_code 34 = .ok (.iconst 1, 1) := by decide +kernel
theorem d_X12_factor_35 : decode prog_14_method_16_code 35 = .ok (.goto 4, 3) := by decide +kernel
theorem d_X12_factor_38 : decode prog_14_method_16_code 38 = .ok (.iconst 0, 1) := by decide +kernel
theorem d_X12_factor_39 : decode prog_14_method_16_code 39 = .ok (.putfield 54, 3) := by decide +kernel
theorem d_X12_factor_42 : decode prog_14_method_16_code 42 = .ok (.aload_n 0, 1) := by decide +kernel
theorem d_X12_factor_43 : decode prog_14_method_16_code 43 = .ok (.dup, 1) := by decide +kernel
theorem d_X12_factor_44 : decode prog_14_method_16_code 44 = .ok (.getfield 78, 3) := by decide +kernel
theorem d_X12_factor_47 : decode prog_14_method_16_code 47 = .ok (.iconst 1, 1) := by decide +kernel
theorem d_X12_factor_48 : decode prog_14_method_16_code 48 = .ok (.iadd, 1) := by decide +kernel
theorem d_X12_factor_49 : decode prog_14_method_16_code 49 = .ok (.putfield 78, 3) := by decide +kernel
theorem d_X12_factor_52 : decode prog_14_method_16_code 52 = .ok (.aload_n 0, 1) := by decide +kernel
theorem d_X12_factor_53 : decode prog_14_method_16_code 53 = .ok (.dup, 1) := by decide +kernel
theorem d_X12_factor_54 : decode prog_14_method_16_code 54 = .ok (.getfield 48, 3) := by decide +kernel
theorem d_X12_factor_57 : decode prog_14_method_16_code 57 = .ok (.aload_n 0, 1) := by decide +kernel
theorem d_X12_factor_58 : decode prog_14_method_16_code 58 = .ok (.getfield 54, 3) := by decide +kernel
theorem d_X12_factor_61 : decode prog_14_method_16_code 61 = .ok (.ifCond .eq 7, 3) := by decide +kernel
theorem d_X12_factor_64 : decode prog_14_method_16_code 64 = .ok (.iconst 0, 1) := by decide +kernel
theorem d_X12_factor_65 : decode prog_14_method_16_code 65 = .ok (.goto 4, 3) := by decide +kernel
theorem d_X12_factor_68 : decode prog_14_method_16_code 68 = .ok (.iconst 1, 1) := by decide +kernel
theorem d_X12_factor_69 : decode prog_14_method_16_code 69 = .ok (.iadd, 1) := by decide +kernel
theorem d_X12_factor_70 : decode prog_14_method_16_code 70 = .ok (.putfield 48, 3) := by decide +kernel
theorem d_X12_factor_73 : decode prog_14_method_16_code 73 = .ok (.iload_n 1, 1) := by decide +kernel
theorem d_X12_factor_74 : decode prog_14_method_16_code 74 = .ok (.bipush 33, 2) := by decide +kernel
theorem d_X12_factor_76 : decode prog_14_method_16_code 76 = .ok (.if_icmp .ne 15, 3) := by decide +kernel
theorem d_X12_factor_79 : decode prog_14_method_16_code 79 = .ok (.aload_n 0, 1) := by decide +kernel
theorem d_X12_factor_80 : decode prog_14_method_16_code 80 = .ok (.invokevirtual 81, 3) := by decide +kernel
theorem d_X12_factor_83 : decode prog_14_method_16_code 83 = .ok (.aload_n 0, 1) := by decide +kernel
theorem d_X12_factor_84 : decode prog_14_method_16_code 84 = .ok (.iconst (-1), 1) := by decide +kernel
theorem d_X12_factor_85 : decode prog_14_method_16_code 85 = .ok (.invokevirtual 84, 3) := by decide +kernel
theorem d_X12_factor_88 : decode prog_14_method_16_code 88 = .ok (.goto 13, 3) := by decide +kernel
theorem d_X12_factor_91 : decode prog_14_method_16_code 91 = .ok (.aload_n 0, 1) := by decide +kernel
theorem d_X12_factor_92 : decode prog_14_method_16_code 92 = .ok (.invokevirtual 87, 3) := by decide +kernel
theorem d_X12_factor_95 : decode prog_14_method_16_code 95 = .ok (.aload_n 0, 1) := by decide +kernel
theorem d_X12_factor_96 : decode prog_14_method_16_code 96 = .ok (.bipush 41, 2) := by decide +kernel
theorem d_X12_factor_98 : decode prog_14_method_16_code 98 = .ok (.invokevirtual 71, 3) := by decide +kernel
theorem d_X12_factor_101 : decode prog_14_method_16_code 101 = .ok (.aload_n 0, 1) := by decide +kernel
theorem d_X12_factor_102 : decode prog_14_method_16_code 102 = .ok (.dup, 1) := by decide +kernel
theorem d_X12_factor_103 : decode prog_14_method_16_code 103 = .ok (.getfield 78, 3) := by decide +kernel
theorem d_X12_factor_106 : decode prog_14_method_16_code 106 = .ok (.iconst 1, 1) := by decide +kernel
theorem d_X12_factor_107 : decode prog_14_method_16_code 107 = .ok (.isub, 1) := by decide +kernel
theorem d_X12_factor_108 : decode prog_14_method_16_code 108 = .ok (.putfield 78, 3) := by decide +kernel
theorem d_X12_factor_111 : decode prog_14_method_16_code 111 = .ok (.return_, 1) := by decide +kernel
theorem d_X12_factor_112 : decode prog_14_method_16_code 112 = .ok (.aload_n 0, 1) := by decide +kernel
theorem d_X12_some_0 : decode prog_14_method_18_code 0 = .ok (.aload_n 0, 1) := by decide +kernel
theorem d_X12_some_1 : decode prog_14_method_18_code 1 = .ok (.invokevirtual 101, 3) := by decide +kernel
theorem d_X12_some_4 : decode prog_14_method_18_code 4 = .ok (.aload_n 0, 1) := by decide +kernel
theorem d_X12_some_5 : decode prog_14_method_18_code 5 = .ok (.getfield 54, 3) := by decide +kernel
theorem d_X12_some_8 : decode prog_14_method_18_code 8 = .ok (.ifCond .ne 35, 3) := by decide +kernel
theorem d_X12_some_11 : decode prog_14_method_18_code 11 = .ok (.aload_n 0, 1) := by decide +kernel
theorem d_X12_some_12 : decode prog_14_method_18_code 12 = .ok (.invokevirtual 58, 3) := by decide +kernel
theorem d_X12_some_15 : decode prog_14_method_18_code 15 = .ok (.bipush 124, 2) := by decide +kernel
theorem d_X12_some_17 : decode prog_14_method_18_code 17 = .ok (.if_icmp .ne 26, 3) := by decide +kernel
theorem d_X12_some_20 : decode prog_14_method_18_code 20 = .ok (.aload_n 0, 1) := by decide +kernel
theorem d_X12_some_21 : decode prog_14_method_18_code 21 = .ok (.dup, 1) := by decide +kernel
theorem d_X12_some_22 : decode prog_14_method_18_code 22 = .ok (.getfield 48, 3) := by decide +kernel
theorem d_X12_some_25 : decode prog_14_method_18_code 25 = .ok (.iconst 1, 1) := by decide +kernel
theorem d_X12_some_26 : decode prog_14_method_18_code 26 = .ok (.iadd, 1) := by decide +kernel
theorem d_X12_some_27 : decode prog_14_method_18_code 27 = .ok (.putfield 48, 3) := by decide +kernel
theorem d_X12_some_30 : decode prog_14_method_18_code 30 = .ok (.aload_n 0, 1) := by decide +kernel
theorem d_X12_some_31 : decode prog_14_method_18_code 31 = .ok (.invokevirtual 101, 3) := by decide +kernel
theorem d_X12_some_34 : decode prog_14_method_18_code 34 = .ok (.aload_n 0, 1) := by decide +kernel
theorem d_X12_some_35 : decode prog_14_method_18_code 35 = .ok (.bipush (-3), 2) := by decide +kernel
theorem d_X12_some_37 : decode prog_14_method_18_code 37 = .ok (.invokevirtual 84, 3) := by decide +kernel
theorem d_X12_some_40 : decode prog_14_method_18_code 40 = .ok (.goto (-36), 3) := by decide +kernel
theorem d_X12_some_43 : decode prog_14_method_18_code 43 = .ok (.return_, 1) := by decide +kernel
def b_X12_every (R0 : Nat → gm_M → Option (Option Value × gm_M)) (R1 : Nat → gm_M → Option (Option Value × gm_M)) (R2 : Nat → gm_M → Option (Option Value × gm_M)) (a0 : Nat) (μ : gm_M) : Option (Option Value × gm_M) := if gm_tag μ a0 = 17 then gm_bV (R1 a0 μ) (fun m1 => gm_loop (fun (s3 : gm_M) => gm_gI s3 [17] a0 8 (fun v4 => if v4 ≠ 0 then some (Sum.inr (none, s3)) else if gm_tag s3 a0 = 17 then gm_bI (f_X12_here a0 s3) (fun x6 m5 => if x6 ≠ (38 : Int32) then some (Sum.inr (none, m5)) else gm_gI m5 [17] a0 6 (fun v7 => gm_pI m5 [17] a0 6 (v7 + (1 : Int32)) (fun m8 => if gm_tag m8 a0 = 17 then gm_bV (R1 a0 m8) (fun m9 => if gm_tag m9 a0 = 17 then gm_bV (f_X12_emits a0 (-2 : Int32) m9) (fun m11 => some (Sum.inl m11)) else none) else none))) else none)) 5000 m1) else none
set_option maxHeartbeats 4000000 in
theorem bc_X12_every (d : Nat) (R0 : Nat → gm_M → Option (Option Value × gm_M)) (R1 : Nat → gm_M → Option (Option Value × gm_M)) (R2 : Nat → gm_M → Option (Option Value × gm_M)) (hR0 : ∀ (a0 : Nat) (μ : gm_M), gm_Call ({ cls := "GumBubbleModel", name := "every", desc := "()V" } : Jvm.MethodName) prog_14_method_17_code 1 none (d + 2) 0 0 [.ref a0] μ (R0 a0 μ)) (hR1 : ∀ (a0 : Nat) (μ : gm_M), gm_Call ({ cls := "GumBubbleModel", name := "factor", desc := "()V" } : Jvm.MethodName) prog_14_method_16_code 5 none (d + 2) 0 0 [.ref a0] μ (R1 a0 μ)) (hR2 : ∀ (a0 : Nat) (μ : gm_M), gm_Call ({ cls := "GumBubbleModel", name := "some", desc := "()V" } : Jvm.MethodName) prog_14_method_18_code 1 none (d + 2) 0 0 [.ref a0] μ (R2 a0 μ)) (a0 : Nat) (μ : gm_M) : gm_Call ({ cls := "GumBubbleModel", name := "every", desc := "()V" } : Jvm.MethodName) prog_14_method_17_code 1 none (d + 1 + 2) 0 0 [.ref a0] μ (b_X12_every R0 R1 R2 a0 μ) := by
  refine gm_start PN_12 (Nat.le_of_ble_eq_true rfl) (fun res μe => ?_)
  unfold b_X12_every
  show gm_A "GumBubbleModel" (gm_nm "every") _ _ _ _ _ _ _ _ _ 0 [(0, .ref a0)] [] _ _
  refine gm_aload_n d_X12_every_0 rfl 0 rfl ?_
  refine gm_grd (fun g1 => ?_)
  refine gm_callV (k0 := 12) [] (hR1 a0 μ) g1 rfl B_X12_factor gw_1016 gs_35 (gm_hit2 (by simp only [gm_rm]; omega) (by simp only [gm_rm]; omega) (Nat.le_refl 0) (Nat.le_refl 0)) rfl rfl d_X12_every_1 (gm_kV (fun m1 => ?_))
  refine gm_lp (S := gm_M) (fun _ => 0) (fun _ => 0) (fun s3 => s3) (fun s3 => [(0, .ref a0)]) (fun _ => []) (fun s3 => ?_) 5000 m1
  refine gm_aload_n d_X12_every_4 rfl 0 rfl ?_
  refine gm_getI F_12_isWrong gw_897 d_X12_every_5 (fun v4 _ => ?_)
  refine gm_if_ne (tgt := 43) d_X12_every_8 (by decide) (fun h8 => ?_) (fun h8 => ?_)
  ·
    exact gm_vret rfl d_X12_every_43 (Nat.le_of_ble_eq_true rfl) (Nat.le_of_ble_eq_true rfl) (fun h => h)
  ·
    refine gm_aload_n d_X12_every_11 rfl 0 rfl ?_
    refine gm_grd (fun g12 => ?_)
    refine gm_callV (k0 := 12) [] (c_X12_here a0 s3) g12 rfl B_X12_here gw_975 gs_26 (gm_hit2 (by simp only [gm_rm]; omega) (by simp only [gm_rm]; omega) (Nat.le_refl 0) (Nat.le_refl 0)) rfl rfl d_X12_every_12 (gm_kI (fun x6 m5 => ?_))
    refine gm_bipush (v := 38) d_X12_every_15 (by decide) ?_
    refine gm_icmp_ne (tgt := 43) d_X12_every_17 (by decide) (fun h17 => ?_) (fun h17 => ?_)
    ·
      exact gm_vret rfl d_X12_every_43 (Nat.le_of_ble_eq_true rfl) (Nat.le_of_ble_eq_true rfl) (fun h => h)
    ·
      refine gm_aload_n d_X12_every_20 rfl 0 rfl ?_
      refine gm_dup d_X12_every_21 rfl ?_
      refine gm_getI F_12_spot gw_895 d_X12_every_22 (fun v7 _ => ?_)
      refine gm_iconst (v := 1) d_X12_every_25 (by decide) ?_
      refine gm_iadd d_X12_every_26 ?_
      refine gm_putI F_12_spot (Or.inl rfl) gw_895 d_X12_every_27 (fun m8 _ => ?_)
      refine gm_aload_n d_X12_every_30 rfl 0 rfl ?_
      refine gm_grd (fun g31 => ?_)
      refine gm_callV (k0 := 12) [] (hR1 a0 m8) g31 rfl B_X12_factor gw_1016 gs_35 (gm_hit2 (by simp only [gm_rm]; omega) (by simp only [gm_rm]; omega) (Nat.le_refl 0) (Nat.le_refl 0)) rfl rfl d_X12_every_31 (gm_kV (fun m9 => ?_))
      refine gm_aload_n d_X12_every_34 rfl 0 rfl ?_
      refine gm_bipush (v := -2) d_X12_every_35 (by decide) ?_
      refine gm_grd (fun g37 => ?_)
      refine gm_callV (k0 := 12) [.int (-2 : Int32)] (c_X12_emits a0 (-2 : Int32) m9) g37 rfl B_X12_emits gw_1020 gs_36 (gm_hit2 (by simp only [gm_rm]; omega) (by simp only [gm_rm]; omega) (Nat.le_refl 0) (Nat.le_refl 0)) rfl rfl d_X12_every_37 (gm_kV (fun m11 => ?_))
      refine gm_goto (tgt := 4) d_X12_every_40 (by decide) ?_
      exact gm_back (fun h => h)
def b_X12_factor (R0 : Nat → gm_M → Option (Option Value × gm_M)) (R1 : Nat → gm_M → Option (Option Value × gm_M)) (R2 : Nat → gm_M → Option (Option Value × gm_M)) (a0 : Nat) (μ : gm_M) : Option (Option Value × gm_M) := gm_gI μ [17] a0 8 (fun v1 => if v1 = 0 then if gm_tag μ a0 = 17 then gm_bI (f_X12_here a0 μ) (fun x3 m2 => gm_j (fun (s4 : Unit) => gm_gI m2 [17] a0 9 (fun v6 => gm_j (fun (s7 : Int32) => gm_pZ m2 [17] a0 8 s7 (fun m9 => gm_gI m9 [17] a0 9 (fun v10 => gm_pI m9 [17] a0 9 (v10 + (1 : Int32)) (fun m11 => gm_gI m11 [17] a0 6 (fun v12 => gm_gI m11 [17] a0 8 (fun v13 => gm_j (fun (s14 : Int32) => gm_pI m11 [17] a0 6 (v12 + s14) (fun m16 => gm_j (fun (s17 : gm_M) => gm_gI s17 [17] a0 9 (fun v19 => gm_pI s17 [17] a0 9 (v19 - (1 : Int32)) (fun m20 => some (none, m20)))) (fun j18 => if x3 ≠ (33 : Int32) then if gm_tag m16 a0 = 17 then gm_bV (R2 a0 m16) (fun m21 => if gm_tag m21 a0 = 17 then gm_bV (f_X12_must a0 (41 : Int32) m21) (fun m23 => j18 m23) else none) else none else if gm_tag m16 a0 = 17 then gm_bV (R1 a0 m16) (fun m25 => if gm_tag m25 a0 = 17 then gm_bV (f_X12_emits a0 (-1 : Int32) m25) (fun m27 => j18 m27) else none) else none))) (fun j15 => if v13 = 0 then j15 (1 : Int32) else j15 (0 : Int32)))))))) (fun j8 => if v6 ≠ (5 : Int32) then j8 (0 : Int32) else j8 (1 : Int32)))) (fun j5 => if x3 = (33 : Int32) then j5 () else if x3 ≠ (40 : Int32) then none else j5 ())) else none else some (none, μ))
set_option maxHeartbeats 4000000 in
theorem bc_X12_factor (d : Nat) (R0 : Nat → gm_M → Option (Option Value × gm_M)) (R1 : Nat → gm_M → Option (Option Value × gm_M)) (R2 : Nat → gm_M → Option (Option Value × gm_M)) (hR0 : ∀ (a0 : Nat) (μ : gm_M), gm_Call ({ cls := "GumBubbleModel", name := "every", desc := "()V" } : Jvm.MethodName) prog_14_method_17_code 1 none (d + 2) 0 0 [.ref a0] μ (R0 a0 μ)) (hR1 : ∀ (a0 : Nat) (μ : gm_M), gm_Call ({ cls := "GumBubbleModel", name := "factor", desc := "()V" } : Jvm.MethodName) prog_14_method_16_code 5 none (d + 2) 0 0 [.ref a0] μ (R1 a0 μ)) (hR2 : ∀ (a0 : Nat) (μ : gm_M), gm_Call ({ cls := "GumBubbleModel", name := "some", desc := "()V" } : Jvm.MethodName) prog_14_method_18_code 1 none (d + 2) 0 0 [.ref a0] μ (R2 a0 μ)) (a0 : Nat) (μ : gm_M) : gm_Call ({ cls := "GumBubbleModel", name := "factor", desc := "()V" } : Jvm.MethodName) prog_14_method_16_code 5 none (d + 1 + 2) 0 0 [.ref a0] μ (b_X12_factor R0 R1 R2 a0 μ) := by
  refine gm_start PN_12 (Nat.le_of_ble_eq_true rfl) (fun res μe => ?_)
  unfold b_X12_factor
  show gm_A "GumBubbleModel" (gm_nm "factor") _ _ _ _ _ _ _ _ _ 0 [(0, .ref a0)] [] _ _
  refine gm_aload_n d_X12_factor_0 rfl 0 rfl ?_
  refine gm_getI F_12_isWrong gw_897 d_X12_factor_1 (fun v1 _ => ?_)
  refine gm_if_eq (tgt := 8) d_X12_factor_4 (by decide) (fun h4 => ?_) (fun h4 => ?_)
  ·
    refine gm_aload_n d_X12_factor_8 rfl 0 rfl ?_
    refine gm_grd (fun g9 => ?_)
    refine gm_callV (k0 := 12) [] (c_X12_here a0 μ) g9 rfl B_X12_here gw_975 gs_26 (gm_hit2 (by simp only [gm_rm]; omega) (by simp only [gm_rm]; omega) (Nat.le_refl 0) (Nat.le_refl 0)) rfl rfl d_X12_factor_9 (gm_kI (fun x3 m2 => ?_))
    refine gm_istore_n (L' := [(1, .int x3), (0, .ref a0)]) d_X12_factor_12 rfl (Nat.le_of_ble_eq_true rfl) rfl ?_
    refine gm_iload_n d_X12_factor_13 rfl 0 rfl ?_
    refine gm_bipush (v := 33) d_X12_factor_14 (by decide) ?_
    refine gm_join (S := Unit) (pj := 25) (kj := 0) (nj := 0) (fun s4 => m2) (fun s4 => [(0, .ref a0), (1, .int x3)]) (fun s4 => []) (fun s4 => ?_) (fun j5 hj5 => ?_)
    ·
      refine gm_aload_n d_X12_factor_25 rfl 0 rfl ?_
      refine gm_aload_n d_X12_factor_26 rfl 0 rfl ?_
      refine gm_getI F_12_open gw_898 d_X12_factor_27 (fun v6 _ => ?_)
      refine gm_iconst (v := 5) d_X12_factor_30 (by decide) ?_
      refine gm_join (S := Int32) (pj := 39) (kj := 0) (nj := 0) (fun s7 => m2) (fun s7 => [(0, .ref a0), (1, .int x3)]) (fun s7 => [.int s7, .ref a0]) (fun s7 => ?_) (fun j8 hj8 => ?_)
      ·
        refine gm_putZ F_12_isWrong (Or.inl rfl) gw_897 d_X12_factor_39 (fun m9 _ => ?_)
        refine gm_aload_n d_X12_factor_42 rfl 0 rfl ?_
        refine gm_dup d_X12_factor_43 rfl ?_
        refine gm_getI F_12_open gw_898 d_X12_factor_44 (fun v10 _ => ?_)
        refine gm_iconst (v := 1) d_X12_factor_47 (by decide) ?_
        refine gm_iadd d_X12_factor_48 ?_
        refine gm_putI F_12_open (Or.inl rfl) gw_898 d_X12_factor_49 (fun m11 _ => ?_)
        refine gm_aload_n d_X12_factor_52 rfl 0 rfl ?_
        refine gm_dup d_X12_factor_53 rfl ?_
        refine gm_getI F_12_spot gw_895 d_X12_factor_54 (fun v12 _ => ?_)
        refine gm_aload_n d_X12_factor_57 rfl 0 rfl ?_
        refine gm_getI F_12_isWrong gw_897 d_X12_factor_58 (fun v13 _ => ?_)
        refine gm_join (S := Int32) (pj := 69) (kj := 0) (nj := 0) (fun s14 => m11) (fun s14 => [(0, .ref a0), (1, .int x3)]) (fun s14 => [.int s14, .int v12, .ref a0]) (fun s14 => ?_) (fun j15 hj15 => ?_)
        ·
          refine gm_iadd d_X12_factor_69 ?_
          refine gm_putI F_12_spot (Or.inl rfl) gw_895 d_X12_factor_70 (fun m16 _ => ?_)
          refine gm_iload_n d_X12_factor_73 rfl 1 rfl ?_
          refine gm_bipush (v := 33) d_X12_factor_74 (by decide) ?_
          refine gm_join (S := gm_M) (pj := 101) (kj := 0) (nj := 0) (fun s17 => s17) (fun s17 => [(0, .ref a0), (1, .int x3)]) (fun s17 => []) (fun s17 => ?_) (fun j18 hj18 => ?_)
          ·
            refine gm_aload_n d_X12_factor_101 rfl 0 rfl ?_
            refine gm_dup d_X12_factor_102 rfl ?_
            refine gm_getI F_12_open gw_898 d_X12_factor_103 (fun v19 _ => ?_)
            refine gm_iconst (v := 1) d_X12_factor_106 (by decide) ?_
            refine gm_isub d_X12_factor_107 ?_
            refine gm_putI F_12_open (Or.inl rfl) gw_898 d_X12_factor_108 (fun m20 _ => ?_)
            exact gm_vret rfl d_X12_factor_111 (Nat.le_of_ble_eq_true rfl) (Nat.le_of_ble_eq_true rfl) (fun h => h)
          ·
            refine gm_icmp_ne (tgt := 91) d_X12_factor_76 (by decide) (fun h76 => ?_) (fun h76 => ?_)
            ·
              refine gm_aload_n d_X12_factor_91 rfl 0 rfl ?_
              refine gm_grd (fun g92 => ?_)
              refine gm_callV (k0 := 12) [] (hR2 a0 m16) g92 rfl B_X12_some gw_1008 gs_33 (gm_hit2 (by simp only [gm_rm]; omega) (by simp only [gm_rm]; omega) (Nat.le_refl 0) (Nat.le_refl 0)) rfl rfl d_X12_factor_92 (gm_kV (fun m21 => ?_))
              refine gm_aload_n d_X12_factor_95 rfl 0 rfl ?_
              refine gm_bipush (v := 41) d_X12_factor_96 (by decide) ?_
              refine gm_grd (fun g98 => ?_)
              refine gm_callV (k0 := 12) [.int (41 : Int32)] (c_X12_must a0 (41 : Int32) m21) g98 rfl B_X12_must gw_990 gs_29 (gm_hit2 (by simp only [gm_rm]; omega) (by simp only [gm_rm]; omega) (Nat.le_refl 0) (Nat.le_refl 0)) rfl rfl d_X12_factor_98 (gm_kV (fun m23 => ?_))
              exact hj18 m23
            ·
              refine gm_aload_n d_X12_factor_79 rfl 0 rfl ?_
              refine gm_grd (fun g80 => ?_)
              refine gm_callV (k0 := 12) [] (hR1 a0 m16) g80 rfl B_X12_factor gw_1016 gs_35 (gm_hit2 (by simp only [gm_rm]; omega) (by simp only [gm_rm]; omega) (Nat.le_refl 0) (Nat.le_refl 0)) rfl rfl d_X12_factor_80 (gm_kV (fun m25 => ?_))
              refine gm_aload_n d_X12_factor_83 rfl 0 rfl ?_
              refine gm_iconst (v := -1) d_X12_factor_84 (by decide) ?_
              refine gm_grd (fun g85 => ?_)
              refine gm_callV (k0 := 12) [.int (-1 : Int32)] (c_X12_emits a0 (-1 : Int32) m25) g85 rfl B_X12_emits gw_1020 gs_36 (gm_hit2 (by simp only [gm_rm]; omega) (by simp only [gm_rm]; omega) (Nat.le_refl 0) (Nat.le_refl 0)) rfl rfl d_X12_factor_85 (gm_kV (fun m27 => ?_))
              refine gm_goto (tgt := 101) d_X12_factor_88 (by decide) ?_
              exact hj18 m27
        ·
          refine gm_if_eq (tgt := 68) d_X12_factor_61 (by decide) (fun h61 => ?_) (fun h61 => ?_)
          ·
            refine gm_iconst (v := 1) d_X12_factor_68 (by decide) ?_
            exact hj15 (1 : Int32)
          ·
            refine gm_iconst (v := 0) d_X12_factor_64 (by decide) ?_
            refine gm_goto (tgt := 69) d_X12_factor_65 (by decide) ?_
            exact hj15 (0 : Int32)
      ·
        refine gm_icmp_ne (tgt := 38) d_X12_factor_31 (by decide) (fun h31 => ?_) (fun h31 => ?_)
        ·
          refine gm_iconst (v := 0) d_X12_factor_38 (by decide) ?_
          exact hj8 (0 : Int32)
        ·
          refine gm_iconst (v := 1) d_X12_factor_34 (by decide) ?_
          refine gm_goto (tgt := 39) d_X12_factor_35 (by decide) ?_
          exact hj8 (1 : Int32)
    ·
      refine gm_icmp_eq (tgt := 25) d_X12_factor_16 (by decide) (fun h16 => ?_) (fun h16 => ?_)
      ·
        refine gm_sub (L' := [(0, .ref a0), (1, .int x3)]) [1, 0] rfl ?_
        exact hj5 ()
      ·
        refine gm_iload_n d_X12_factor_19 rfl 0 rfl ?_
        refine gm_bipush (v := 40) d_X12_factor_20 (by decide) ?_
        refine gm_icmp_ne (tgt := 112) d_X12_factor_22 (by decide) (fun h22 => ?_) (fun h22 => ?_)
        ·
          refine gm_aload_n d_X12_factor_112 rfl 1 rfl ?_
          exact gm_no
        ·
          refine gm_sub (L' := [(0, .ref a0), (1, .int x3)]) [1, 0] rfl ?_
          exact hj5 ()
  ·
    exact gm_vret rfl d_X12_factor_7 (Nat.le_of_ble_eq_true rfl) (Nat.le_of_ble_eq_true rfl) (fun h => h)
def b_X12_some (R0 : Nat → gm_M → Option (Option Value × gm_M)) (R1 : Nat → gm_M → Option (Option Value × gm_M)) (R2 : Nat → gm_M → Option (Option Value × gm_M)) (a0 : Nat) (μ : gm_M) : Option (Option Value × gm_M) := if gm_tag μ a0 = 17 then gm_bV (R0 a0 μ) (fun m1 => gm_loop (fun (s3 : gm_M) => gm_gI s3 [17] a0 8 (fun v4 => if v4 ≠ 0 then some (Sum.inr (none, s3)) else if gm_tag s3 a0 = 17 then gm_bI (f_X12_here a0 s3) (fun x6 m5 => if x6 ≠ (124 : Int32) then some (Sum.inr (none, m5)) else gm_gI m5 [17] a0 6 (fun v7 => gm_pI m5 [17] a0 6 (v7 + (1 : Int32)) (fun m8 => if gm_tag m8 a0 = 17 then gm_bV (R0 a0 m8) (fun m9 => if gm_tag m9 a0 = 17 then gm_bV (f_X12_emits a0 (-3 : Int32) m9) (fun m11 => some (Sum.inl m11)) else none) else none))) else none)) 5000 m1) else none
set_option maxHeartbeats 4000000 in
theorem bc_X12_some (d : Nat) (R0 : Nat → gm_M → Option (Option Value × gm_M)) (R1 : Nat → gm_M → Option (Option Value × gm_M)) (R2 : Nat → gm_M → Option (Option Value × gm_M)) (hR0 : ∀ (a0 : Nat) (μ : gm_M), gm_Call ({ cls := "GumBubbleModel", name := "every", desc := "()V" } : Jvm.MethodName) prog_14_method_17_code 1 none (d + 2) 0 0 [.ref a0] μ (R0 a0 μ)) (hR1 : ∀ (a0 : Nat) (μ : gm_M), gm_Call ({ cls := "GumBubbleModel", name := "factor", desc := "()V" } : Jvm.MethodName) prog_14_method_16_code 5 none (d + 2) 0 0 [.ref a0] μ (R1 a0 μ)) (hR2 : ∀ (a0 : Nat) (μ : gm_M), gm_Call ({ cls := "GumBubbleModel", name := "some", desc := "()V" } : Jvm.MethodName) prog_14_method_18_code 1 none (d + 2) 0 0 [.ref a0] μ (R2 a0 μ)) (a0 : Nat) (μ : gm_M) : gm_Call ({ cls := "GumBubbleModel", name := "some", desc := "()V" } : Jvm.MethodName) prog_14_method_18_code 1 none (d + 1 + 2) 0 0 [.ref a0] μ (b_X12_some R0 R1 R2 a0 μ) := by
  refine gm_start PN_12 (Nat.le_of_ble_eq_true rfl) (fun res μe => ?_)
  unfold b_X12_some
  show gm_A "GumBubbleModel" (gm_nm "some") _ _ _ _ _ _ _ _ _ 0 [(0, .ref a0)] [] _ _
  refine gm_aload_n d_X12_some_0 rfl 0 rfl ?_
  refine gm_grd (fun g1 => ?_)
  refine gm_callV (k0 := 12) [] (hR0 a0 μ) g1 rfl B_X12_every gw_1012 gs_34 (gm_hit2 (by simp only [gm_rm]; omega) (by simp only [gm_rm]; omega) (Nat.le_refl 0) (Nat.le_refl 0)) rfl rfl d_X12_some_1 (gm_kV (fun m1 => ?_))
  refine gm_lp (S := gm_M) (fun _ => 0) (fun _ => 0) (fun s3 => s3) (fun s3 => [(0, .ref a0)]) (fun _ => []) (fun s3 => ?_) 5000 m1
  refine gm_aload_n d_X12_some_4 rfl 0 rfl ?_
  refine gm_getI F_12_isWrong gw_897 d_X12_some_5 (fun v4 _ => ?_)
  refine gm_if_ne (tgt := 43) d_X12_some_8 (by decide) (fun h8 => ?_) (fun h8 => ?_)
  ·
    exact gm_vret rfl d_X12_some_43 (Nat.le_of_ble_eq_true rfl) (Nat.le_of_ble_eq_true rfl) (fun h => h)
  ·
    refine gm_aload_n d_X12_some_11 rfl 0 rfl ?_
    refine gm_grd (fun g12 => ?_)
    refine gm_callV (k0 := 12) [] (c_X12_here a0 s3) g12 rfl B_X12_here gw_975 gs_26 (gm_hit2 (by simp only [gm_rm]; omega) (by simp only [gm_rm]; omega) (Nat.le_refl 0) (Nat.le_refl 0)) rfl rfl d_X12_some_12 (gm_kI (fun x6 m5 => ?_))
    refine gm_bipush (v := 124) d_X12_some_15 (by decide) ?_
    refine gm_icmp_ne (tgt := 43) d_X12_some_17 (by decide) (fun h17 => ?_) (fun h17 => ?_)
    ·
      exact gm_vret rfl d_X12_some_43 (Nat.le_of_ble_eq_true rfl) (Nat.le_of_ble_eq_true rfl) (fun h => h)
    ·
      refine gm_aload_n d_X12_some_20 rfl 0 rfl ?_
      refine gm_dup d_X12_some_21 rfl ?_
      refine gm_getI F_12_spot gw_895 d_X12_some_22 (fun v7 _ => ?_)
      refine gm_iconst (v := 1) d_X12_some_25 (by decide) ?_
      refine gm_iadd d_X12_some_26 ?_
      refine gm_putI F_12_spot (Or.inl rfl) gw_895 d_X12_some_27 (fun m8 _ => ?_)
      refine gm_aload_n d_X12_some_30 rfl 0 rfl ?_
      refine gm_grd (fun g31 => ?_)
      refine gm_callV (k0 := 12) [] (hR0 a0 m8) g31 rfl B_X12_every gw_1012 gs_34 (gm_hit2 (by simp only [gm_rm]; omega) (by simp only [gm_rm]; omega) (Nat.le_refl 0) (Nat.le_refl 0)) rfl rfl d_X12_some_31 (gm_kV (fun m9 => ?_))
      refine gm_aload_n d_X12_some_34 rfl 0 rfl ?_
      refine gm_bipush (v := -3) d_X12_some_35 (by decide) ?_
      refine gm_grd (fun g37 => ?_)
      refine gm_callV (k0 := 12) [.int (-3 : Int32)] (c_X12_emits a0 (-3 : Int32) m9) g37 rfl B_X12_emits gw_1020 gs_36 (gm_hit2 (by simp only [gm_rm]; omega) (by simp only [gm_rm]; omega) (Nat.le_refl 0) (Nat.le_refl 0)) rfl rfl d_X12_some_37 (gm_kV (fun m11 => ?_))
      refine gm_goto (tgt := 4) d_X12_some_40 (by decide) ?_
      exact gm_back (fun h => h)
def r_X12_every : Nat → (Nat → gm_M → Option (Option Value × gm_M)) × (Nat → gm_M → Option (Option Value × gm_M)) × (Nat → gm_M → Option (Option Value × gm_M))
  | 0 => (fun _ _ => none, fun _ _ => none, fun _ _ => none)
  | d + 1 => (b_X12_every (r_X12_every d).1 (r_X12_every d).2.1 (r_X12_every d).2.2, b_X12_factor (r_X12_every d).1 (r_X12_every d).2.1 (r_X12_every d).2.2, b_X12_some (r_X12_every d).1 (r_X12_every d).2.1 (r_X12_every d).2.2)
theorem rc_X12_every : ∀ d : Nat, (∀ (a0 : Nat) (μ : gm_M), gm_Call ({ cls := "GumBubbleModel", name := "every", desc := "()V" } : Jvm.MethodName) prog_14_method_17_code 1 none (d + 2) 0 0 [.ref a0] μ ((r_X12_every d).1 a0 μ)) ∧ (∀ (a0 : Nat) (μ : gm_M), gm_Call ({ cls := "GumBubbleModel", name := "factor", desc := "()V" } : Jvm.MethodName) prog_14_method_16_code 5 none (d + 2) 0 0 [.ref a0] μ ((r_X12_every d).2.1 a0 μ)) ∧ (∀ (a0 : Nat) (μ : gm_M), gm_Call ({ cls := "GumBubbleModel", name := "some", desc := "()V" } : Jvm.MethodName) prog_14_method_18_code 1 none (d + 2) 0 0 [.ref a0] μ ((r_X12_every d).2.2 a0 μ)) := by
  intro d
  induction d with
  | zero =>
    exact ⟨fun _ _ _ _ h => (by cases h), fun _ _ _ _ h => (by cases h), fun _ _ _ _ h => (by cases h)⟩
  | succ d ih =>
    exact ⟨bc_X12_every d _ _ _ ih.1 ih.2.1 ih.2.2, bc_X12_factor d _ _ _ ih.1 ih.2.1 ih.2.2, bc_X12_some d _ _ _ ih.1 ih.2.1 ih.2.2⟩
def f_X12_every (a0 : Nat) (μ : gm_M) : Option (Option Value × gm_M) := (r_X12_every 64).1 a0 μ
theorem c_X12_every (a0 : Nat) (μ : gm_M) : gm_Call ({ cls := "GumBubbleModel", name := "every", desc := "()V" } : Jvm.MethodName) prog_14_method_17_code 1 none 66 0 0 [.ref a0] μ (f_X12_every a0 μ) := (rc_X12_every 64).1 a0 μ
def f_X12_factor (a0 : Nat) (μ : gm_M) : Option (Option Value × gm_M) := (r_X12_every 64).2.1 a0 μ
theorem c_X12_factor (a0 : Nat) (μ : gm_M) : gm_Call ({ cls := "GumBubbleModel", name := "factor", desc := "()V" } : Jvm.MethodName) prog_14_method_16_code 5 none 66 0 0 [.ref a0] μ (f_X12_factor a0 μ) := (rc_X12_every 64).2.1 a0 μ
def f_X12_some (a0 : Nat) (μ : gm_M) : Option (Option Value × gm_M) := (r_X12_every 64).2.2 a0 μ
theorem c_X12_some (a0 : Nat) (μ : gm_M) : gm_Call ({ cls := "GumBubbleModel", name := "some", desc := "()V" } : Jvm.MethodName) prog_14_method_18_code 1 none 66 0 0 [.ref a0] μ (f_X12_some a0 μ) := (rc_X12_every 64).2.2 a0 μ
theorem d_X12_much_0 : decode prog_14_method_19_code 0 = .ok (.aload_n 0, 1) := by decide +kernel
theorem d_X12_much_1 : decode prog_14_method_19_code 1 = .ok (.aload_n 2, 1) := by decide +kernel
theorem d_X12_much_2 : decode prog_14_method_19_code 2 = .ok (.invokevirtual 104, 3) := by decide +kernel
theorem d_X12_much_5 : decode prog_14_method_19_code 5 = .ok (.aload_n 0, 1) := by decide +kernel
theorem d_X12_much_6 : decode prog_14_method_19_code 6 = .ok (.invokevirtual 98, 3) := by decide +kernel
theorem d_X12_much_9 : decode prog_14_method_19_code 9 = .ok (.istore_n 3, 1) := by decide +kernel
theorem d_X12_much_10 : decode prog_14_method_19_code 10 = .ok (.aload_n 0, 1) := by decide +kernel
theorem d_X12_much_11 : decode prog_14_method_19_code 11 = .ok (.bipush 32, 2) := by decide +kernel
theorem d_X12_much_13 : decode prog_14_method_19_code 13 = .ok (.invokevirtual 71, 3) := by decide +kernel
theorem d_X12_much_16 : decode prog_14_method_19_code 16 = .ok (.aload_n 0, 1) := by decide +kernel
theorem d_X12_much_17 : decode prog_14_method_19_code 17 = .ok (.invokevirtual 87, 3) := by decide +kernel
theorem d_X12_much_20 : decode prog_14_method_19_code 20 = .ok (.aload_n 0, 1) := by decide +kernel
theorem d_X12_much_21 : decode prog_14_method_19_code 21 = .ok (.iload_n 1, 1) := by decide +kernel
theorem d_X12_much_22 : decode prog_14_method_19_code 22 = .ok (.iload_n 3, 1) := by decide +kernel
theorem d_X12_much_23 : decode prog_14_method_19_code 23 = .ok (.isub, 1) := by decide +kernel
theorem d_X12_much_24 : decode prog_14_method_19_code 24 = .ok (.invokevirtual 84, 3) := by decide +kernel
theorem d_X12_much_27 : decode prog_14_method_19_code 27 = .ok (.return_, 1) := by decide +kernel
def f_X12_much (a0 : Nat) (a1 : Int32) (a2 : Nat) (μ : gm_M) : Option (Option Value × gm_M) := if gm_tag μ a0 = 17 then gm_bV (f_X12_spells a0 a2 μ) (fun m1 => if gm_tag m1 a0 = 17 then gm_bI (f_X12_figures a0 m1) (fun x4 m3 => if gm_tag m3 a0 = 17 then gm_bV (f_X12_must a0 (32 : Int32) m3) (fun m5 => if gm_tag m5 a0 = 17 then gm_bV (f_X12_some a0 m5) (fun m7 => if gm_tag m7 a0 = 17 then gm_bV (f_X12_emits a0 (a1 - x4) m7) (fun m9 => some (none, m9)) else none) else none) else none) else none) else none
set_option maxHeartbeats 4000000 in
theorem c_X12_much (a0 : Nat) (a1 : Int32) (a2 : Nat) (μ : gm_M) : gm_Call ({ cls := "GumBubbleModel", name := "much", desc := "(ILjava/lang/String;)V" } : Jvm.MethodName) prog_14_method_19_code 4 none 67 0 0 [.ref a0, .int a1, .ref a2] μ (f_X12_much a0 a1 a2 μ) := by
  refine gm_start PN_12 (Nat.le_of_ble_eq_true rfl) (fun res μe => ?_)
  unfold f_X12_much
  show gm_A "GumBubbleModel" (gm_nm "much") _ _ _ _ _ _ _ _ _ 0 [(0, .ref a0), (1, .int a1), (2, .ref a2)] [] _ _
  refine gm_aload_n d_X12_much_0 rfl 0 rfl ?_
  refine gm_aload_n d_X12_much_1 rfl 2 rfl ?_
  refine gm_grd (fun g2 => ?_)
  refine gm_callV (k0 := 12) [.ref a2] (c_X12_spells a0 a2 μ) g2 rfl B_X12_spells gw_984 gs_28 rfl rfl rfl d_X12_much_2 (gm_kV (fun m1 => ?_))
  refine gm_aload_n d_X12_much_5 rfl 0 rfl ?_
  refine gm_grd (fun g6 => ?_)
  refine gm_callV (k0 := 12) [] (c_X12_figures a0 m1) g6 rfl B_X12_figures gw_994 gs_30 rfl rfl rfl d_X12_much_6 (gm_kI (fun x4 m3 => ?_))
  refine gm_istore_n (L' := [(3, .int x4), (0, .ref a0), (1, .int a1), (2, .ref a2)]) d_X12_much_9 rfl (Nat.le_of_ble_eq_true rfl) rfl ?_
  refine gm_aload_n d_X12_much_10 rfl 1 rfl ?_
  refine gm_bipush (v := 32) d_X12_much_11 (by decide) ?_
  refine gm_grd (fun g13 => ?_)
  refine gm_callV (k0 := 12) [.int (32 : Int32)] (c_X12_must a0 (32 : Int32) m3) g13 rfl B_X12_must gw_990 gs_29 rfl rfl rfl d_X12_much_13 (gm_kV (fun m5 => ?_))
  refine gm_aload_n d_X12_much_16 rfl 1 rfl ?_
  refine gm_grd (fun g17 => ?_)
  refine gm_callV (k0 := 12) [] (c_X12_some a0 m5) g17 rfl B_X12_some gw_1008 gs_33 rfl rfl rfl d_X12_much_17 (gm_kV (fun m7 => ?_))
  refine gm_aload_n d_X12_much_20 rfl 1 rfl ?_
  refine gm_iload_n d_X12_much_21 rfl 2 rfl ?_
  refine gm_iload_n d_X12_much_22 rfl 0 rfl ?_
  refine gm_isub d_X12_much_23 ?_
  refine gm_grd (fun g24 => ?_)
  refine gm_callV (k0 := 12) [.int (a1 - x4)] (c_X12_emits a0 (a1 - x4) m7) g24 rfl B_X12_emits gw_1020 gs_36 rfl rfl rfl d_X12_much_24 (gm_kV (fun m9 => ?_))
  exact gm_vret rfl d_X12_much_27 (Nat.le_of_ble_eq_true rfl) (Nat.le_of_ble_eq_true rfl) (fun h => h)
theorem d_X12_wordOfS_0 : decode prog_14_method_21_code 0 = .ok (.aload_n 0, 1) := by decide +kernel
theorem d_X12_wordOfS_1 : decode prog_14_method_21_code 1 = .ok (.bipush 115, 2) := by decide +kernel
theorem d_X12_wordOfS_3 : decode prog_14_method_21_code 3 = .ok (.invokevirtual 71, 3) := by decide +kernel
theorem d_X12_wordOfS_6 : decode prog_14_method_21_code 6 = .ok (.aload_n 0, 1) := by decide +kernel
theorem d_X12_wordOfS_7 : decode prog_14_method_21_code 7 = .ok (.invokevirtual 58, 3) := by decide +kernel
theorem d_X12_wordOfS_10 : decode prog_14_method_21_code 10 = .ok (.bipush 119, 2) := by decide +kernel
theorem d_X12_wordOfS_12 : decode prog_14_method_21_code 12 = .ok (.if_icmp .ne 13, 3) := by decide +kernel
theorem d_X12_wordOfS_15 : decode prog_14_method_21_code 15 = .ok (.aload_n 0, 1) := by decide +kernel
theorem d_X12_wordOfS_16 : decode prog_14_method_21_code 16 = .ok (.sipush 215, 3) := by decide +kernel
theorem d_X12_wordOfS_25 : decode prog_14_method_21_code 25 = .ok (.aload_n 0, 1) := by decide +kernel
theorem d_X12_wordOfS_26 : decode prog_14_method_21_code 26 = .ok (.bipush 116, 2) := by decide +kernel
theorem d_X12_wordOfS_28 : decode prog_14_method_21_code 28 = .ok (.invokevirtual 71, 3) := by decide +kernel
theorem d_X12_wordOfS_31 : decode prog_14_method_21_code 31 = .ok (.aload_n 0, 1) := by decide +kernel
theorem d_X12_wordOfS_32 : decode prog_14_method_21_code 32 = .ok (.invokevirtual 58, 3) := by decide +kernel
theorem d_X12_wordOfS_35 : decode prog_14_method_21_code 35 = .ok (.bipush 114, 2) := by decide +kernel
theorem d_X12_wordOfS_37 : decode prog_14_method_21_code 37 = .ok (.if_icmp .ne 14, 3) := by decide +kernel
theorem d_X12_wordOfS_40 : decode prog_14_method_21_code 40 = .ok (.aload_n 0, 1) := by decide +kernel
theorem d_X12_wordOfS_41 : decode prog_14_method_21_code 41 = .ok (.bipush (-10), 2) := by decide +kernel
theorem d_X12_wordOfS_51 : decode prog_14_method_21_code 51 = .ok (.aload_n 0, 1) := by decide +kernel
theorem d_X12_wordOfS_52 : decode prog_14_method_21_code 52 = .ok (.sipush (-200), 3) := by decide +kernel
def f_X12_wordOfS (a0 : Nat) (μ : gm_M) : Option (Option Value × gm_M) := if gm_tag μ a0 = 17 then gm_bV (f_X12_must a0 (115 : Int32) μ) (fun m1 => if gm_tag m1 a0 = 17 then gm_bI (f_X12_here a0 m1) (fun x4 m3 => if x4 ≠ (119 : Int32) then if gm_tag m3 a0 = 17 then gm_bV (f_X12_must a0 (116 : Int32) m3) (fun m5 => if gm_tag m5 a0 = 17 then gm_bI (f_X12_here a0 m5) (fun x8 m7 => if x8 ≠ (114 : Int32) then none else none) else none) else none else none) else none) else none
set_option maxHeartbeats 4000000 in
theorem c_X12_wordOfS (a0 : Nat) (μ : gm_M) : gm_Call ({ cls := "GumBubbleModel", name := "wordOfS", desc := "()V" } : Jvm.MethodName) prog_14_method_21_code 1 none 2 0 0 [.ref a0] μ (f_X12_wordOfS a0 μ) := by
  refine gm_start PN_12 (Nat.le_of_ble_eq_true rfl) (fun res μe => ?_)
  unfold f_X12_wordOfS
  show gm_A "GumBubbleModel" (gm_nm "wordOfS") _ _ _ _ _ _ _ _ _ 0 [(0, .ref a0)] [] _ _
  refine gm_aload_n d_X12_wordOfS_0 rfl 0 rfl ?_
  refine gm_bipush (v := 115) d_X12_wordOfS_1 (by decide) ?_
  refine gm_grd (fun g3 => ?_)
  refine gm_callV (k0 := 12) [.int (115 : Int32)] (c_X12_must a0 (115 : Int32) μ) g3 rfl B_X12_must gw_990 gs_29 rfl rfl rfl d_X12_wordOfS_3 (gm_kV (fun m1 => ?_))
  refine gm_aload_n d_X12_wordOfS_6 rfl 0 rfl ?_
  refine gm_grd (fun g7 => ?_)
  refine gm_callV (k0 := 12) [] (c_X12_here a0 m1) g7 rfl B_X12_here gw_975 gs_26 rfl rfl rfl d_X12_wordOfS_7 (gm_kI (fun x4 m3 => ?_))
  refine gm_bipush (v := 119) d_X12_wordOfS_10 (by decide) ?_
  refine gm_icmp_ne (tgt := 25) d_X12_wordOfS_12 (by decide) (fun h12 => ?_) (fun h12 => ?_)
  ·
    refine gm_aload_n d_X12_wordOfS_25 rfl 0 rfl ?_
    refine gm_bipush (v := 116) d_X12_wordOfS_26 (by decide) ?_
    refine gm_grd (fun g28 => ?_)
    refine gm_callV (k0 := 12) [.int (116 : Int32)] (c_X12_must a0 (116 : Int32) m3) g28 rfl B_X12_must gw_990 gs_29 rfl rfl rfl d_X12_wordOfS_28 (gm_kV (fun m5 => ?_))
    refine gm_aload_n d_X12_wordOfS_31 rfl 0 rfl ?_
    refine gm_grd (fun g32 => ?_)
    refine gm_callV (k0 := 12) [] (c_X12_here a0 m5) g32 rfl B_X12_here gw_975 gs_26 rfl rfl rfl d_X12_wordOfS_32 (gm_kI (fun x8 m7 => ?_))
    refine gm_bipush (v := 114) d_X12_wordOfS_35 (by decide) ?_
    refine gm_icmp_ne (tgt := 51) d_X12_wordOfS_37 (by decide) (fun h37 => ?_) (fun h37 => ?_)
    ·
      refine gm_aload_n d_X12_wordOfS_51 rfl 0 rfl ?_
      refine gm_sipush (v := -200) d_X12_wordOfS_52 (by decide) ?_
      exact gm_no
    ·
      refine gm_aload_n d_X12_wordOfS_40 rfl 0 rfl ?_
      refine gm_bipush (v := -10) d_X12_wordOfS_41 (by decide) ?_
      exact gm_no
  ·
    refine gm_aload_n d_X12_wordOfS_15 rfl 0 rfl ?_
    refine gm_sipush (v := 215) d_X12_wordOfS_16 (by decide) ?_
    exact gm_no
theorem d_X12_clauseHere_0 : decode prog_14_method_22_code 0 = .ok (.aload_n 0, 1) := by decide +kernel
theorem d_X12_clauseHere_1 : decode prog_14_method_22_code 1 = .ok (.invokevirtual 58, 3) := by decide +kernel
theorem d_X12_clauseHere_4 : decode prog_14_method_22_code 4 = .ok (.lookupswitch 47 #[(115, 40), (119, 28)], 28) := by decide +kernel
theorem d_X12_clauseHere_32 : decode prog_14_method_22_code 32 = .ok (.aload_n 0, 1) := by decide +kernel
theorem d_X12_clauseHere_33 : decode prog_14_method_22_code 33 = .ok (.sipush 210, 3) := by decide +kernel
theorem d_X12_clauseHere_44 : decode prog_14_method_22_code 44 = .ok (.aload_n 0, 1) := by decide +kernel
theorem d_X12_clauseHere_45 : decode prog_14_method_22_code 45 = .ok (.invokevirtual 123, 3) := by decide +kernel
theorem d_X12_clauseHere_48 : decode prog_14_method_22_code 48 = .ok (.goto 8, 3) := by decide +kernel
theorem d_X12_clauseHere_51 : decode prog_14_method_22_code 51 = .ok (.aload_n 0, 1) := by decide +kernel
theorem d_X12_clauseHere_52 : decode prog_14_method_22_code 52 = .ok (.iconst 1, 1) := by decide +kernel
theorem d_X12_clauseHere_53 : decode prog_14_method_22_code 53 = .ok (.putfield 54, 3) := by decide +kernel
theorem d_X12_clauseHere_56 : decode prog_14_method_22_code 56 = .ok (.return_, 1) := by decide +kernel
def f_X12_clauseHere (a0 : Nat) (μ : gm_M) : Option (Option Value × gm_M) := if gm_tag μ a0 = 17 then gm_bI (f_X12_here a0 μ) (fun x2 m1 => if x2 = 115 then if gm_tag m1 a0 = 17 then gm_bV (f_X12_wordOfS a0 m1) (fun m3 => some (none, m3)) else none else if x2 = 119 then none else gm_pZ m1 [17] a0 8 (1 : Int32) (fun m5 => some (none, m5))) else none
set_option maxHeartbeats 4000000 in
theorem c_X12_clauseHere (a0 : Nat) (μ : gm_M) : gm_Call ({ cls := "GumBubbleModel", name := "clauseHere", desc := "()V" } : Jvm.MethodName) prog_14_method_22_code 1 none 3 0 0 [.ref a0] μ (f_X12_clauseHere a0 μ) := by
  refine gm_start PN_12 (Nat.le_of_ble_eq_true rfl) (fun res μe => ?_)
  unfold f_X12_clauseHere
  show gm_A "GumBubbleModel" (gm_nm "clauseHere") _ _ _ _ _ _ _ _ _ 0 [(0, .ref a0)] [] _ _
  refine gm_aload_n d_X12_clauseHere_0 rfl 0 rfl ?_
  refine gm_grd (fun g1 => ?_)
  refine gm_callV (k0 := 12) [] (c_X12_here a0 μ) g1 rfl B_X12_here gw_975 gs_26 rfl rfl rfl d_X12_clauseHere_1 (gm_kI (fun x2 m1 => ?_))
  refine gm_ite (P := x2 = 115) (fun h4_115 => ?_) (fun h4_115 => ?_)
  ·
    refine gm_lkp (off := 40) (tgt := 44) d_X12_clauseHere_4 (by decide) (by rw [h4_115] <;> rfl) (by decide) ?_
    refine gm_aload_n d_X12_clauseHere_44 rfl 0 rfl ?_
    refine gm_grd (fun g45 => ?_)
    refine gm_callV (k0 := 12) [] (c_X12_wordOfS a0 m1) g45 rfl B_X12_wordOfS gw_998 gs_31 rfl rfl rfl d_X12_clauseHere_45 (gm_kV (fun m3 => ?_))
    refine gm_goto (tgt := 56) d_X12_clauseHere_48 (by decide) ?_
    exact gm_vret rfl d_X12_clauseHere_56 (Nat.le_of_ble_eq_true rfl) (Nat.le_of_ble_eq_true rfl) (fun h => h)
  ·
    refine gm_ite (P := x2 = 119) (fun h4_119 => ?_) (fun h4_119 => ?_)
    ·
      refine gm_lkp (off := 28) (tgt := 32) d_X12_clauseHere_4 (by decide) (by rw [h4_119] <;> rfl) (by decide) ?_
      refine gm_aload_n d_X12_clauseHere_32 rfl 0 rfl ?_
      refine gm_sipush (v := 210) d_X12_clauseHere_33 (by decide) ?_
      exact gm_no
    ·
      refine gm_lkp (off := 47) (tgt := 51) d_X12_clauseHere_4 (by decide) (by show Op.lookupswitch.offset [(115, 40), (119, 28)] 47 _ = _; rw [lv_osw h4_115 (show (115 : Int32).toInt = 115 from rfl), lv_osw h4_119 (show (119 : Int32).toInt = 119 from rfl)] <;> rfl) (by decide) ?_
      refine gm_aload_n d_X12_clauseHere_51 rfl 0 rfl ?_
      refine gm_iconst (v := 1) d_X12_clauseHere_52 (by decide) ?_
      refine gm_putZ F_12_isWrong (Or.inl rfl) gw_897 d_X12_clauseHere_53 (fun m5 _ => ?_)
      exact gm_vret rfl d_X12_clauseHere_56 (Nat.le_of_ble_eq_true rfl) (Nat.le_of_ble_eq_true rfl) (fun h => h)
theorem d_X12_afternoon_0 : decode prog_14_method_23_code 0 = .ok (.aload_n 0, 1) := by decide +kernel
theorem d_X12_afternoon_1 : decode prog_14_method_23_code 1 = .ok (.getfield 9, 3) := by decide +kernel
theorem d_X12_afternoon_4 : decode prog_14_method_23_code 4 = .ok (.bipush 27, 2) := by decide +kernel
theorem d_X12_afternoon_6 : decode prog_14_method_23_code 6 = .ok (.iaload, 1) := by decide +kernel
theorem d_X12_afternoon_7 : decode prog_14_method_23_code 7 = .ok (.iconst 5, 1) := by decide +kernel
theorem d_X12_afternoon_8 : decode prog_14_method_23_code 8 = .ok (.if_icmp .ne 6, 3) := by decide +kernel
theorem d_X12_afternoon_11 : decode prog_14_method_23_code 11 = .ok (.bipush (-4), 2) := by decide +kernel
theorem d_X12_afternoon_13 : decode prog_14_method_23_code 13 = .ok (.ireturn, 1) := by decide +kernel
theorem d_X12_afternoon_14 : decode prog_14_method_23_code 14 = .ok (.aload_n 0, 1) := by decide +kernel
theorem d_X12_afternoon_15 : decode prog_14_method_23_code 15 = .ok (.aload_n 0, 1) := by decide +kernel
theorem d_X12_afternoon_16 : decode prog_14_method_23_code 16 = .ok (.getfield 9, 3) := by decide +kernel
theorem d_X12_afternoon_19 : decode prog_14_method_23_code 19 = .ok (.bipush 27, 2) := by decide +kernel
theorem d_X12_afternoon_21 : decode prog_14_method_23_code 21 = .ok (.iaload, 1) := by decide +kernel
theorem d_X12_afternoon_22 : decode prog_14_method_23_code 22 = .ok (.putfield 75, 3) := by decide +kernel
theorem d_X12_afternoon_25 : decode prog_14_method_23_code 25 = .ok (.aload_n 0, 1) := by decide +kernel
theorem d_X12_afternoon_26 : decode prog_14_method_23_code 26 = .ok (.aload_n 0, 1) := by decide +kernel
theorem d_X12_afternoon_27 : decode prog_14_method_23_code 27 = .ok (.getfield 9, 3) := by decide +kernel
theorem d_X12_afternoon_30 : decode prog_14_method_23_code 30 = .ok (.bipush 31, 2) := by decide +kernel
theorem d_X12_afternoon_32 : decode prog_14_method_23_code 32 = .ok (.iaload, 1) := by decide +kernel
theorem d_X12_afternoon_33 : decode prog_14_method_23_code 33 = .ok (.putfield 51, 3) := by decide +kernel
theorem d_X12_afternoon_36 : decode prog_14_method_23_code 36 = .ok (.aload_n 0, 1) := by decide +kernel
theorem d_X12_afternoon_37 : decode prog_14_method_23_code 37 = .ok (.getfield 9, 3) := by decide +kernel
theorem d_X12_afternoon_40 : decode prog_14_method_23_code 40 = .ok (.bipush 31, 2) := by decide +kernel
theorem d_X12_afternoon_42 : decode prog_14_method_23_code 42 = .ok (.iconst 0, 1) := by decide +kernel
theorem d_X12_afternoon_43 : decode prog_14_method_23_code 43 = .ok (.iastore, 1) := by decide +kernel
theorem d_X12_afternoon_44 : decode prog_14_method_23_code 44 = .ok (.aload_n 0, 1) := by decide +kernel
theorem d_X12_afternoon_45 : decode prog_14_method_23_code 45 = .ok (.getfield 9, 3) := by decide +kernel
theorem d_X12_afternoon_48 : decode prog_14_method_23_code 48 = .ok (.sipush 210, 3) := by decide +kernel
theorem d_X12_afternoon_51 : decode prog_14_method_23_code 51 = .ok (.aload_n 0, 1) := by decide +kernel
theorem d_X12_afternoon_52 : decode prog_14_method_23_code 52 = .ok (.getfield 75, 3) := by decide +kernel
theorem d_X12_afternoon_55 : decode prog_14_method_23_code 55 = .ok (.iadd, 1) := by decide +kernel
theorem d_X12_afternoon_56 : decode prog_14_method_23_code 56 = .ok (.iconst 0, 1) := by decide +kernel
theorem d_X12_afternoon_57 : decode prog_14_method_23_code 57 = .ok (.iastore, 1) := by decide +kernel
theorem d_X12_afternoon_58 : decode prog_14_method_23_code 58 = .ok (.aload_n 0, 1) := by decide +kernel
theorem d_X12_afternoon_59 : decode prog_14_method_23_code 59 = .ok (.getfield 9, 3) := by decide +kernel
theorem d_X12_afternoon_62 : decode prog_14_method_23_code 62 = .ok (.sipush 215, 3) := by decide +kernel
theorem d_X12_afternoon_65 : decode prog_14_method_23_code 65 = .ok (.aload_n 0, 1) := by decide +kernel
theorem d_X12_afternoon_66 : decode prog_14_method_23_code 66 = .ok (.getfield 75, 3) := by decide +kernel
theorem d_X12_afternoon_69 : decode prog_14_method_23_code 69 = .ok (.iadd, 1) := by decide +kernel
theorem d_X12_afternoon_70 : decode prog_14_method_23_code 70 = .ok (.bipush 20, 2) := by decide +kernel
theorem d_X12_afternoon_72 : decode prog_14_method_23_code 72 = .ok (.iastore, 1) := by decide +kernel
theorem d_X12_afternoon_73 : decode prog_14_method_23_code 73 = .ok (.aload_n 0, 1) := by decide +kernel
theorem d_X12_afternoon_74 : decode prog_14_method_23_code 74 = .ok (.getfield 9, 3) := by decide +kernel
theorem d_X12_afternoon_77 : decode prog_14_method_23_code 77 = .ok (.sipush 220, 3) := by decide +kernel
theorem d_X12_afternoon_80 : decode prog_14_method_23_code 80 = .ok (.aload_n 0, 1) := by decide +kernel
theorem d_X12_afternoon_81 : decode prog_14_method_23_code 81 = .ok (.getfield 75, 3) := by decide +kernel
theorem d_X12_afternoon_84 : decode prog_14_method_23_code 84 = .ok (.iadd, 1) := by decide +kernel
theorem d_X12_afternoon_85 : decode prog_14_method_23_code 85 = .ok (.iconst 0, 1) := by decide +kernel
theorem d_X12_afternoon_86 : decode prog_14_method_23_code 86 = .ok (.iastore, 1) := by decide +kernel
theorem d_X12_afternoon_87 : decode prog_14_method_23_code 87 = .ok (.aload_n 0, 1) := by decide +kernel
theorem d_X12_afternoon_88 : decode prog_14_method_23_code 88 = .ok (.iconst 0, 1) := by decide +kernel
theorem d_X12_afternoon_89 : decode prog_14_method_23_code 89 = .ok (.putfield 48, 3) := by decide +kernel
theorem d_X12_afternoon_92 : decode prog_14_method_23_code 92 = .ok (.aload_n 0, 1) := by decide +kernel
theorem d_X12_afternoon_93 : decode prog_14_method_23_code 93 = .ok (.iconst 0, 1) := by decide +kernel
theorem d_X12_afternoon_94 : decode prog_14_method_23_code 94 = .ok (.putfield 54, 3) := by decide +kernel
theorem d_X12_afternoon_97 : decode prog_14_method_23_code 97 = .ok (.aload_n 0, 1) := by decide +kernel
theorem d_X12_afternoon_98 : decode prog_14_method_23_code 98 = .ok (.iconst 0, 1) := by decide +kernel
theorem d_X12_afternoon_99 : decode prog_14_method_23_code 99 = .ok (.putfield 78, 3) := by decide +kernel
theorem d_X12_afternoon_102 : decode prog_14_method_23_code 102 = .ok (.iconst 1, 1) := by decide +kernel
theorem d_X12_afternoon_103 : decode prog_14_method_23_code 103 = .ok (.istore_n 1, 1) := by decide +kernel
theorem d_X12_afternoon_104 : decode prog_14_method_23_code 104 = .ok (.aload_n 0, 1) := by decide +kernel
theorem d_X12_afternoon_105 : decode prog_14_method_23_code 105 = .ok (.invokevirtual 126, 3) := by decide +kernel
theorem d_X12_afternoon_108 : decode prog_14_method_23_code 108 = .ok (.aload_n 0, 1) := by decide +kernel
theorem d_X12_afternoon_109 : decode prog_14_method_23_code 109 = .ok (.getfield 54, 3) := by decide +kernel
theorem d_X12_afternoon_112 : decode prog_14_method_23_code 112 = .ok (.ifCond .ne 38, 3) := by decide +kernel
theorem d_X12_afternoon_115 : decode prog_14_method_23_code 115 = .ok (.iload_n 1, 1) := by decide +kernel
theorem d_X12_afternoon_116 : decode prog_14_method_23_code 116 = .ok (.bipush 10, 2) := by decide +kernel
theorem d_X12_afternoon_118 : decode prog_14_method_23_code 118 = .ok (.if_icmp .ge 32, 3) := by decide +kernel
theorem d_X12_afternoon_121 : decode prog_14_method_23_code 121 = .ok (.aload_n 0, 1) := by decide +kernel
theorem d_X12_afternoon_122 : decode prog_14_method_23_code 122 = .ok (.invokevirtual 58, 3) := by decide +kernel
theorem d_X12_afternoon_125 : decode prog_14_method_23_code 125 = .ok (.bipush 59, 2) := by decide +kernel
theorem d_X12_afternoon_127 : decode prog_14_method_23_code 127 = .ok (.if_icmp .ne 23, 3) := by decide +kernel
theorem d_X12_afternoon_130 : decode prog_14_method_23_code 130 = .ok (.aload_n 0, 1) := by decide +kernel
theorem d_X12_afternoon_131 : decode prog_14_method_23_code 131 = .ok (.dup, 1) := by decide +kernel
theorem d_X12_afternoon_132 : decode prog_14_method_23_code 132 = .ok (.getfield 48, 3) := by decide +kernel
theorem d_X12_afternoon_135 : decode prog_14_method_23_code 135 = .ok (.iconst 1, 1) := by decide +kernel
theorem d_X12_afternoon_136 : decode prog_14_method_23_code 136 = .ok (.iadd, 1) := by decide +kernel
theorem d_X12_afternoon_137 : decode prog_14_method_23_code 137 = .ok (.putfield 48, 3) := by decide +kernel
theorem d_X12_afternoon_140 : decode prog_14_method_23_code 140 = .ok (.aload_n 0, 1) := by decide +kernel
theorem d_X12_afternoon_141 : decode prog_14_method_23_code 141 = .ok (.invokevirtual 126, 3) := by decide +kernel
theorem d_X12_afternoon_144 : decode prog_14_method_23_code 144 = .ok (.iinc 1 1, 3) := by decide +kernel
theorem d_X12_afternoon_147 : decode prog_14_method_23_code 147 = .ok (.goto (-39), 3) := by decide +kernel
theorem d_X12_afternoon_150 : decode prog_14_method_23_code 150 = .ok (.aload_n 0, 1) := by decide +kernel
theorem d_X12_afternoon_151 : decode prog_14_method_23_code 151 = .ok (.getfield 54, 3) := by decide +kernel
theorem d_X12_afternoon_154 : decode prog_14_method_23_code 154 = .ok (.ifCond .ne 14, 3) := by decide +kernel
theorem d_X12_afternoon_157 : decode prog_14_method_23_code 157 = .ok (.aload_n 0, 1) := by decide +kernel
theorem d_X12_afternoon_158 : decode prog_14_method_23_code 158 = .ok (.getfield 48, 3) := by decide +kernel
theorem d_X12_afternoon_161 : decode prog_14_method_23_code 161 = .ok (.aload_n 0, 1) := by decide +kernel
theorem d_X12_afternoon_162 : decode prog_14_method_23_code 162 = .ok (.getfield 51, 3) := by decide +kernel
theorem d_X12_afternoon_165 : decode prog_14_method_23_code 165 = .ok (.if_icmp .eq 11, 3) := by decide +kernel
theorem d_X12_afternoon_168 : decode prog_14_method_23_code 168 = .ok (.bipush (-10), 2) := by decide +kernel
theorem d_X12_afternoon_170 : decode prog_14_method_23_code 170 = .ok (.aload_n 0, 1) := by decide +kernel
theorem d_X12_afternoon_171 : decode prog_14_method_23_code 171 = .ok (.getfield 48, 3) := by decide +kernel
theorem d_X12_afternoon_174 : decode prog_14_method_23_code 174 = .ok (.isub, 1) := by decide +kernel
theorem d_X12_afternoon_175 : decode prog_14_method_23_code 175 = .ok (.ireturn, 1) := by decide +kernel
theorem d_X12_afternoon_176 : decode prog_14_method_23_code 176 = .ok (.aload_n 0, 1) := by decide +kernel
theorem d_X12_afternoon_177 : decode prog_14_method_23_code 177 = .ok (.getfield 9, 3) := by decide +kernel
theorem d_X12_afternoon_180 : decode prog_14_method_23_code 180 = .ok (.bipush 27, 2) := by decide +kernel
theorem d_X12_afternoon_182 : decode prog_14_method_23_code 182 = .ok (.dup2, 1) := by decide +kernel
theorem d_X12_afternoon_183 : decode prog_14_method_23_code 183 = .ok (.iaload, 1) := by decide +kernel
theorem d_X12_afternoon_184 : decode prog_14_method_23_code 184 = .ok (.iconst 1, 1) := by decide +kernel
theorem d_X12_afternoon_185 : decode prog_14_method_23_code 185 = .ok (.iadd, 1) := by decide +kernel
theorem d_X12_afternoon_186 : decode prog_14_method_23_code 186 = .ok (.iastore, 1) := by decide +kernel
theorem d_X12_afternoon_187 : decode prog_14_method_23_code 187 = .ok (.aload_n 0, 1) := by decide +kernel
theorem d_X12_afternoon_188 : decode prog_14_method_23_code 188 = .ok (.getfield 9, 3) := by decide +kernel
theorem d_X12_afternoon_191 : decode prog_14_method_23_code 191 = .ok (.bipush 32, 2) := by decide +kernel
theorem d_X12_afternoon_193 : decode prog_14_method_23_code 193 = .ok (.aload_n 0, 1) := by decide +kernel
theorem d_X12_afternoon_194 : decode prog_14_method_23_code 194 = .ok (.getfield 75, 3) := by decide +kernel
theorem d_X12_afternoon_197 : decode prog_14_method_23_code 197 = .ok (.iastore, 1) := by decide +kernel
theorem d_X12_afternoon_198 : decode prog_14_method_23_code 198 = .ok (.aload_n 0, 1) := by decide +kernel
theorem d_X12_afternoon_199 : decode prog_14_method_23_code 199 = .ok (.getfield 75, 3) := by decide +kernel
theorem d_X12_afternoon_202 : decode prog_14_method_23_code 202 = .ok (.ireturn, 1) := by decide +kernel
def f_X12_afternoon (a0 : Nat) (μ : gm_M) : Option (Option Value × gm_M) := gm_gR μ [17] a0 1 (fun v1 => gm_aI μ v1 (27 : Int32) (fun v2 => if v2 ≠ (5 : Int32) then gm_gR μ [17] a0 1 (fun v3 => gm_aI μ v3 (27 : Int32) (fun v4 => gm_pI μ [17] a0 5 v4 (fun m5 => gm_gR m5 [17] a0 1 (fun v6 => gm_aI m5 v6 (31 : Int32) (fun v7 => gm_pI m5 [17] a0 7 v7 (fun m8 => gm_gR m8 [17] a0 1 (fun v9 => gm_sI m8 v9 (31 : Int32) (0 : Int32) (fun m10 => gm_gR m10 [17] a0 1 (fun v11 => gm_gI m10 [17] a0 5 (fun v12 => gm_sI m10 v11 ((210 : Int32) + v12) (0 : Int32) (fun m13 => gm_gR m13 [17] a0 1 (fun v14 => gm_gI m13 [17] a0 5 (fun v15 => gm_sI m13 v14 ((215 : Int32) + v15) (20 : Int32) (fun m16 => gm_gR m16 [17] a0 1 (fun v17 => gm_gI m16 [17] a0 5 (fun v18 => gm_sI m16 v17 ((220 : Int32) + v18) (0 : Int32) (fun m19 => gm_pI m19 [17] a0 6 (0 : Int32) (fun m20 => gm_pZ m20 [17] a0 8 (0 : Int32) (fun m21 => gm_pI m21 [17] a0 9 (0 : Int32) (fun m22 => if gm_tag m22 a0 = 17 then gm_bV (f_X12_clauseHere a0 m22) (fun m23 => gm_loop (fun (s25 : Int32 × gm_M) => gm_gI s25.2 [17] a0 8 (fun v26 => gm_j (fun (s27 : gm_M) => gm_gI s27 [17] a0 8 (fun v29 => gm_j (fun (s30 : Unit) => gm_gI s27 [17] a0 6 (fun v32 => some (Sum.inr (some (.int ((-10 : Int32) - v32)), s27)))) (fun j31 => if v29 ≠ 0 then j31 () else gm_gI s27 [17] a0 6 (fun v33 => gm_gI s27 [17] a0 7 (fun v34 => if v33 = v34 then gm_gR s27 [17] a0 1 (fun v35 => gm_aI s27 v35 (27 : Int32) (fun v36 => gm_sI s27 v35 (27 : Int32) (v36 + (1 : Int32)) (fun m37 => gm_gR m37 [17] a0 1 (fun v38 => gm_gI m37 [17] a0 5 (fun v39 => gm_sI m37 v38 (32 : Int32) v39 (fun m40 => gm_gI m40 [17] a0 5 (fun v41 => some (Sum.inr (some (.int v41), m40))))))))) else j31 ()))))) (fun j28 => if v26 ≠ 0 then j28 s25.2 else if (10 : Int32) ≤ s25.1 then j28 s25.2 else if gm_tag s25.2 a0 = 17 then gm_bI (f_X12_here a0 s25.2) (fun x43 m42 => if x43 ≠ (59 : Int32) then j28 m42 else gm_gI m42 [17] a0 6 (fun v44 => gm_pI m42 [17] a0 6 (v44 + (1 : Int32)) (fun m45 => if gm_tag m45 a0 = 17 then gm_bV (f_X12_clauseHere a0 m45) (fun m46 => some (Sum.inl ((s25.1 + (1 : Int32)), m46))) else none))) else none))) 5000 ((1 : Int32), m23)) else none)))))))))))))))))))) else some (some (.int (-4 : Int32)), μ)))
set_option maxHeartbeats 4000000 in
theorem c_X12_afternoon (a0 : Nat) (μ : gm_M) : gm_Call ({ cls := "GumBubbleModel", name := "afternoon", desc := "()I" } : Jvm.MethodName) prog_14_method_23_code 2 (some .int) 4 0 0 [.ref a0] μ (f_X12_afternoon a0 μ) := by
  refine gm_start PN_12 (Nat.le_of_ble_eq_true rfl) (fun res μe => ?_)
  unfold f_X12_afternoon
  show gm_A "GumBubbleModel" (gm_nm "afternoon") _ _ _ _ _ _ _ _ _ 0 [(0, .ref a0)] [] _ _
  refine gm_aload_n d_X12_afternoon_0 rfl 0 rfl ?_
  refine gm_getR F_12_s gw_890 d_X12_afternoon_1 (fun v1 _ => ?_)
  refine gm_bipush (v := 27) d_X12_afternoon_4 (by decide) ?_
  refine gm_iald d_X12_afternoon_6 (fun v2 _ => ?_)
  refine gm_iconst (v := 5) d_X12_afternoon_7 (by decide) ?_
  refine gm_icmp_ne (tgt := 14) d_X12_afternoon_8 (by decide) (fun h8 => ?_) (fun h8 => ?_)
  ·
    refine gm_aload_n d_X12_afternoon_14 rfl 0 rfl ?_
    refine gm_aload_n d_X12_afternoon_15 rfl 0 rfl ?_
    refine gm_getR F_12_s gw_890 d_X12_afternoon_16 (fun v3 _ => ?_)
    refine gm_bipush (v := 27) d_X12_afternoon_19 (by decide) ?_
    refine gm_iald d_X12_afternoon_21 (fun v4 _ => ?_)
    refine gm_putI F_12_act (Or.inl rfl) gw_894 d_X12_afternoon_22 (fun m5 _ => ?_)
    refine gm_aload_n d_X12_afternoon_25 rfl 0 rfl ?_
    refine gm_aload_n d_X12_afternoon_26 rfl 0 rfl ?_
    refine gm_getR F_12_s gw_890 d_X12_afternoon_27 (fun v6 _ => ?_)
    refine gm_bipush (v := 31) d_X12_afternoon_30 (by decide) ?_
    refine gm_iald d_X12_afternoon_32 (fun v7 _ => ?_)
    refine gm_putI F_12_end (Or.inl rfl) gw_896 d_X12_afternoon_33 (fun m8 _ => ?_)
    refine gm_aload_n d_X12_afternoon_36 rfl 0 rfl ?_
    refine gm_getR F_12_s gw_890 d_X12_afternoon_37 (fun v9 _ => ?_)
    refine gm_bipush (v := 31) d_X12_afternoon_40 (by decide) ?_
    refine gm_iconst (v := 0) d_X12_afternoon_42 (by decide) ?_
    refine gm_iast d_X12_afternoon_43 (fun m10 _ => ?_)
    refine gm_aload_n d_X12_afternoon_44 rfl 0 rfl ?_
    refine gm_getR F_12_s gw_890 d_X12_afternoon_45 (fun v11 _ => ?_)
    refine gm_sipush (v := 210) d_X12_afternoon_48 (by decide) ?_
    refine gm_aload_n d_X12_afternoon_51 rfl 0 rfl ?_
    refine gm_getI F_12_act gw_894 d_X12_afternoon_52 (fun v12 _ => ?_)
    refine gm_iadd d_X12_afternoon_55 ?_
    refine gm_iconst (v := 0) d_X12_afternoon_56 (by decide) ?_
    refine gm_iast d_X12_afternoon_57 (fun m13 _ => ?_)
    refine gm_aload_n d_X12_afternoon_58 rfl 0 rfl ?_
    refine gm_getR F_12_s gw_890 d_X12_afternoon_59 (fun v14 _ => ?_)
    refine gm_sipush (v := 215) d_X12_afternoon_62 (by decide) ?_
    refine gm_aload_n d_X12_afternoon_65 rfl 0 rfl ?_
    refine gm_getI F_12_act gw_894 d_X12_afternoon_66 (fun v15 _ => ?_)
    refine gm_iadd d_X12_afternoon_69 ?_
    refine gm_bipush (v := 20) d_X12_afternoon_70 (by decide) ?_
    refine gm_iast d_X12_afternoon_72 (fun m16 _ => ?_)
    refine gm_aload_n d_X12_afternoon_73 rfl 0 rfl ?_
    refine gm_getR F_12_s gw_890 d_X12_afternoon_74 (fun v17 _ => ?_)
    refine gm_sipush (v := 220) d_X12_afternoon_77 (by decide) ?_
    refine gm_aload_n d_X12_afternoon_80 rfl 0 rfl ?_
    refine gm_getI F_12_act gw_894 d_X12_afternoon_81 (fun v18 _ => ?_)
    refine gm_iadd d_X12_afternoon_84 ?_
    refine gm_iconst (v := 0) d_X12_afternoon_85 (by decide) ?_
    refine gm_iast d_X12_afternoon_86 (fun m19 _ => ?_)
    refine gm_aload_n d_X12_afternoon_87 rfl 0 rfl ?_
    refine gm_iconst (v := 0) d_X12_afternoon_88 (by decide) ?_
    refine gm_putI F_12_spot (Or.inl rfl) gw_895 d_X12_afternoon_89 (fun m20 _ => ?_)
    refine gm_aload_n d_X12_afternoon_92 rfl 0 rfl ?_
    refine gm_iconst (v := 0) d_X12_afternoon_93 (by decide) ?_
    refine gm_putZ F_12_isWrong (Or.inl rfl) gw_897 d_X12_afternoon_94 (fun m21 _ => ?_)
    refine gm_aload_n d_X12_afternoon_97 rfl 0 rfl ?_
    refine gm_iconst (v := 0) d_X12_afternoon_98 (by decide) ?_
    refine gm_putI F_12_open (Or.inl rfl) gw_898 d_X12_afternoon_99 (fun m22 _ => ?_)
    refine gm_iconst (v := 1) d_X12_afternoon_102 (by decide) ?_
    refine gm_istore_n (L' := [(1, .int (1 : Int32)), (0, .ref a0)]) d_X12_afternoon_103 rfl (Nat.le_of_ble_eq_true rfl) rfl ?_
    refine gm_aload_n d_X12_afternoon_104 rfl 1 rfl ?_
    refine gm_grd (fun g105 => ?_)
    refine gm_callV (k0 := 12) [] (c_X12_clauseHere a0 m22) g105 rfl B_X12_clauseHere gw_971 gs_25 rfl rfl rfl d_X12_afternoon_105 (gm_kV (fun m23 => ?_))
    refine gm_sub (L' := [(0, .ref a0), (1, .int (1 : Int32))]) [1, 0] rfl ?_
    refine gm_lp (S := Int32 × gm_M) (fun _ => 0) (fun _ => 0) (fun s25 => s25.2) (fun s25 => [(0, .ref a0), (1, .int s25.1)]) (fun _ => []) (fun s25 => ?_) 5000 ((1 : Int32), m23)
    refine gm_aload_n d_X12_afternoon_108 rfl 0 rfl ?_
    refine gm_getI F_12_isWrong gw_897 d_X12_afternoon_109 (fun v26 _ => ?_)
    refine gm_join (S := gm_M) (pj := 150) (kj := 0) (nj := 0) (fun s27 => s27) (fun s27 => [(0, .ref a0), (1, .int s25.1)]) (fun s27 => []) (fun s27 => ?_) (fun j28 hj28 => ?_)
    ·
      refine gm_aload_n d_X12_afternoon_150 rfl 0 rfl ?_
      refine gm_getI F_12_isWrong gw_897 d_X12_afternoon_151 (fun v29 _ => ?_)
      refine gm_join (S := Unit) (pj := 168) (kj := 0) (nj := 0) (fun s30 => s27) (fun s30 => [(0, .ref a0), (1, .int s25.1)]) (fun s30 => []) (fun s30 => ?_) (fun j31 hj31 => ?_)
      ·
        refine gm_bipush (v := -10) d_X12_afternoon_168 (by decide) ?_
        refine gm_aload_n d_X12_afternoon_170 rfl 0 rfl ?_
        refine gm_getI F_12_spot gw_895 d_X12_afternoon_171 (fun v32 _ => ?_)
        refine gm_isub d_X12_afternoon_174 ?_
        exact gm_iret rfl d_X12_afternoon_175 (Nat.le_of_ble_eq_true rfl) (Nat.le_of_ble_eq_true rfl) (fun h => h)
      ·
        refine gm_if_ne (tgt := 168) d_X12_afternoon_154 (by decide) (fun h154 => ?_) (fun h154 => ?_)
        ·
          exact hj31 ()
        ·
          refine gm_aload_n d_X12_afternoon_157 rfl 0 rfl ?_
          refine gm_getI F_12_spot gw_895 d_X12_afternoon_158 (fun v33 _ => ?_)
          refine gm_aload_n d_X12_afternoon_161 rfl 0 rfl ?_
          refine gm_getI F_12_end gw_896 d_X12_afternoon_162 (fun v34 _ => ?_)
          refine gm_icmp_eq (tgt := 176) d_X12_afternoon_165 (by decide) (fun h165 => ?_) (fun h165 => ?_)
          ·
            refine gm_aload_n d_X12_afternoon_176 rfl 0 rfl ?_
            refine gm_getR F_12_s gw_890 d_X12_afternoon_177 (fun v35 _ => ?_)
            refine gm_bipush (v := 27) d_X12_afternoon_180 (by decide) ?_
            refine gm_dup2 d_X12_afternoon_182 rfl rfl ?_
            refine gm_iald d_X12_afternoon_183 (fun v36 _ => ?_)
            refine gm_iconst (v := 1) d_X12_afternoon_184 (by decide) ?_
            refine gm_iadd d_X12_afternoon_185 ?_
            refine gm_iast d_X12_afternoon_186 (fun m37 _ => ?_)
            refine gm_aload_n d_X12_afternoon_187 rfl 0 rfl ?_
            refine gm_getR F_12_s gw_890 d_X12_afternoon_188 (fun v38 _ => ?_)
            refine gm_bipush (v := 32) d_X12_afternoon_191 (by decide) ?_
            refine gm_aload_n d_X12_afternoon_193 rfl 0 rfl ?_
            refine gm_getI F_12_act gw_894 d_X12_afternoon_194 (fun v39 _ => ?_)
            refine gm_iast d_X12_afternoon_197 (fun m40 _ => ?_)
            refine gm_aload_n d_X12_afternoon_198 rfl 0 rfl ?_
            refine gm_getI F_12_act gw_894 d_X12_afternoon_199 (fun v41 _ => ?_)
            exact gm_iret rfl d_X12_afternoon_202 (Nat.le_of_ble_eq_true rfl) (Nat.le_of_ble_eq_true rfl) (fun h => h)
          ·
            exact hj31 ()
    ·
      refine gm_if_ne (tgt := 150) d_X12_afternoon_112 (by decide) (fun h112 => ?_) (fun h112 => ?_)
      ·
        exact hj28 s25.2
      ·
        refine gm_iload_n d_X12_afternoon_115 rfl 1 rfl ?_
        refine gm_bipush (v := 10) d_X12_afternoon_116 (by decide) ?_
        refine gm_icmp_ge (tgt := 150) d_X12_afternoon_118 (by decide) (fun h118 => ?_) (fun h118 => ?_)
        ·
          exact hj28 s25.2
        ·
          refine gm_aload_n d_X12_afternoon_121 rfl 0 rfl ?_
          refine gm_grd (fun g122 => ?_)
          refine gm_callV (k0 := 12) [] (c_X12_here a0 s25.2) g122 rfl B_X12_here gw_975 gs_26 rfl rfl rfl d_X12_afternoon_122 (gm_kI (fun x43 m42 => ?_))
          refine gm_bipush (v := 59) d_X12_afternoon_125 (by decide) ?_
          refine gm_icmp_ne (tgt := 150) d_X12_afternoon_127 (by decide) (fun h127 => ?_) (fun h127 => ?_)
          ·
            exact hj28 m42
          ·
            refine gm_aload_n d_X12_afternoon_130 rfl 0 rfl ?_
            refine gm_dup d_X12_afternoon_131 rfl ?_
            refine gm_getI F_12_spot gw_895 d_X12_afternoon_132 (fun v44 _ => ?_)
            refine gm_iconst (v := 1) d_X12_afternoon_135 (by decide) ?_
            refine gm_iadd d_X12_afternoon_136 ?_
            refine gm_putI F_12_spot (Or.inl rfl) gw_895 d_X12_afternoon_137 (fun m45 _ => ?_)
            refine gm_aload_n d_X12_afternoon_140 rfl 0 rfl ?_
            refine gm_grd (fun g141 => ?_)
            refine gm_callV (k0 := 12) [] (c_X12_clauseHere a0 m45) g141 rfl B_X12_clauseHere gw_971 gs_25 rfl rfl rfl d_X12_afternoon_141 (gm_kV (fun m46 => ?_))
            refine gm_iinc (v := s25.1 + (1 : Int32)) (L' := [(1, .int (s25.1 + (1 : Int32))), (0, .ref a0)]) d_X12_afternoon_144 1 rfl rfl (Nat.le_of_ble_eq_true rfl) rfl ?_
            refine gm_goto (tgt := 108) d_X12_afternoon_147 (by decide) ?_
            refine gm_sub (L' := [(0, .ref a0), (1, .int (s25.1 + (1 : Int32)))]) [1, 0] rfl ?_
            exact gm_back (fun h => h)
  ·
    refine gm_bipush (v := -4) d_X12_afternoon_11 (by decide) ?_
    exact gm_iret rfl d_X12_afternoon_13 (Nat.le_of_ble_eq_true rfl) (Nat.le_of_ble_eq_true rfl) (fun h => h)
theorem d_X12_tellsOf_0 : decode prog_14_method_24_code 0 = .ok (.aload_n 0, 1) := by decide +kernel
theorem d_X12_tellsOf_1 : decode prog_14_method_24_code 1 = .ok (.getfield 9, 3) := by decide +kernel
theorem d_X12_tellsOf_4 : decode prog_14_method_24_code 4 = .ok (.bipush 32, 2) := by decide +kernel
theorem d_X12_tellsOf_6 : decode prog_14_method_24_code 6 = .ok (.iaload, 1) := by decide +kernel
theorem d_X12_tellsOf_7 : decode prog_14_method_24_code 7 = .ok (.iconst (-1), 1) := by decide +kernel
theorem d_X12_tellsOf_8 : decode prog_14_method_24_code 8 = .ok (.if_icmp .ne 7, 3) := by decide +kernel
theorem d_X12_tellsOf_11 : decode prog_14_method_24_code 11 = .ok (.iload_n 2, 1) := by decide +kernel
theorem d_X12_tellsOf_12 : decode prog_14_method_24_code 12 = .ok (.goto 17, 3) := by decide +kernel
theorem d_X12_tellsOf_15 : decode prog_14_method_24_code 15 = .ok (.aload_n 0, 1) := by decide +kernel
theorem d_X12_tellsOf_16 : decode prog_14_method_24_code 16 = .ok (.getfield 9, 3) := by decide +kernel
theorem d_X12_tellsOf_19 : decode prog_14_method_24_code 19 = .ok (.iload_n 1, 1) := by decide +kernel
theorem d_X12_tellsOf_20 : decode prog_14_method_24_code 20 = .ok (.aload_n 0, 1) := by decide +kernel
theorem d_X12_tellsOf_21 : decode prog_14_method_24_code 21 = .ok (.getfield 9, 3) := by decide +kernel
theorem d_X12_tellsOf_24 : decode prog_14_method_24_code 24 = .ok (.bipush 32, 2) := by decide +kernel
theorem d_X12_tellsOf_26 : decode prog_14_method_24_code 26 = .ok (.iaload, 1) := by decide +kernel
theorem d_X12_tellsOf_27 : decode prog_14_method_24_code 27 = .ok (.iadd, 1) := by decide +kernel
theorem d_X12_tellsOf_28 : decode prog_14_method_24_code 28 = .ok (.iaload, 1) := by decide +kernel
theorem d_X12_tellsOf_29 : decode prog_14_method_24_code 29 = .ok (.ireturn, 1) := by decide +kernel
def f_X12_tellsOf (a0 : Nat) (a1 : Int32) (a2 : Int32) (μ : gm_M) : Option (Option Value × gm_M) := gm_gR μ [17] a0 1 (fun v1 => gm_aI μ v1 (32 : Int32) (fun v2 => if v2 ≠ (-1 : Int32) then gm_gR μ [17] a0 1 (fun v3 => gm_gR μ [17] a0 1 (fun v4 => gm_aI μ v4 (32 : Int32) (fun v5 => gm_aI μ v3 (a1 + v5) (fun v6 => some (some (.int v6), μ))))) else some (some (.int a2), μ)))
set_option maxHeartbeats 4000000 in
theorem c_X12_tellsOf (a0 : Nat) (a1 : Int32) (a2 : Int32) (μ : gm_M) : gm_Call ({ cls := "GumBubbleModel", name := "tellsOf", desc := "(II)I" } : Jvm.MethodName) prog_14_method_24_code 3 (some .int) 0 0 0 [.ref a0, .int a1, .int a2] μ (f_X12_tellsOf a0 a1 a2 μ) := by
  refine gm_start PN_12 (Nat.le_of_ble_eq_true rfl) (fun res μe => ?_)
  unfold f_X12_tellsOf
  show gm_A "GumBubbleModel" (gm_nm "tellsOf") _ _ _ _ _ _ _ _ _ 0 [(0, .ref a0), (1, .int a1), (2, .int a2)] [] _ _
  refine gm_aload_n d_X12_tellsOf_0 rfl 0 rfl ?_
  refine gm_getR F_12_s gw_890 d_X12_tellsOf_1 (fun v1 _ => ?_)
  refine gm_bipush (v := 32) d_X12_tellsOf_4 (by decide) ?_
  refine gm_iald d_X12_tellsOf_6 (fun v2 _ => ?_)
  refine gm_iconst (v := -1) d_X12_tellsOf_7 (by decide) ?_
  refine gm_icmp_ne (tgt := 15) d_X12_tellsOf_8 (by decide) (fun h8 => ?_) (fun h8 => ?_)
  ·
    refine gm_aload_n d_X12_tellsOf_15 rfl 0 rfl ?_
    refine gm_getR F_12_s gw_890 d_X12_tellsOf_16 (fun v3 _ => ?_)
    refine gm_iload_n d_X12_tellsOf_19 rfl 1 rfl ?_
    refine gm_aload_n d_X12_tellsOf_20 rfl 0 rfl ?_
    refine gm_getR F_12_s gw_890 d_X12_tellsOf_21 (fun v4 _ => ?_)
    refine gm_bipush (v := 32) d_X12_tellsOf_24 (by decide) ?_
    refine gm_iald d_X12_tellsOf_26 (fun v5 _ => ?_)
    refine gm_iadd d_X12_tellsOf_27 ?_
    refine gm_iald d_X12_tellsOf_28 (fun v6 _ => ?_)
    exact gm_iret rfl d_X12_tellsOf_29 (Nat.le_of_ble_eq_true rfl) (Nat.le_of_ble_eq_true rfl) (fun h => h)
  ·
    refine gm_iload_n d_X12_tellsOf_11 rfl 2 rfl ?_
    refine gm_goto (tgt := 29) d_X12_tellsOf_12 (by decide) ?_
    exact gm_iret rfl d_X12_tellsOf_29 (Nat.le_of_ble_eq_true rfl) (Nat.le_of_ble_eq_true rfl) (fun h => h)
theorem d_X12_looks_0 : decode prog_14_method_26_code 0 = .ok (.aload_n 0, 1) := by decide +kernel
theorem d_X12_looks_1 : decode prog_14_method_26_code 1 = .ok (.getfield 21, 3) := by decide +kernel
theorem d_X12_looks_4 : decode prog_14_method_26_code 4 = .ok (.iconst 0, 1) := by decide +kernel
theorem d_X12_looks_5 : decode prog_14_method_26_code 5 = .ok (.iload_n 1, 1) := by decide +kernel
theorem d_X12_looks_6 : decode prog_14_method_26_code 6 = .ok (.iastore, 1) := by decide +kernel
theorem d_X12_looks_7 : decode prog_14_method_26_code 7 = .ok (.aload_n 0, 1) := by decide +kernel
theorem d_X12_looks_8 : decode prog_14_method_26_code 8 = .ok (.getfield 21, 3) := by decide +kernel
theorem d_X12_looks_11 : decode prog_14_method_26_code 11 = .ok (.iconst 1, 1) := by decide +kernel
theorem d_X12_looks_12 : decode prog_14_method_26_code 12 = .ok (.aload_n 0, 1) := by decide +kernel
theorem d_X12_looks_13 : decode prog_14_method_26_code 13 = .ok (.getfield 9, 3) := by decide +kernel
theorem d_X12_looks_16 : decode prog_14_method_26_code 16 = .ok (.bipush 33, 2) := by decide +kernel
theorem d_X12_looks_18 : decode prog_14_method_26_code 18 = .ok (.iload_n 1, 1) := by decide +kernel
theorem d_X12_looks_19 : decode prog_14_method_26_code 19 = .ok (.iadd, 1) := by decide +kernel
theorem d_X12_looks_20 : decode prog_14_method_26_code 20 = .ok (.iaload, 1) := by decide +kernel
theorem d_X12_looks_21 : decode prog_14_method_26_code 21 = .ok (.iastore, 1) := by decide +kernel
theorem d_X12_looks_22 : decode prog_14_method_26_code 22 = .ok (.aload_n 0, 1) := by decide +kernel
theorem d_X12_looks_23 : decode prog_14_method_26_code 23 = .ok (.getfield 21, 3) := by decide +kernel
theorem d_X12_looks_26 : decode prog_14_method_26_code 26 = .ok (.iconst 2, 1) := by decide +kernel
theorem d_X12_looks_27 : decode prog_14_method_26_code 27 = .ok (.aload_n 0, 1) := by decide +kernel
theorem d_X12_looks_28 : decode prog_14_method_26_code 28 = .ok (.getfield 9, 3) := by decide +kernel
theorem d_X12_looks_31 : decode prog_14_method_26_code 31 = .ok (.bipush 38, 2) := by decide +kernel
theorem d_X12_looks_33 : decode prog_14_method_26_code 33 = .ok (.iload_n 1, 1) := by decide +kernel
theorem d_X12_looks_34 : decode prog_14_method_26_code 34 = .ok (.iadd, 1) := by decide +kernel
theorem d_X12_looks_35 : decode prog_14_method_26_code 35 = .ok (.iaload, 1) := by decide +kernel
theorem d_X12_looks_36 : decode prog_14_method_26_code 36 = .ok (.iastore, 1) := by decide +kernel
theorem d_X12_looks_37 : decode prog_14_method_26_code 37 = .ok (.aload_n 0, 1) := by decide +kernel
theorem d_X12_looks_38 : decode prog_14_method_26_code 38 = .ok (.getfield 21, 3) := by decide +kernel
theorem d_X12_looks_41 : decode prog_14_method_26_code 41 = .ok (.iconst 3, 1) := by decide +kernel
theorem d_X12_looks_42 : decode prog_14_method_26_code 42 = .ok (.aload_n 0, 1) := by decide +kernel
theorem d_X12_looks_43 : decode prog_14_method_26_code 43 = .ok (.getfield 9, 3) := by decide +kernel
theorem d_X12_looks_46 : decode prog_14_method_26_code 46 = .ok (.iconst 1, 1) := by decide +kernel
theorem d_X12_looks_47 : decode prog_14_method_26_code 47 = .ok (.iload_n 1, 1) := by decide +kernel
theorem d_X12_looks_48 : decode prog_14_method_26_code 48 = .ok (.iadd, 1) := by decide +kernel
theorem d_X12_looks_49 : decode prog_14_method_26_code 49 = .ok (.iaload, 1) := by decide +kernel
theorem d_X12_looks_50 : decode prog_14_method_26_code 50 = .ok (.iastore, 1) := by decide +kernel
theorem d_X12_looks_51 : decode prog_14_method_26_code 51 = .ok (.aload_n 0, 1) := by decide +kernel
theorem d_X12_looks_52 : decode prog_14_method_26_code 52 = .ok (.getfield 21, 3) := by decide +kernel
theorem d_X12_looks_55 : decode prog_14_method_26_code 55 = .ok (.iconst 4, 1) := by decide +kernel
theorem d_X12_looks_56 : decode prog_14_method_26_code 56 = .ok (.aload_n 0, 1) := by decide +kernel
theorem d_X12_looks_57 : decode prog_14_method_26_code 57 = .ok (.getfield 9, 3) := by decide +kernel
theorem d_X12_looks_60 : decode prog_14_method_26_code 60 = .ok (.bipush 6, 2) := by decide +kernel
theorem d_X12_looks_62 : decode prog_14_method_26_code 62 = .ok (.iload_n 1, 1) := by decide +kernel
theorem d_X12_looks_63 : decode prog_14_method_26_code 63 = .ok (.iadd, 1) := by decide +kernel
theorem d_X12_looks_64 : decode prog_14_method_26_code 64 = .ok (.iaload, 1) := by decide +kernel
theorem d_X12_looks_65 : decode prog_14_method_26_code 65 = .ok (.bipush 10, 2) := by decide +kernel
theorem d_X12_looks_67 : decode prog_14_method_26_code 67 = .ok (.idiv, 1) := by decide +kernel
theorem d_X12_looks_68 : decode prog_14_method_26_code 68 = .ok (.iastore, 1) := by decide +kernel
theorem d_X12_looks_69 : decode prog_14_method_26_code 69 = .ok (.aload_n 0, 1) := by decide +kernel
theorem d_X12_looks_70 : decode prog_14_method_26_code 70 = .ok (.getfield 21, 3) := by decide +kernel
theorem d_X12_looks_73 : decode prog_14_method_26_code 73 = .ok (.iconst 5, 1) := by decide +kernel
theorem d_X12_looks_74 : decode prog_14_method_26_code 74 = .ok (.aload_n 0, 1) := by decide +kernel
theorem d_X12_looks_75 : decode prog_14_method_26_code 75 = .ok (.getfield 9, 3) := by decide +kernel
theorem d_X12_looks_78 : decode prog_14_method_26_code 78 = .ok (.iconst 0, 1) := by decide +kernel
theorem d_X12_looks_79 : decode prog_14_method_26_code 79 = .ok (.iaload, 1) := by decide +kernel
theorem d_X12_looks_80 : decode prog_14_method_26_code 80 = .ok (.bipush 10, 2) := by decide +kernel
theorem d_X12_looks_82 : decode prog_14_method_26_code 82 = .ok (.irem, 1) := by decide +kernel
theorem d_X12_looks_83 : decode prog_14_method_26_code 83 = .ok (.iastore, 1) := by decide +kernel
theorem d_X12_looks_84 : decode prog_14_method_26_code 84 = .ok (.iconst 0, 1) := by decide +kernel
theorem d_X12_looks_85 : decode prog_14_method_26_code 85 = .ok (.istore_n 2, 1) := by decide +kernel
theorem d_X12_looks_86 : decode prog_14_method_26_code 86 = .ok (.aload_n 0, 1) := by decide +kernel
theorem d_X12_looks_87 : decode prog_14_method_26_code 87 = .ok (.sipush 220, 3) := by decide +kernel
theorem d_X12_looks_90 : decode prog_14_method_26_code 90 = .ok (.iconst 0, 1) := by decide +kernel
theorem d_X12_looks_91 : decode prog_14_method_26_code 91 = .ok (.invokevirtual 129, 3) := by decide +kernel
theorem d_X12_looks_94 : decode prog_14_method_26_code 94 = .ok (.istore_n 3, 1) := by decide +kernel
theorem d_X12_looks_95 : decode prog_14_method_26_code 95 = .ok (.sipush 225, 3) := by decide +kernel
theorem d_X12_looks_98 : decode prog_14_method_26_code 98 = .ok (.sipush 140, 3) := by decide +kernel
theorem d_X12_looks_101 : decode prog_14_method_26_code 101 = .ok (.aload_n 0, 1) := by decide +kernel
theorem d_X12_looks_102 : decode prog_14_method_26_code 102 = .ok (.getfield 9, 3) := by decide +kernel
theorem d_X12_looks_105 : decode prog_14_method_26_code 105 = .ok (.bipush 32, 2) := by decide +kernel
theorem d_X12_looks_107 : decode prog_14_method_26_code 107 = .ok (.iaload, 1) := by decide +kernel
theorem d_X12_looks_108 : decode prog_14_method_26_code 108 = .ok (.imul, 1) := by decide +kernel
theorem d_X12_looks_109 : decode prog_14_method_26_code 109 = .ok (.iadd, 1) := by decide +kernel
theorem d_X12_looks_110 : decode prog_14_method_26_code 110 = .ok (.istore 4, 2) := by decide +kernel
theorem d_X12_looks_112 : decode prog_14_method_26_code 112 = .ok (.iconst 0, 1) := by decide +kernel
theorem d_X12_looks_113 : decode prog_14_method_26_code 113 = .ok (.istore 5, 2) := by decide +kernel
theorem d_X12_looks_115 : decode prog_14_method_26_code 115 = .ok (.iload 4, 2) := by decide +kernel
theorem d_X12_looks_117 : decode prog_14_method_26_code 117 = .ok (.istore 6, 2) := by decide +kernel
theorem d_X12_looks_119 : decode prog_14_method_26_code 119 = .ok (.iload 6, 2) := by decide +kernel
theorem d_X12_looks_121 : decode prog_14_method_26_code 121 = .ok (.iload 4, 2) := by decide +kernel
theorem d_X12_looks_123 : decode prog_14_method_26_code 123 = .ok (.iload_n 3, 1) := by decide +kernel
theorem d_X12_looks_124 : decode prog_14_method_26_code 124 = .ok (.iadd, 1) := by decide +kernel
theorem d_X12_looks_125 : decode prog_14_method_26_code 125 = .ok (.if_icmp .ge 300, 3) := by decide +kernel
theorem d_X12_looks_128 : decode prog_14_method_26_code 128 = .ok (.aload_n 0, 1) := by decide +kernel
theorem d_X12_looks_129 : decode prog_14_method_26_code 129 = .ok (.getfield 9, 3) := by decide +kernel
theorem d_X12_looks_132 : decode prog_14_method_26_code 132 = .ok (.iload 6, 2) := by decide +kernel
theorem d_X12_looks_134 : decode prog_14_method_26_code 134 = .ok (.iaload, 1) := by decide +kernel
theorem d_X12_looks_135 : decode prog_14_method_26_code 135 = .ok (.istore 7, 2) := by decide +kernel
theorem d_X12_looks_137 : decode prog_14_method_26_code 137 = .ok (.iload 7, 2) := by decide +kernel
theorem d_X12_looks_139 : decode prog_14_method_26_code 139 = .ok (.ifCond .lt 97, 3) := by decide +kernel
theorem d_X12_looks_142 : decode prog_14_method_26_code 142 = .ok (.aload_n 0, 1) := by decide +kernel
theorem d_X12_looks_143 : decode prog_14_method_26_code 143 = .ok (.getfield 21, 3) := by decide +kernel
theorem d_X12_looks_146 : decode prog_14_method_26_code 146 = .ok (.iload 7, 2) := by decide +kernel
theorem d_X12_looks_148 : decode prog_14_method_26_code 148 = .ok (.bipush 8, 2) := by decide +kernel
theorem d_X12_looks_150 : decode prog_14_method_26_code 150 = .ok (.irem, 1) := by decide +kernel
theorem d_X12_looks_151 : decode prog_14_method_26_code 151 = .ok (.iaload, 1) := by decide +kernel
theorem d_X12_looks_152 : decode prog_14_method_26_code 152 = .ok (.istore 8, 2) := by decide +kernel
theorem d_X12_looks_154 : decode prog_14_method_26_code 154 = .ok (.iload 7, 2) := by decide +kernel
theorem d_X12_looks_156 : decode prog_14_method_26_code 156 = .ok (.bipush 8, 2) := by decide +kernel
theorem d_X12_looks_158 : decode prog_14_method_26_code 158 = .ok (.idiv, 1) := by decide +kernel
theorem d_X12_looks_159 : decode prog_14_method_26_code 159 = .ok (.iconst 4, 1) := by decide +kernel
theorem d_X12_looks_160 : decode prog_14_method_26_code 160 = .ok (.irem, 1) := by decide +kernel
theorem d_X12_looks_161 : decode prog_14_method_26_code 161 = .ok (.istore 9, 2) := by decide +kernel
theorem d_X12_looks_163 : decode prog_14_method_26_code 163 = .ok (.iload 7, 2) := by decide +kernel
theorem d_X12_looks_165 : decode prog_14_method_26_code 165 = .ok (.bipush 32, 2) := by decide +kernel
theorem d_X12_looks_167 : decode prog_14_method_26_code 167 = .ok (.idiv, 1) := by decide +kernel
theorem d_X12_looks_168 : decode prog_14_method_26_code 168 = .ok (.istore 10, 2) := by decide +kernel
theorem d_X12_looks_170 : decode prog_14_method_26_code 170 = .ok (.aload_n 0, 1) := by decide +kernel
theorem d_X12_looks_171 : decode prog_14_method_26_code 171 = .ok (.getfield 24, 3) := by decide +kernel
theorem d_X12_looks_174 : decode prog_14_method_26_code 174 = .ok (.iload 5, 2) := by decide +kernel
theorem d_X12_looks_176 : decode prog_14_method_26_code 176 = .ok (.iload 9, 2) := by decide +kernel
theorem d_X12_looks_178 : decode prog_14_method_26_code 178 = .ok (.ifCond .ne 18, 3) := by decide +kernel
theorem d_X12_looks_181 : decode prog_14_method_26_code 181 = .ok (.iload 8, 2) := by decide +kernel
theorem d_X12_looks_183 : decode prog_14_method_26_code 183 = .ok (.iload 10, 2) := by decide +kernel
theorem d_X12_looks_185 : decode prog_14_method_26_code 185 = .ok (.if_icmp .ge 7, 3) := by decide +kernel
theorem d_X12_looks_188 : decode prog_14_method_26_code 188 = .ok (.iconst 1, 1) := by decide +kernel
theorem d_X12_looks_189 : decode prog_14_method_26_code 189 = .ok (.goto 40, 3) := by decide +kernel
theorem d_X12_looks_192 : decode prog_14_method_26_code 192 = .ok (.iconst 0, 1) := by decide +kernel
theorem d_X12_looks_193 : decode prog_14_method_26_code 193 = .ok (.goto 36, 3) := by decide +kernel
theorem d_X12_looks_196 : decode prog_14_method_26_code 196 = .ok (.iload 9, 2) := by decide +kernel
theorem d_X12_looks_198 : decode prog_14_method_26_code 198 = .ok (.iconst 1, 1) := by decide +kernel
theorem d_X12_looks_199 : decode prog_14_method_26_code 199 = .ok (.if_icmp .ne 18, 3) := by decide +kernel
theorem d_X12_looks_202 : decode prog_14_method_26_code 202 = .ok (.iload 8, 2) := by decide +kernel
theorem d_X12_looks_204 : decode prog_14_method_26_code 204 = .ok (.iload 10, 2) := by decide +kernel
theorem d_X12_looks_206 : decode prog_14_method_26_code 206 = .ok (.if_icmp .ne 7, 3) := by decide +kernel
theorem d_X12_looks_209 : decode prog_14_method_26_code 209 = .ok (.iconst 1, 1) := by decide +kernel
theorem d_X12_looks_210 : decode prog_14_method_26_code 210 = .ok (.goto 19, 3) := by decide +kernel
theorem d_X12_looks_213 : decode prog_14_method_26_code 213 = .ok (.iconst 0, 1) := by decide +kernel
theorem d_X12_looks_214 : decode prog_14_method_26_code 214 = .ok (.goto 15, 3) := by decide +kernel
theorem d_X12_looks_217 : decode prog_14_method_26_code 217 = .ok (.iload 8, 2) := by decide +kernel
theorem d_X12_looks_219 : decode prog_14_method_26_code 219 = .ok (.iload 10, 2) := by decide +kernel
theorem d_X12_looks_221 : decode prog_14_method_26_code 221 = .ok (.if_icmp .le 7, 3) := by decide +kernel
theorem d_X12_looks_224 : decode prog_14_method_26_code 224 = .ok (.iconst 1, 1) := by decide +kernel
theorem d_X12_looks_225 : decode prog_14_method_26_code 225 = .ok (.goto 4, 3) := by decide +kernel
theorem d_X12_looks_228 : decode prog_14_method_26_code 228 = .ok (.iconst 0, 1) := by decide +kernel
theorem d_X12_looks_229 : decode prog_14_method_26_code 229 = .ok (.bastore, 1) := by decide +kernel
theorem d_X12_looks_230 : decode prog_14_method_26_code 230 = .ok (.iinc 5 1, 3) := by decide +kernel
theorem d_X12_looks_233 : decode prog_14_method_26_code 233 = .ok (.goto 186, 3) := by decide +kernel
theorem d_X12_looks_236 : decode prog_14_method_26_code 236 = .ok (.iload 7, 2) := by decide +kernel
theorem d_X12_looks_238 : decode prog_14_method_26_code 238 = .ok (.iconst (-1), 1) := by decide +kernel
theorem d_X12_looks_239 : decode prog_14_method_26_code 239 = .ok (.if_icmp .ne 32, 3) := by decide +kernel
theorem d_X12_looks_242 : decode prog_14_method_26_code 242 = .ok (.aload_n 0, 1) := by decide +kernel
theorem d_X12_looks_243 : decode prog_14_method_26_code 243 = .ok (.getfield 24, 3) := by decide +kernel
theorem d_X12_looks_246 : decode prog_14_method_26_code 246 = .ok (.iload 5, 2) := by decide +kernel
theorem d_X12_looks_248 : decode prog_14_method_26_code 248 = .ok (.iconst 1, 1) := by decide +kernel
theorem d_X12_looks_249 : decode prog_14_method_26_code 249 = .ok (.isub, 1) := by decide +kernel
theorem d_X12_looks_250 : decode prog_14_method_26_code 250 = .ok (.aload_n 0, 1) := by decide +kernel
theorem d_X12_looks_251 : decode prog_14_method_26_code 251 = .ok (.getfield 24, 3) := by decide +kernel
theorem d_X12_looks_254 : decode prog_14_method_26_code 254 = .ok (.iload 5, 2) := by decide +kernel
theorem d_X12_looks_256 : decode prog_14_method_26_code 256 = .ok (.iconst 1, 1) := by decide +kernel
theorem d_X12_looks_257 : decode prog_14_method_26_code 257 = .ok (.isub, 1) := by decide +kernel
theorem d_X12_looks_258 : decode prog_14_method_26_code 258 = .ok (.baload, 1) := by decide +kernel
theorem d_X12_looks_259 : decode prog_14_method_26_code 259 = .ok (.ifCond .ne 7, 3) := by decide +kernel
theorem d_X12_looks_262 : decode prog_14_method_26_code 262 = .ok (.iconst 1, 1) := by decide +kernel
theorem d_X12_looks_263 : decode prog_14_method_26_code 263 = .ok (.goto 4, 3) := by decide +kernel
theorem d_X12_looks_266 : decode prog_14_method_26_code 266 = .ok (.iconst 0, 1) := by decide +kernel
theorem d_X12_looks_267 : decode prog_14_method_26_code 267 = .ok (.bastore, 1) := by decide +kernel
theorem d_X12_looks_268 : decode prog_14_method_26_code 268 = .ok (.goto 151, 3) := by decide +kernel
theorem d_X12_looks_271 : decode prog_14_method_26_code 271 = .ok (.iload 7, 2) := by decide +kernel
theorem d_X12_looks_273 : decode prog_14_method_26_code 273 = .ok (.bipush (-10), 2) := by decide +kernel
theorem d_X12_looks_275 : decode prog_14_method_26_code 275 = .ok (.if_icmp .le 82, 3) := by decide +kernel
theorem d_X12_looks_278 : decode prog_14_method_26_code 278 = .ok (.iinc 5 (-1), 3) := by decide +kernel
theorem d_X12_looks_281 : decode prog_14_method_26_code 281 = .ok (.aload_n 0, 1) := by decide +kernel
theorem d_X12_looks_282 : decode prog_14_method_26_code 282 = .ok (.getfield 24, 3) := by decide +kernel
theorem d_X12_looks_285 : decode prog_14_method_26_code 285 = .ok (.iload 5, 2) := by decide +kernel
theorem d_X12_looks_287 : decode prog_14_method_26_code 287 = .ok (.iconst 1, 1) := by decide +kernel
theorem d_X12_looks_288 : decode prog_14_method_26_code 288 = .ok (.isub, 1) := by decide +kernel
theorem d_X12_looks_289 : decode prog_14_method_26_code 289 = .ok (.iload 7, 2) := by decide +kernel
theorem d_X12_looks_291 : decode prog_14_method_26_code 291 = .ok (.bipush (-2), 2) := by decide +kernel
theorem d_X12_looks_293 : decode prog_14_method_26_code 293 = .ok (.if_icmp .ne 33, 3) := by decide +kernel
theorem d_X12_looks_296 : decode prog_14_method_26_code 296 = .ok (.aload_n 0, 1) := by decide +kernel
theorem d_X12_looks_297 : decode prog_14_method_26_code 297 = .ok (.getfield 24, 3) := by decide +kernel
theorem d_X12_looks_300 : decode prog_14_method_26_code 300 = .ok (.iload 5, 2) := by decide +kernel
theorem d_X12_looks_302 : decode prog_14_method_26_code 302 = .ok (.iconst 1, 1) := by decide +kernel
theorem d_X12_looks_303 : decode prog_14_method_26_code 303 = .ok (.isub, 1) := by decide +kernel
theorem d_X12_looks_304 : decode prog_14_method_26_code 304 = .ok (.baload, 1) := by decide +kernel
theorem d_X12_looks_305 : decode prog_14_method_26_code 305 = .ok (.ifCond .eq 17, 3) := by decide +kernel
theorem d_X12_looks_308 : decode prog_14_method_26_code 308 = .ok (.aload_n 0, 1) := by decide +kernel
theorem d_X12_looks_309 : decode prog_14_method_26_code 309 = .ok (.getfield 24, 3) := by decide +kernel
theorem d_X12_looks_312 : decode prog_14_method_26_code 312 = .ok (.iload 5, 2) := by decide +kernel
theorem d_X12_looks_314 : decode prog_14_method_26_code 314 = .ok (.baload, 1) := by decide +kernel
theorem d_X12_looks_315 : decode prog_14_method_26_code 315 = .ok (.ifCond .eq 7, 3) := by decide +kernel
theorem d_X12_looks_318 : decode prog_14_method_26_code 318 = .ok (.iconst 1, 1) := by decide +kernel
theorem d_X12_looks_319 : decode prog_14_method_26_code 319 = .ok (.goto 34, 3) := by decide +kernel
theorem d_X12_looks_322 : decode prog_14_method_26_code 322 = .ok (.iconst 0, 1) := by decide +kernel
theorem d_X12_looks_323 : decode prog_14_method_26_code 323 = .ok (.goto 30, 3) := by decide +kernel
theorem d_X12_looks_326 : decode prog_14_method_26_code 326 = .ok (.aload_n 0, 1) := by decide +kernel
theorem d_X12_looks_327 : decode prog_14_method_26_code 327 = .ok (.getfield 24, 3) := by decide +kernel
theorem d_X12_looks_330 : decode prog_14_method_26_code 330 = .ok (.iload 5, 2) := by decide +kernel
theorem d_X12_looks_332 : decode prog_14_method_26_code 332 = .ok (.iconst 1, 1) := by decide +kernel
theorem d_X12_looks_333 : decode prog_14_method_26_code 333 = .ok (.isub, 1) := by decide +kernel
theorem d_X12_looks_334 : decode prog_14_method_26_code 334 = .ok (.baload, 1) := by decide +kernel
theorem d_X12_looks_335 : decode prog_14_method_26_code 335 = .ok (.ifCond .ne 13, 3) := by decide +kernel
theorem d_X12_looks_338 : decode prog_14_method_26_code 338 = .ok (.aload_n 0, 1) := by decide +kernel
theorem d_X12_looks_339 : decode prog_14_method_26_code 339 = .ok (.getfield 24, 3) := by decide +kernel
theorem d_X12_looks_342 : decode prog_14_method_26_code 342 = .ok (.iload 5, 2) := by decide +kernel
theorem d_X12_looks_344 : decode prog_14_method_26_code 344 = .ok (.baload, 1) := by decide +kernel
theorem d_X12_looks_345 : decode prog_14_method_26_code 345 = .ok (.ifCond .eq 7, 3) := by decide +kernel
theorem d_X12_looks_348 : decode prog_14_method_26_code 348 = .ok (.iconst 1, 1) := by decide +kernel
theorem d_X12_looks_349 : decode prog_14_method_26_code 349 = .ok (.goto 4, 3) := by decide +kernel
theorem d_X12_looks_352 : decode prog_14_method_26_code 352 = .ok (.iconst 0, 1) := by decide +kernel
theorem d_X12_looks_353 : decode prog_14_method_26_code 353 = .ok (.bastore, 1) := by decide +kernel
theorem d_X12_looks_354 : decode prog_14_method_26_code 354 = .ok (.goto 65, 3) := by decide +kernel
theorem d_X12_looks_357 : decode prog_14_method_26_code 357 = .ok (.iconst 0, 1) := by decide +kernel
theorem d_X12_looks_358 : decode prog_14_method_26_code 358 = .ok (.istore 5, 2) := by decide +kernel
theorem d_X12_looks_360 : decode prog_14_method_26_code 360 = .ok (.aload_n 0, 1) := by decide +kernel
theorem d_X12_looks_361 : decode prog_14_method_26_code 361 = .ok (.getfield 24, 3) := by decide +kernel
theorem d_X12_looks_364 : decode prog_14_method_26_code 364 = .ok (.iconst 0, 1) := by decide +kernel
theorem d_X12_looks_365 : decode prog_14_method_26_code 365 = .ok (.baload, 1) := by decide +kernel
theorem d_X12_looks_366 : decode prog_14_method_26_code 366 = .ok (.istore 8, 2) := by decide +kernel
theorem d_X12_looks_368 : decode prog_14_method_26_code 368 = .ok (.iload_n 2, 1) := by decide +kernel
theorem d_X12_looks_369 : decode prog_14_method_26_code 369 = .ok (.iload 8, 2) := by decide +kernel
theorem d_X12_looks_371 : decode prog_14_method_26_code 371 = .ok (.ifCond .eq 19, 3) := by decide +kernel
theorem d_X12_looks_374 : decode prog_14_method_26_code 374 = .ok (.iload 7, 2) := by decide +kernel
theorem d_X12_looks_376 : decode prog_14_method_26_code 376 = .ok (.sipush (-200), 3) := by decide +kernel
theorem d_X12_looks_379 : decode prog_14_method_26_code 379 = .ok (.if_icmp .le 11, 3) := by decide +kernel
theorem d_X12_looks_382 : decode prog_14_method_26_code 382 = .ok (.bipush (-10), 2) := by decide +kernel
theorem d_X12_looks_384 : decode prog_14_method_26_code 384 = .ok (.iload 7, 2) := by decide +kernel
theorem d_X12_looks_386 : decode prog_14_method_26_code 386 = .ok (.isub, 1) := by decide +kernel
theorem d_X12_looks_387 : decode prog_14_method_26_code 387 = .ok (.goto 4, 3) := by decide +kernel
theorem d_X12_looks_390 : decode prog_14_method_26_code 390 = .ok (.iconst 0, 1) := by decide +kernel
theorem d_X12_looks_391 : decode prog_14_method_26_code 391 = .ok (.iadd, 1) := by decide +kernel
theorem d_X12_looks_392 : decode prog_14_method_26_code 392 = .ok (.istore_n 2, 1) := by decide +kernel
theorem d_X12_looks_393 : decode prog_14_method_26_code 393 = .ok (.iload_n 2, 1) := by decide +kernel
theorem d_X12_looks_394 : decode prog_14_method_26_code 394 = .ok (.iload 8, 2) := by decide +kernel
theorem d_X12_looks_396 : decode prog_14_method_26_code 396 = .ok (.ifCond .eq 20, 3) := by decide +kernel
theorem d_X12_looks_399 : decode prog_14_method_26_code 399 = .ok (.iload 7, 2) := by decide +kernel
theorem d_X12_looks_401 : decode prog_14_method_26_code 401 = .ok (.sipush (-200), 3) := by decide +kernel
theorem d_X12_looks_404 : decode prog_14_method_26_code 404 = .ok (.if_icmp .gt 12, 3) := by decide +kernel
theorem d_X12_looks_407 : decode prog_14_method_26_code 407 = .ok (.sipush (-200), 3) := by decide +kernel
theorem d_X12_looks_410 : decode prog_14_method_26_code 410 = .ok (.iload 7, 2) := by decide +kernel
theorem d_X12_looks_412 : decode prog_14_method_26_code 412 = .ok (.isub, 1) := by decide +kernel
theorem d_X12_looks_413 : decode prog_14_method_26_code 413 = .ok (.goto 4, 3) := by decide +kernel
theorem d_X12_looks_416 : decode prog_14_method_26_code 416 = .ok (.iconst 0, 1) := by decide +kernel
theorem d_X12_looks_417 : decode prog_14_method_26_code 417 = .ok (.isub, 1) := by decide +kernel
theorem d_X12_looks_418 : decode prog_14_method_26_code 418 = .ok (.istore_n 2, 1) := by decide +kernel
theorem d_X12_looks_419 : decode prog_14_method_26_code 419 = .ok (.iinc 6 1, 3) := by decide +kernel
theorem d_X12_looks_422 : decode prog_14_method_26_code 422 = .ok (.goto (-303), 3) := by decide +kernel
theorem d_X12_looks_425 : decode prog_14_method_26_code 425 = .ok (.iload_n 2, 1) := by decide +kernel
theorem d_X12_looks_426 : decode prog_14_method_26_code 426 = .ok (.ireturn, 1) := by decide +kernel
def f_X12_looks (a0 : Nat) (a1 : Int32) (μ : gm_M) : Option (Option Value × gm_M) := gm_gR μ [17] a0 10 (fun v1 => gm_sI μ v1 (0 : Int32) a1 (fun m2 => gm_gR m2 [17] a0 10 (fun v3 => gm_gR m2 [17] a0 1 (fun v4 => gm_aI m2 v4 ((33 : Int32) + a1) (fun v5 => gm_sI m2 v3 (1 : Int32) v5 (fun m6 => gm_gR m6 [17] a0 10 (fun v7 => gm_gR m6 [17] a0 1 (fun v8 => gm_aI m6 v8 ((38 : Int32) + a1) (fun v9 => gm_sI m6 v7 (2 : Int32) v9 (fun m10 => gm_gR m10 [17] a0 10 (fun v11 => gm_gR m10 [17] a0 1 (fun v12 => gm_aI m10 v12 ((1 : Int32) + a1) (fun v13 => gm_sI m10 v11 (3 : Int32) v13 (fun m14 => gm_gR m14 [17] a0 10 (fun v15 => gm_gR m14 [17] a0 1 (fun v16 => gm_aI m14 v16 ((6 : Int32) + a1) (fun v17 => if (10 : Int32) = 0 then none else gm_sI m14 v15 (4 : Int32) (v17 / (10 : Int32)) (fun m18 => gm_gR m18 [17] a0 10 (fun v19 => gm_gR m18 [17] a0 1 (fun v20 => gm_aI m18 v20 (0 : Int32) (fun v21 => if (10 : Int32) = 0 then none else gm_sI m18 v19 (5 : Int32) (v21 - v21 / (10 : Int32) * (10 : Int32)) (fun m22 => if gm_tag m22 a0 = 17 then gm_bI (f_X12_tellsOf a0 (220 : Int32) (0 : Int32) m22) (fun x24 m23 => gm_gR m23 [17] a0 1 (fun v25 => gm_aI m23 v25 (32 : Int32) (fun v26 => gm_loop (fun (s27 : Int32 × Int32 × Int32 × gm_M) => if (((225 : Int32) + ((140 : Int32) * v26)) + x24) ≤ s27.2.2.1 then some (Sum.inr (some (.int s27.1), s27.2.2.2)) else gm_gR s27.2.2.2 [17] a0 1 (fun v28 => gm_aI s27.2.2.2 v28 s27.2.2.1 (fun v29 => gm_j (fun (s30 : Int32 × Int32 × gm_M) => some (Sum.inl (s30.1, s30.2.1, (s27.2.2.1 + (1 : Int32)), s30.2.2))) (fun j31 => if v29 < 0 then if v29 ≠ (-1 : Int32) then if v29 ≤ (-10 : Int32) then gm_gR s27.2.2.2 [17] a0 11 (fun v32 => gm_aZ s27.2.2.2 v32 (0 : Int32) (fun v33 => gm_j (fun (s34 : Int32) => gm_j (fun (s36 : Int32) => j31 (((s27.1 + s34) - s36), (0 : Int32), s27.2.2.2)) (fun j37 => gm_j (fun (s38 : Unit) => j37 (0 : Int32)) (fun j39 => if v33 = 0 then j39 () else if (-200 : Int32) < v29 then j39 () else j37 ((-200 : Int32) - v29)))) (fun j35 => gm_j (fun (s40 : Unit) => j35 (0 : Int32)) (fun j41 => if v33 = 0 then j41 () else if v29 ≤ (-200 : Int32) then j41 () else j35 ((-10 : Int32) - v29))))) else gm_gR s27.2.2.2 [17] a0 11 (fun v42 => gm_j (fun (s43 : Int32) => gm_sZ s27.2.2.2 v42 ((s27.2.1 + (-1 : Int32)) - (1 : Int32)) s43 (fun m45 => j31 (s27.1, (s27.2.1 + (-1 : Int32)), m45))) (fun j44 => if v29 ≠ (-2 : Int32) then gm_gR s27.2.2.2 [17] a0 11 (fun v46 => gm_aZ s27.2.2.2 v46 ((s27.2.1 + (-1 : Int32)) - (1 : Int32)) (fun v47 => gm_j (fun (s48 : Unit) => j44 (1 : Int32)) (fun j49 => if v47 ≠ 0 then j49 () else gm_gR s27.2.2.2 [17] a0 11 (fun v50 => gm_aZ s27.2.2.2 v50 (s27.2.1 + (-1 : Int32)) (fun v51 => if v51 = 0 then j44 (0 : Int32) else j49 ()))))) else gm_gR s27.2.2.2 [17] a0 11 (fun v52 => gm_aZ s27.2.2.2 v52 ((s27.2.1 + (-1 : Int32)) - (1 : Int32)) (fun v53 => gm_j (fun (s54 : Unit) => j44 (0 : Int32)) (fun j55 => if v53 = 0 then j55 () else gm_gR s27.2.2.2 [17] a0 11 (fun v56 => gm_aZ s27.2.2.2 v56 (s27.2.1 + (-1 : Int32)) (fun v57 => if v57 = 0 then j55 () else j44 (1 : Int32)))))))) else gm_gR s27.2.2.2 [17] a0 11 (fun v58 => gm_gR s27.2.2.2 [17] a0 11 (fun v59 => gm_aZ s27.2.2.2 v59 (s27.2.1 - (1 : Int32)) (fun v60 => gm_j (fun (s61 : Int32) => gm_sZ s27.2.2.2 v58 (s27.2.1 - (1 : Int32)) s61 (fun m63 => j31 (s27.1, s27.2.1, m63))) (fun j62 => if v60 ≠ 0 then j62 (0 : Int32) else j62 (1 : Int32))))) else gm_gR s27.2.2.2 [17] a0 10 (fun v64 => if (8 : Int32) = 0 then none else gm_aI s27.2.2.2 v64 (v29 - v29 / (8 : Int32) * (8 : Int32)) (fun v65 => if (8 : Int32) = 0 then none else if (4 : Int32) = 0 then none else if (32 : Int32) = 0 then none else gm_gR s27.2.2.2 [17] a0 11 (fun v66 => gm_j (fun (s67 : Int32) => gm_sZ s27.2.2.2 v66 s27.2.1 s67 (fun m69 => j31 (s27.1, (s27.2.1 + (1 : Int32)), m69))) (fun j68 => if ((v29 / (8 : Int32)) - (v29 / (8 : Int32)) / (4 : Int32) * (4 : Int32)) ≠ 0 then if ((v29 / (8 : Int32)) - (v29 / (8 : Int32)) / (4 : Int32) * (4 : Int32)) ≠ (1 : Int32) then if v65 ≤ (v29 / (32 : Int32)) then j68 (0 : Int32) else j68 (1 : Int32) else if v65 ≠ (v29 / (32 : Int32)) then j68 (0 : Int32) else j68 (1 : Int32) else if (v29 / (32 : Int32)) ≤ v65 then j68 (0 : Int32) else j68 (1 : Int32))))))))) 5000 ((0 : Int32), (0 : Int32), ((225 : Int32) + ((140 : Int32) * v26)), m23)))) else none))))))))))))))))))))))
set_option maxHeartbeats 4000000 in
theorem c_X12_looks (a0 : Nat) (a1 : Int32) (μ : gm_M) : gm_Call ({ cls := "GumBubbleModel", name := "looks", desc := "(I)I" } : Jvm.MethodName) prog_14_method_26_code 11 (some .int) 1 0 0 [.ref a0, .int a1] μ (f_X12_looks a0 a1 μ) := by
  refine gm_start PN_12 (Nat.le_of_ble_eq_true rfl) (fun res μe => ?_)
  unfold f_X12_looks
  show gm_A "GumBubbleModel" (gm_nm "looks") _ _ _ _ _ _ _ _ _ 0 [(0, .ref a0), (1, .int a1)] [] _ _
  refine gm_aload_n d_X12_looks_0 rfl 0 rfl ?_
  refine gm_getR F_12_by gw_899 d_X12_looks_1 (fun v1 _ => ?_)
  refine gm_iconst (v := 0) d_X12_looks_4 (by decide) ?_
  refine gm_iload_n d_X12_looks_5 rfl 1 rfl ?_
  refine gm_iast d_X12_looks_6 (fun m2 _ => ?_)
  refine gm_aload_n d_X12_looks_7 rfl 0 rfl ?_
  refine gm_getR F_12_by gw_899 d_X12_looks_8 (fun v3 _ => ?_)
  refine gm_iconst (v := 1) d_X12_looks_11 (by decide) ?_
  refine gm_aload_n d_X12_looks_12 rfl 0 rfl ?_
  refine gm_getR F_12_s gw_890 d_X12_looks_13 (fun v4 _ => ?_)
  refine gm_bipush (v := 33) d_X12_looks_16 (by decide) ?_
  refine gm_iload_n d_X12_looks_18 rfl 1 rfl ?_
  refine gm_iadd d_X12_looks_19 ?_
  refine gm_iald d_X12_looks_20 (fun v5 _ => ?_)
  refine gm_iast d_X12_looks_21 (fun m6 _ => ?_)
  refine gm_aload_n d_X12_looks_22 rfl 0 rfl ?_
  refine gm_getR F_12_by gw_899 d_X12_looks_23 (fun v7 _ => ?_)
  refine gm_iconst (v := 2) d_X12_looks_26 (by decide) ?_
  refine gm_aload_n d_X12_looks_27 rfl 0 rfl ?_
  refine gm_getR F_12_s gw_890 d_X12_looks_28 (fun v8 _ => ?_)
  refine gm_bipush (v := 38) d_X12_looks_31 (by decide) ?_
  refine gm_iload_n d_X12_looks_33 rfl 1 rfl ?_
  refine gm_iadd d_X12_looks_34 ?_
  refine gm_iald d_X12_looks_35 (fun v9 _ => ?_)
  refine gm_iast d_X12_looks_36 (fun m10 _ => ?_)
  refine gm_aload_n d_X12_looks_37 rfl 0 rfl ?_
  refine gm_getR F_12_by gw_899 d_X12_looks_38 (fun v11 _ => ?_)
  refine gm_iconst (v := 3) d_X12_looks_41 (by decide) ?_
  refine gm_aload_n d_X12_looks_42 rfl 0 rfl ?_
  refine gm_getR F_12_s gw_890 d_X12_looks_43 (fun v12 _ => ?_)
  refine gm_iconst (v := 1) d_X12_looks_46 (by decide) ?_
  refine gm_iload_n d_X12_looks_47 rfl 1 rfl ?_
  refine gm_iadd d_X12_looks_48 ?_
  refine gm_iald d_X12_looks_49 (fun v13 _ => ?_)
  refine gm_iast d_X12_looks_50 (fun m14 _ => ?_)
  refine gm_aload_n d_X12_looks_51 rfl 0 rfl ?_
  refine gm_getR F_12_by gw_899 d_X12_looks_52 (fun v15 _ => ?_)
  refine gm_iconst (v := 4) d_X12_looks_55 (by decide) ?_
  refine gm_aload_n d_X12_looks_56 rfl 0 rfl ?_
  refine gm_getR F_12_s gw_890 d_X12_looks_57 (fun v16 _ => ?_)
  refine gm_bipush (v := 6) d_X12_looks_60 (by decide) ?_
  refine gm_iload_n d_X12_looks_62 rfl 1 rfl ?_
  refine gm_iadd d_X12_looks_63 ?_
  refine gm_iald d_X12_looks_64 (fun v17 _ => ?_)
  refine gm_bipush (v := 10) d_X12_looks_65 (by decide) ?_
  refine gm_idiv d_X12_looks_67 ?_
  refine gm_iast d_X12_looks_68 (fun m18 _ => ?_)
  refine gm_aload_n d_X12_looks_69 rfl 0 rfl ?_
  refine gm_getR F_12_by gw_899 d_X12_looks_70 (fun v19 _ => ?_)
  refine gm_iconst (v := 5) d_X12_looks_73 (by decide) ?_
  refine gm_aload_n d_X12_looks_74 rfl 0 rfl ?_
  refine gm_getR F_12_s gw_890 d_X12_looks_75 (fun v20 _ => ?_)
  refine gm_iconst (v := 0) d_X12_looks_78 (by decide) ?_
  refine gm_iald d_X12_looks_79 (fun v21 _ => ?_)
  refine gm_bipush (v := 10) d_X12_looks_80 (by decide) ?_
  refine gm_irem d_X12_looks_82 ?_
  refine gm_iast d_X12_looks_83 (fun m22 _ => ?_)
  refine gm_iconst (v := 0) d_X12_looks_84 (by decide) ?_
  refine gm_istore_n (L' := [(2, .int (0 : Int32)), (0, .ref a0), (1, .int a1)]) d_X12_looks_85 rfl (Nat.le_of_ble_eq_true rfl) rfl ?_
  refine gm_aload_n d_X12_looks_86 rfl 1 rfl ?_
  refine gm_sipush (v := 220) d_X12_looks_87 (by decide) ?_
  refine gm_iconst (v := 0) d_X12_looks_90 (by decide) ?_
  refine gm_grd (fun g91 => ?_)
  refine gm_callV (k0 := 12) [.int (220 : Int32), .int (0 : Int32)] (c_X12_tellsOf a0 (220 : Int32) (0 : Int32) m22) g91 rfl B_X12_tellsOf gw_1039 gs_39 rfl rfl rfl d_X12_looks_91 (gm_kI (fun x24 m23 => ?_))
  refine gm_istore_n (L' := [(3, .int x24), (2, .int (0 : Int32)), (0, .ref a0), (1, .int a1)]) d_X12_looks_94 rfl (Nat.le_of_ble_eq_true rfl) rfl ?_
  refine gm_sipush (v := 225) d_X12_looks_95 (by decide) ?_
  refine gm_sipush (v := 140) d_X12_looks_98 (by decide) ?_
  refine gm_aload_n d_X12_looks_101 rfl 2 rfl ?_
  refine gm_getR F_12_s gw_890 d_X12_looks_102 (fun v25 _ => ?_)
  refine gm_bipush (v := 32) d_X12_looks_105 (by decide) ?_
  refine gm_iald d_X12_looks_107 (fun v26 _ => ?_)
  refine gm_imul d_X12_looks_108 ?_
  refine gm_iadd d_X12_looks_109 ?_
  refine gm_istore (L' := [(4, .int ((225 : Int32) + ((140 : Int32) * v26))), (3, .int x24), (2, .int (0 : Int32)), (0, .ref a0), (1, .int a1)]) d_X12_looks_110 (Nat.le_of_ble_eq_true rfl) rfl ?_
  refine gm_iconst (v := 0) d_X12_looks_112 (by decide) ?_
  refine gm_istore (L' := [(5, .int (0 : Int32)), (4, .int ((225 : Int32) + ((140 : Int32) * v26))), (3, .int x24), (2, .int (0 : Int32)), (0, .ref a0), (1, .int a1)]) d_X12_looks_113 (Nat.le_of_ble_eq_true rfl) rfl ?_
  refine gm_iload d_X12_looks_115 1 rfl ?_
  refine gm_istore (L' := [(6, .int ((225 : Int32) + ((140 : Int32) * v26))), (5, .int (0 : Int32)), (4, .int ((225 : Int32) + ((140 : Int32) * v26))), (3, .int x24), (2, .int (0 : Int32)), (0, .ref a0), (1, .int a1)]) d_X12_looks_117 (Nat.le_of_ble_eq_true rfl) rfl ?_
  refine gm_sub (L' := [(0, .ref a0), (1, .int a1), (2, .int (0 : Int32)), (3, .int x24), (4, .int ((225 : Int32) + ((140 : Int32) * v26))), (5, .int (0 : Int32)), (6, .int ((225 : Int32) + ((140 : Int32) * v26)))]) [5, 6, 4, 3, 2, 1, 0] rfl ?_
  refine gm_lp (S := Int32 × Int32 × Int32 × gm_M) (fun _ => 0) (fun _ => 0) (fun s27 => s27.2.2.2) (fun s27 => [(0, .ref a0), (1, .int a1), (2, .int s27.1), (3, .int x24), (4, .int ((225 : Int32) + ((140 : Int32) * v26))), (5, .int s27.2.1), (6, .int s27.2.2.1)]) (fun _ => []) (fun s27 => ?_) 5000 ((0 : Int32), (0 : Int32), ((225 : Int32) + ((140 : Int32) * v26)), m23)
  refine gm_iload d_X12_looks_119 6 rfl ?_
  refine gm_iload d_X12_looks_121 4 rfl ?_
  refine gm_iload_n d_X12_looks_123 rfl 3 rfl ?_
  refine gm_iadd d_X12_looks_124 ?_
  refine gm_icmp_ge (tgt := 425) d_X12_looks_125 (by decide) (fun h125 => ?_) (fun h125 => ?_)
  ·
    refine gm_iload_n d_X12_looks_425 rfl 2 rfl ?_
    exact gm_iret rfl d_X12_looks_426 (Nat.le_of_ble_eq_true rfl) (Nat.le_of_ble_eq_true rfl) (fun h => h)
  ·
    refine gm_aload_n d_X12_looks_128 rfl 0 rfl ?_
    refine gm_getR F_12_s gw_890 d_X12_looks_129 (fun v28 _ => ?_)
    refine gm_iload d_X12_looks_132 6 rfl ?_
    refine gm_iald d_X12_looks_134 (fun v29 _ => ?_)
    refine gm_istore (L' := [(7, .int v29), (0, .ref a0), (1, .int a1), (2, .int s27.1), (3, .int x24), (4, .int ((225 : Int32) + ((140 : Int32) * v26))), (5, .int s27.2.1), (6, .int s27.2.2.1)]) d_X12_looks_135 (Nat.le_of_ble_eq_true rfl) rfl ?_
    refine gm_iload d_X12_looks_137 0 rfl ?_
    refine gm_join (S := Int32 × Int32 × gm_M) (pj := 419) (kj := 0) (nj := 0) (fun s30 => s30.2.2) (fun s30 => [(0, .ref a0), (1, .int a1), (2, .int s30.1), (3, .int x24), (4, .int ((225 : Int32) + ((140 : Int32) * v26))), (5, .int s30.2.1), (6, .int s27.2.2.1), (7, .int v29)]) (fun s30 => []) (fun s30 => ?_) (fun j31 hj31 => ?_)
    ·
      refine gm_iinc (v := s27.2.2.1 + (1 : Int32)) (L' := [(6, .int (s27.2.2.1 + (1 : Int32))), (0, .ref a0), (1, .int a1), (2, .int s30.1), (3, .int x24), (4, .int ((225 : Int32) + ((140 : Int32) * v26))), (5, .int s30.2.1), (7, .int v29)]) d_X12_looks_419 6 rfl rfl (Nat.le_of_ble_eq_true rfl) rfl ?_
      refine gm_goto (tgt := 119) d_X12_looks_422 (by decide) ?_
      refine gm_sub (L' := [(0, .ref a0), (1, .int a1), (2, .int s30.1), (3, .int x24), (4, .int ((225 : Int32) + ((140 : Int32) * v26))), (5, .int s30.2.1), (6, .int (s27.2.2.1 + (1 : Int32)))]) [1, 2, 3, 4, 5, 6, 0] rfl ?_
      exact gm_back (fun h => h)
    ·
      refine gm_if_lt (tgt := 236) d_X12_looks_139 (by decide) (fun h139 => ?_) (fun h139 => ?_)
      ·
        refine gm_iload d_X12_looks_236 0 rfl ?_
        refine gm_iconst (v := -1) d_X12_looks_238 (by decide) ?_
        refine gm_icmp_ne (tgt := 271) d_X12_looks_239 (by decide) (fun h239 => ?_) (fun h239 => ?_)
        ·
          refine gm_iload d_X12_looks_271 0 rfl ?_
          refine gm_bipush (v := -10) d_X12_looks_273 (by decide) ?_
          refine gm_icmp_le (tgt := 357) d_X12_looks_275 (by decide) (fun h275 => ?_) (fun h275 => ?_)
          ·
            refine gm_iconst (v := 0) d_X12_looks_357 (by decide) ?_
            refine gm_istore (L' := [(5, .int (0 : Int32)), (7, .int v29), (0, .ref a0), (1, .int a1), (2, .int s27.1), (3, .int x24), (4, .int ((225 : Int32) + ((140 : Int32) * v26))), (6, .int s27.2.2.1)]) d_X12_looks_358 (Nat.le_of_ble_eq_true rfl) rfl ?_
            refine gm_aload_n d_X12_looks_360 rfl 2 rfl ?_
            refine gm_getR F_12_truths gw_900 d_X12_looks_361 (fun v32 _ => ?_)
            refine gm_iconst (v := 0) d_X12_looks_364 (by decide) ?_
            refine gm_zald d_X12_looks_365 (fun v33 _ => ?_)
            refine gm_istore (L' := [(8, .int v33), (5, .int (0 : Int32)), (7, .int v29), (0, .ref a0), (1, .int a1), (2, .int s27.1), (3, .int x24), (4, .int ((225 : Int32) + ((140 : Int32) * v26))), (6, .int s27.2.2.1)]) d_X12_looks_366 (Nat.le_of_ble_eq_true rfl) rfl ?_
            refine gm_iload_n d_X12_looks_368 rfl 5 rfl ?_
            refine gm_iload d_X12_looks_369 0 rfl ?_
            refine gm_join (S := Int32) (pj := 391) (kj := 0) (nj := 0) (fun s34 => s27.2.2.2) (fun s34 => [(0, .ref a0), (1, .int a1), (2, .int s27.1), (3, .int x24), (4, .int ((225 : Int32) + ((140 : Int32) * v26))), (5, .int (0 : Int32)), (6, .int s27.2.2.1), (7, .int v29), (8, .int v33)]) (fun s34 => [.int s34, .int s27.1]) (fun s34 => ?_) (fun j35 hj35 => ?_)
            ·
              refine gm_iadd d_X12_looks_391 ?_
              refine gm_istore_n (L' := [(2, .int (s27.1 + s34)), (0, .ref a0), (1, .int a1), (3, .int x24), (4, .int ((225 : Int32) + ((140 : Int32) * v26))), (5, .int (0 : Int32)), (6, .int s27.2.2.1), (7, .int v29), (8, .int v33)]) d_X12_looks_392 rfl (Nat.le_of_ble_eq_true rfl) rfl ?_
              refine gm_iload_n d_X12_looks_393 rfl 0 rfl ?_
              refine gm_iload d_X12_looks_394 8 rfl ?_
              refine gm_join (S := Int32) (pj := 417) (kj := 0) (nj := 0) (fun s36 => s27.2.2.2) (fun s36 => [(0, .ref a0), (1, .int a1), (2, .int (s27.1 + s34)), (3, .int x24), (4, .int ((225 : Int32) + ((140 : Int32) * v26))), (5, .int (0 : Int32)), (6, .int s27.2.2.1), (7, .int v29), (8, .int v33)]) (fun s36 => [.int s36, .int (s27.1 + s34)]) (fun s36 => ?_) (fun j37 hj37 => ?_)
              ·
                refine gm_isub d_X12_looks_417 ?_
                refine gm_istore_n (L' := [(2, .int ((s27.1 + s34) - s36)), (0, .ref a0), (1, .int a1), (3, .int x24), (4, .int ((225 : Int32) + ((140 : Int32) * v26))), (5, .int (0 : Int32)), (6, .int s27.2.2.1), (7, .int v29), (8, .int v33)]) d_X12_looks_418 rfl (Nat.le_of_ble_eq_true rfl) rfl ?_
                refine gm_sub (L' := [(0, .ref a0), (1, .int a1), (2, .int ((s27.1 + s34) - s36)), (3, .int x24), (4, .int ((225 : Int32) + ((140 : Int32) * v26))), (5, .int (0 : Int32)), (6, .int s27.2.2.1), (7, .int v29)]) [1, 2, 0, 3, 4, 5, 6, 7] rfl ?_
                exact hj31 (((s27.1 + s34) - s36), (0 : Int32), s27.2.2.2)
              ·
                refine gm_join (S := Unit) (pj := 416) (kj := 0) (nj := 0) (fun s38 => s27.2.2.2) (fun s38 => [(0, .ref a0), (1, .int a1), (2, .int (s27.1 + s34)), (3, .int x24), (4, .int ((225 : Int32) + ((140 : Int32) * v26))), (5, .int (0 : Int32)), (6, .int s27.2.2.1), (7, .int v29), (8, .int v33)]) (fun s38 => [.int (s27.1 + s34)]) (fun s38 => ?_) (fun j39 hj39 => ?_)
                ·
                  refine gm_iconst (v := 0) d_X12_looks_416 (by decide) ?_
                  exact hj37 (0 : Int32)
                ·
                  refine gm_if_eq (tgt := 416) d_X12_looks_396 (by decide) (fun h396 => ?_) (fun h396 => ?_)
                  ·
                    refine gm_sub (L' := [(0, .ref a0), (1, .int a1), (2, .int (s27.1 + s34)), (3, .int x24), (4, .int ((225 : Int32) + ((140 : Int32) * v26))), (5, .int (0 : Int32)), (6, .int s27.2.2.1), (7, .int v29), (8, .int v33)]) [1, 2, 0, 3, 4, 5, 6, 7, 8] rfl ?_
                    exact hj39 ()
                  ·
                    refine gm_iload d_X12_looks_399 7 rfl ?_
                    refine gm_sipush (v := -200) d_X12_looks_401 (by decide) ?_
                    refine gm_icmp_gt (tgt := 416) d_X12_looks_404 (by decide) (fun h404 => ?_) (fun h404 => ?_)
                    ·
                      refine gm_sub (L' := [(0, .ref a0), (1, .int a1), (2, .int (s27.1 + s34)), (3, .int x24), (4, .int ((225 : Int32) + ((140 : Int32) * v26))), (5, .int (0 : Int32)), (6, .int s27.2.2.1), (7, .int v29), (8, .int v33)]) [1, 2, 0, 3, 4, 5, 6, 7, 8] rfl ?_
                      exact hj39 ()
                    ·
                      refine gm_sipush (v := -200) d_X12_looks_407 (by decide) ?_
                      refine gm_iload d_X12_looks_410 7 rfl ?_
                      refine gm_isub d_X12_looks_412 ?_
                      refine gm_goto (tgt := 417) d_X12_looks_413 (by decide) ?_
                      refine gm_sub (L' := [(0, .ref a0), (1, .int a1), (2, .int (s27.1 + s34)), (3, .int x24), (4, .int ((225 : Int32) + ((140 : Int32) * v26))), (5, .int (0 : Int32)), (6, .int s27.2.2.1), (7, .int v29), (8, .int v33)]) [1, 2, 0, 3, 4, 5, 6, 7, 8] rfl ?_
                      exact hj37 ((-200 : Int32) - v29)
            ·
              refine gm_join (S := Unit) (pj := 390) (kj := 0) (nj := 0) (fun s40 => s27.2.2.2) (fun s40 => [(0, .ref a0), (1, .int a1), (2, .int s27.1), (3, .int x24), (4, .int ((225 : Int32) + ((140 : Int32) * v26))), (5, .int (0 : Int32)), (6, .int s27.2.2.1), (7, .int v29), (8, .int v33)]) (fun s40 => [.int s27.1]) (fun s40 => ?_) (fun j41 hj41 => ?_)
              ·
                refine gm_iconst (v := 0) d_X12_looks_390 (by decide) ?_
                exact hj35 (0 : Int32)
              ·
                refine gm_if_eq (tgt := 390) d_X12_looks_371 (by decide) (fun h371 => ?_) (fun h371 => ?_)
                ·
                  refine gm_sub (L' := [(0, .ref a0), (1, .int a1), (2, .int s27.1), (3, .int x24), (4, .int ((225 : Int32) + ((140 : Int32) * v26))), (5, .int (0 : Int32)), (6, .int s27.2.2.1), (7, .int v29), (8, .int v33)]) [3, 4, 5, 6, 7, 1, 8, 2, 0] rfl ?_
                  exact hj41 ()
                ·
                  refine gm_iload d_X12_looks_374 2 rfl ?_
                  refine gm_sipush (v := -200) d_X12_looks_376 (by decide) ?_
                  refine gm_icmp_le (tgt := 390) d_X12_looks_379 (by decide) (fun h379 => ?_) (fun h379 => ?_)
                  ·
                    refine gm_sub (L' := [(0, .ref a0), (1, .int a1), (2, .int s27.1), (3, .int x24), (4, .int ((225 : Int32) + ((140 : Int32) * v26))), (5, .int (0 : Int32)), (6, .int s27.2.2.1), (7, .int v29), (8, .int v33)]) [3, 4, 5, 6, 7, 1, 8, 2, 0] rfl ?_
                    exact hj41 ()
                  ·
                    refine gm_bipush (v := -10) d_X12_looks_382 (by decide) ?_
                    refine gm_iload d_X12_looks_384 2 rfl ?_
                    refine gm_isub d_X12_looks_386 ?_
                    refine gm_goto (tgt := 391) d_X12_looks_387 (by decide) ?_
                    refine gm_sub (L' := [(0, .ref a0), (1, .int a1), (2, .int s27.1), (3, .int x24), (4, .int ((225 : Int32) + ((140 : Int32) * v26))), (5, .int (0 : Int32)), (6, .int s27.2.2.1), (7, .int v29), (8, .int v33)]) [3, 4, 5, 6, 7, 1, 8, 2, 0] rfl ?_
                    exact hj35 ((-10 : Int32) - v29)
          ·
            refine gm_iinc (v := s27.2.1 + (-1 : Int32)) (L' := [(5, .int (s27.2.1 + (-1 : Int32))), (7, .int v29), (0, .ref a0), (1, .int a1), (2, .int s27.1), (3, .int x24), (4, .int ((225 : Int32) + ((140 : Int32) * v26))), (6, .int s27.2.2.1)]) d_X12_looks_278 6 rfl rfl (Nat.le_of_ble_eq_true rfl) rfl ?_
            refine gm_aload_n d_X12_looks_281 rfl 2 rfl ?_
            refine gm_getR F_12_truths gw_900 d_X12_looks_282 (fun v42 _ => ?_)
            refine gm_iload d_X12_looks_285 0 rfl ?_
            refine gm_iconst (v := 1) d_X12_looks_287 (by decide) ?_
            refine gm_isub d_X12_looks_288 ?_
            refine gm_iload d_X12_looks_289 1 rfl ?_
            refine gm_bipush (v := -2) d_X12_looks_291 (by decide) ?_
            refine gm_join (S := Int32) (pj := 353) (kj := 0) (nj := 0) (fun s43 => s27.2.2.2) (fun s43 => [(0, .ref a0), (1, .int a1), (2, .int s27.1), (3, .int x24), (4, .int ((225 : Int32) + ((140 : Int32) * v26))), (5, .int (s27.2.1 + (-1 : Int32))), (6, .int s27.2.2.1), (7, .int v29)]) (fun s43 => [.int s43, .int ((s27.2.1 + (-1 : Int32)) - (1 : Int32)), .ref v42]) (fun s43 => ?_) (fun j44 hj44 => ?_)
            ·
              refine gm_zast d_X12_looks_353 (fun m45 _ => ?_)
              refine gm_goto (tgt := 419) d_X12_looks_354 (by decide) ?_
              exact hj31 (s27.1, (s27.2.1 + (-1 : Int32)), m45)
            ·
              refine gm_icmp_ne (tgt := 326) d_X12_looks_293 (by decide) (fun h293 => ?_) (fun h293 => ?_)
              ·
                refine gm_aload_n d_X12_looks_326 rfl 2 rfl ?_
                refine gm_getR F_12_truths gw_900 d_X12_looks_327 (fun v46 _ => ?_)
                refine gm_iload d_X12_looks_330 0 rfl ?_
                refine gm_iconst (v := 1) d_X12_looks_332 (by decide) ?_
                refine gm_isub d_X12_looks_333 ?_
                refine gm_zald d_X12_looks_334 (fun v47 _ => ?_)
                refine gm_join (S := Unit) (pj := 348) (kj := 0) (nj := 0) (fun s48 => s27.2.2.2) (fun s48 => [(0, .ref a0), (1, .int a1), (2, .int s27.1), (3, .int x24), (4, .int ((225 : Int32) + ((140 : Int32) * v26))), (5, .int (s27.2.1 + (-1 : Int32))), (6, .int s27.2.2.1), (7, .int v29)]) (fun s48 => [.int ((s27.2.1 + (-1 : Int32)) - (1 : Int32)), .ref v42]) (fun s48 => ?_) (fun j49 hj49 => ?_)
                ·
                  refine gm_iconst (v := 1) d_X12_looks_348 (by decide) ?_
                  refine gm_goto (tgt := 353) d_X12_looks_349 (by decide) ?_
                  exact hj44 (1 : Int32)
                ·
                  refine gm_if_ne (tgt := 348) d_X12_looks_335 (by decide) (fun h335 => ?_) (fun h335 => ?_)
                  ·
                    refine gm_sub (L' := [(0, .ref a0), (1, .int a1), (2, .int s27.1), (3, .int x24), (4, .int ((225 : Int32) + ((140 : Int32) * v26))), (5, .int (s27.2.1 + (-1 : Int32))), (6, .int s27.2.2.1), (7, .int v29)]) [2, 3, 4, 5, 6, 0, 7, 1] rfl ?_
                    exact hj49 ()
                  ·
                    refine gm_aload_n d_X12_looks_338 rfl 2 rfl ?_
                    refine gm_getR F_12_truths gw_900 d_X12_looks_339 (fun v50 _ => ?_)
                    refine gm_iload d_X12_looks_342 0 rfl ?_
                    refine gm_zald d_X12_looks_344 (fun v51 _ => ?_)
                    refine gm_if_eq (tgt := 352) d_X12_looks_345 (by decide) (fun h345 => ?_) (fun h345 => ?_)
                    ·
                      refine gm_iconst (v := 0) d_X12_looks_352 (by decide) ?_
                      refine gm_sub (L' := [(0, .ref a0), (1, .int a1), (2, .int s27.1), (3, .int x24), (4, .int ((225 : Int32) + ((140 : Int32) * v26))), (5, .int (s27.2.1 + (-1 : Int32))), (6, .int s27.2.2.1), (7, .int v29)]) [2, 3, 4, 5, 6, 0, 7, 1] rfl ?_
                      exact hj44 (0 : Int32)
                    ·
                      refine gm_sub (L' := [(0, .ref a0), (1, .int a1), (2, .int s27.1), (3, .int x24), (4, .int ((225 : Int32) + ((140 : Int32) * v26))), (5, .int (s27.2.1 + (-1 : Int32))), (6, .int s27.2.2.1), (7, .int v29)]) [2, 3, 4, 5, 6, 0, 7, 1] rfl ?_
                      exact hj49 ()
              ·
                refine gm_aload_n d_X12_looks_296 rfl 2 rfl ?_
                refine gm_getR F_12_truths gw_900 d_X12_looks_297 (fun v52 _ => ?_)
                refine gm_iload d_X12_looks_300 0 rfl ?_
                refine gm_iconst (v := 1) d_X12_looks_302 (by decide) ?_
                refine gm_isub d_X12_looks_303 ?_
                refine gm_zald d_X12_looks_304 (fun v53 _ => ?_)
                refine gm_join (S := Unit) (pj := 322) (kj := 0) (nj := 0) (fun s54 => s27.2.2.2) (fun s54 => [(0, .ref a0), (1, .int a1), (2, .int s27.1), (3, .int x24), (4, .int ((225 : Int32) + ((140 : Int32) * v26))), (5, .int (s27.2.1 + (-1 : Int32))), (6, .int s27.2.2.1), (7, .int v29)]) (fun s54 => [.int ((s27.2.1 + (-1 : Int32)) - (1 : Int32)), .ref v42]) (fun s54 => ?_) (fun j55 hj55 => ?_)
                ·
                  refine gm_iconst (v := 0) d_X12_looks_322 (by decide) ?_
                  refine gm_goto (tgt := 353) d_X12_looks_323 (by decide) ?_
                  exact hj44 (0 : Int32)
                ·
                  refine gm_if_eq (tgt := 322) d_X12_looks_305 (by decide) (fun h305 => ?_) (fun h305 => ?_)
                  ·
                    refine gm_sub (L' := [(0, .ref a0), (1, .int a1), (2, .int s27.1), (3, .int x24), (4, .int ((225 : Int32) + ((140 : Int32) * v26))), (5, .int (s27.2.1 + (-1 : Int32))), (6, .int s27.2.2.1), (7, .int v29)]) [2, 3, 4, 5, 6, 0, 7, 1] rfl ?_
                    exact hj55 ()
                  ·
                    refine gm_aload_n d_X12_looks_308 rfl 2 rfl ?_
                    refine gm_getR F_12_truths gw_900 d_X12_looks_309 (fun v56 _ => ?_)
                    refine gm_iload d_X12_looks_312 0 rfl ?_
                    refine gm_zald d_X12_looks_314 (fun v57 _ => ?_)
                    refine gm_if_eq (tgt := 322) d_X12_looks_315 (by decide) (fun h315 => ?_) (fun h315 => ?_)
                    ·
                      refine gm_sub (L' := [(0, .ref a0), (1, .int a1), (2, .int s27.1), (3, .int x24), (4, .int ((225 : Int32) + ((140 : Int32) * v26))), (5, .int (s27.2.1 + (-1 : Int32))), (6, .int s27.2.2.1), (7, .int v29)]) [2, 3, 4, 5, 6, 0, 7, 1] rfl ?_
                      exact hj55 ()
                    ·
                      refine gm_iconst (v := 1) d_X12_looks_318 (by decide) ?_
                      refine gm_goto (tgt := 353) d_X12_looks_319 (by decide) ?_
                      refine gm_sub (L' := [(0, .ref a0), (1, .int a1), (2, .int s27.1), (3, .int x24), (4, .int ((225 : Int32) + ((140 : Int32) * v26))), (5, .int (s27.2.1 + (-1 : Int32))), (6, .int s27.2.2.1), (7, .int v29)]) [2, 3, 4, 5, 6, 0, 7, 1] rfl ?_
                      exact hj44 (1 : Int32)
        ·
          refine gm_aload_n d_X12_looks_242 rfl 1 rfl ?_
          refine gm_getR F_12_truths gw_900 d_X12_looks_243 (fun v58 _ => ?_)
          refine gm_iload d_X12_looks_246 6 rfl ?_
          refine gm_iconst (v := 1) d_X12_looks_248 (by decide) ?_
          refine gm_isub d_X12_looks_249 ?_
          refine gm_aload_n d_X12_looks_250 rfl 1 rfl ?_
          refine gm_getR F_12_truths gw_900 d_X12_looks_251 (fun v59 _ => ?_)
          refine gm_iload d_X12_looks_254 6 rfl ?_
          refine gm_iconst (v := 1) d_X12_looks_256 (by decide) ?_
          refine gm_isub d_X12_looks_257 ?_
          refine gm_zald d_X12_looks_258 (fun v60 _ => ?_)
          refine gm_join (S := Int32) (pj := 267) (kj := 0) (nj := 0) (fun s61 => s27.2.2.2) (fun s61 => [(0, .ref a0), (1, .int a1), (2, .int s27.1), (3, .int x24), (4, .int ((225 : Int32) + ((140 : Int32) * v26))), (5, .int s27.2.1), (6, .int s27.2.2.1), (7, .int v29)]) (fun s61 => [.int s61, .int (s27.2.1 - (1 : Int32)), .ref v58]) (fun s61 => ?_) (fun j62 hj62 => ?_)
          ·
            refine gm_zast d_X12_looks_267 (fun m63 _ => ?_)
            refine gm_goto (tgt := 419) d_X12_looks_268 (by decide) ?_
            exact hj31 (s27.1, s27.2.1, m63)
          ·
            refine gm_if_ne (tgt := 266) d_X12_looks_259 (by decide) (fun h259 => ?_) (fun h259 => ?_)
            ·
              refine gm_iconst (v := 0) d_X12_looks_266 (by decide) ?_
              refine gm_sub (L' := [(0, .ref a0), (1, .int a1), (2, .int s27.1), (3, .int x24), (4, .int ((225 : Int32) + ((140 : Int32) * v26))), (5, .int s27.2.1), (6, .int s27.2.2.1), (7, .int v29)]) [1, 2, 3, 4, 5, 6, 7, 0] rfl ?_
              exact hj62 (0 : Int32)
            ·
              refine gm_iconst (v := 1) d_X12_looks_262 (by decide) ?_
              refine gm_goto (tgt := 267) d_X12_looks_263 (by decide) ?_
              refine gm_sub (L' := [(0, .ref a0), (1, .int a1), (2, .int s27.1), (3, .int x24), (4, .int ((225 : Int32) + ((140 : Int32) * v26))), (5, .int s27.2.1), (6, .int s27.2.2.1), (7, .int v29)]) [1, 2, 3, 4, 5, 6, 7, 0] rfl ?_
              exact hj62 (1 : Int32)
      ·
        refine gm_aload_n d_X12_looks_142 rfl 1 rfl ?_
        refine gm_getR F_12_by gw_899 d_X12_looks_143 (fun v64 _ => ?_)
        refine gm_iload d_X12_looks_146 0 rfl ?_
        refine gm_bipush (v := 8) d_X12_looks_148 (by decide) ?_
        refine gm_irem d_X12_looks_150 ?_
        refine gm_iald d_X12_looks_151 (fun v65 _ => ?_)
        refine gm_istore (L' := [(8, .int v65), (7, .int v29), (0, .ref a0), (1, .int a1), (2, .int s27.1), (3, .int x24), (4, .int ((225 : Int32) + ((140 : Int32) * v26))), (5, .int s27.2.1), (6, .int s27.2.2.1)]) d_X12_looks_152 (Nat.le_of_ble_eq_true rfl) rfl ?_
        refine gm_iload d_X12_looks_154 1 rfl ?_
        refine gm_bipush (v := 8) d_X12_looks_156 (by decide) ?_
        refine gm_idiv d_X12_looks_158 ?_
        refine gm_iconst (v := 4) d_X12_looks_159 (by decide) ?_
        refine gm_irem d_X12_looks_160 ?_
        refine gm_istore (L' := [(9, .int ((v29 / (8 : Int32)) - (v29 / (8 : Int32)) / (4 : Int32) * (4 : Int32))), (8, .int v65), (7, .int v29), (0, .ref a0), (1, .int a1), (2, .int s27.1), (3, .int x24), (4, .int ((225 : Int32) + ((140 : Int32) * v26))), (5, .int s27.2.1), (6, .int s27.2.2.1)]) d_X12_looks_161 (Nat.le_of_ble_eq_true rfl) rfl ?_
        refine gm_iload d_X12_looks_163 2 rfl ?_
        refine gm_bipush (v := 32) d_X12_looks_165 (by decide) ?_
        refine gm_idiv d_X12_looks_167 ?_
        refine gm_istore (L' := [(10, .int (v29 / (32 : Int32))), (9, .int ((v29 / (8 : Int32)) - (v29 / (8 : Int32)) / (4 : Int32) * (4 : Int32))), (8, .int v65), (7, .int v29), (0, .ref a0), (1, .int a1), (2, .int s27.1), (3, .int x24), (4, .int ((225 : Int32) + ((140 : Int32) * v26))), (5, .int s27.2.1), (6, .int s27.2.2.1)]) d_X12_looks_168 (Nat.le_of_ble_eq_true rfl) rfl ?_
        refine gm_aload_n d_X12_looks_170 rfl 4 rfl ?_
        refine gm_getR F_12_truths gw_900 d_X12_looks_171 (fun v66 _ => ?_)
        refine gm_iload d_X12_looks_174 9 rfl ?_
        refine gm_iload d_X12_looks_176 1 rfl ?_
        refine gm_join (S := Int32) (pj := 229) (kj := 0) (nj := 0) (fun s67 => s27.2.2.2) (fun s67 => [(0, .ref a0), (1, .int a1), (2, .int s27.1), (3, .int x24), (4, .int ((225 : Int32) + ((140 : Int32) * v26))), (5, .int s27.2.1), (6, .int s27.2.2.1), (7, .int v29), (8, .int v65), (9, .int ((v29 / (8 : Int32)) - (v29 / (8 : Int32)) / (4 : Int32) * (4 : Int32))), (10, .int (v29 / (32 : Int32)))]) (fun s67 => [.int s67, .int s27.2.1, .ref v66]) (fun s67 => ?_) (fun j68 hj68 => ?_)
        ·
          refine gm_zast d_X12_looks_229 (fun m69 _ => ?_)
          refine gm_iinc (v := s27.2.1 + (1 : Int32)) (L' := [(5, .int (s27.2.1 + (1 : Int32))), (0, .ref a0), (1, .int a1), (2, .int s27.1), (3, .int x24), (4, .int ((225 : Int32) + ((140 : Int32) * v26))), (6, .int s27.2.2.1), (7, .int v29), (8, .int v65), (9, .int ((v29 / (8 : Int32)) - (v29 / (8 : Int32)) / (4 : Int32) * (4 : Int32))), (10, .int (v29 / (32 : Int32)))]) d_X12_looks_230 5 rfl rfl (Nat.le_of_ble_eq_true rfl) rfl ?_
          refine gm_goto (tgt := 419) d_X12_looks_233 (by decide) ?_
          refine gm_sub (L' := [(0, .ref a0), (1, .int a1), (2, .int s27.1), (3, .int x24), (4, .int ((225 : Int32) + ((140 : Int32) * v26))), (5, .int (s27.2.1 + (1 : Int32))), (6, .int s27.2.2.1), (7, .int v29)]) [1, 2, 3, 4, 5, 0, 6, 7] rfl ?_
          exact hj31 (s27.1, (s27.2.1 + (1 : Int32)), m69)
        ·
          refine gm_if_ne (tgt := 196) d_X12_looks_178 (by decide) (fun h178 => ?_) (fun h178 => ?_)
          ·
            refine gm_iload d_X12_looks_196 1 rfl ?_
            refine gm_iconst (v := 1) d_X12_looks_198 (by decide) ?_
            refine gm_icmp_ne (tgt := 217) d_X12_looks_199 (by decide) (fun h199 => ?_) (fun h199 => ?_)
            ·
              refine gm_iload d_X12_looks_217 2 rfl ?_
              refine gm_iload d_X12_looks_219 0 rfl ?_
              refine gm_icmp_le (tgt := 228) d_X12_looks_221 (by decide) (fun h221 => ?_) (fun h221 => ?_)
              ·
                refine gm_iconst (v := 0) d_X12_looks_228 (by decide) ?_
                refine gm_sub (L' := [(0, .ref a0), (1, .int a1), (2, .int s27.1), (3, .int x24), (4, .int ((225 : Int32) + ((140 : Int32) * v26))), (5, .int s27.2.1), (6, .int s27.2.2.1), (7, .int v29), (8, .int v65), (9, .int ((v29 / (8 : Int32)) - (v29 / (8 : Int32)) / (4 : Int32) * (4 : Int32))), (10, .int (v29 / (32 : Int32)))]) [4, 5, 6, 7, 8, 9, 10, 3, 2, 1, 0] rfl ?_
                exact hj68 (0 : Int32)
              ·
                refine gm_iconst (v := 1) d_X12_looks_224 (by decide) ?_
                refine gm_goto (tgt := 229) d_X12_looks_225 (by decide) ?_
                refine gm_sub (L' := [(0, .ref a0), (1, .int a1), (2, .int s27.1), (3, .int x24), (4, .int ((225 : Int32) + ((140 : Int32) * v26))), (5, .int s27.2.1), (6, .int s27.2.2.1), (7, .int v29), (8, .int v65), (9, .int ((v29 / (8 : Int32)) - (v29 / (8 : Int32)) / (4 : Int32) * (4 : Int32))), (10, .int (v29 / (32 : Int32)))]) [4, 5, 6, 7, 8, 9, 10, 3, 2, 1, 0] rfl ?_
                exact hj68 (1 : Int32)
            ·
              refine gm_iload d_X12_looks_202 2 rfl ?_
              refine gm_iload d_X12_looks_204 0 rfl ?_
              refine gm_icmp_ne (tgt := 213) d_X12_looks_206 (by decide) (fun h206 => ?_) (fun h206 => ?_)
              ·
                refine gm_iconst (v := 0) d_X12_looks_213 (by decide) ?_
                refine gm_goto (tgt := 229) d_X12_looks_214 (by decide) ?_
                refine gm_sub (L' := [(0, .ref a0), (1, .int a1), (2, .int s27.1), (3, .int x24), (4, .int ((225 : Int32) + ((140 : Int32) * v26))), (5, .int s27.2.1), (6, .int s27.2.2.1), (7, .int v29), (8, .int v65), (9, .int ((v29 / (8 : Int32)) - (v29 / (8 : Int32)) / (4 : Int32) * (4 : Int32))), (10, .int (v29 / (32 : Int32)))]) [4, 5, 6, 7, 8, 9, 10, 3, 2, 1, 0] rfl ?_
                exact hj68 (0 : Int32)
              ·
                refine gm_iconst (v := 1) d_X12_looks_209 (by decide) ?_
                refine gm_goto (tgt := 229) d_X12_looks_210 (by decide) ?_
                refine gm_sub (L' := [(0, .ref a0), (1, .int a1), (2, .int s27.1), (3, .int x24), (4, .int ((225 : Int32) + ((140 : Int32) * v26))), (5, .int s27.2.1), (6, .int s27.2.2.1), (7, .int v29), (8, .int v65), (9, .int ((v29 / (8 : Int32)) - (v29 / (8 : Int32)) / (4 : Int32) * (4 : Int32))), (10, .int (v29 / (32 : Int32)))]) [4, 5, 6, 7, 8, 9, 10, 3, 2, 1, 0] rfl ?_
                exact hj68 (1 : Int32)
          ·
            refine gm_iload d_X12_looks_181 2 rfl ?_
            refine gm_iload d_X12_looks_183 0 rfl ?_
            refine gm_icmp_ge (tgt := 192) d_X12_looks_185 (by decide) (fun h185 => ?_) (fun h185 => ?_)
            ·
              refine gm_iconst (v := 0) d_X12_looks_192 (by decide) ?_
              refine gm_goto (tgt := 229) d_X12_looks_193 (by decide) ?_
              refine gm_sub (L' := [(0, .ref a0), (1, .int a1), (2, .int s27.1), (3, .int x24), (4, .int ((225 : Int32) + ((140 : Int32) * v26))), (5, .int s27.2.1), (6, .int s27.2.2.1), (7, .int v29), (8, .int v65), (9, .int ((v29 / (8 : Int32)) - (v29 / (8 : Int32)) / (4 : Int32) * (4 : Int32))), (10, .int (v29 / (32 : Int32)))]) [4, 5, 6, 7, 8, 9, 10, 3, 2, 1, 0] rfl ?_
              exact hj68 (0 : Int32)
            ·
              refine gm_iconst (v := 1) d_X12_looks_188 (by decide) ?_
              refine gm_goto (tgt := 229) d_X12_looks_189 (by decide) ?_
              refine gm_sub (L' := [(0, .ref a0), (1, .int a1), (2, .int s27.1), (3, .int x24), (4, .int ((225 : Int32) + ((140 : Int32) * v26))), (5, .int s27.2.1), (6, .int s27.2.2.1), (7, .int v29), (8, .int v65), (9, .int ((v29 / (8 : Int32)) - (v29 / (8 : Int32)) / (4 : Int32) * (4 : Int32))), (10, .int (v29 / (32 : Int32)))]) [4, 5, 6, 7, 8, 9, 10, 3, 2, 1, 0] rfl ?_
              exact hj68 (1 : Int32)
