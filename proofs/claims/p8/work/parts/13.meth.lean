theorem d_X12_pass_0 : decode prog_14_method_44_code 0 = .ok (.iload_n 1, 1) := ge_iload_n_1 (by decide +kernel)
theorem d_X12_pass_1 : decode prog_14_method_44_code 1 = .ok (.iconst 0, 1) := ge_iconst_0 (by decide +kernel)
theorem d_X12_pass_2 : decode prog_14_method_44_code 2 = .ok (.bipush 60, 2) := ge_bipush (by decide +kernel)
theorem d_X12_pass_4 : decode prog_14_method_44_code 4 = .ok (.invokestatic 44, 3) := ge_invokestatic (by decide +kernel)
theorem d_X12_pass_7 : decode prog_14_method_44_code 7 = .ok (.ifCond .ne 6, 3) := ge_ifCond_ne (by decide +kernel)
theorem d_X12_pass_10 : decode prog_14_method_44_code 10 = .ok (.bipush (-2), 2) := ge_bipush (by decide +kernel)
theorem d_X12_pass_12 : decode prog_14_method_44_code 12 = .ok (.ireturn, 1) := ge_ireturn (by decide +kernel)
theorem d_X12_pass_13 : decode prog_14_method_44_code 13 = .ok (.aload_n 0, 1) := ge_aload_n_0 (by decide +kernel)
theorem d_X12_pass_14 : decode prog_14_method_44_code 14 = .ok (.getfield 9, 3) := ge_getfield (by decide +kernel)
theorem d_X12_pass_17 : decode prog_14_method_44_code 17 = .ok (.iconst 0, 1) := ge_iconst_0 (by decide +kernel)
theorem d_X12_pass_18 : decode prog_14_method_44_code 18 = .ok (.iaload, 1) := ge_iaload (by decide +kernel)
theorem d_X12_pass_19 : decode prog_14_method_44_code 19 = .ok (.iload_n 1, 1) := ge_iload_n_1 (by decide +kernel)
theorem d_X12_pass_20 : decode prog_14_method_44_code 20 = .ok (.iadd, 1) := ge_iadd (by decide +kernel)
theorem d_X12_pass_21 : decode prog_14_method_44_code 21 = .ok (.sipush 9999, 3) := ge_sipush (by decide +kernel)
theorem d_X12_pass_24 : decode prog_14_method_44_code 24 = .ok (.if_icmp .le 6, 3) := ge_if_icmp_le (by decide +kernel)
theorem d_X12_pass_27 : decode prog_14_method_44_code 27 = .ok (.bipush (-3), 2) := ge_bipush (by decide +kernel)
theorem d_X12_pass_29 : decode prog_14_method_44_code 29 = .ok (.ireturn, 1) := ge_ireturn (by decide +kernel)
theorem d_X12_pass_30 : decode prog_14_method_44_code 30 = .ok (.aload_n 0, 1) := ge_aload_n_0 (by decide +kernel)
theorem d_X12_pass_31 : decode prog_14_method_44_code 31 = .ok (.iload_n 1, 1) := ge_iload_n_1 (by decide +kernel)
theorem d_X12_pass_32 : decode prog_14_method_44_code 32 = .ok (.invokevirtual 180, 3) := ge_invokevirtual (by decide +kernel)
theorem d_X12_pass_35 : decode prog_14_method_44_code 35 = .ok (.aload_n 0, 1) := ge_aload_n_0 (by decide +kernel)
theorem d_X12_pass_36 : decode prog_14_method_44_code 36 = .ok (.getfield 9, 3) := ge_getfield (by decide +kernel)
theorem d_X12_pass_39 : decode prog_14_method_44_code 39 = .ok (.iconst 0, 1) := ge_iconst_0 (by decide +kernel)
theorem d_X12_pass_40 : decode prog_14_method_44_code 40 = .ok (.iaload, 1) := ge_iaload (by decide +kernel)
theorem d_X12_pass_41 : decode prog_14_method_44_code 41 = .ok (.ireturn, 1) := ge_ireturn (by decide +kernel)
def f_X12_pass (a0 : Nat) (a1 : Int32) (μ : gm_M) : Option (Option Value × gm_M) := gm_bI (f_X12_in a1 (0 : Int32) (60 : Int32) μ) (fun x2 m1 => if x2 ≠ 0 then gm_gR m1 [17] a0 1 (fun v3 => gm_aI m1 v3 (0 : Int32) (fun v4 => if (v4 + a1) ≤ (9999 : Int32) then if gm_tag m1 a0 = 17 then gm_bV (f_X12_goesOn a0 a1 m1) (fun m5 => gm_gR m5 [17] a0 1 (fun v7 => gm_aI m5 v7 (0 : Int32) (fun v8 => some (some (.int v8), m5)))) else none else some (some (.int (-3 : Int32)), m1))) else some (some (.int (-2 : Int32)), m1))
set_option maxHeartbeats 4000000 in
theorem c_X12_pass (a0 : Nat) (a1 : Int32) (μ : gm_M) : gm_Call ({ cls := "GumBubbleModel", name := "pass", desc := "(I)I" } : Jvm.MethodName) prog_14_method_44_code 2 (some .int) 5 0 0 [.ref a0, .int a1] μ (f_X12_pass a0 a1 μ) := by
  refine gm_start PN_12 (Nat.le_of_ble_eq_true rfl) (fun res μe => ?_)
  unfold f_X12_pass
  show gm_A "GumBubbleModel" (gm_nm "pass") _ _ _ _ _ _ _ _ _ 0 [(0, .ref a0), (1, .int a1)] [] _ _
  refine gm_iload_n d_X12_pass_0 rfl 1 rfl ?_
  refine gm_iconst (v := 0) d_X12_pass_1 (by decide) ?_
  refine gm_bipush (v := 60) d_X12_pass_2 (by decide) ?_
  refine gm_callS [.int a1, .int (0 : Int32), .int (60 : Int32)] (c_X12_in a1 (0 : Int32) (60 : Int32) μ) B_X12_in gw_964 rfl rfl rfl d_X12_pass_4 (gm_kI (fun x2 m1 => ?_))
  refine gm_if_ne (tgt := 13) d_X12_pass_7 (by decide) (fun h7 => ?_) (fun h7 => ?_)
  ·
    refine gm_aload_n d_X12_pass_13 rfl 0 rfl ?_
    refine gm_getR F_12_s gw_890 d_X12_pass_14 (fun v3 _ => ?_)
    refine gm_iconst (v := 0) d_X12_pass_17 (by decide) ?_
    refine gm_iald d_X12_pass_18 (fun v4 _ => ?_)
    refine gm_iload_n d_X12_pass_19 rfl 1 rfl ?_
    refine gm_iadd d_X12_pass_20 ?_
    refine gm_sipush (v := 9999) d_X12_pass_21 (by decide) ?_
    refine gm_icmp_le (tgt := 30) d_X12_pass_24 (by decide) (fun h24 => ?_) (fun h24 => ?_)
    ·
      refine gm_aload_n d_X12_pass_30 rfl 0 rfl ?_
      refine gm_iload_n d_X12_pass_31 rfl 1 rfl ?_
      refine gm_grd (fun g32 => ?_)
      refine gm_callV (k0 := 12) [.int a1] (c_X12_goesOn a0 a1 m1) g32 rfl B_X12_goesOn gw_1110 gs_49 rfl rfl rfl d_X12_pass_32 (gm_kV (fun m5 => ?_))
      refine gm_aload_n d_X12_pass_35 rfl 0 rfl ?_
      refine gm_getR F_12_s gw_890 d_X12_pass_36 (fun v7 _ => ?_)
      refine gm_iconst (v := 0) d_X12_pass_39 (by decide) ?_
      refine gm_iald d_X12_pass_40 (fun v8 _ => ?_)
      exact gm_iret rfl d_X12_pass_41 (Nat.le_of_ble_eq_true rfl) (Nat.le_of_ble_eq_true rfl) (fun h => h)
    ·
      refine gm_bipush (v := -3) d_X12_pass_27 (by decide) ?_
      exact gm_iret rfl d_X12_pass_29 (Nat.le_of_ble_eq_true rfl) (Nat.le_of_ble_eq_true rfl) (fun h => h)
  ·
    refine gm_bipush (v := -2) d_X12_pass_10 (by decide) ?_
    exact gm_iret rfl d_X12_pass_12 (Nat.le_of_ble_eq_true rfl) (Nat.le_of_ble_eq_true rfl) (fun h => h)
theorem d_X12_pieces_0 : decode prog_14_method_49_code 0 = .ok (.aload_n 0, 1) := ge_aload_n_0 (by decide +kernel)
theorem d_X12_pieces_1 : decode prog_14_method_49_code 1 = .ok (.iload_n 1, 1) := ge_iload_n_1 (by decide +kernel)
theorem d_X12_pieces_2 : decode prog_14_method_49_code 2 = .ok (.invokevirtual 154, 3) := ge_invokevirtual (by decide +kernel)
theorem d_X12_pieces_5 : decode prog_14_method_49_code 5 = .ok (.ifCond .eq 12, 3) := ge_ifCond_eq (by decide +kernel)
theorem d_X12_pieces_8 : decode prog_14_method_49_code 8 = .ok (.iload_n 2, 1) := ge_iload_n_2 (by decide +kernel)
theorem d_X12_pieces_9 : decode prog_14_method_49_code 9 = .ok (.iconst 0, 1) := ge_iconst_0 (by decide +kernel)
theorem d_X12_pieces_10 : decode prog_14_method_49_code 10 = .ok (.iconst 1, 1) := ge_iconst_1 (by decide +kernel)
theorem d_X12_pieces_11 : decode prog_14_method_49_code 11 = .ok (.invokestatic 44, 3) := ge_invokestatic (by decide +kernel)
theorem d_X12_pieces_14 : decode prog_14_method_49_code 14 = .ok (.ifCond .ne 5, 3) := ge_ifCond_ne (by decide +kernel)
theorem d_X12_pieces_17 : decode prog_14_method_49_code 17 = .ok (.iconst (-1), 1) := ge_iconst_m1_ (by decide +kernel)
theorem d_X12_pieces_18 : decode prog_14_method_49_code 18 = .ok (.ireturn, 1) := ge_ireturn (by decide +kernel)
theorem d_X12_pieces_19 : decode prog_14_method_49_code 19 = .ok (.iconst 0, 1) := ge_iconst_0 (by decide +kernel)
theorem d_X12_pieces_20 : decode prog_14_method_49_code 20 = .ok (.istore_n 3, 1) := ge_istore_n_3 (by decide +kernel)
theorem d_X12_pieces_21 : decode prog_14_method_49_code 21 = .ok (.iconst (-1), 1) := ge_iconst_m1_ (by decide +kernel)
theorem d_X12_pieces_22 : decode prog_14_method_49_code 22 = .ok (.istore 4, 2) := ge_istore (by decide +kernel)
theorem d_X12_pieces_24 : decode prog_14_method_49_code 24 = .ok (.aload_n 0, 1) := ge_aload_n_0 (by decide +kernel)
theorem d_X12_pieces_25 : decode prog_14_method_49_code 25 = .ok (.invokevirtual 183, 3) := ge_invokevirtual (by decide +kernel)
theorem d_X12_pieces_28 : decode prog_14_method_49_code 28 = .ok (.iconst 0, 1) := ge_iconst_0 (by decide +kernel)
theorem d_X12_pieces_29 : decode prog_14_method_49_code 29 = .ok (.istore 5, 2) := ge_istore (by decide +kernel)
theorem d_X12_pieces_31 : decode prog_14_method_49_code 31 = .ok (.iload 5, 2) := ge_iload (by decide +kernel)
theorem d_X12_pieces_33 : decode prog_14_method_49_code 33 = .ok (.bipush 6, 2) := ge_bipush (by decide +kernel)
theorem d_X12_pieces_35 : decode prog_14_method_49_code 35 = .ok (.if_icmp .gt 86, 3) := ge_if_icmp_gt (by decide +kernel)
theorem d_X12_pieces_38 : decode prog_14_method_49_code 38 = .ok (.aload_n 0, 1) := ge_aload_n_0 (by decide +kernel)
theorem d_X12_pieces_39 : decode prog_14_method_49_code 39 = .ok (.getfield 9, 3) := ge_getfield (by decide +kernel)
theorem d_X12_pieces_42 : decode prog_14_method_49_code 42 = .ok (.iconst 1, 1) := ge_iconst_1 (by decide +kernel)
theorem d_X12_pieces_43 : decode prog_14_method_49_code 43 = .ok (.iload_n 1, 1) := ge_iload_n_1 (by decide +kernel)
theorem d_X12_pieces_44 : decode prog_14_method_49_code 44 = .ok (.iadd, 1) := ge_iadd (by decide +kernel)
theorem d_X12_pieces_45 : decode prog_14_method_49_code 45 = .ok (.iload 5, 2) := ge_iload (by decide +kernel)
theorem d_X12_pieces_47 : decode prog_14_method_49_code 47 = .ok (.iastore, 1) := ge_iastore (by decide +kernel)
theorem d_X12_pieces_48 : decode prog_14_method_49_code 48 = .ok (.aload_n 0, 1) := ge_aload_n_0 (by decide +kernel)
theorem d_X12_pieces_49 : decode prog_14_method_49_code 49 = .ok (.getfield 9, 3) := ge_getfield (by decide +kernel)
theorem d_X12_pieces_52 : decode prog_14_method_49_code 52 = .ok (.bipush 6, 2) := ge_bipush (by decide +kernel)
theorem d_X12_pieces_54 : decode prog_14_method_49_code 54 = .ok (.iload_n 1, 1) := ge_iload_n_1 (by decide +kernel)
theorem d_X12_pieces_55 : decode prog_14_method_49_code 55 = .ok (.iadd, 1) := ge_iadd (by decide +kernel)
theorem d_X12_pieces_56 : decode prog_14_method_49_code 56 = .ok (.iload 5, 2) := ge_iload (by decide +kernel)
theorem d_X12_pieces_58 : decode prog_14_method_49_code 58 = .ok (.aload_n 0, 1) := ge_aload_n_0 (by decide +kernel)
theorem d_X12_pieces_59 : decode prog_14_method_49_code 59 = .ok (.invokevirtual 151, 3) := ge_invokevirtual (by decide +kernel)
theorem d_X12_pieces_62 : decode prog_14_method_49_code 62 = .ok (.imul, 1) := ge_imul (by decide +kernel)
theorem d_X12_pieces_63 : decode prog_14_method_49_code 63 = .ok (.iastore, 1) := ge_iastore (by decide +kernel)
theorem d_X12_pieces_64 : decode prog_14_method_49_code 64 = .ok (.aload_n 0, 1) := ge_aload_n_0 (by decide +kernel)
theorem d_X12_pieces_65 : decode prog_14_method_49_code 65 = .ok (.getfield 9, 3) := ge_getfield (by decide +kernel)
theorem d_X12_pieces_68 : decode prog_14_method_49_code 68 = .ok (.bipush 16, 2) := ge_bipush (by decide +kernel)
theorem d_X12_pieces_70 : decode prog_14_method_49_code 70 = .ok (.iload_n 1, 1) := ge_iload_n_1 (by decide +kernel)
theorem d_X12_pieces_71 : decode prog_14_method_49_code 71 = .ok (.iadd, 1) := ge_iadd (by decide +kernel)
theorem d_X12_pieces_72 : decode prog_14_method_49_code 72 = .ok (.iconst 0, 1) := ge_iconst_0 (by decide +kernel)
theorem d_X12_pieces_73 : decode prog_14_method_49_code 73 = .ok (.iastore, 1) := ge_iastore (by decide +kernel)
theorem d_X12_pieces_74 : decode prog_14_method_49_code 74 = .ok (.aload_n 0, 1) := ge_aload_n_0 (by decide +kernel)
theorem d_X12_pieces_75 : decode prog_14_method_49_code 75 = .ok (.iload_n 1, 1) := ge_iload_n_1 (by decide +kernel)
theorem d_X12_pieces_76 : decode prog_14_method_49_code 76 = .ok (.invokevirtual 198, 3) := ge_invokevirtual (by decide +kernel)
theorem d_X12_pieces_79 : decode prog_14_method_49_code 79 = .ok (.aload_n 0, 1) := ge_aload_n_0 (by decide +kernel)
theorem d_X12_pieces_80 : decode prog_14_method_49_code 80 = .ok (.getfield 192, 3) := ge_getfield (by decide +kernel)
theorem d_X12_pieces_83 : decode prog_14_method_49_code 83 = .ok (.iload 4, 2) := ge_iload (by decide +kernel)
theorem d_X12_pieces_85 : decode prog_14_method_49_code 85 = .ok (.if_icmp .le 8, 3) := ge_if_icmp_le (by decide +kernel)
theorem d_X12_pieces_88 : decode prog_14_method_49_code 88 = .ok (.iload 5, 2) := ge_iload (by decide +kernel)
theorem d_X12_pieces_90 : decode prog_14_method_49_code 90 = .ok (.goto 4, 3) := ge_goto (by decide +kernel)
theorem d_X12_pieces_93 : decode prog_14_method_49_code 93 = .ok (.iload_n 3, 1) := ge_iload_n_3 (by decide +kernel)
theorem d_X12_pieces_94 : decode prog_14_method_49_code 94 = .ok (.istore_n 3, 1) := ge_istore_n_3 (by decide +kernel)
theorem d_X12_pieces_95 : decode prog_14_method_49_code 95 = .ok (.aload_n 0, 1) := ge_aload_n_0 (by decide +kernel)
theorem d_X12_pieces_96 : decode prog_14_method_49_code 96 = .ok (.getfield 192, 3) := ge_getfield (by decide +kernel)
theorem d_X12_pieces_99 : decode prog_14_method_49_code 99 = .ok (.iload 4, 2) := ge_iload (by decide +kernel)
theorem d_X12_pieces_101 : decode prog_14_method_49_code 101 = .ok (.if_icmp .le 10, 3) := ge_if_icmp_le (by decide +kernel)
theorem d_X12_pieces_104 : decode prog_14_method_49_code 104 = .ok (.aload_n 0, 1) := ge_aload_n_0 (by decide +kernel)
theorem d_X12_pieces_105 : decode prog_14_method_49_code 105 = .ok (.getfield 192, 3) := ge_getfield (by decide +kernel)
theorem d_X12_pieces_108 : decode prog_14_method_49_code 108 = .ok (.goto 5, 3) := ge_goto (by decide +kernel)
theorem d_X12_pieces_111 : decode prog_14_method_49_code 111 = .ok (.iload 4, 2) := ge_iload (by decide +kernel)
theorem d_X12_pieces_113 : decode prog_14_method_49_code 113 = .ok (.istore 4, 2) := ge_istore (by decide +kernel)
theorem d_X12_pieces_115 : decode prog_14_method_49_code 115 = .ok (.iinc 5 1, 3) := ge_iinc (by decide +kernel)
theorem d_X12_pieces_118 : decode prog_14_method_49_code 118 = .ok (.goto (-87), 3) := ge_goto (by decide +kernel)
theorem d_X12_pieces_121 : decode prog_14_method_49_code 121 = .ok (.iload_n 2, 1) := ge_iload_n_2 (by decide +kernel)
theorem d_X12_pieces_122 : decode prog_14_method_49_code 122 = .ok (.ifCond .ne 7, 3) := ge_ifCond_ne (by decide +kernel)
theorem d_X12_pieces_125 : decode prog_14_method_49_code 125 = .ok (.iload_n 3, 1) := ge_iload_n_3 (by decide +kernel)
theorem d_X12_pieces_126 : decode prog_14_method_49_code 126 = .ok (.goto 5, 3) := ge_goto (by decide +kernel)
theorem d_X12_pieces_129 : decode prog_14_method_49_code 129 = .ok (.iload 4, 2) := ge_iload (by decide +kernel)
theorem d_X12_pieces_131 : decode prog_14_method_49_code 131 = .ok (.ireturn, 1) := ge_ireturn (by decide +kernel)
def f_X12_pieces (a0 : Nat) (a1 : Int32) (a2 : Int32) (μ : gm_M) : Option (Option Value × gm_M) := if gm_tag μ a0 = 17 then gm_bI (f_X12_isChild a0 a1 μ) (fun x2 m1 => if x2 = 0 then some (some (.int (-1 : Int32)), m1) else gm_bI (f_X12_in a2 (0 : Int32) (1 : Int32) m1) (fun x4 m3 => if x4 ≠ 0 then if gm_tag m3 a0 = 17 then gm_bV (f_X12_keeps a0 m3) (fun m5 => gm_loop (fun (s7 : Int32 × Int32 × Int32 × gm_M) => if (6 : Int32) < s7.2.2.1 then if a2 ≠ 0 then some (Sum.inr (some (.int s7.2.1), s7.2.2.2)) else some (Sum.inr (some (.int s7.1), s7.2.2.2)) else gm_gR s7.2.2.2 [17] a0 1 (fun v8 => gm_sI s7.2.2.2 v8 ((1 : Int32) + a1) s7.2.2.1 (fun m9 => gm_gR m9 [17] a0 1 (fun v10 => if gm_tag m9 a0 = 17 then gm_bI (f_X12_sweetNow a0 m9) (fun x12 m11 => gm_sI m11 v10 ((6 : Int32) + a1) (s7.2.2.1 * x12) (fun m13 => gm_gR m13 [17] a0 1 (fun v14 => gm_sI m13 v14 ((16 : Int32) + a1) (0 : Int32) (fun m15 => if gm_tag m15 a0 = 17 then gm_bV (f_X12_looksForWhen a0 a1 m15) (fun m16 => gm_gI m16 [17] a0 13 (fun v18 => gm_j (fun (s19 : Int32) => gm_gI m16 [17] a0 13 (fun v21 => gm_j (fun (s22 : Int32) => some (Sum.inl (s19, s22, (s7.2.2.1 + (1 : Int32)), m16))) (fun j23 => if v21 ≤ s7.2.1 then j23 s7.2.1 else gm_gI m16 [17] a0 13 (fun v24 => j23 v24)))) (fun j20 => if v18 ≤ s7.2.1 then j20 s7.1 else j20 s7.2.2.1))) else none)))) else none)))) 5000 ((0 : Int32), (-1 : Int32), (0 : Int32), m5)) else none else some (some (.int (-1 : Int32)), m3))) else none
set_option maxHeartbeats 4000000 in
theorem c_X12_pieces (a0 : Nat) (a1 : Int32) (a2 : Int32) (μ : gm_M) : gm_Call ({ cls := "GumBubbleModel", name := "pieces", desc := "(II)I" } : Jvm.MethodName) prog_14_method_49_code 6 (some .int) 5 0 0 [.ref a0, .int a1, .int a2] μ (f_X12_pieces a0 a1 a2 μ) := by
  refine gm_start PN_12 (Nat.le_of_ble_eq_true rfl) (fun res μe => ?_)
  unfold f_X12_pieces
  show gm_A "GumBubbleModel" (gm_nm "pieces") _ _ _ _ _ _ _ _ _ 0 [(0, .ref a0), (1, .int a1), (2, .int a2)] [] _ _
  refine gm_aload_n d_X12_pieces_0 rfl 0 rfl ?_
  refine gm_iload_n d_X12_pieces_1 rfl 1 rfl ?_
  refine gm_grd (fun g2 => ?_)
  refine gm_callV (k0 := 12) [.int a1] (c_X12_isChild a0 a1 μ) g2 rfl B_X12_isChild gw_1047 gs_40 rfl rfl rfl d_X12_pieces_2 (gm_kI (fun x2 m1 => ?_))
  refine gm_if_eq (tgt := 17) d_X12_pieces_5 (by decide) (fun h5 => ?_) (fun h5 => ?_)
  ·
    refine gm_iconst (v := -1) d_X12_pieces_17 (by decide) ?_
    exact gm_iret rfl d_X12_pieces_18 (Nat.le_of_ble_eq_true rfl) (Nat.le_of_ble_eq_true rfl) (fun h => h)
  ·
    refine gm_iload_n d_X12_pieces_8 rfl 2 rfl ?_
    refine gm_iconst (v := 0) d_X12_pieces_9 (by decide) ?_
    refine gm_iconst (v := 1) d_X12_pieces_10 (by decide) ?_
    refine gm_callS [.int a2, .int (0 : Int32), .int (1 : Int32)] (c_X12_in a2 (0 : Int32) (1 : Int32) m1) B_X12_in gw_964 rfl rfl rfl d_X12_pieces_11 (gm_kI (fun x4 m3 => ?_))
    refine gm_if_ne (tgt := 19) d_X12_pieces_14 (by decide) (fun h14 => ?_) (fun h14 => ?_)
    ·
      refine gm_iconst (v := 0) d_X12_pieces_19 (by decide) ?_
      refine gm_istore_n (L' := [(3, .int (0 : Int32)), (0, .ref a0), (1, .int a1), (2, .int a2)]) d_X12_pieces_20 rfl (Nat.le_of_ble_eq_true rfl) rfl ?_
      refine gm_iconst (v := -1) d_X12_pieces_21 (by decide) ?_
      refine gm_istore (L' := [(4, .int (-1 : Int32)), (3, .int (0 : Int32)), (0, .ref a0), (1, .int a1), (2, .int a2)]) d_X12_pieces_22 (Nat.le_of_ble_eq_true rfl) rfl ?_
      refine gm_aload_n d_X12_pieces_24 rfl 2 rfl ?_
      refine gm_grd (fun g25 => ?_)
      refine gm_callV (k0 := 12) [] (c_X12_keeps a0 m3) g25 rfl B_X12_keeps gw_1126 gs_52 rfl rfl rfl d_X12_pieces_25 (gm_kV (fun m5 => ?_))
      refine gm_iconst (v := 0) d_X12_pieces_28 (by decide) ?_
      refine gm_istore (L' := [(5, .int (0 : Int32)), (4, .int (-1 : Int32)), (3, .int (0 : Int32)), (0, .ref a0), (1, .int a1), (2, .int a2)]) d_X12_pieces_29 (Nat.le_of_ble_eq_true rfl) rfl ?_
      refine gm_sub (L' := [(0, .ref a0), (1, .int a1), (2, .int a2), (3, .int (0 : Int32)), (4, .int (-1 : Int32)), (5, .int (0 : Int32))]) [3, 4, 5, 2, 1, 0] rfl ?_
      refine gm_lp (S := Int32 × Int32 × Int32 × gm_M) (fun _ => 0) (fun _ => 0) (fun s7 => s7.2.2.2) (fun s7 => [(0, .ref a0), (1, .int a1), (2, .int a2), (3, .int s7.1), (4, .int s7.2.1), (5, .int s7.2.2.1)]) (fun _ => []) (fun s7 => ?_) 5000 ((0 : Int32), (-1 : Int32), (0 : Int32), m5)
      refine gm_iload d_X12_pieces_31 5 rfl ?_
      refine gm_bipush (v := 6) d_X12_pieces_33 (by decide) ?_
      refine gm_icmp_gt (tgt := 121) d_X12_pieces_35 (by decide) (fun h35 => ?_) (fun h35 => ?_)
      ·
        refine gm_iload_n d_X12_pieces_121 rfl 2 rfl ?_
        refine gm_if_ne (tgt := 129) d_X12_pieces_122 (by decide) (fun h122 => ?_) (fun h122 => ?_)
        ·
          refine gm_iload d_X12_pieces_129 4 rfl ?_
          exact gm_iret rfl d_X12_pieces_131 (Nat.le_of_ble_eq_true rfl) (Nat.le_of_ble_eq_true rfl) (fun h => h)
        ·
          refine gm_iload_n d_X12_pieces_125 rfl 3 rfl ?_
          refine gm_goto (tgt := 131) d_X12_pieces_126 (by decide) ?_
          exact gm_iret rfl d_X12_pieces_131 (Nat.le_of_ble_eq_true rfl) (Nat.le_of_ble_eq_true rfl) (fun h => h)
      ·
        refine gm_aload_n d_X12_pieces_38 rfl 0 rfl ?_
        refine gm_getR F_12_s gw_890 d_X12_pieces_39 (fun v8 _ => ?_)
        refine gm_iconst (v := 1) d_X12_pieces_42 (by decide) ?_
        refine gm_iload_n d_X12_pieces_43 rfl 1 rfl ?_
        refine gm_iadd d_X12_pieces_44 ?_
        refine gm_iload d_X12_pieces_45 5 rfl ?_
        refine gm_iast d_X12_pieces_47 (fun m9 _ => ?_)
        refine gm_aload_n d_X12_pieces_48 rfl 0 rfl ?_
        refine gm_getR F_12_s gw_890 d_X12_pieces_49 (fun v10 _ => ?_)
        refine gm_bipush (v := 6) d_X12_pieces_52 (by decide) ?_
        refine gm_iload_n d_X12_pieces_54 rfl 1 rfl ?_
        refine gm_iadd d_X12_pieces_55 ?_
        refine gm_iload d_X12_pieces_56 5 rfl ?_
        refine gm_aload_n d_X12_pieces_58 rfl 0 rfl ?_
        refine gm_grd (fun g59 => ?_)
        refine gm_callV (k0 := 12) [] (c_X12_sweetNow a0 m9) g59 rfl B_X12_sweetNow gw_1035 gs_38 rfl rfl rfl d_X12_pieces_59 (gm_kI (fun x12 m11 => ?_))
        refine gm_imul d_X12_pieces_62 ?_
        refine gm_iast d_X12_pieces_63 (fun m13 _ => ?_)
        refine gm_aload_n d_X12_pieces_64 rfl 0 rfl ?_
        refine gm_getR F_12_s gw_890 d_X12_pieces_65 (fun v14 _ => ?_)
        refine gm_bipush (v := 16) d_X12_pieces_68 (by decide) ?_
        refine gm_iload_n d_X12_pieces_70 rfl 1 rfl ?_
        refine gm_iadd d_X12_pieces_71 ?_
        refine gm_iconst (v := 0) d_X12_pieces_72 (by decide) ?_
        refine gm_iast d_X12_pieces_73 (fun m15 _ => ?_)
        refine gm_aload_n d_X12_pieces_74 rfl 0 rfl ?_
        refine gm_iload_n d_X12_pieces_75 rfl 1 rfl ?_
        refine gm_grd (fun g76 => ?_)
        refine gm_callV (k0 := 12) [.int a1] (c_X12_looksForWhen a0 a1 m15) g76 rfl B_X12_looksForWhen gw_1138 gs_54 rfl rfl rfl d_X12_pieces_76 (gm_kV (fun m16 => ?_))
        refine gm_aload_n d_X12_pieces_79 rfl 0 rfl ?_
        refine gm_getI F_12_mostHeld gw_902 d_X12_pieces_80 (fun v18 _ => ?_)
        refine gm_iload d_X12_pieces_83 4 rfl ?_
        refine gm_join (S := Int32) (pj := 94) (kj := 0) (nj := 0) (fun s19 => m16) (fun s19 => [(0, .ref a0), (1, .int a1), (2, .int a2), (3, .int s7.1), (4, .int s7.2.1), (5, .int s7.2.2.1)]) (fun s19 => [.int s19]) (fun s19 => ?_) (fun j20 hj20 => ?_)
        ·
          refine gm_istore_n (L' := [(3, .int s19), (0, .ref a0), (1, .int a1), (2, .int a2), (4, .int s7.2.1), (5, .int s7.2.2.1)]) d_X12_pieces_94 rfl (Nat.le_of_ble_eq_true rfl) rfl ?_
          refine gm_aload_n d_X12_pieces_95 rfl 1 rfl ?_
          refine gm_getI F_12_mostHeld gw_902 d_X12_pieces_96 (fun v21 _ => ?_)
          refine gm_iload d_X12_pieces_99 4 rfl ?_
          refine gm_join (S := Int32) (pj := 113) (kj := 0) (nj := 0) (fun s22 => m16) (fun s22 => [(0, .ref a0), (1, .int a1), (2, .int a2), (3, .int s19), (4, .int s7.2.1), (5, .int s7.2.2.1)]) (fun s22 => [.int s22]) (fun s22 => ?_) (fun j23 hj23 => ?_)
          ·
            refine gm_istore (L' := [(4, .int s22), (0, .ref a0), (1, .int a1), (2, .int a2), (3, .int s19), (5, .int s7.2.2.1)]) d_X12_pieces_113 (Nat.le_of_ble_eq_true rfl) rfl ?_
            refine gm_iinc (v := s7.2.2.1 + (1 : Int32)) (L' := [(5, .int (s7.2.2.1 + (1 : Int32))), (4, .int s22), (0, .ref a0), (1, .int a1), (2, .int a2), (3, .int s19)]) d_X12_pieces_115 5 rfl rfl (Nat.le_of_ble_eq_true rfl) rfl ?_
            refine gm_goto (tgt := 31) d_X12_pieces_118 (by decide) ?_
            refine gm_sub (L' := [(0, .ref a0), (1, .int a1), (2, .int a2), (3, .int s19), (4, .int s22), (5, .int (s7.2.2.1 + (1 : Int32)))]) [2, 3, 4, 5, 1, 0] rfl ?_
            exact gm_back (fun h => h)
          ·
            refine gm_icmp_le (tgt := 111) d_X12_pieces_101 (by decide) (fun h101 => ?_) (fun h101 => ?_)
            ·
              refine gm_iload d_X12_pieces_111 4 rfl ?_
              refine gm_sub (L' := [(0, .ref a0), (1, .int a1), (2, .int a2), (3, .int s19), (4, .int s7.2.1), (5, .int s7.2.2.1)]) [1, 2, 3, 0, 4, 5] rfl ?_
              exact hj23 s7.2.1
            ·
              refine gm_aload_n d_X12_pieces_104 rfl 1 rfl ?_
              refine gm_getI F_12_mostHeld gw_902 d_X12_pieces_105 (fun v24 _ => ?_)
              refine gm_goto (tgt := 113) d_X12_pieces_108 (by decide) ?_
              refine gm_sub (L' := [(0, .ref a0), (1, .int a1), (2, .int a2), (3, .int s19), (4, .int s7.2.1), (5, .int s7.2.2.1)]) [1, 2, 3, 0, 4, 5] rfl ?_
              exact hj23 v24
        ·
          refine gm_icmp_le (tgt := 93) d_X12_pieces_85 (by decide) (fun h85 => ?_) (fun h85 => ?_)
          ·
            refine gm_iload_n d_X12_pieces_93 rfl 3 rfl ?_
            exact hj20 s7.1
          ·
            refine gm_iload d_X12_pieces_88 5 rfl ?_
            refine gm_goto (tgt := 94) d_X12_pieces_90 (by decide) ?_
            exact hj20 s7.2.2.1
    ·
      refine gm_iconst (v := -1) d_X12_pieces_17 (by decide) ?_
      exact gm_iret rfl d_X12_pieces_18 (Nat.le_of_ble_eq_true rfl) (Nat.le_of_ble_eq_true rfl) (fun h => h)
theorem d_X12_plan_0 : decode prog_14_method_73_code 0 = .ok (.iload_n 1, 1) := ge_iload_n_1 (by decide +kernel)
theorem d_X12_plan_1 : decode prog_14_method_73_code 1 = .ok (.iconst (-1), 1) := ge_iconst_m1_ (by decide +kernel)
theorem d_X12_plan_2 : decode prog_14_method_73_code 2 = .ok (.if_icmp .ne 13, 3) := ge_if_icmp_ne (by decide +kernel)
theorem d_X12_plan_5 : decode prog_14_method_73_code 5 = .ok (.aload_n 0, 1) := ge_aload_n_0 (by decide +kernel)
theorem d_X12_plan_6 : decode prog_14_method_73_code 6 = .ok (.getfield 9, 3) := ge_getfield (by decide +kernel)
theorem d_X12_plan_9 : decode prog_14_method_73_code 9 = .ok (.bipush 29, 2) := ge_bipush (by decide +kernel)
theorem d_X12_plan_11 : decode prog_14_method_73_code 11 = .ok (.iconst 0, 1) := ge_iconst_0 (by decide +kernel)
theorem d_X12_plan_12 : decode prog_14_method_73_code 12 = .ok (.iastore, 1) := ge_iastore (by decide +kernel)
theorem d_X12_plan_13 : decode prog_14_method_73_code 13 = .ok (.iconst 0, 1) := ge_iconst_0 (by decide +kernel)
theorem d_X12_plan_14 : decode prog_14_method_73_code 14 = .ok (.ireturn, 1) := ge_ireturn (by decide +kernel)
theorem d_X12_plan_15 : decode prog_14_method_73_code 15 = .ok (.iload_n 1, 1) := ge_iload_n_1 (by decide +kernel)
theorem d_X12_plan_16 : decode prog_14_method_73_code 16 = .ok (.iconst 0, 1) := ge_iconst_0 (by decide +kernel)
theorem d_X12_plan_17 : decode prog_14_method_73_code 17 = .ok (.iconst 3, 1) := ge_iconst_3 (by decide +kernel)
theorem d_X12_plan_18 : decode prog_14_method_73_code 18 = .ok (.invokestatic 44, 3) := ge_invokestatic (by decide +kernel)
theorem d_X12_plan_21 : decode prog_14_method_73_code 21 = .ok (.ifCond .eq 15, 3) := ge_ifCond_eq (by decide +kernel)
theorem d_X12_plan_24 : decode prog_14_method_73_code 24 = .ok (.iload_n 1, 1) := ge_iload_n_1 (by decide +kernel)
theorem d_X12_plan_25 : decode prog_14_method_73_code 25 = .ok (.ifCond .le 13, 3) := ge_ifCond_le (by decide +kernel)
theorem d_X12_plan_28 : decode prog_14_method_73_code 28 = .ok (.aload_n 0, 1) := ge_aload_n_0 (by decide +kernel)
theorem d_X12_plan_29 : decode prog_14_method_73_code 29 = .ok (.iload_n 2, 1) := ge_iload_n_2 (by decide +kernel)
theorem d_X12_plan_30 : decode prog_14_method_73_code 30 = .ok (.invokevirtual 154, 3) := ge_invokevirtual (by decide +kernel)
theorem d_X12_plan_33 : decode prog_14_method_73_code 33 = .ok (.ifCond .ne 5, 3) := ge_ifCond_ne (by decide +kernel)
theorem d_X12_plan_36 : decode prog_14_method_73_code 36 = .ok (.iconst (-1), 1) := ge_iconst_m1_ (by decide +kernel)
theorem d_X12_plan_37 : decode prog_14_method_73_code 37 = .ok (.ireturn, 1) := ge_ireturn (by decide +kernel)
theorem d_X12_plan_38 : decode prog_14_method_73_code 38 = .ok (.aload_n 0, 1) := ge_aload_n_0 (by decide +kernel)
theorem d_X12_plan_39 : decode prog_14_method_73_code 39 = .ok (.getfield 9, 3) := ge_getfield (by decide +kernel)
theorem d_X12_plan_42 : decode prog_14_method_73_code 42 = .ok (.bipush 29, 2) := ge_bipush (by decide +kernel)
theorem d_X12_plan_44 : decode prog_14_method_73_code 44 = .ok (.iaload, 1) := ge_iaload (by decide +kernel)
theorem d_X12_plan_45 : decode prog_14_method_73_code 45 = .ok (.bipush 8, 2) := ge_bipush (by decide +kernel)
theorem d_X12_plan_47 : decode prog_14_method_73_code 47 = .ok (.if_icmp .ne 6, 3) := ge_if_icmp_ne (by decide +kernel)
theorem d_X12_plan_50 : decode prog_14_method_73_code 50 = .ok (.bipush (-4), 2) := ge_bipush (by decide +kernel)
theorem d_X12_plan_52 : decode prog_14_method_73_code 52 = .ok (.ireturn, 1) := ge_ireturn (by decide +kernel)
theorem d_X12_plan_53 : decode prog_14_method_73_code 53 = .ok (.aload_n 0, 1) := ge_aload_n_0 (by decide +kernel)
theorem d_X12_plan_54 : decode prog_14_method_73_code 54 = .ok (.getfield 9, 3) := ge_getfield (by decide +kernel)
theorem d_X12_plan_57 : decode prog_14_method_73_code 57 = .ok (.bipush 78, 2) := ge_bipush (by decide +kernel)
theorem d_X12_plan_59 : decode prog_14_method_73_code 59 = .ok (.aload_n 0, 1) := ge_aload_n_0 (by decide +kernel)
theorem d_X12_plan_60 : decode prog_14_method_73_code 60 = .ok (.getfield 9, 3) := ge_getfield (by decide +kernel)
theorem d_X12_plan_63 : decode prog_14_method_73_code 63 = .ok (.bipush 29, 2) := ge_bipush (by decide +kernel)
theorem d_X12_plan_65 : decode prog_14_method_73_code 65 = .ok (.iaload, 1) := ge_iaload (by decide +kernel)
theorem d_X12_plan_66 : decode prog_14_method_73_code 66 = .ok (.iadd, 1) := ge_iadd (by decide +kernel)
theorem d_X12_plan_67 : decode prog_14_method_73_code 67 = .ok (.iload_n 1, 1) := ge_iload_n_1 (by decide +kernel)
theorem d_X12_plan_68 : decode prog_14_method_73_code 68 = .ok (.iastore, 1) := ge_iastore (by decide +kernel)
theorem d_X12_plan_69 : decode prog_14_method_73_code 69 = .ok (.aload_n 0, 1) := ge_aload_n_0 (by decide +kernel)
theorem d_X12_plan_70 : decode prog_14_method_73_code 70 = .ok (.getfield 9, 3) := ge_getfield (by decide +kernel)
theorem d_X12_plan_73 : decode prog_14_method_73_code 73 = .ok (.bipush 86, 2) := ge_bipush (by decide +kernel)
theorem d_X12_plan_75 : decode prog_14_method_73_code 75 = .ok (.aload_n 0, 1) := ge_aload_n_0 (by decide +kernel)
theorem d_X12_plan_76 : decode prog_14_method_73_code 76 = .ok (.getfield 9, 3) := ge_getfield (by decide +kernel)
theorem d_X12_plan_79 : decode prog_14_method_73_code 79 = .ok (.bipush 29, 2) := ge_bipush (by decide +kernel)
theorem d_X12_plan_81 : decode prog_14_method_73_code 81 = .ok (.iaload, 1) := ge_iaload (by decide +kernel)
theorem d_X12_plan_82 : decode prog_14_method_73_code 82 = .ok (.iadd, 1) := ge_iadd (by decide +kernel)
theorem d_X12_plan_83 : decode prog_14_method_73_code 83 = .ok (.iload_n 2, 1) := ge_iload_n_2 (by decide +kernel)
theorem d_X12_plan_84 : decode prog_14_method_73_code 84 = .ok (.iastore, 1) := ge_iastore (by decide +kernel)
theorem d_X12_plan_85 : decode prog_14_method_73_code 85 = .ok (.aload_n 0, 1) := ge_aload_n_0 (by decide +kernel)
theorem d_X12_plan_86 : decode prog_14_method_73_code 86 = .ok (.getfield 9, 3) := ge_getfield (by decide +kernel)
theorem d_X12_plan_89 : decode prog_14_method_73_code 89 = .ok (.bipush 29, 2) := ge_bipush (by decide +kernel)
theorem d_X12_plan_91 : decode prog_14_method_73_code 91 = .ok (.dup2, 1) := ge_dup2 (by decide +kernel)
theorem d_X12_plan_92 : decode prog_14_method_73_code 92 = .ok (.iaload, 1) := ge_iaload (by decide +kernel)
theorem d_X12_plan_93 : decode prog_14_method_73_code 93 = .ok (.iconst 1, 1) := ge_iconst_1 (by decide +kernel)
theorem d_X12_plan_94 : decode prog_14_method_73_code 94 = .ok (.iadd, 1) := ge_iadd (by decide +kernel)
theorem d_X12_plan_95 : decode prog_14_method_73_code 95 = .ok (.iastore, 1) := ge_iastore (by decide +kernel)
theorem d_X12_plan_96 : decode prog_14_method_73_code 96 = .ok (.aload_n 0, 1) := ge_aload_n_0 (by decide +kernel)
theorem d_X12_plan_97 : decode prog_14_method_73_code 97 = .ok (.getfield 9, 3) := ge_getfield (by decide +kernel)
theorem d_X12_plan_100 : decode prog_14_method_73_code 100 = .ok (.bipush 29, 2) := ge_bipush (by decide +kernel)
theorem d_X12_plan_102 : decode prog_14_method_73_code 102 = .ok (.iaload, 1) := ge_iaload (by decide +kernel)
theorem d_X12_plan_103 : decode prog_14_method_73_code 103 = .ok (.ireturn, 1) := ge_ireturn (by decide +kernel)
def f_X12_plan (a0 : Nat) (a1 : Int32) (a2 : Int32) (μ : gm_M) : Option (Option Value × gm_M) := if a1 ≠ (-1 : Int32) then gm_bI (f_X12_in a1 (0 : Int32) (3 : Int32) μ) (fun x2 m1 => if x2 = 0 then some (some (.int (-1 : Int32)), m1) else gm_j (fun (s3 : gm_M) => gm_gR s3 [17] a0 1 (fun v5 => gm_aI s3 v5 (29 : Int32) (fun v6 => if v6 ≠ (8 : Int32) then gm_gR s3 [17] a0 1 (fun v7 => gm_gR s3 [17] a0 1 (fun v8 => gm_aI s3 v8 (29 : Int32) (fun v9 => gm_sI s3 v7 ((78 : Int32) + v9) a1 (fun m10 => gm_gR m10 [17] a0 1 (fun v11 => gm_gR m10 [17] a0 1 (fun v12 => gm_aI m10 v12 (29 : Int32) (fun v13 => gm_sI m10 v11 ((86 : Int32) + v13) a2 (fun m14 => gm_gR m14 [17] a0 1 (fun v15 => gm_aI m14 v15 (29 : Int32) (fun v16 => gm_sI m14 v15 (29 : Int32) (v16 + (1 : Int32)) (fun m17 => gm_gR m17 [17] a0 1 (fun v18 => gm_aI m17 v18 (29 : Int32) (fun v19 => some (some (.int v19), m17)))))))))))))) else some (some (.int (-4 : Int32)), s3)))) (fun j4 => if a1 ≤ 0 then j4 m1 else if gm_tag m1 a0 = 17 then gm_bI (f_X12_isChild a0 a2 m1) (fun x21 m20 => if x21 ≠ 0 then j4 m20 else some (some (.int (-1 : Int32)), m20)) else none)) else gm_gR μ [17] a0 1 (fun v22 => gm_sI μ v22 (29 : Int32) (0 : Int32) (fun m23 => some (some (.int (0 : Int32)), m23)))
set_option maxHeartbeats 4000000 in
theorem c_X12_plan (a0 : Nat) (a1 : Int32) (a2 : Int32) (μ : gm_M) : gm_Call ({ cls := "GumBubbleModel", name := "plan", desc := "(II)I" } : Jvm.MethodName) prog_14_method_73_code 3 (some .int) 2 0 0 [.ref a0, .int a1, .int a2] μ (f_X12_plan a0 a1 a2 μ) := by
  refine gm_start PN_12 (Nat.le_of_ble_eq_true rfl) (fun res μe => ?_)
  unfold f_X12_plan
  show gm_A "GumBubbleModel" (gm_nm "plan") _ _ _ _ _ _ _ _ _ 0 [(0, .ref a0), (1, .int a1), (2, .int a2)] [] _ _
  refine gm_iload_n d_X12_plan_0 rfl 1 rfl ?_
  refine gm_iconst (v := -1) d_X12_plan_1 (by decide) ?_
  refine gm_icmp_ne (tgt := 15) d_X12_plan_2 (by decide) (fun h2 => ?_) (fun h2 => ?_)
  ·
    refine gm_iload_n d_X12_plan_15 rfl 1 rfl ?_
    refine gm_iconst (v := 0) d_X12_plan_16 (by decide) ?_
    refine gm_iconst (v := 3) d_X12_plan_17 (by decide) ?_
    refine gm_callS [.int a1, .int (0 : Int32), .int (3 : Int32)] (c_X12_in a1 (0 : Int32) (3 : Int32) μ) B_X12_in gw_964 rfl rfl rfl d_X12_plan_18 (gm_kI (fun x2 m1 => ?_))
    refine gm_if_eq (tgt := 36) d_X12_plan_21 (by decide) (fun h21 => ?_) (fun h21 => ?_)
    ·
      refine gm_iconst (v := -1) d_X12_plan_36 (by decide) ?_
      exact gm_iret rfl d_X12_plan_37 (Nat.le_of_ble_eq_true rfl) (Nat.le_of_ble_eq_true rfl) (fun h => h)
    ·
      refine gm_iload_n d_X12_plan_24 rfl 1 rfl ?_
      refine gm_join (S := gm_M) (pj := 38) (kj := 0) (nj := 0) (fun s3 => s3) (fun s3 => [(0, .ref a0), (1, .int a1), (2, .int a2)]) (fun s3 => []) (fun s3 => ?_) (fun j4 hj4 => ?_)
      ·
        refine gm_aload_n d_X12_plan_38 rfl 0 rfl ?_
        refine gm_getR F_12_s gw_890 d_X12_plan_39 (fun v5 _ => ?_)
        refine gm_bipush (v := 29) d_X12_plan_42 (by decide) ?_
        refine gm_iald d_X12_plan_44 (fun v6 _ => ?_)
        refine gm_bipush (v := 8) d_X12_plan_45 (by decide) ?_
        refine gm_icmp_ne (tgt := 53) d_X12_plan_47 (by decide) (fun h47 => ?_) (fun h47 => ?_)
        ·
          refine gm_aload_n d_X12_plan_53 rfl 0 rfl ?_
          refine gm_getR F_12_s gw_890 d_X12_plan_54 (fun v7 _ => ?_)
          refine gm_bipush (v := 78) d_X12_plan_57 (by decide) ?_
          refine gm_aload_n d_X12_plan_59 rfl 0 rfl ?_
          refine gm_getR F_12_s gw_890 d_X12_plan_60 (fun v8 _ => ?_)
          refine gm_bipush (v := 29) d_X12_plan_63 (by decide) ?_
          refine gm_iald d_X12_plan_65 (fun v9 _ => ?_)
          refine gm_iadd d_X12_plan_66 ?_
          refine gm_iload_n d_X12_plan_67 rfl 1 rfl ?_
          refine gm_iast d_X12_plan_68 (fun m10 _ => ?_)
          refine gm_aload_n d_X12_plan_69 rfl 0 rfl ?_
          refine gm_getR F_12_s gw_890 d_X12_plan_70 (fun v11 _ => ?_)
          refine gm_bipush (v := 86) d_X12_plan_73 (by decide) ?_
          refine gm_aload_n d_X12_plan_75 rfl 0 rfl ?_
          refine gm_getR F_12_s gw_890 d_X12_plan_76 (fun v12 _ => ?_)
          refine gm_bipush (v := 29) d_X12_plan_79 (by decide) ?_
          refine gm_iald d_X12_plan_81 (fun v13 _ => ?_)
          refine gm_iadd d_X12_plan_82 ?_
          refine gm_iload_n d_X12_plan_83 rfl 2 rfl ?_
          refine gm_iast d_X12_plan_84 (fun m14 _ => ?_)
          refine gm_aload_n d_X12_plan_85 rfl 0 rfl ?_
          refine gm_getR F_12_s gw_890 d_X12_plan_86 (fun v15 _ => ?_)
          refine gm_bipush (v := 29) d_X12_plan_89 (by decide) ?_
          refine gm_dup2 d_X12_plan_91 rfl rfl ?_
          refine gm_iald d_X12_plan_92 (fun v16 _ => ?_)
          refine gm_iconst (v := 1) d_X12_plan_93 (by decide) ?_
          refine gm_iadd d_X12_plan_94 ?_
          refine gm_iast d_X12_plan_95 (fun m17 _ => ?_)
          refine gm_aload_n d_X12_plan_96 rfl 0 rfl ?_
          refine gm_getR F_12_s gw_890 d_X12_plan_97 (fun v18 _ => ?_)
          refine gm_bipush (v := 29) d_X12_plan_100 (by decide) ?_
          refine gm_iald d_X12_plan_102 (fun v19 _ => ?_)
          exact gm_iret rfl d_X12_plan_103 (Nat.le_of_ble_eq_true rfl) (Nat.le_of_ble_eq_true rfl) (fun h => h)
        ·
          refine gm_bipush (v := -4) d_X12_plan_50 (by decide) ?_
          exact gm_iret rfl d_X12_plan_52 (Nat.le_of_ble_eq_true rfl) (Nat.le_of_ble_eq_true rfl) (fun h => h)
      ·
        refine gm_if_le (tgt := 38) d_X12_plan_25 (by decide) (fun h25 => ?_) (fun h25 => ?_)
        ·
          exact hj4 m1
        ·
          refine gm_aload_n d_X12_plan_28 rfl 0 rfl ?_
          refine gm_iload_n d_X12_plan_29 rfl 2 rfl ?_
          refine gm_grd (fun g30 => ?_)
          refine gm_callV (k0 := 12) [.int a2] (c_X12_isChild a0 a2 m1) g30 rfl B_X12_isChild gw_1047 gs_40 rfl rfl rfl d_X12_plan_30 (gm_kI (fun x21 m20 => ?_))
          refine gm_if_ne (tgt := 38) d_X12_plan_33 (by decide) (fun h33 => ?_) (fun h33 => ?_)
          ·
            exact hj4 m20
          ·
            refine gm_iconst (v := -1) d_X12_plan_36 (by decide) ?_
            exact gm_iret rfl d_X12_plan_37 (Nat.le_of_ble_eq_true rfl) (Nat.le_of_ble_eq_true rfl) (fun h => h)
  ·
    refine gm_aload_n d_X12_plan_5 rfl 0 rfl ?_
    refine gm_getR F_12_s gw_890 d_X12_plan_6 (fun v22 _ => ?_)
    refine gm_bipush (v := 29) d_X12_plan_9 (by decide) ?_
    refine gm_iconst (v := 0) d_X12_plan_11 (by decide) ?_
    refine gm_iast d_X12_plan_12 (fun m23 _ => ?_)
    refine gm_iconst (v := 0) d_X12_plan_13 (by decide) ?_
    exact gm_iret rfl d_X12_plan_14 (Nat.le_of_ble_eq_true rfl) (Nat.le_of_ble_eq_true rfl) (fun h => h)
theorem d_X12_row_0 : decode prog_14_method_34_code 0 = .ok (.aload_n 0, 1) := ge_aload_n_0 (by decide +kernel)
theorem d_X12_row_1 : decode prog_14_method_34_code 1 = .ok (.iload_n 1, 1) := ge_iload_n_1 (by decide +kernel)
theorem d_X12_row_2 : decode prog_14_method_34_code 2 = .ok (.invokevirtual 154, 3) := ge_invokevirtual (by decide +kernel)
theorem d_X12_row_5 : decode prog_14_method_34_code 5 = .ok (.ifCond .eq 12, 3) := ge_ifCond_eq (by decide +kernel)
theorem d_X12_row_8 : decode prog_14_method_34_code 8 = .ok (.iload_n 2, 1) := ge_iload_n_2 (by decide +kernel)
theorem d_X12_row_9 : decode prog_14_method_34_code 9 = .ok (.iconst 0, 1) := ge_iconst_0 (by decide +kernel)
theorem d_X12_row_10 : decode prog_14_method_34_code 10 = .ok (.iconst 3, 1) := ge_iconst_3 (by decide +kernel)
theorem d_X12_row_11 : decode prog_14_method_34_code 11 = .ok (.invokestatic 44, 3) := ge_invokestatic (by decide +kernel)
theorem d_X12_row_14 : decode prog_14_method_34_code 14 = .ok (.ifCond .ne 5, 3) := ge_ifCond_ne (by decide +kernel)
theorem d_X12_row_17 : decode prog_14_method_34_code 17 = .ok (.iconst (-1), 1) := ge_iconst_m1_ (by decide +kernel)
theorem d_X12_row_18 : decode prog_14_method_34_code 18 = .ok (.ireturn, 1) := ge_ireturn (by decide +kernel)
theorem d_X12_row_19 : decode prog_14_method_34_code 19 = .ok (.iload_n 3, 1) := ge_iload_n_3 (by decide +kernel)
theorem d_X12_row_20 : decode prog_14_method_34_code 20 = .ok (.iconst 0, 1) := ge_iconst_0 (by decide +kernel)
theorem d_X12_row_21 : decode prog_14_method_34_code 21 = .ok (.bipush 9, 2) := ge_bipush (by decide +kernel)
theorem d_X12_row_23 : decode prog_14_method_34_code 23 = .ok (.invokestatic 44, 3) := ge_invokestatic (by decide +kernel)
theorem d_X12_row_26 : decode prog_14_method_34_code 26 = .ok (.ifCond .ne 6, 3) := ge_ifCond_ne (by decide +kernel)
theorem d_X12_row_29 : decode prog_14_method_34_code 29 = .ok (.bipush (-2), 2) := ge_bipush (by decide +kernel)
theorem d_X12_row_31 : decode prog_14_method_34_code 31 = .ok (.ireturn, 1) := ge_ireturn (by decide +kernel)
theorem d_X12_row_32 : decode prog_14_method_34_code 32 = .ok (.aload_n 0, 1) := ge_aload_n_0 (by decide +kernel)
theorem d_X12_row_33 : decode prog_14_method_34_code 33 = .ok (.getfield 9, 3) := ge_getfield (by decide +kernel)
theorem d_X12_row_36 : decode prog_14_method_34_code 36 = .ok (.bipush 33, 2) := ge_bipush (by decide +kernel)
theorem d_X12_row_38 : decode prog_14_method_34_code 38 = .ok (.iload_n 1, 1) := ge_iload_n_1 (by decide +kernel)
theorem d_X12_row_39 : decode prog_14_method_34_code 39 = .ok (.iadd, 1) := ge_iadd (by decide +kernel)
theorem d_X12_row_40 : decode prog_14_method_34_code 40 = .ok (.iaload, 1) := ge_iaload (by decide +kernel)
theorem d_X12_row_41 : decode prog_14_method_34_code 41 = .ok (.bipush 6, 2) := ge_bipush (by decide +kernel)
theorem d_X12_row_43 : decode prog_14_method_34_code 43 = .ok (.if_icmp .eq 6, 3) := ge_if_icmp_eq (by decide +kernel)
theorem d_X12_row_46 : decode prog_14_method_34_code 46 = .ok (.bipush (-3), 2) := ge_bipush (by decide +kernel)
theorem d_X12_row_48 : decode prog_14_method_34_code 48 = .ok (.ireturn, 1) := ge_ireturn (by decide +kernel)
theorem d_X12_row_49 : decode prog_14_method_34_code 49 = .ok (.aload_n 0, 1) := ge_aload_n_0 (by decide +kernel)
theorem d_X12_row_50 : decode prog_14_method_34_code 50 = .ok (.getfield 9, 3) := ge_getfield (by decide +kernel)
theorem d_X12_row_53 : decode prog_14_method_34_code 53 = .ok (.bipush 43, 2) := ge_bipush (by decide +kernel)
theorem d_X12_row_55 : decode prog_14_method_34_code 55 = .ok (.iconst 4, 1) := ge_iconst_4 (by decide +kernel)
theorem d_X12_row_56 : decode prog_14_method_34_code 56 = .ok (.iload_n 1, 1) := ge_iload_n_1 (by decide +kernel)
theorem d_X12_row_57 : decode prog_14_method_34_code 57 = .ok (.imul, 1) := ge_imul (by decide +kernel)
theorem d_X12_row_58 : decode prog_14_method_34_code 58 = .ok (.iadd, 1) := ge_iadd (by decide +kernel)
theorem d_X12_row_59 : decode prog_14_method_34_code 59 = .ok (.iload_n 2, 1) := ge_iload_n_2 (by decide +kernel)
theorem d_X12_row_60 : decode prog_14_method_34_code 60 = .ok (.iadd, 1) := ge_iadd (by decide +kernel)
theorem d_X12_row_61 : decode prog_14_method_34_code 61 = .ok (.iaload, 1) := ge_iaload (by decide +kernel)
theorem d_X12_row_62 : decode prog_14_method_34_code 62 = .ok (.istore 4, 2) := ge_istore (by decide +kernel)
theorem d_X12_row_64 : decode prog_14_method_34_code 64 = .ok (.aload_n 0, 1) := ge_aload_n_0 (by decide +kernel)
theorem d_X12_row_65 : decode prog_14_method_34_code 65 = .ok (.getfield 9, 3) := ge_getfield (by decide +kernel)
theorem d_X12_row_68 : decode prog_14_method_34_code 68 = .ok (.bipush 43, 2) := ge_bipush (by decide +kernel)
theorem d_X12_row_70 : decode prog_14_method_34_code 70 = .ok (.iconst 4, 1) := ge_iconst_4 (by decide +kernel)
theorem d_X12_row_71 : decode prog_14_method_34_code 71 = .ok (.iload_n 1, 1) := ge_iload_n_1 (by decide +kernel)
theorem d_X12_row_72 : decode prog_14_method_34_code 72 = .ok (.imul, 1) := ge_imul (by decide +kernel)
theorem d_X12_row_73 : decode prog_14_method_34_code 73 = .ok (.iadd, 1) := ge_iadd (by decide +kernel)
theorem d_X12_row_74 : decode prog_14_method_34_code 74 = .ok (.iload_n 2, 1) := ge_iload_n_2 (by decide +kernel)
theorem d_X12_row_75 : decode prog_14_method_34_code 75 = .ok (.iadd, 1) := ge_iadd (by decide +kernel)
theorem d_X12_row_76 : decode prog_14_method_34_code 76 = .ok (.iload_n 3, 1) := ge_iload_n_3 (by decide +kernel)
theorem d_X12_row_77 : decode prog_14_method_34_code 77 = .ok (.iastore, 1) := ge_iastore (by decide +kernel)
theorem d_X12_row_78 : decode prog_14_method_34_code 78 = .ok (.iload 4, 2) := ge_iload (by decide +kernel)
theorem d_X12_row_80 : decode prog_14_method_34_code 80 = .ok (.ireturn, 1) := ge_ireturn (by decide +kernel)
def f_X12_row (a0 : Nat) (a1 : Int32) (a2 : Int32) (a3 : Int32) (μ : gm_M) : Option (Option Value × gm_M) := if gm_tag μ a0 = 17 then gm_bI (f_X12_isChild a0 a1 μ) (fun x2 m1 => if x2 = 0 then some (some (.int (-1 : Int32)), m1) else gm_bI (f_X12_in a2 (0 : Int32) (3 : Int32) m1) (fun x4 m3 => if x4 ≠ 0 then gm_bI (f_X12_in a3 (0 : Int32) (9 : Int32) m3) (fun x6 m5 => if x6 ≠ 0 then gm_gR m5 [17] a0 1 (fun v7 => gm_aI m5 v7 ((33 : Int32) + a1) (fun v8 => if v8 = (6 : Int32) then gm_gR m5 [17] a0 1 (fun v9 => gm_aI m5 v9 (((43 : Int32) + ((4 : Int32) * a1)) + a2) (fun v10 => gm_gR m5 [17] a0 1 (fun v11 => gm_sI m5 v11 (((43 : Int32) + ((4 : Int32) * a1)) + a2) a3 (fun m12 => some (some (.int v10), m12))))) else some (some (.int (-3 : Int32)), m5))) else some (some (.int (-2 : Int32)), m5)) else some (some (.int (-1 : Int32)), m3))) else none
set_option maxHeartbeats 4000000 in
theorem c_X12_row (a0 : Nat) (a1 : Int32) (a2 : Int32) (a3 : Int32) (μ : gm_M) : gm_Call ({ cls := "GumBubbleModel", name := "row", desc := "(III)I" } : Jvm.MethodName) prog_14_method_34_code 5 (some .int) 2 0 0 [.ref a0, .int a1, .int a2, .int a3] μ (f_X12_row a0 a1 a2 a3 μ) := by
  refine gm_start PN_12 (Nat.le_of_ble_eq_true rfl) (fun res μe => ?_)
  unfold f_X12_row
  show gm_A "GumBubbleModel" (gm_nm "row") _ _ _ _ _ _ _ _ _ 0 [(0, .ref a0), (1, .int a1), (2, .int a2), (3, .int a3)] [] _ _
  refine gm_aload_n d_X12_row_0 rfl 0 rfl ?_
  refine gm_iload_n d_X12_row_1 rfl 1 rfl ?_
  refine gm_grd (fun g2 => ?_)
  refine gm_callV (k0 := 12) [.int a1] (c_X12_isChild a0 a1 μ) g2 rfl B_X12_isChild gw_1047 gs_40 rfl rfl rfl d_X12_row_2 (gm_kI (fun x2 m1 => ?_))
  refine gm_if_eq (tgt := 17) d_X12_row_5 (by decide) (fun h5 => ?_) (fun h5 => ?_)
  ·
    refine gm_iconst (v := -1) d_X12_row_17 (by decide) ?_
    exact gm_iret rfl d_X12_row_18 (Nat.le_of_ble_eq_true rfl) (Nat.le_of_ble_eq_true rfl) (fun h => h)
  ·
    refine gm_iload_n d_X12_row_8 rfl 2 rfl ?_
    refine gm_iconst (v := 0) d_X12_row_9 (by decide) ?_
    refine gm_iconst (v := 3) d_X12_row_10 (by decide) ?_
    refine gm_callS [.int a2, .int (0 : Int32), .int (3 : Int32)] (c_X12_in a2 (0 : Int32) (3 : Int32) m1) B_X12_in gw_964 rfl rfl rfl d_X12_row_11 (gm_kI (fun x4 m3 => ?_))
    refine gm_if_ne (tgt := 19) d_X12_row_14 (by decide) (fun h14 => ?_) (fun h14 => ?_)
    ·
      refine gm_iload_n d_X12_row_19 rfl 3 rfl ?_
      refine gm_iconst (v := 0) d_X12_row_20 (by decide) ?_
      refine gm_bipush (v := 9) d_X12_row_21 (by decide) ?_
      refine gm_callS [.int a3, .int (0 : Int32), .int (9 : Int32)] (c_X12_in a3 (0 : Int32) (9 : Int32) m3) B_X12_in gw_964 rfl rfl rfl d_X12_row_23 (gm_kI (fun x6 m5 => ?_))
      refine gm_if_ne (tgt := 32) d_X12_row_26 (by decide) (fun h26 => ?_) (fun h26 => ?_)
      ·
        refine gm_aload_n d_X12_row_32 rfl 0 rfl ?_
        refine gm_getR F_12_s gw_890 d_X12_row_33 (fun v7 _ => ?_)
        refine gm_bipush (v := 33) d_X12_row_36 (by decide) ?_
        refine gm_iload_n d_X12_row_38 rfl 1 rfl ?_
        refine gm_iadd d_X12_row_39 ?_
        refine gm_iald d_X12_row_40 (fun v8 _ => ?_)
        refine gm_bipush (v := 6) d_X12_row_41 (by decide) ?_
        refine gm_icmp_eq (tgt := 49) d_X12_row_43 (by decide) (fun h43 => ?_) (fun h43 => ?_)
        ·
          refine gm_aload_n d_X12_row_49 rfl 0 rfl ?_
          refine gm_getR F_12_s gw_890 d_X12_row_50 (fun v9 _ => ?_)
          refine gm_bipush (v := 43) d_X12_row_53 (by decide) ?_
          refine gm_iconst (v := 4) d_X12_row_55 (by decide) ?_
          refine gm_iload_n d_X12_row_56 rfl 1 rfl ?_
          refine gm_imul d_X12_row_57 ?_
          refine gm_iadd d_X12_row_58 ?_
          refine gm_iload_n d_X12_row_59 rfl 2 rfl ?_
          refine gm_iadd d_X12_row_60 ?_
          refine gm_iald d_X12_row_61 (fun v10 _ => ?_)
          refine gm_istore (L' := [(4, .int v10), (0, .ref a0), (1, .int a1), (2, .int a2), (3, .int a3)]) d_X12_row_62 (Nat.le_of_ble_eq_true rfl) rfl ?_
          refine gm_aload_n d_X12_row_64 rfl 1 rfl ?_
          refine gm_getR F_12_s gw_890 d_X12_row_65 (fun v11 _ => ?_)
          refine gm_bipush (v := 43) d_X12_row_68 (by decide) ?_
          refine gm_iconst (v := 4) d_X12_row_70 (by decide) ?_
          refine gm_iload_n d_X12_row_71 rfl 2 rfl ?_
          refine gm_imul d_X12_row_72 ?_
          refine gm_iadd d_X12_row_73 ?_
          refine gm_iload_n d_X12_row_74 rfl 3 rfl ?_
          refine gm_iadd d_X12_row_75 ?_
          refine gm_iload_n d_X12_row_76 rfl 4 rfl ?_
          refine gm_iast d_X12_row_77 (fun m12 _ => ?_)
          refine gm_iload d_X12_row_78 0 rfl ?_
          exact gm_iret rfl d_X12_row_80 (Nat.le_of_ble_eq_true rfl) (Nat.le_of_ble_eq_true rfl) (fun h => h)
        ·
          refine gm_bipush (v := -3) d_X12_row_46 (by decide) ?_
          exact gm_iret rfl d_X12_row_48 (Nat.le_of_ble_eq_true rfl) (Nat.le_of_ble_eq_true rfl) (fun h => h)
      ·
        refine gm_bipush (v := -2) d_X12_row_29 (by decide) ?_
        exact gm_iret rfl d_X12_row_31 (Nat.le_of_ble_eq_true rfl) (Nat.le_of_ble_eq_true rfl) (fun h => h)
    ·
      refine gm_iconst (v := -1) d_X12_row_17 (by decide) ?_
      exact gm_iret rfl d_X12_row_18 (Nat.le_of_ble_eq_true rfl) (Nat.le_of_ble_eq_true rfl) (fun h => h)
theorem d_X12_see_0 : decode prog_14_method_66_code 0 = .ok (.iload_n 1, 1) := ge_iload_n_1 (by decide +kernel)
theorem d_X12_see_1 : decode prog_14_method_66_code 1 = .ok (.iconst (-1), 1) := ge_iconst_m1_ (by decide +kernel)
theorem d_X12_see_2 : decode prog_14_method_66_code 2 = .ok (.if_icmp .ne 13, 3) := ge_if_icmp_ne (by decide +kernel)
theorem d_X12_see_5 : decode prog_14_method_66_code 5 = .ok (.aload_n 0, 1) := ge_aload_n_0 (by decide +kernel)
theorem d_X12_see_6 : decode prog_14_method_66_code 6 = .ok (.getfield 9, 3) := ge_getfield (by decide +kernel)
theorem d_X12_see_9 : decode prog_14_method_66_code 9 = .ok (.bipush 28, 2) := ge_bipush (by decide +kernel)
theorem d_X12_see_11 : decode prog_14_method_66_code 11 = .ok (.iconst 0, 1) := ge_iconst_0 (by decide +kernel)
theorem d_X12_see_12 : decode prog_14_method_66_code 12 = .ok (.iastore, 1) := ge_iastore (by decide +kernel)
theorem d_X12_see_13 : decode prog_14_method_66_code 13 = .ok (.iconst 0, 1) := ge_iconst_0 (by decide +kernel)
theorem d_X12_see_14 : decode prog_14_method_66_code 14 = .ok (.ireturn, 1) := ge_ireturn (by decide +kernel)
theorem d_X12_see_15 : decode prog_14_method_66_code 15 = .ok (.aload_n 0, 1) := ge_aload_n_0 (by decide +kernel)
theorem d_X12_see_16 : decode prog_14_method_66_code 16 = .ok (.iload_n 1, 1) := ge_iload_n_1 (by decide +kernel)
theorem d_X12_see_17 : decode prog_14_method_66_code 17 = .ok (.invokevirtual 154, 3) := ge_invokevirtual (by decide +kernel)
theorem d_X12_see_20 : decode prog_14_method_66_code 20 = .ok (.ifCond .ne 5, 3) := ge_ifCond_ne (by decide +kernel)
theorem d_X12_see_23 : decode prog_14_method_66_code 23 = .ok (.iconst (-1), 1) := ge_iconst_m1_ (by decide +kernel)
theorem d_X12_see_24 : decode prog_14_method_66_code 24 = .ok (.ireturn, 1) := ge_ireturn (by decide +kernel)
theorem d_X12_see_25 : decode prog_14_method_66_code 25 = .ok (.iload_n 2, 1) := ge_iload_n_2 (by decide +kernel)
theorem d_X12_see_26 : decode prog_14_method_66_code 26 = .ok (.iconst 0, 1) := ge_iconst_0 (by decide +kernel)
theorem d_X12_see_27 : decode prog_14_method_66_code 27 = .ok (.sipush 999, 3) := ge_sipush (by decide +kernel)
theorem d_X12_see_30 : decode prog_14_method_66_code 30 = .ok (.invokestatic 44, 3) := ge_invokestatic (by decide +kernel)
theorem d_X12_see_33 : decode prog_14_method_66_code 33 = .ok (.ifCond .eq 13, 3) := ge_ifCond_eq (by decide +kernel)
theorem d_X12_see_36 : decode prog_14_method_66_code 36 = .ok (.iload_n 3, 1) := ge_iload_n_3 (by decide +kernel)
theorem d_X12_see_37 : decode prog_14_method_66_code 37 = .ok (.iconst 0, 1) := ge_iconst_0 (by decide +kernel)
theorem d_X12_see_38 : decode prog_14_method_66_code 38 = .ok (.bipush 20, 2) := ge_bipush (by decide +kernel)
theorem d_X12_see_40 : decode prog_14_method_66_code 40 = .ok (.invokestatic 44, 3) := ge_invokestatic (by decide +kernel)
theorem d_X12_see_43 : decode prog_14_method_66_code 43 = .ok (.ifCond .ne 6, 3) := ge_ifCond_ne (by decide +kernel)
theorem d_X12_see_46 : decode prog_14_method_66_code 46 = .ok (.bipush (-2), 2) := ge_bipush (by decide +kernel)
theorem d_X12_see_48 : decode prog_14_method_66_code 48 = .ok (.ireturn, 1) := ge_ireturn (by decide +kernel)
theorem d_X12_see_49 : decode prog_14_method_66_code 49 = .ok (.aload_n 0, 1) := ge_aload_n_0 (by decide +kernel)
theorem d_X12_see_50 : decode prog_14_method_66_code 50 = .ok (.getfield 9, 3) := ge_getfield (by decide +kernel)
theorem d_X12_see_53 : decode prog_14_method_66_code 53 = .ok (.bipush 28, 2) := ge_bipush (by decide +kernel)
theorem d_X12_see_55 : decode prog_14_method_66_code 55 = .ok (.iaload, 1) := ge_iaload (by decide +kernel)
theorem d_X12_see_56 : decode prog_14_method_66_code 56 = .ok (.iconst 5, 1) := ge_iconst_5 (by decide +kernel)
theorem d_X12_see_57 : decode prog_14_method_66_code 57 = .ok (.if_icmp .ne 6, 3) := ge_if_icmp_ne (by decide +kernel)
theorem d_X12_see_60 : decode prog_14_method_66_code 60 = .ok (.bipush (-4), 2) := ge_bipush (by decide +kernel)
theorem d_X12_see_62 : decode prog_14_method_66_code 62 = .ok (.ireturn, 1) := ge_ireturn (by decide +kernel)
theorem d_X12_see_63 : decode prog_14_method_66_code 63 = .ok (.aload_n 0, 1) := ge_aload_n_0 (by decide +kernel)
theorem d_X12_see_64 : decode prog_14_method_66_code 64 = .ok (.getfield 9, 3) := ge_getfield (by decide +kernel)
theorem d_X12_see_67 : decode prog_14_method_66_code 67 = .ok (.bipush 63, 2) := ge_bipush (by decide +kernel)
theorem d_X12_see_69 : decode prog_14_method_66_code 69 = .ok (.aload_n 0, 1) := ge_aload_n_0 (by decide +kernel)
theorem d_X12_see_70 : decode prog_14_method_66_code 70 = .ok (.getfield 9, 3) := ge_getfield (by decide +kernel)
theorem d_X12_see_73 : decode prog_14_method_66_code 73 = .ok (.bipush 28, 2) := ge_bipush (by decide +kernel)
theorem d_X12_see_75 : decode prog_14_method_66_code 75 = .ok (.iaload, 1) := ge_iaload (by decide +kernel)
theorem d_X12_see_76 : decode prog_14_method_66_code 76 = .ok (.iadd, 1) := ge_iadd (by decide +kernel)
theorem d_X12_see_77 : decode prog_14_method_66_code 77 = .ok (.iload_n 1, 1) := ge_iload_n_1 (by decide +kernel)
theorem d_X12_see_78 : decode prog_14_method_66_code 78 = .ok (.iastore, 1) := ge_iastore (by decide +kernel)
theorem d_X12_see_79 : decode prog_14_method_66_code 79 = .ok (.aload_n 0, 1) := ge_aload_n_0 (by decide +kernel)
theorem d_X12_see_80 : decode prog_14_method_66_code 80 = .ok (.getfield 9, 3) := ge_getfield (by decide +kernel)
theorem d_X12_see_83 : decode prog_14_method_66_code 83 = .ok (.bipush 68, 2) := ge_bipush (by decide +kernel)
theorem d_X12_see_85 : decode prog_14_method_66_code 85 = .ok (.aload_n 0, 1) := ge_aload_n_0 (by decide +kernel)
theorem d_X12_see_86 : decode prog_14_method_66_code 86 = .ok (.getfield 9, 3) := ge_getfield (by decide +kernel)
theorem d_X12_see_89 : decode prog_14_method_66_code 89 = .ok (.bipush 28, 2) := ge_bipush (by decide +kernel)
theorem d_X12_see_91 : decode prog_14_method_66_code 91 = .ok (.iaload, 1) := ge_iaload (by decide +kernel)
theorem d_X12_see_92 : decode prog_14_method_66_code 92 = .ok (.iadd, 1) := ge_iadd (by decide +kernel)
theorem d_X12_see_93 : decode prog_14_method_66_code 93 = .ok (.iload_n 2, 1) := ge_iload_n_2 (by decide +kernel)
theorem d_X12_see_94 : decode prog_14_method_66_code 94 = .ok (.iastore, 1) := ge_iastore (by decide +kernel)
theorem d_X12_see_95 : decode prog_14_method_66_code 95 = .ok (.aload_n 0, 1) := ge_aload_n_0 (by decide +kernel)
theorem d_X12_see_96 : decode prog_14_method_66_code 96 = .ok (.getfield 9, 3) := ge_getfield (by decide +kernel)
theorem d_X12_see_99 : decode prog_14_method_66_code 99 = .ok (.bipush 73, 2) := ge_bipush (by decide +kernel)
theorem d_X12_see_101 : decode prog_14_method_66_code 101 = .ok (.aload_n 0, 1) := ge_aload_n_0 (by decide +kernel)
theorem d_X12_see_102 : decode prog_14_method_66_code 102 = .ok (.getfield 9, 3) := ge_getfield (by decide +kernel)
theorem d_X12_see_105 : decode prog_14_method_66_code 105 = .ok (.bipush 28, 2) := ge_bipush (by decide +kernel)
theorem d_X12_see_107 : decode prog_14_method_66_code 107 = .ok (.iaload, 1) := ge_iaload (by decide +kernel)
theorem d_X12_see_108 : decode prog_14_method_66_code 108 = .ok (.iadd, 1) := ge_iadd (by decide +kernel)
theorem d_X12_see_109 : decode prog_14_method_66_code 109 = .ok (.iload_n 3, 1) := ge_iload_n_3 (by decide +kernel)
theorem d_X12_see_110 : decode prog_14_method_66_code 110 = .ok (.iastore, 1) := ge_iastore (by decide +kernel)
theorem d_X12_see_111 : decode prog_14_method_66_code 111 = .ok (.aload_n 0, 1) := ge_aload_n_0 (by decide +kernel)
theorem d_X12_see_112 : decode prog_14_method_66_code 112 = .ok (.getfield 9, 3) := ge_getfield (by decide +kernel)
theorem d_X12_see_115 : decode prog_14_method_66_code 115 = .ok (.bipush 28, 2) := ge_bipush (by decide +kernel)
theorem d_X12_see_117 : decode prog_14_method_66_code 117 = .ok (.dup2, 1) := ge_dup2 (by decide +kernel)
theorem d_X12_see_118 : decode prog_14_method_66_code 118 = .ok (.iaload, 1) := ge_iaload (by decide +kernel)
theorem d_X12_see_119 : decode prog_14_method_66_code 119 = .ok (.iconst 1, 1) := ge_iconst_1 (by decide +kernel)
theorem d_X12_see_120 : decode prog_14_method_66_code 120 = .ok (.iadd, 1) := ge_iadd (by decide +kernel)
theorem d_X12_see_121 : decode prog_14_method_66_code 121 = .ok (.iastore, 1) := ge_iastore (by decide +kernel)
theorem d_X12_see_122 : decode prog_14_method_66_code 122 = .ok (.aload_n 0, 1) := ge_aload_n_0 (by decide +kernel)
theorem d_X12_see_123 : decode prog_14_method_66_code 123 = .ok (.getfield 9, 3) := ge_getfield (by decide +kernel)
theorem d_X12_see_126 : decode prog_14_method_66_code 126 = .ok (.bipush 28, 2) := ge_bipush (by decide +kernel)
theorem d_X12_see_128 : decode prog_14_method_66_code 128 = .ok (.iaload, 1) := ge_iaload (by decide +kernel)
theorem d_X12_see_129 : decode prog_14_method_66_code 129 = .ok (.ireturn, 1) := ge_ireturn (by decide +kernel)
def f_X12_see (a0 : Nat) (a1 : Int32) (a2 : Int32) (a3 : Int32) (μ : gm_M) : Option (Option Value × gm_M) := if a1 ≠ (-1 : Int32) then if gm_tag μ a0 = 17 then gm_bI (f_X12_isChild a0 a1 μ) (fun x2 m1 => if x2 ≠ 0 then gm_bI (f_X12_in a2 (0 : Int32) (999 : Int32) m1) (fun x4 m3 => if x4 = 0 then some (some (.int (-2 : Int32)), m3) else gm_bI (f_X12_in a3 (0 : Int32) (20 : Int32) m3) (fun x6 m5 => if x6 ≠ 0 then gm_gR m5 [17] a0 1 (fun v7 => gm_aI m5 v7 (28 : Int32) (fun v8 => if v8 ≠ (5 : Int32) then gm_gR m5 [17] a0 1 (fun v9 => gm_gR m5 [17] a0 1 (fun v10 => gm_aI m5 v10 (28 : Int32) (fun v11 => gm_sI m5 v9 ((63 : Int32) + v11) a1 (fun m12 => gm_gR m12 [17] a0 1 (fun v13 => gm_gR m12 [17] a0 1 (fun v14 => gm_aI m12 v14 (28 : Int32) (fun v15 => gm_sI m12 v13 ((68 : Int32) + v15) a2 (fun m16 => gm_gR m16 [17] a0 1 (fun v17 => gm_gR m16 [17] a0 1 (fun v18 => gm_aI m16 v18 (28 : Int32) (fun v19 => gm_sI m16 v17 ((73 : Int32) + v19) a3 (fun m20 => gm_gR m20 [17] a0 1 (fun v21 => gm_aI m20 v21 (28 : Int32) (fun v22 => gm_sI m20 v21 (28 : Int32) (v22 + (1 : Int32)) (fun m23 => gm_gR m23 [17] a0 1 (fun v24 => gm_aI m23 v24 (28 : Int32) (fun v25 => some (some (.int v25), m23)))))))))))))))))) else some (some (.int (-4 : Int32)), m5))) else some (some (.int (-2 : Int32)), m5))) else some (some (.int (-1 : Int32)), m1)) else none else gm_gR μ [17] a0 1 (fun v26 => gm_sI μ v26 (28 : Int32) (0 : Int32) (fun m27 => some (some (.int (0 : Int32)), m27)))
set_option maxHeartbeats 4000000 in
theorem c_X12_see (a0 : Nat) (a1 : Int32) (a2 : Int32) (a3 : Int32) (μ : gm_M) : gm_Call ({ cls := "GumBubbleModel", name := "see", desc := "(III)I" } : Jvm.MethodName) prog_14_method_66_code 4 (some .int) 2 0 0 [.ref a0, .int a1, .int a2, .int a3] μ (f_X12_see a0 a1 a2 a3 μ) := by
  refine gm_start PN_12 (Nat.le_of_ble_eq_true rfl) (fun res μe => ?_)
  unfold f_X12_see
  show gm_A "GumBubbleModel" (gm_nm "see") _ _ _ _ _ _ _ _ _ 0 [(0, .ref a0), (1, .int a1), (2, .int a2), (3, .int a3)] [] _ _
  refine gm_iload_n d_X12_see_0 rfl 1 rfl ?_
  refine gm_iconst (v := -1) d_X12_see_1 (by decide) ?_
  refine gm_icmp_ne (tgt := 15) d_X12_see_2 (by decide) (fun h2 => ?_) (fun h2 => ?_)
  ·
    refine gm_aload_n d_X12_see_15 rfl 0 rfl ?_
    refine gm_iload_n d_X12_see_16 rfl 1 rfl ?_
    refine gm_grd (fun g17 => ?_)
    refine gm_callV (k0 := 12) [.int a1] (c_X12_isChild a0 a1 μ) g17 rfl B_X12_isChild gw_1047 gs_40 rfl rfl rfl d_X12_see_17 (gm_kI (fun x2 m1 => ?_))
    refine gm_if_ne (tgt := 25) d_X12_see_20 (by decide) (fun h20 => ?_) (fun h20 => ?_)
    ·
      refine gm_iload_n d_X12_see_25 rfl 2 rfl ?_
      refine gm_iconst (v := 0) d_X12_see_26 (by decide) ?_
      refine gm_sipush (v := 999) d_X12_see_27 (by decide) ?_
      refine gm_callS [.int a2, .int (0 : Int32), .int (999 : Int32)] (c_X12_in a2 (0 : Int32) (999 : Int32) m1) B_X12_in gw_964 rfl rfl rfl d_X12_see_30 (gm_kI (fun x4 m3 => ?_))
      refine gm_if_eq (tgt := 46) d_X12_see_33 (by decide) (fun h33 => ?_) (fun h33 => ?_)
      ·
        refine gm_bipush (v := -2) d_X12_see_46 (by decide) ?_
        exact gm_iret rfl d_X12_see_48 (Nat.le_of_ble_eq_true rfl) (Nat.le_of_ble_eq_true rfl) (fun h => h)
      ·
        refine gm_iload_n d_X12_see_36 rfl 3 rfl ?_
        refine gm_iconst (v := 0) d_X12_see_37 (by decide) ?_
        refine gm_bipush (v := 20) d_X12_see_38 (by decide) ?_
        refine gm_callS [.int a3, .int (0 : Int32), .int (20 : Int32)] (c_X12_in a3 (0 : Int32) (20 : Int32) m3) B_X12_in gw_964 rfl rfl rfl d_X12_see_40 (gm_kI (fun x6 m5 => ?_))
        refine gm_if_ne (tgt := 49) d_X12_see_43 (by decide) (fun h43 => ?_) (fun h43 => ?_)
        ·
          refine gm_aload_n d_X12_see_49 rfl 0 rfl ?_
          refine gm_getR F_12_s gw_890 d_X12_see_50 (fun v7 _ => ?_)
          refine gm_bipush (v := 28) d_X12_see_53 (by decide) ?_
          refine gm_iald d_X12_see_55 (fun v8 _ => ?_)
          refine gm_iconst (v := 5) d_X12_see_56 (by decide) ?_
          refine gm_icmp_ne (tgt := 63) d_X12_see_57 (by decide) (fun h57 => ?_) (fun h57 => ?_)
          ·
            refine gm_aload_n d_X12_see_63 rfl 0 rfl ?_
            refine gm_getR F_12_s gw_890 d_X12_see_64 (fun v9 _ => ?_)
            refine gm_bipush (v := 63) d_X12_see_67 (by decide) ?_
            refine gm_aload_n d_X12_see_69 rfl 0 rfl ?_
            refine gm_getR F_12_s gw_890 d_X12_see_70 (fun v10 _ => ?_)
            refine gm_bipush (v := 28) d_X12_see_73 (by decide) ?_
            refine gm_iald d_X12_see_75 (fun v11 _ => ?_)
            refine gm_iadd d_X12_see_76 ?_
            refine gm_iload_n d_X12_see_77 rfl 1 rfl ?_
            refine gm_iast d_X12_see_78 (fun m12 _ => ?_)
            refine gm_aload_n d_X12_see_79 rfl 0 rfl ?_
            refine gm_getR F_12_s gw_890 d_X12_see_80 (fun v13 _ => ?_)
            refine gm_bipush (v := 68) d_X12_see_83 (by decide) ?_
            refine gm_aload_n d_X12_see_85 rfl 0 rfl ?_
            refine gm_getR F_12_s gw_890 d_X12_see_86 (fun v14 _ => ?_)
            refine gm_bipush (v := 28) d_X12_see_89 (by decide) ?_
            refine gm_iald d_X12_see_91 (fun v15 _ => ?_)
            refine gm_iadd d_X12_see_92 ?_
            refine gm_iload_n d_X12_see_93 rfl 2 rfl ?_
            refine gm_iast d_X12_see_94 (fun m16 _ => ?_)
            refine gm_aload_n d_X12_see_95 rfl 0 rfl ?_
            refine gm_getR F_12_s gw_890 d_X12_see_96 (fun v17 _ => ?_)
            refine gm_bipush (v := 73) d_X12_see_99 (by decide) ?_
            refine gm_aload_n d_X12_see_101 rfl 0 rfl ?_
            refine gm_getR F_12_s gw_890 d_X12_see_102 (fun v18 _ => ?_)
            refine gm_bipush (v := 28) d_X12_see_105 (by decide) ?_
            refine gm_iald d_X12_see_107 (fun v19 _ => ?_)
            refine gm_iadd d_X12_see_108 ?_
            refine gm_iload_n d_X12_see_109 rfl 3 rfl ?_
            refine gm_iast d_X12_see_110 (fun m20 _ => ?_)
            refine gm_aload_n d_X12_see_111 rfl 0 rfl ?_
            refine gm_getR F_12_s gw_890 d_X12_see_112 (fun v21 _ => ?_)
            refine gm_bipush (v := 28) d_X12_see_115 (by decide) ?_
            refine gm_dup2 d_X12_see_117 rfl rfl ?_
            refine gm_iald d_X12_see_118 (fun v22 _ => ?_)
            refine gm_iconst (v := 1) d_X12_see_119 (by decide) ?_
            refine gm_iadd d_X12_see_120 ?_
            refine gm_iast d_X12_see_121 (fun m23 _ => ?_)
            refine gm_aload_n d_X12_see_122 rfl 0 rfl ?_
            refine gm_getR F_12_s gw_890 d_X12_see_123 (fun v24 _ => ?_)
            refine gm_bipush (v := 28) d_X12_see_126 (by decide) ?_
            refine gm_iald d_X12_see_128 (fun v25 _ => ?_)
            exact gm_iret rfl d_X12_see_129 (Nat.le_of_ble_eq_true rfl) (Nat.le_of_ble_eq_true rfl) (fun h => h)
          ·
            refine gm_bipush (v := -4) d_X12_see_60 (by decide) ?_
            exact gm_iret rfl d_X12_see_62 (Nat.le_of_ble_eq_true rfl) (Nat.le_of_ble_eq_true rfl) (fun h => h)
        ·
          refine gm_bipush (v := -2) d_X12_see_46 (by decide) ?_
          exact gm_iret rfl d_X12_see_48 (Nat.le_of_ble_eq_true rfl) (Nat.le_of_ble_eq_true rfl) (fun h => h)
    ·
      refine gm_iconst (v := -1) d_X12_see_23 (by decide) ?_
      exact gm_iret rfl d_X12_see_24 (Nat.le_of_ble_eq_true rfl) (Nat.le_of_ble_eq_true rfl) (fun h => h)
  ·
    refine gm_aload_n d_X12_see_5 rfl 0 rfl ?_
    refine gm_getR F_12_s gw_890 d_X12_see_6 (fun v26 _ => ?_)
    refine gm_bipush (v := 28) d_X12_see_9 (by decide) ?_
    refine gm_iconst (v := 0) d_X12_see_11 (by decide) ?_
    refine gm_iast d_X12_see_12 (fun m27 _ => ?_)
    refine gm_iconst (v := 0) d_X12_see_13 (by decide) ?_
    exact gm_iret rfl d_X12_see_14 (Nat.le_of_ble_eq_true rfl) (Nat.le_of_ble_eq_true rfl) (fun h => h)
theorem d_X12_set_0 : decode prog_14_method_35_code 0 = .ok (.aload_n 0, 1) := ge_aload_n_0 (by decide +kernel)
theorem d_X12_set_1 : decode prog_14_method_35_code 1 = .ok (.iload_n 1, 1) := ge_iload_n_1 (by decide +kernel)
theorem d_X12_set_2 : decode prog_14_method_35_code 2 = .ok (.invokevirtual 154, 3) := ge_invokevirtual (by decide +kernel)
theorem d_X12_set_5 : decode prog_14_method_35_code 5 = .ok (.ifCond .eq 12, 3) := ge_ifCond_eq (by decide +kernel)
theorem d_X12_set_8 : decode prog_14_method_35_code 8 = .ok (.iload_n 2, 1) := ge_iload_n_2 (by decide +kernel)
theorem d_X12_set_9 : decode prog_14_method_35_code 9 = .ok (.iconst 0, 1) := ge_iconst_0 (by decide +kernel)
theorem d_X12_set_10 : decode prog_14_method_35_code 10 = .ok (.iconst 2, 1) := ge_iconst_2 (by decide +kernel)
theorem d_X12_set_11 : decode prog_14_method_35_code 11 = .ok (.invokestatic 44, 3) := ge_invokestatic (by decide +kernel)
theorem d_X12_set_14 : decode prog_14_method_35_code 14 = .ok (.ifCond .ne 5, 3) := ge_ifCond_ne (by decide +kernel)
theorem d_X12_set_17 : decode prog_14_method_35_code 17 = .ok (.iconst (-1), 1) := ge_iconst_m1_ (by decide +kernel)
theorem d_X12_set_18 : decode prog_14_method_35_code 18 = .ok (.ireturn, 1) := ge_ireturn (by decide +kernel)
theorem d_X12_set_19 : decode prog_14_method_35_code 19 = .ok (.iload_n 3, 1) := ge_iload_n_3 (by decide +kernel)
theorem d_X12_set_20 : decode prog_14_method_35_code 20 = .ok (.iconst 0, 1) := ge_iconst_0 (by decide +kernel)
theorem d_X12_set_21 : decode prog_14_method_35_code 21 = .ok (.iload_n 2, 1) := ge_iload_n_2 (by decide +kernel)
theorem d_X12_set_22 : decode prog_14_method_35_code 22 = .ok (.ifCond .ne 8, 3) := ge_ifCond_ne (by decide +kernel)
theorem d_X12_set_25 : decode prog_14_method_35_code 25 = .ok (.bipush 6, 2) := ge_bipush (by decide +kernel)
theorem d_X12_set_27 : decode prog_14_method_35_code 27 = .ok (.goto 16, 3) := ge_goto (by decide +kernel)
theorem d_X12_set_30 : decode prog_14_method_35_code 30 = .ok (.iload_n 2, 1) := ge_iload_n_2 (by decide +kernel)
theorem d_X12_set_31 : decode prog_14_method_35_code 31 = .ok (.iconst 1, 1) := ge_iconst_1 (by decide +kernel)
theorem d_X12_set_32 : decode prog_14_method_35_code 32 = .ok (.if_icmp .ne 9, 3) := ge_if_icmp_ne (by decide +kernel)
theorem d_X12_set_35 : decode prog_14_method_35_code 35 = .ok (.sipush 999, 3) := ge_sipush (by decide +kernel)
theorem d_X12_set_38 : decode prog_14_method_35_code 38 = .ok (.goto 5, 3) := ge_goto (by decide +kernel)
theorem d_X12_set_41 : decode prog_14_method_35_code 41 = .ok (.bipush 99, 2) := ge_bipush (by decide +kernel)
theorem d_X12_set_43 : decode prog_14_method_35_code 43 = .ok (.invokestatic 44, 3) := ge_invokestatic (by decide +kernel)
theorem d_X12_set_46 : decode prog_14_method_35_code 46 = .ok (.ifCond .ne 6, 3) := ge_ifCond_ne (by decide +kernel)
theorem d_X12_set_49 : decode prog_14_method_35_code 49 = .ok (.bipush (-2), 2) := ge_bipush (by decide +kernel)
theorem d_X12_set_51 : decode prog_14_method_35_code 51 = .ok (.ireturn, 1) := ge_ireturn (by decide +kernel)
theorem d_X12_set_52 : decode prog_14_method_35_code 52 = .ok (.iconst 1, 1) := ge_iconst_1 (by decide +kernel)
theorem d_X12_set_53 : decode prog_14_method_35_code 53 = .ok (.iconst 5, 1) := ge_iconst_5 (by decide +kernel)
theorem d_X12_set_54 : decode prog_14_method_35_code 54 = .ok (.iload_n 2, 1) := ge_iload_n_2 (by decide +kernel)
theorem d_X12_set_55 : decode prog_14_method_35_code 55 = .ok (.imul, 1) := ge_imul (by decide +kernel)
theorem d_X12_set_56 : decode prog_14_method_35_code 56 = .ok (.iadd, 1) := ge_iadd (by decide +kernel)
theorem d_X12_set_57 : decode prog_14_method_35_code 57 = .ok (.iload_n 1, 1) := ge_iload_n_1 (by decide +kernel)
theorem d_X12_set_58 : decode prog_14_method_35_code 58 = .ok (.iadd, 1) := ge_iadd (by decide +kernel)
theorem d_X12_set_59 : decode prog_14_method_35_code 59 = .ok (.istore 4, 2) := ge_istore (by decide +kernel)
theorem d_X12_set_61 : decode prog_14_method_35_code 61 = .ok (.aload_n 0, 1) := ge_aload_n_0 (by decide +kernel)
theorem d_X12_set_62 : decode prog_14_method_35_code 62 = .ok (.getfield 9, 3) := ge_getfield (by decide +kernel)
theorem d_X12_set_65 : decode prog_14_method_35_code 65 = .ok (.iload 4, 2) := ge_iload (by decide +kernel)
theorem d_X12_set_67 : decode prog_14_method_35_code 67 = .ok (.iaload, 1) := ge_iaload (by decide +kernel)
theorem d_X12_set_68 : decode prog_14_method_35_code 68 = .ok (.istore 5, 2) := ge_istore (by decide +kernel)
theorem d_X12_set_70 : decode prog_14_method_35_code 70 = .ok (.aload_n 0, 1) := ge_aload_n_0 (by decide +kernel)
theorem d_X12_set_71 : decode prog_14_method_35_code 71 = .ok (.getfield 9, 3) := ge_getfield (by decide +kernel)
theorem d_X12_set_74 : decode prog_14_method_35_code 74 = .ok (.iload 4, 2) := ge_iload (by decide +kernel)
theorem d_X12_set_76 : decode prog_14_method_35_code 76 = .ok (.iload_n 3, 1) := ge_iload_n_3 (by decide +kernel)
theorem d_X12_set_77 : decode prog_14_method_35_code 77 = .ok (.iastore, 1) := ge_iastore (by decide +kernel)
theorem d_X12_set_78 : decode prog_14_method_35_code 78 = .ok (.iload 5, 2) := ge_iload (by decide +kernel)
theorem d_X12_set_80 : decode prog_14_method_35_code 80 = .ok (.ireturn, 1) := ge_ireturn (by decide +kernel)
def f_X12_set (a0 : Nat) (a1 : Int32) (a2 : Int32) (a3 : Int32) (μ : gm_M) : Option (Option Value × gm_M) := if gm_tag μ a0 = 17 then gm_bI (f_X12_isChild a0 a1 μ) (fun x2 m1 => if x2 = 0 then some (some (.int (-1 : Int32)), m1) else gm_bI (f_X12_in a2 (0 : Int32) (2 : Int32) m1) (fun x4 m3 => if x4 ≠ 0 then gm_j (fun (s5 : Int32) => gm_bI (f_X12_in a3 (0 : Int32) s5 m3) (fun x8 m7 => if x8 ≠ 0 then gm_gR m7 [17] a0 1 (fun v9 => gm_aI m7 v9 (((1 : Int32) + ((5 : Int32) * a2)) + a1) (fun v10 => gm_gR m7 [17] a0 1 (fun v11 => gm_sI m7 v11 (((1 : Int32) + ((5 : Int32) * a2)) + a1) a3 (fun m12 => some (some (.int v10), m12))))) else some (some (.int (-2 : Int32)), m7))) (fun j6 => if a2 ≠ 0 then if a2 ≠ (1 : Int32) then j6 (99 : Int32) else j6 (999 : Int32) else j6 (6 : Int32)) else some (some (.int (-1 : Int32)), m3))) else none
set_option maxHeartbeats 4000000 in
theorem c_X12_set (a0 : Nat) (a1 : Int32) (a2 : Int32) (a3 : Int32) (μ : gm_M) : gm_Call ({ cls := "GumBubbleModel", name := "set", desc := "(III)I" } : Jvm.MethodName) prog_14_method_35_code 6 (some .int) 2 0 0 [.ref a0, .int a1, .int a2, .int a3] μ (f_X12_set a0 a1 a2 a3 μ) := by
  refine gm_start PN_12 (Nat.le_of_ble_eq_true rfl) (fun res μe => ?_)
  unfold f_X12_set
  show gm_A "GumBubbleModel" (gm_nm "set") _ _ _ _ _ _ _ _ _ 0 [(0, .ref a0), (1, .int a1), (2, .int a2), (3, .int a3)] [] _ _
  refine gm_aload_n d_X12_set_0 rfl 0 rfl ?_
  refine gm_iload_n d_X12_set_1 rfl 1 rfl ?_
  refine gm_grd (fun g2 => ?_)
  refine gm_callV (k0 := 12) [.int a1] (c_X12_isChild a0 a1 μ) g2 rfl B_X12_isChild gw_1047 gs_40 rfl rfl rfl d_X12_set_2 (gm_kI (fun x2 m1 => ?_))
  refine gm_if_eq (tgt := 17) d_X12_set_5 (by decide) (fun h5 => ?_) (fun h5 => ?_)
  ·
    refine gm_iconst (v := -1) d_X12_set_17 (by decide) ?_
    exact gm_iret rfl d_X12_set_18 (Nat.le_of_ble_eq_true rfl) (Nat.le_of_ble_eq_true rfl) (fun h => h)
  ·
    refine gm_iload_n d_X12_set_8 rfl 2 rfl ?_
    refine gm_iconst (v := 0) d_X12_set_9 (by decide) ?_
    refine gm_iconst (v := 2) d_X12_set_10 (by decide) ?_
    refine gm_callS [.int a2, .int (0 : Int32), .int (2 : Int32)] (c_X12_in a2 (0 : Int32) (2 : Int32) m1) B_X12_in gw_964 rfl rfl rfl d_X12_set_11 (gm_kI (fun x4 m3 => ?_))
    refine gm_if_ne (tgt := 19) d_X12_set_14 (by decide) (fun h14 => ?_) (fun h14 => ?_)
    ·
      refine gm_iload_n d_X12_set_19 rfl 3 rfl ?_
      refine gm_iconst (v := 0) d_X12_set_20 (by decide) ?_
      refine gm_iload_n d_X12_set_21 rfl 2 rfl ?_
      refine gm_join (S := Int32) (pj := 43) (kj := 0) (nj := 0) (fun s5 => m3) (fun s5 => [(0, .ref a0), (1, .int a1), (2, .int a2), (3, .int a3)]) (fun s5 => [.int s5, .int (0 : Int32), .int a3]) (fun s5 => ?_) (fun j6 hj6 => ?_)
      ·
        refine gm_callS [.int a3, .int (0 : Int32), .int s5] (c_X12_in a3 (0 : Int32) s5 m3) B_X12_in gw_964 rfl rfl rfl d_X12_set_43 (gm_kI (fun x8 m7 => ?_))
        refine gm_if_ne (tgt := 52) d_X12_set_46 (by decide) (fun h46 => ?_) (fun h46 => ?_)
        ·
          refine gm_iconst (v := 1) d_X12_set_52 (by decide) ?_
          refine gm_iconst (v := 5) d_X12_set_53 (by decide) ?_
          refine gm_iload_n d_X12_set_54 rfl 2 rfl ?_
          refine gm_imul d_X12_set_55 ?_
          refine gm_iadd d_X12_set_56 ?_
          refine gm_iload_n d_X12_set_57 rfl 1 rfl ?_
          refine gm_iadd d_X12_set_58 ?_
          refine gm_istore (L' := [(4, .int (((1 : Int32) + ((5 : Int32) * a2)) + a1)), (0, .ref a0), (1, .int a1), (2, .int a2), (3, .int a3)]) d_X12_set_59 (Nat.le_of_ble_eq_true rfl) rfl ?_
          refine gm_aload_n d_X12_set_61 rfl 1 rfl ?_
          refine gm_getR F_12_s gw_890 d_X12_set_62 (fun v9 _ => ?_)
          refine gm_iload d_X12_set_65 0 rfl ?_
          refine gm_iald d_X12_set_67 (fun v10 _ => ?_)
          refine gm_istore (L' := [(5, .int v10), (4, .int (((1 : Int32) + ((5 : Int32) * a2)) + a1)), (0, .ref a0), (1, .int a1), (2, .int a2), (3, .int a3)]) d_X12_set_68 (Nat.le_of_ble_eq_true rfl) rfl ?_
          refine gm_aload_n d_X12_set_70 rfl 2 rfl ?_
          refine gm_getR F_12_s gw_890 d_X12_set_71 (fun v11 _ => ?_)
          refine gm_iload d_X12_set_74 1 rfl ?_
          refine gm_iload_n d_X12_set_76 rfl 5 rfl ?_
          refine gm_iast d_X12_set_77 (fun m12 _ => ?_)
          refine gm_iload d_X12_set_78 0 rfl ?_
          exact gm_iret rfl d_X12_set_80 (Nat.le_of_ble_eq_true rfl) (Nat.le_of_ble_eq_true rfl) (fun h => h)
        ·
          refine gm_bipush (v := -2) d_X12_set_49 (by decide) ?_
          exact gm_iret rfl d_X12_set_51 (Nat.le_of_ble_eq_true rfl) (Nat.le_of_ble_eq_true rfl) (fun h => h)
      ·
        refine gm_if_ne (tgt := 30) d_X12_set_22 (by decide) (fun h22 => ?_) (fun h22 => ?_)
        ·
          refine gm_iload_n d_X12_set_30 rfl 2 rfl ?_
          refine gm_iconst (v := 1) d_X12_set_31 (by decide) ?_
          refine gm_icmp_ne (tgt := 41) d_X12_set_32 (by decide) (fun h32 => ?_) (fun h32 => ?_)
          ·
            refine gm_bipush (v := 99) d_X12_set_41 (by decide) ?_
            exact hj6 (99 : Int32)
          ·
            refine gm_sipush (v := 999) d_X12_set_35 (by decide) ?_
            refine gm_goto (tgt := 43) d_X12_set_38 (by decide) ?_
            exact hj6 (999 : Int32)
        ·
          refine gm_bipush (v := 6) d_X12_set_25 (by decide) ?_
          refine gm_goto (tgt := 43) d_X12_set_27 (by decide) ?_
          exact hj6 (6 : Int32)
    ·
      refine gm_iconst (v := -1) d_X12_set_17 (by decide) ?_
      exact gm_iret rfl d_X12_set_18 (Nat.le_of_ble_eq_true rfl) (Nat.le_of_ble_eq_true rfl) (fun h => h)
theorem d_X12_slack_0 : decode prog_14_method_52_code 0 = .ok (.aload_n 0, 1) := ge_aload_n_0 (by decide +kernel)
theorem d_X12_slack_1 : decode prog_14_method_52_code 1 = .ok (.iload_n 1, 1) := ge_iload_n_1 (by decide +kernel)
theorem d_X12_slack_2 : decode prog_14_method_52_code 2 = .ok (.invokevirtual 154, 3) := ge_invokevirtual (by decide +kernel)
theorem d_X12_slack_5 : decode prog_14_method_52_code 5 = .ok (.ifCond .eq 11, 3) := ge_ifCond_eq (by decide +kernel)
theorem d_X12_slack_8 : decode prog_14_method_52_code 8 = .ok (.aload_n 0, 1) := ge_aload_n_0 (by decide +kernel)
theorem d_X12_slack_9 : decode prog_14_method_52_code 9 = .ok (.iload_n 1, 1) := ge_iload_n_1 (by decide +kernel)
theorem d_X12_slack_10 : decode prog_14_method_52_code 10 = .ok (.invokevirtual 201, 3) := ge_invokevirtual (by decide +kernel)
theorem d_X12_slack_13 : decode prog_14_method_52_code 13 = .ok (.goto 6, 3) := ge_goto (by decide +kernel)
theorem d_X12_slack_16 : decode prog_14_method_52_code 16 = .ok (.sipush (-10001), 3) := ge_sipush (by decide +kernel)
theorem d_X12_slack_19 : decode prog_14_method_52_code 19 = .ok (.ireturn, 1) := ge_ireturn (by decide +kernel)
def f_X12_slack (a0 : Nat) (a1 : Int32) (μ : gm_M) : Option (Option Value × gm_M) := if gm_tag μ a0 = 17 then gm_bI (f_X12_isChild a0 a1 μ) (fun x2 m1 => if x2 = 0 then some (some (.int (-10001 : Int32)), m1) else if gm_tag m1 a0 = 17 then gm_bI (f_X12_slackOf a0 a1 m1) (fun x4 m3 => some (some (.int x4), m3)) else none) else none
set_option maxHeartbeats 4000000 in
theorem c_X12_slack (a0 : Nat) (a1 : Int32) (μ : gm_M) : gm_Call ({ cls := "GumBubbleModel", name := "slack", desc := "(I)I" } : Jvm.MethodName) prog_14_method_52_code 2 (some .int) 5 0 0 [.ref a0, .int a1] μ (f_X12_slack a0 a1 μ) := by
  refine gm_start PN_12 (Nat.le_of_ble_eq_true rfl) (fun res μe => ?_)
  unfold f_X12_slack
  show gm_A "GumBubbleModel" (gm_nm "slack") _ _ _ _ _ _ _ _ _ 0 [(0, .ref a0), (1, .int a1)] [] _ _
  refine gm_aload_n d_X12_slack_0 rfl 0 rfl ?_
  refine gm_iload_n d_X12_slack_1 rfl 1 rfl ?_
  refine gm_grd (fun g2 => ?_)
  refine gm_callV (k0 := 12) [.int a1] (c_X12_isChild a0 a1 μ) g2 rfl B_X12_isChild gw_1047 gs_40 rfl rfl rfl d_X12_slack_2 (gm_kI (fun x2 m1 => ?_))
  refine gm_if_eq (tgt := 16) d_X12_slack_5 (by decide) (fun h5 => ?_) (fun h5 => ?_)
  ·
    refine gm_sipush (v := -10001) d_X12_slack_16 (by decide) ?_
    exact gm_iret rfl d_X12_slack_19 (Nat.le_of_ble_eq_true rfl) (Nat.le_of_ble_eq_true rfl) (fun h => h)
  ·
    refine gm_aload_n d_X12_slack_8 rfl 0 rfl ?_
    refine gm_iload_n d_X12_slack_9 rfl 1 rfl ?_
    refine gm_grd (fun g10 => ?_)
    refine gm_callV (k0 := 12) [.int a1] (c_X12_slackOf a0 a1 m1) g10 rfl B_X12_slackOf gw_1158 gs_56 rfl rfl rfl d_X12_slack_10 (gm_kI (fun x4 m3 => ?_))
    refine gm_goto (tgt := 19) d_X12_slack_13 (by decide) ?_
    exact gm_iret rfl d_X12_slack_19 (Nat.le_of_ble_eq_true rfl) (Nat.le_of_ble_eq_true rfl) (fun h => h)
theorem d_X12_soon_0 : decode prog_14_method_48_code 0 = .ok (.aload_n 0, 1) := ge_aload_n_0 (by decide +kernel)
theorem d_X12_soon_1 : decode prog_14_method_48_code 1 = .ok (.iload_n 1, 1) := ge_iload_n_1 (by decide +kernel)
theorem d_X12_soon_2 : decode prog_14_method_48_code 2 = .ok (.invokevirtual 154, 3) := ge_invokevirtual (by decide +kernel)
theorem d_X12_soon_5 : decode prog_14_method_48_code 5 = .ok (.ifCond .ne 5, 3) := ge_ifCond_ne (by decide +kernel)
theorem d_X12_soon_8 : decode prog_14_method_48_code 8 = .ok (.iconst (-1), 1) := ge_iconst_m1_ (by decide +kernel)
theorem d_X12_soon_9 : decode prog_14_method_48_code 9 = .ok (.ireturn, 1) := ge_ireturn (by decide +kernel)
theorem d_X12_soon_10 : decode prog_14_method_48_code 10 = .ok (.iload_n 2, 1) := ge_iload_n_2 (by decide +kernel)
theorem d_X12_soon_11 : decode prog_14_method_48_code 11 = .ok (.iconst 1, 1) := ge_iconst_1 (by decide +kernel)
theorem d_X12_soon_12 : decode prog_14_method_48_code 12 = .ok (.sipush 999, 3) := ge_sipush (by decide +kernel)
theorem d_X12_soon_15 : decode prog_14_method_48_code 15 = .ok (.invokestatic 44, 3) := ge_invokestatic (by decide +kernel)
theorem d_X12_soon_18 : decode prog_14_method_48_code 18 = .ok (.ifCond .ne 6, 3) := ge_ifCond_ne (by decide +kernel)
theorem d_X12_soon_21 : decode prog_14_method_48_code 21 = .ok (.bipush (-2), 2) := ge_bipush (by decide +kernel)
theorem d_X12_soon_23 : decode prog_14_method_48_code 23 = .ok (.ireturn, 1) := ge_ireturn (by decide +kernel)
theorem d_X12_soon_24 : decode prog_14_method_48_code 24 = .ok (.aload_n 0, 1) := ge_aload_n_0 (by decide +kernel)
theorem d_X12_soon_25 : decode prog_14_method_48_code 25 = .ok (.invokevirtual 183, 3) := ge_invokevirtual (by decide +kernel)
theorem d_X12_soon_28 : decode prog_14_method_48_code 28 = .ok (.bipush (-5), 2) := ge_bipush (by decide +kernel)
theorem d_X12_soon_30 : decode prog_14_method_48_code 30 = .ok (.istore_n 3, 1) := ge_istore_n_3 (by decide +kernel)
theorem d_X12_soon_31 : decode prog_14_method_48_code 31 = .ok (.iconst 0, 1) := ge_iconst_0 (by decide +kernel)
theorem d_X12_soon_32 : decode prog_14_method_48_code 32 = .ok (.istore 4, 2) := ge_istore (by decide +kernel)
theorem d_X12_soon_34 : decode prog_14_method_48_code 34 = .ok (.iload 4, 2) := ge_iload (by decide +kernel)
theorem d_X12_soon_36 : decode prog_14_method_48_code 36 = .ok (.bipush 60, 2) := ge_bipush (by decide +kernel)
theorem d_X12_soon_38 : decode prog_14_method_48_code 38 = .ok (.if_icmp .gt 37, 3) := ge_if_icmp_gt (by decide +kernel)
theorem d_X12_soon_41 : decode prog_14_method_48_code 41 = .ok (.iload_n 3, 1) := ge_iload_n_3 (by decide +kernel)
theorem d_X12_soon_42 : decode prog_14_method_48_code 42 = .ok (.bipush (-5), 2) := ge_bipush (by decide +kernel)
theorem d_X12_soon_44 : decode prog_14_method_48_code 44 = .ok (.if_icmp .ne 31, 3) := ge_if_icmp_ne (by decide +kernel)
theorem d_X12_soon_47 : decode prog_14_method_48_code 47 = .ok (.aload_n 0, 1) := ge_aload_n_0 (by decide +kernel)
theorem d_X12_soon_48 : decode prog_14_method_48_code 48 = .ok (.iload_n 1, 1) := ge_iload_n_1 (by decide +kernel)
theorem d_X12_soon_49 : decode prog_14_method_48_code 49 = .ok (.invokevirtual 148, 3) := ge_invokevirtual (by decide +kernel)
theorem d_X12_soon_52 : decode prog_14_method_48_code 52 = .ok (.iload_n 2, 1) := ge_iload_n_2 (by decide +kernel)
theorem d_X12_soon_53 : decode prog_14_method_48_code 53 = .ok (.if_icmp .lt 8, 3) := ge_if_icmp_lt (by decide +kernel)
theorem d_X12_soon_56 : decode prog_14_method_48_code 56 = .ok (.iload 4, 2) := ge_iload (by decide +kernel)
theorem d_X12_soon_58 : decode prog_14_method_48_code 58 = .ok (.goto 5, 3) := ge_goto (by decide +kernel)
theorem d_X12_soon_61 : decode prog_14_method_48_code 61 = .ok (.bipush (-5), 2) := ge_bipush (by decide +kernel)
theorem d_X12_soon_63 : decode prog_14_method_48_code 63 = .ok (.istore_n 3, 1) := ge_istore_n_3 (by decide +kernel)
theorem d_X12_soon_64 : decode prog_14_method_48_code 64 = .ok (.aload_n 0, 1) := ge_aload_n_0 (by decide +kernel)
theorem d_X12_soon_65 : decode prog_14_method_48_code 65 = .ok (.iload_n 1, 1) := ge_iload_n_1 (by decide +kernel)
theorem d_X12_soon_66 : decode prog_14_method_48_code 66 = .ok (.invokevirtual 195, 3) := ge_invokevirtual (by decide +kernel)
theorem d_X12_soon_69 : decode prog_14_method_48_code 69 = .ok (.iinc 4 1, 3) := ge_iinc (by decide +kernel)
theorem d_X12_soon_72 : decode prog_14_method_48_code 72 = .ok (.goto (-38), 3) := ge_goto (by decide +kernel)
theorem d_X12_soon_75 : decode prog_14_method_48_code 75 = .ok (.aload_n 0, 1) := ge_aload_n_0 (by decide +kernel)
theorem d_X12_soon_76 : decode prog_14_method_48_code 76 = .ok (.invokevirtual 186, 3) := ge_invokevirtual (by decide +kernel)
theorem d_X12_soon_79 : decode prog_14_method_48_code 79 = .ok (.iload_n 3, 1) := ge_iload_n_3 (by decide +kernel)
theorem d_X12_soon_80 : decode prog_14_method_48_code 80 = .ok (.ireturn, 1) := ge_ireturn (by decide +kernel)
def f_X12_soon (a0 : Nat) (a1 : Int32) (a2 : Int32) (μ : gm_M) : Option (Option Value × gm_M) := if gm_tag μ a0 = 17 then gm_bI (f_X12_isChild a0 a1 μ) (fun x2 m1 => if x2 ≠ 0 then gm_bI (f_X12_in a2 (1 : Int32) (999 : Int32) m1) (fun x4 m3 => if x4 ≠ 0 then if gm_tag m3 a0 = 17 then gm_bV (f_X12_keeps a0 m3) (fun m5 => gm_loop (fun (s7 : Int32 × Int32 × gm_M) => gm_j (fun (s8 : Unit) => if gm_tag s7.2.2 a0 = 17 then gm_bV (f_X12_goesBack a0 s7.2.2) (fun m10 => some (Sum.inr (some (.int s7.1), m10))) else none) (fun j9 => if (60 : Int32) < s7.2.1 then j9 () else if s7.1 ≠ (-5 : Int32) then j9 () else if gm_tag s7.2.2 a0 = 17 then gm_bI (f_X12_holdsOf a0 a1 s7.2.2) (fun x13 m12 => gm_j (fun (s14 : Int32) => if gm_tag m12 a0 = 17 then gm_bV (f_X12_goesAlone a0 a1 m12) (fun m16 => some (Sum.inl (s14, (s7.2.1 + (1 : Int32)), m16))) else none) (fun j15 => if x13 < a2 then j15 (-5 : Int32) else j15 s7.2.1)) else none)) 5000 ((-5 : Int32), (0 : Int32), m5)) else none else some (some (.int (-2 : Int32)), m3)) else some (some (.int (-1 : Int32)), m1)) else none
set_option maxHeartbeats 4000000 in
theorem c_X12_soon (a0 : Nat) (a1 : Int32) (a2 : Int32) (μ : gm_M) : gm_Call ({ cls := "GumBubbleModel", name := "soon", desc := "(II)I" } : Jvm.MethodName) prog_14_method_48_code 5 (some .int) 4 0 0 [.ref a0, .int a1, .int a2] μ (f_X12_soon a0 a1 a2 μ) := by
  refine gm_start PN_12 (Nat.le_of_ble_eq_true rfl) (fun res μe => ?_)
  unfold f_X12_soon
  show gm_A "GumBubbleModel" (gm_nm "soon") _ _ _ _ _ _ _ _ _ 0 [(0, .ref a0), (1, .int a1), (2, .int a2)] [] _ _
  refine gm_aload_n d_X12_soon_0 rfl 0 rfl ?_
  refine gm_iload_n d_X12_soon_1 rfl 1 rfl ?_
  refine gm_grd (fun g2 => ?_)
  refine gm_callV (k0 := 12) [.int a1] (c_X12_isChild a0 a1 μ) g2 rfl B_X12_isChild gw_1047 gs_40 rfl rfl rfl d_X12_soon_2 (gm_kI (fun x2 m1 => ?_))
  refine gm_if_ne (tgt := 10) d_X12_soon_5 (by decide) (fun h5 => ?_) (fun h5 => ?_)
  ·
    refine gm_iload_n d_X12_soon_10 rfl 2 rfl ?_
    refine gm_iconst (v := 1) d_X12_soon_11 (by decide) ?_
    refine gm_sipush (v := 999) d_X12_soon_12 (by decide) ?_
    refine gm_callS [.int a2, .int (1 : Int32), .int (999 : Int32)] (c_X12_in a2 (1 : Int32) (999 : Int32) m1) B_X12_in gw_964 rfl rfl rfl d_X12_soon_15 (gm_kI (fun x4 m3 => ?_))
    refine gm_if_ne (tgt := 24) d_X12_soon_18 (by decide) (fun h18 => ?_) (fun h18 => ?_)
    ·
      refine gm_aload_n d_X12_soon_24 rfl 0 rfl ?_
      refine gm_grd (fun g25 => ?_)
      refine gm_callV (k0 := 12) [] (c_X12_keeps a0 m3) g25 rfl B_X12_keeps gw_1126 gs_52 rfl rfl rfl d_X12_soon_25 (gm_kV (fun m5 => ?_))
      refine gm_bipush (v := -5) d_X12_soon_28 (by decide) ?_
      refine gm_istore_n (L' := [(3, .int (-5 : Int32)), (0, .ref a0), (1, .int a1), (2, .int a2)]) d_X12_soon_30 rfl (Nat.le_of_ble_eq_true rfl) rfl ?_
      refine gm_iconst (v := 0) d_X12_soon_31 (by decide) ?_
      refine gm_istore (L' := [(4, .int (0 : Int32)), (3, .int (-5 : Int32)), (0, .ref a0), (1, .int a1), (2, .int a2)]) d_X12_soon_32 (Nat.le_of_ble_eq_true rfl) rfl ?_
      refine gm_sub (L' := [(0, .ref a0), (1, .int a1), (2, .int a2), (3, .int (-5 : Int32)), (4, .int (0 : Int32))]) [2, 3, 4, 1, 0] rfl ?_
      refine gm_lp (S := Int32 × Int32 × gm_M) (fun _ => 0) (fun _ => 0) (fun s7 => s7.2.2) (fun s7 => [(0, .ref a0), (1, .int a1), (2, .int a2), (3, .int s7.1), (4, .int s7.2.1)]) (fun _ => []) (fun s7 => ?_) 5000 ((-5 : Int32), (0 : Int32), m5)
      refine gm_iload d_X12_soon_34 4 rfl ?_
      refine gm_bipush (v := 60) d_X12_soon_36 (by decide) ?_
      refine gm_join (S := Unit) (pj := 75) (kj := 0) (nj := 0) (fun s8 => s7.2.2) (fun s8 => [(0, .ref a0), (1, .int a1), (2, .int a2), (3, .int s7.1), (4, .int s7.2.1)]) (fun s8 => []) (fun s8 => ?_) (fun j9 hj9 => ?_)
      ·
        refine gm_aload_n d_X12_soon_75 rfl 0 rfl ?_
        refine gm_grd (fun g76 => ?_)
        refine gm_callV (k0 := 12) [] (c_X12_goesBack a0 s7.2.2) g76 rfl B_X12_goesBack gw_1130 gs_53 rfl rfl rfl d_X12_soon_76 (gm_kV (fun m10 => ?_))
        refine gm_iload_n d_X12_soon_79 rfl 3 rfl ?_
        exact gm_iret rfl d_X12_soon_80 (Nat.le_of_ble_eq_true rfl) (Nat.le_of_ble_eq_true rfl) (fun h => h)
      ·
        refine gm_icmp_gt (tgt := 75) d_X12_soon_38 (by decide) (fun h38 => ?_) (fun h38 => ?_)
        ·
          exact hj9 ()
        ·
          refine gm_iload_n d_X12_soon_41 rfl 3 rfl ?_
          refine gm_bipush (v := -5) d_X12_soon_42 (by decide) ?_
          refine gm_icmp_ne (tgt := 75) d_X12_soon_44 (by decide) (fun h44 => ?_) (fun h44 => ?_)
          ·
            exact hj9 ()
          ·
            refine gm_aload_n d_X12_soon_47 rfl 0 rfl ?_
            refine gm_iload_n d_X12_soon_48 rfl 1 rfl ?_
            refine gm_grd (fun g49 => ?_)
            refine gm_callV (k0 := 12) [.int a1] (c_X12_holdsOf a0 a1 s7.2.2) g49 rfl B_X12_holdsOf gw_1074 gs_45 rfl rfl rfl d_X12_soon_49 (gm_kI (fun x13 m12 => ?_))
            refine gm_iload_n d_X12_soon_52 rfl 2 rfl ?_
            refine gm_join (S := Int32) (pj := 63) (kj := 0) (nj := 0) (fun s14 => m12) (fun s14 => [(0, .ref a0), (1, .int a1), (2, .int a2), (3, .int s7.1), (4, .int s7.2.1)]) (fun s14 => [.int s14]) (fun s14 => ?_) (fun j15 hj15 => ?_)
            ·
              refine gm_istore_n (L' := [(3, .int s14), (0, .ref a0), (1, .int a1), (2, .int a2), (4, .int s7.2.1)]) d_X12_soon_63 rfl (Nat.le_of_ble_eq_true rfl) rfl ?_
              refine gm_aload_n d_X12_soon_64 rfl 1 rfl ?_
              refine gm_iload_n d_X12_soon_65 rfl 2 rfl ?_
              refine gm_grd (fun g66 => ?_)
              refine gm_callV (k0 := 12) [.int a1] (c_X12_goesAlone a0 a1 m12) g66 rfl B_X12_goesAlone gw_1142 gs_55 rfl rfl rfl d_X12_soon_66 (gm_kV (fun m16 => ?_))
              refine gm_iinc (v := s7.2.1 + (1 : Int32)) (L' := [(4, .int (s7.2.1 + (1 : Int32))), (3, .int s14), (0, .ref a0), (1, .int a1), (2, .int a2)]) d_X12_soon_69 4 rfl rfl (Nat.le_of_ble_eq_true rfl) rfl ?_
              refine gm_goto (tgt := 34) d_X12_soon_72 (by decide) ?_
              refine gm_sub (L' := [(0, .ref a0), (1, .int a1), (2, .int a2), (3, .int s14), (4, .int (s7.2.1 + (1 : Int32)))]) [2, 3, 4, 1, 0] rfl ?_
              exact gm_back (fun h => h)
            ·
              refine gm_icmp_lt (tgt := 61) d_X12_soon_53 (by decide) (fun h53 => ?_) (fun h53 => ?_)
              ·
                refine gm_bipush (v := -5) d_X12_soon_61 (by decide) ?_
                exact hj15 (-5 : Int32)
              ·
                refine gm_iload d_X12_soon_56 4 rfl ?_
                refine gm_goto (tgt := 63) d_X12_soon_58 (by decide) ?_
                exact hj15 s7.2.1
    ·
      refine gm_bipush (v := -2) d_X12_soon_21 (by decide) ?_
      exact gm_iret rfl d_X12_soon_23 (Nat.le_of_ble_eq_true rfl) (Nat.le_of_ble_eq_true rfl) (fun h => h)
  ·
    refine gm_iconst (v := -1) d_X12_soon_8 (by decide) ?_
    exact gm_iret rfl d_X12_soon_9 (Nat.le_of_ble_eq_true rfl) (Nat.le_of_ble_eq_true rfl) (fun h => h)
theorem d_X12_swapsAt_0 : decode prog_14_method_60_code 0 = .ok (.aload_n 0, 1) := ge_aload_n_0 (by decide +kernel)
theorem d_X12_swapsAt_1 : decode prog_14_method_60_code 1 = .ok (.getfield 9, 3) := ge_getfield (by decide +kernel)
theorem d_X12_swapsAt_4 : decode prog_14_method_60_code 4 = .ok (.iload_n 1, 1) := ge_iload_n_1 (by decide +kernel)
theorem d_X12_swapsAt_5 : decode prog_14_method_60_code 5 = .ok (.iload_n 2, 1) := ge_iload_n_2 (by decide +kernel)
theorem d_X12_swapsAt_6 : decode prog_14_method_60_code 6 = .ok (.iadd, 1) := ge_iadd (by decide +kernel)
theorem d_X12_swapsAt_7 : decode prog_14_method_60_code 7 = .ok (.iaload, 1) := ge_iaload (by decide +kernel)
theorem d_X12_swapsAt_8 : decode prog_14_method_60_code 8 = .ok (.istore 4, 2) := ge_istore (by decide +kernel)
theorem d_X12_swapsAt_10 : decode prog_14_method_60_code 10 = .ok (.aload_n 0, 1) := ge_aload_n_0 (by decide +kernel)
theorem d_X12_swapsAt_11 : decode prog_14_method_60_code 11 = .ok (.getfield 9, 3) := ge_getfield (by decide +kernel)
theorem d_X12_swapsAt_14 : decode prog_14_method_60_code 14 = .ok (.iload_n 1, 1) := ge_iload_n_1 (by decide +kernel)
theorem d_X12_swapsAt_15 : decode prog_14_method_60_code 15 = .ok (.iload_n 2, 1) := ge_iload_n_2 (by decide +kernel)
theorem d_X12_swapsAt_16 : decode prog_14_method_60_code 16 = .ok (.iadd, 1) := ge_iadd (by decide +kernel)
theorem d_X12_swapsAt_17 : decode prog_14_method_60_code 17 = .ok (.aload_n 0, 1) := ge_aload_n_0 (by decide +kernel)
theorem d_X12_swapsAt_18 : decode prog_14_method_60_code 18 = .ok (.getfield 9, 3) := ge_getfield (by decide +kernel)
theorem d_X12_swapsAt_21 : decode prog_14_method_60_code 21 = .ok (.iload_n 1, 1) := ge_iload_n_1 (by decide +kernel)
theorem d_X12_swapsAt_22 : decode prog_14_method_60_code 22 = .ok (.iload_n 3, 1) := ge_iload_n_3 (by decide +kernel)
theorem d_X12_swapsAt_23 : decode prog_14_method_60_code 23 = .ok (.iadd, 1) := ge_iadd (by decide +kernel)
theorem d_X12_swapsAt_24 : decode prog_14_method_60_code 24 = .ok (.iaload, 1) := ge_iaload (by decide +kernel)
theorem d_X12_swapsAt_25 : decode prog_14_method_60_code 25 = .ok (.iastore, 1) := ge_iastore (by decide +kernel)
theorem d_X12_swapsAt_26 : decode prog_14_method_60_code 26 = .ok (.aload_n 0, 1) := ge_aload_n_0 (by decide +kernel)
theorem d_X12_swapsAt_27 : decode prog_14_method_60_code 27 = .ok (.getfield 9, 3) := ge_getfield (by decide +kernel)
theorem d_X12_swapsAt_30 : decode prog_14_method_60_code 30 = .ok (.iload_n 1, 1) := ge_iload_n_1 (by decide +kernel)
theorem d_X12_swapsAt_31 : decode prog_14_method_60_code 31 = .ok (.iload_n 3, 1) := ge_iload_n_3 (by decide +kernel)
theorem d_X12_swapsAt_32 : decode prog_14_method_60_code 32 = .ok (.iadd, 1) := ge_iadd (by decide +kernel)
theorem d_X12_swapsAt_33 : decode prog_14_method_60_code 33 = .ok (.iload 4, 2) := ge_iload (by decide +kernel)
theorem d_X12_swapsAt_35 : decode prog_14_method_60_code 35 = .ok (.iastore, 1) := ge_iastore (by decide +kernel)
theorem d_X12_swapsAt_36 : decode prog_14_method_60_code 36 = .ok (.return_, 1) := ge_return_ (by decide +kernel)
def f_X12_swapsAt (a0 : Nat) (a1 : Int32) (a2 : Int32) (a3 : Int32) (μ : gm_M) : Option (Option Value × gm_M) := gm_gR μ [17] a0 1 (fun v1 => gm_aI μ v1 (a1 + a2) (fun v2 => gm_gR μ [17] a0 1 (fun v3 => gm_gR μ [17] a0 1 (fun v4 => gm_aI μ v4 (a1 + a3) (fun v5 => gm_sI μ v3 (a1 + a2) v5 (fun m6 => gm_gR m6 [17] a0 1 (fun v7 => gm_sI m6 v7 (a1 + a3) v2 (fun m8 => some (none, m8)))))))))
set_option maxHeartbeats 4000000 in
theorem c_X12_swapsAt (a0 : Nat) (a1 : Int32) (a2 : Int32) (a3 : Int32) (μ : gm_M) : gm_Call ({ cls := "GumBubbleModel", name := "swapsAt", desc := "(III)V" } : Jvm.MethodName) prog_14_method_60_code 5 none 0 0 0 [.ref a0, .int a1, .int a2, .int a3] μ (f_X12_swapsAt a0 a1 a2 a3 μ) := by
  refine gm_start PN_12 (Nat.le_of_ble_eq_true rfl) (fun res μe => ?_)
  unfold f_X12_swapsAt
  show gm_A "GumBubbleModel" (gm_nm "swapsAt") _ _ _ _ _ _ _ _ _ 0 [(0, .ref a0), (1, .int a1), (2, .int a2), (3, .int a3)] [] _ _
  refine gm_aload_n d_X12_swapsAt_0 rfl 0 rfl ?_
  refine gm_getR F_12_s gw_890 d_X12_swapsAt_1 (fun v1 _ => ?_)
  refine gm_iload_n d_X12_swapsAt_4 rfl 1 rfl ?_
  refine gm_iload_n d_X12_swapsAt_5 rfl 2 rfl ?_
  refine gm_iadd d_X12_swapsAt_6 ?_
  refine gm_iald d_X12_swapsAt_7 (fun v2 _ => ?_)
  refine gm_istore (L' := [(4, .int v2), (0, .ref a0), (1, .int a1), (2, .int a2), (3, .int a3)]) d_X12_swapsAt_8 (Nat.le_of_ble_eq_true rfl) rfl ?_
  refine gm_aload_n d_X12_swapsAt_10 rfl 1 rfl ?_
  refine gm_getR F_12_s gw_890 d_X12_swapsAt_11 (fun v3 _ => ?_)
  refine gm_iload_n d_X12_swapsAt_14 rfl 2 rfl ?_
  refine gm_iload_n d_X12_swapsAt_15 rfl 3 rfl ?_
  refine gm_iadd d_X12_swapsAt_16 ?_
  refine gm_aload_n d_X12_swapsAt_17 rfl 1 rfl ?_
  refine gm_getR F_12_s gw_890 d_X12_swapsAt_18 (fun v4 _ => ?_)
  refine gm_iload_n d_X12_swapsAt_21 rfl 2 rfl ?_
  refine gm_iload_n d_X12_swapsAt_22 rfl 4 rfl ?_
  refine gm_iadd d_X12_swapsAt_23 ?_
  refine gm_iald d_X12_swapsAt_24 (fun v5 _ => ?_)
  refine gm_iast d_X12_swapsAt_25 (fun m6 _ => ?_)
  refine gm_aload_n d_X12_swapsAt_26 rfl 1 rfl ?_
  refine gm_getR F_12_s gw_890 d_X12_swapsAt_27 (fun v7 _ => ?_)
  refine gm_iload_n d_X12_swapsAt_30 rfl 2 rfl ?_
  refine gm_iload_n d_X12_swapsAt_31 rfl 4 rfl ?_
  refine gm_iadd d_X12_swapsAt_32 ?_
  refine gm_iload d_X12_swapsAt_33 0 rfl ?_
  refine gm_iast d_X12_swapsAt_35 (fun m8 _ => ?_)
  exact gm_vret rfl d_X12_swapsAt_36 (Nat.le_of_ble_eq_true rfl) (Nat.le_of_ble_eq_true rfl) (fun h => h)
theorem d_X12_swaps_0 : decode prog_14_method_61_code 0 = .ok (.aload_n 0, 1) := ge_aload_n_0 (by decide +kernel)
theorem d_X12_swaps_1 : decode prog_14_method_61_code 1 = .ok (.iconst 1, 1) := ge_iconst_1 (by decide +kernel)
theorem d_X12_swaps_2 : decode prog_14_method_61_code 2 = .ok (.iload_n 1, 1) := ge_iload_n_1 (by decide +kernel)
theorem d_X12_swaps_3 : decode prog_14_method_61_code 3 = .ok (.iload_n 2, 1) := ge_iload_n_2 (by decide +kernel)
theorem d_X12_swaps_4 : decode prog_14_method_61_code 4 = .ok (.invokevirtual 220, 3) := ge_invokevirtual (by decide +kernel)
theorem d_X12_swaps_7 : decode prog_14_method_61_code 7 = .ok (.aload_n 0, 1) := ge_aload_n_0 (by decide +kernel)
theorem d_X12_swaps_8 : decode prog_14_method_61_code 8 = .ok (.bipush 6, 2) := ge_bipush (by decide +kernel)
theorem d_X12_swaps_10 : decode prog_14_method_61_code 10 = .ok (.iload_n 1, 1) := ge_iload_n_1 (by decide +kernel)
theorem d_X12_swaps_11 : decode prog_14_method_61_code 11 = .ok (.iload_n 2, 1) := ge_iload_n_2 (by decide +kernel)
theorem d_X12_swaps_12 : decode prog_14_method_61_code 12 = .ok (.invokevirtual 220, 3) := ge_invokevirtual (by decide +kernel)
theorem d_X12_swaps_15 : decode prog_14_method_61_code 15 = .ok (.return_, 1) := ge_return_ (by decide +kernel)
def f_X12_swaps (a0 : Nat) (a1 : Int32) (a2 : Int32) (μ : gm_M) : Option (Option Value × gm_M) := if gm_tag μ a0 = 17 then gm_bV (f_X12_swapsAt a0 (1 : Int32) a1 a2 μ) (fun m1 => if gm_tag m1 a0 = 17 then gm_bV (f_X12_swapsAt a0 (6 : Int32) a1 a2 m1) (fun m3 => some (none, m3)) else none) else none
set_option maxHeartbeats 4000000 in
theorem c_X12_swaps (a0 : Nat) (a1 : Int32) (a2 : Int32) (μ : gm_M) : gm_Call ({ cls := "GumBubbleModel", name := "swaps", desc := "(II)V" } : Jvm.MethodName) prog_14_method_61_code 3 none 1 0 0 [.ref a0, .int a1, .int a2] μ (f_X12_swaps a0 a1 a2 μ) := by
  refine gm_start PN_12 (Nat.le_of_ble_eq_true rfl) (fun res μe => ?_)
  unfold f_X12_swaps
  show gm_A "GumBubbleModel" (gm_nm "swaps") _ _ _ _ _ _ _ _ _ 0 [(0, .ref a0), (1, .int a1), (2, .int a2)] [] _ _
  refine gm_aload_n d_X12_swaps_0 rfl 0 rfl ?_
  refine gm_iconst (v := 1) d_X12_swaps_1 (by decide) ?_
  refine gm_iload_n d_X12_swaps_2 rfl 1 rfl ?_
  refine gm_iload_n d_X12_swaps_3 rfl 2 rfl ?_
  refine gm_grd (fun g4 => ?_)
  refine gm_callV (k0 := 12) [.int (1 : Int32), .int a1, .int a2] (c_X12_swapsAt a0 (1 : Int32) a1 a2 μ) g4 rfl B_X12_swapsAt gw_1202 gs_58 rfl rfl rfl d_X12_swaps_4 (gm_kV (fun m1 => ?_))
  refine gm_aload_n d_X12_swaps_7 rfl 0 rfl ?_
  refine gm_bipush (v := 6) d_X12_swaps_8 (by decide) ?_
  refine gm_iload_n d_X12_swaps_10 rfl 1 rfl ?_
  refine gm_iload_n d_X12_swaps_11 rfl 2 rfl ?_
  refine gm_grd (fun g12 => ?_)
  refine gm_callV (k0 := 12) [.int (6 : Int32), .int a1, .int a2] (c_X12_swapsAt a0 (6 : Int32) a1 a2 m1) g12 rfl B_X12_swapsAt gw_1202 gs_58 rfl rfl rfl d_X12_swaps_12 (gm_kV (fun m3 => ?_))
  exact gm_vret rfl d_X12_swaps_15 (Nat.le_of_ble_eq_true rfl) (Nat.le_of_ble_eq_true rfl) (fun h => h)
theorem d_X12_swap_0 : decode prog_14_method_62_code 0 = .ok (.bipush (-5), 2) := ge_bipush (by decide +kernel)
theorem d_X12_swap_2 : decode prog_14_method_62_code 2 = .ok (.istore_n 1, 1) := ge_istore_n_1 (by decide +kernel)
theorem d_X12_swap_3 : decode prog_14_method_62_code 3 = .ok (.aload_n 0, 1) := ge_aload_n_0 (by decide +kernel)
theorem d_X12_swap_4 : decode prog_14_method_62_code 4 = .ok (.invokevirtual 164, 3) := ge_invokevirtual (by decide +kernel)
theorem d_X12_swap_7 : decode prog_14_method_62_code 7 = .ok (.istore_n 2, 1) := ge_istore_n_2 (by decide +kernel)
theorem d_X12_swap_8 : decode prog_14_method_62_code 8 = .ok (.iconst 0, 1) := ge_iconst_0 (by decide +kernel)
theorem d_X12_swap_9 : decode prog_14_method_62_code 9 = .ok (.istore_n 3, 1) := ge_istore_n_3 (by decide +kernel)
theorem d_X12_swap_10 : decode prog_14_method_62_code 10 = .ok (.iload_n 3, 1) := ge_iload_n_3 (by decide +kernel)
theorem d_X12_swap_11 : decode prog_14_method_62_code 11 = .ok (.aload_n 0, 1) := ge_aload_n_0 (by decide +kernel)
theorem d_X12_swap_12 : decode prog_14_method_62_code 12 = .ok (.getfield 9, 3) := ge_getfield (by decide +kernel)
theorem d_X12_swap_15 : decode prog_14_method_62_code 15 = .ok (.bipush 26, 2) := ge_bipush (by decide +kernel)
theorem d_X12_swap_17 : decode prog_14_method_62_code 17 = .ok (.iaload, 1) := ge_iaload (by decide +kernel)
theorem d_X12_swap_18 : decode prog_14_method_62_code 18 = .ok (.if_icmp .ge 83, 3) := ge_if_icmp_ge (by decide +kernel)
theorem d_X12_swap_21 : decode prog_14_method_62_code 21 = .ok (.iload_n 3, 1) := ge_iload_n_3 (by decide +kernel)
theorem d_X12_swap_22 : decode prog_14_method_62_code 22 = .ok (.iconst 1, 1) := ge_iconst_1 (by decide +kernel)
theorem d_X12_swap_23 : decode prog_14_method_62_code 23 = .ok (.iadd, 1) := ge_iadd (by decide +kernel)
theorem d_X12_swap_24 : decode prog_14_method_62_code 24 = .ok (.istore 4, 2) := ge_istore (by decide +kernel)
theorem d_X12_swap_26 : decode prog_14_method_62_code 26 = .ok (.iload 4, 2) := ge_iload (by decide +kernel)
theorem d_X12_swap_28 : decode prog_14_method_62_code 28 = .ok (.aload_n 0, 1) := ge_aload_n_0 (by decide +kernel)
theorem d_X12_swap_29 : decode prog_14_method_62_code 29 = .ok (.getfield 9, 3) := ge_getfield (by decide +kernel)
theorem d_X12_swap_32 : decode prog_14_method_62_code 32 = .ok (.bipush 26, 2) := ge_bipush (by decide +kernel)
theorem d_X12_swap_34 : decode prog_14_method_62_code 34 = .ok (.iaload, 1) := ge_iaload (by decide +kernel)
theorem d_X12_swap_35 : decode prog_14_method_62_code 35 = .ok (.if_icmp .ge 60, 3) := ge_if_icmp_ge (by decide +kernel)
theorem d_X12_swap_38 : decode prog_14_method_62_code 38 = .ok (.aload_n 0, 1) := ge_aload_n_0 (by decide +kernel)
theorem d_X12_swap_39 : decode prog_14_method_62_code 39 = .ok (.iload_n 3, 1) := ge_iload_n_3 (by decide +kernel)
theorem d_X12_swap_40 : decode prog_14_method_62_code 40 = .ok (.iload 4, 2) := ge_iload (by decide +kernel)
theorem d_X12_swap_42 : decode prog_14_method_62_code 42 = .ok (.invokevirtual 224, 3) := ge_invokevirtual (by decide +kernel)
theorem d_X12_swap_45 : decode prog_14_method_62_code 45 = .ok (.aload_n 0, 1) := ge_aload_n_0 (by decide +kernel)
theorem d_X12_swap_46 : decode prog_14_method_62_code 46 = .ok (.invokevirtual 164, 3) := ge_invokevirtual (by decide +kernel)
theorem d_X12_swap_49 : decode prog_14_method_62_code 49 = .ok (.istore 5, 2) := ge_istore (by decide +kernel)
theorem d_X12_swap_51 : decode prog_14_method_62_code 51 = .ok (.aload_n 0, 1) := ge_aload_n_0 (by decide +kernel)
theorem d_X12_swap_52 : decode prog_14_method_62_code 52 = .ok (.iload_n 3, 1) := ge_iload_n_3 (by decide +kernel)
theorem d_X12_swap_53 : decode prog_14_method_62_code 53 = .ok (.iload 4, 2) := ge_iload (by decide +kernel)
theorem d_X12_swap_55 : decode prog_14_method_62_code 55 = .ok (.invokevirtual 224, 3) := ge_invokevirtual (by decide +kernel)
theorem d_X12_swap_58 : decode prog_14_method_62_code 58 = .ok (.iload 5, 2) := ge_iload (by decide +kernel)
theorem d_X12_swap_60 : decode prog_14_method_62_code 60 = .ok (.iload_n 2, 1) := ge_iload_n_2 (by decide +kernel)
theorem d_X12_swap_61 : decode prog_14_method_62_code 61 = .ok (.if_icmp .le 13, 3) := ge_if_icmp_le (by decide +kernel)
theorem d_X12_swap_64 : decode prog_14_method_62_code 64 = .ok (.bipush 10, 2) := ge_bipush (by decide +kernel)
theorem d_X12_swap_66 : decode prog_14_method_62_code 66 = .ok (.iload_n 3, 1) := ge_iload_n_3 (by decide +kernel)
theorem d_X12_swap_67 : decode prog_14_method_62_code 67 = .ok (.imul, 1) := ge_imul (by decide +kernel)
theorem d_X12_swap_68 : decode prog_14_method_62_code 68 = .ok (.iload 4, 2) := ge_iload (by decide +kernel)
theorem d_X12_swap_70 : decode prog_14_method_62_code 70 = .ok (.iadd, 1) := ge_iadd (by decide +kernel)
theorem d_X12_swap_71 : decode prog_14_method_62_code 71 = .ok (.goto 4, 3) := ge_goto (by decide +kernel)
theorem d_X12_swap_74 : decode prog_14_method_62_code 74 = .ok (.iload_n 1, 1) := ge_iload_n_1 (by decide +kernel)
theorem d_X12_swap_75 : decode prog_14_method_62_code 75 = .ok (.istore_n 1, 1) := ge_istore_n_1 (by decide +kernel)
theorem d_X12_swap_76 : decode prog_14_method_62_code 76 = .ok (.iload 5, 2) := ge_iload (by decide +kernel)
theorem d_X12_swap_78 : decode prog_14_method_62_code 78 = .ok (.iload_n 2, 1) := ge_iload_n_2 (by decide +kernel)
theorem d_X12_swap_79 : decode prog_14_method_62_code 79 = .ok (.if_icmp .le 8, 3) := ge_if_icmp_le (by decide +kernel)
theorem d_X12_swap_82 : decode prog_14_method_62_code 82 = .ok (.iload 5, 2) := ge_iload (by decide +kernel)
theorem d_X12_swap_84 : decode prog_14_method_62_code 84 = .ok (.goto 4, 3) := ge_goto (by decide +kernel)
theorem d_X12_swap_87 : decode prog_14_method_62_code 87 = .ok (.iload_n 2, 1) := ge_iload_n_2 (by decide +kernel)
theorem d_X12_swap_88 : decode prog_14_method_62_code 88 = .ok (.istore_n 2, 1) := ge_istore_n_2 (by decide +kernel)
theorem d_X12_swap_89 : decode prog_14_method_62_code 89 = .ok (.iinc 4 1, 3) := ge_iinc (by decide +kernel)
theorem d_X12_swap_92 : decode prog_14_method_62_code 92 = .ok (.goto (-66), 3) := ge_goto (by decide +kernel)
theorem d_X12_swap_95 : decode prog_14_method_62_code 95 = .ok (.iinc 3 1, 3) := ge_iinc (by decide +kernel)
theorem d_X12_swap_98 : decode prog_14_method_62_code 98 = .ok (.goto (-88), 3) := ge_goto (by decide +kernel)
theorem d_X12_swap_101 : decode prog_14_method_62_code 101 = .ok (.iload_n 1, 1) := ge_iload_n_1 (by decide +kernel)
theorem d_X12_swap_102 : decode prog_14_method_62_code 102 = .ok (.ireturn, 1) := ge_ireturn (by decide +kernel)
def f_X12_swap (a0 : Nat) (μ : gm_M) : Option (Option Value × gm_M) := if gm_tag μ a0 = 17 then gm_bI (f_X12_allHold a0 μ) (fun x2 m1 => gm_loop (fun (s3 : Int32 × Int32 × Int32 × gm_M) => gm_gR s3.2.2.2 [17] a0 1 (fun v4 => gm_aI s3.2.2.2 v4 (26 : Int32) (fun v5 => if v5 ≤ s3.2.2.1 then some (Sum.inr (some (.int s3.1), s3.2.2.2)) else gm_loop (fun (s6 : Int32 × Int32 × Int32 × gm_M) => gm_gR s6.2.2.2 [17] a0 1 (fun v7 => gm_aI s6.2.2.2 v7 (26 : Int32) (fun v8 => if v8 ≤ s6.2.2.1 then some (Sum.inr (Sum.inl (s6.1, s6.2.1, (s3.2.2.1 + (1 : Int32)), s6.2.2.2))) else if gm_tag s6.2.2.2 a0 = 17 then gm_bV (f_X12_swaps a0 s3.2.2.1 s6.2.2.1 s6.2.2.2) (fun m9 => if gm_tag m9 a0 = 17 then gm_bI (f_X12_allHold a0 m9) (fun x12 m11 => if gm_tag m11 a0 = 17 then gm_bV (f_X12_swaps a0 s3.2.2.1 s6.2.2.1 m11) (fun m13 => gm_j (fun (s15 : Int32) => gm_j (fun (s17 : Int32) => some (Sum.inl (s15, s17, (s6.2.2.1 + (1 : Int32)), m13))) (fun j18 => if x12 ≤ s6.2.1 then j18 s6.2.1 else j18 x12)) (fun j16 => if x12 ≤ s6.2.1 then j16 s6.1 else j16 (((10 : Int32) * s3.2.2.1) + s6.2.2.1))) else none) else none) else none))) 5000 (s3.1, s3.2.1, (s3.2.2.1 + (1 : Int32)), s3.2.2.2)))) 5000 ((-5 : Int32), x2, (0 : Int32), m1)) else none
set_option maxHeartbeats 4000000 in
theorem c_X12_swap (a0 : Nat) (μ : gm_M) : gm_Call ({ cls := "GumBubbleModel", name := "swap", desc := "()I" } : Jvm.MethodName) prog_14_method_62_code 6 (some .int) 5 0 0 [.ref a0] μ (f_X12_swap a0 μ) := by
  refine gm_start PN_12 (Nat.le_of_ble_eq_true rfl) (fun res μe => ?_)
  unfold f_X12_swap
  show gm_A "GumBubbleModel" (gm_nm "swap") _ _ _ _ _ _ _ _ _ 0 [(0, .ref a0)] [] _ _
  refine gm_bipush (v := -5) d_X12_swap_0 (by decide) ?_
  refine gm_istore_n (L' := [(1, .int (-5 : Int32)), (0, .ref a0)]) d_X12_swap_2 rfl (Nat.le_of_ble_eq_true rfl) rfl ?_
  refine gm_aload_n d_X12_swap_3 rfl 1 rfl ?_
  refine gm_grd (fun g4 => ?_)
  refine gm_callV (k0 := 12) [] (c_X12_allHold a0 μ) g4 rfl B_X12_allHold gw_1090 gs_46 rfl rfl rfl d_X12_swap_4 (gm_kI (fun x2 m1 => ?_))
  refine gm_istore_n (L' := [(2, .int x2), (1, .int (-5 : Int32)), (0, .ref a0)]) d_X12_swap_7 rfl (Nat.le_of_ble_eq_true rfl) rfl ?_
  refine gm_iconst (v := 0) d_X12_swap_8 (by decide) ?_
  refine gm_istore_n (L' := [(3, .int (0 : Int32)), (2, .int x2), (1, .int (-5 : Int32)), (0, .ref a0)]) d_X12_swap_9 rfl (Nat.le_of_ble_eq_true rfl) rfl ?_
  refine gm_sub (L' := [(0, .ref a0), (1, .int (-5 : Int32)), (2, .int x2), (3, .int (0 : Int32))]) [3, 2, 1, 0] rfl ?_
  refine gm_lp (S := Int32 × Int32 × Int32 × gm_M) (fun _ => 0) (fun _ => 0) (fun s3 => s3.2.2.2) (fun s3 => [(0, .ref a0), (1, .int s3.1), (2, .int s3.2.1), (3, .int s3.2.2.1)]) (fun _ => []) (fun s3 => ?_) 5000 ((-5 : Int32), x2, (0 : Int32), m1)
  refine gm_iload_n d_X12_swap_10 rfl 3 rfl ?_
  refine gm_aload_n d_X12_swap_11 rfl 0 rfl ?_
  refine gm_getR F_12_s gw_890 d_X12_swap_12 (fun v4 _ => ?_)
  refine gm_bipush (v := 26) d_X12_swap_15 (by decide) ?_
  refine gm_iald d_X12_swap_17 (fun v5 _ => ?_)
  refine gm_icmp_ge (tgt := 101) d_X12_swap_18 (by decide) (fun h18 => ?_) (fun h18 => ?_)
  ·
    refine gm_iload_n d_X12_swap_101 rfl 1 rfl ?_
    exact gm_iret rfl d_X12_swap_102 (Nat.le_of_ble_eq_true rfl) (Nat.le_of_ble_eq_true rfl) (fun h => h)
  ·
    refine gm_iload_n d_X12_swap_21 rfl 3 rfl ?_
    refine gm_iconst (v := 1) d_X12_swap_22 (by decide) ?_
    refine gm_iadd d_X12_swap_23 ?_
    refine gm_istore (L' := [(4, .int (s3.2.2.1 + (1 : Int32))), (0, .ref a0), (1, .int s3.1), (2, .int s3.2.1), (3, .int s3.2.2.1)]) d_X12_swap_24 (Nat.le_of_ble_eq_true rfl) rfl ?_
    refine gm_sub (L' := [(0, .ref a0), (1, .int s3.1), (2, .int s3.2.1), (3, .int s3.2.2.1), (4, .int (s3.2.2.1 + (1 : Int32)))]) [1, 2, 3, 4, 0] rfl ?_
    refine gm_lp (S := Int32 × Int32 × Int32 × gm_M) (fun _ => 0) (fun _ => 0) (fun s6 => s6.2.2.2) (fun s6 => [(0, .ref a0), (1, .int s6.1), (2, .int s6.2.1), (3, .int s3.2.2.1), (4, .int s6.2.2.1)]) (fun _ => []) (fun s6 => ?_) 5000 (s3.1, s3.2.1, (s3.2.2.1 + (1 : Int32)), s3.2.2.2)
    refine gm_iload d_X12_swap_26 4 rfl ?_
    refine gm_aload_n d_X12_swap_28 rfl 0 rfl ?_
    refine gm_getR F_12_s gw_890 d_X12_swap_29 (fun v7 _ => ?_)
    refine gm_bipush (v := 26) d_X12_swap_32 (by decide) ?_
    refine gm_iald d_X12_swap_34 (fun v8 _ => ?_)
    refine gm_icmp_ge (tgt := 95) d_X12_swap_35 (by decide) (fun h35 => ?_) (fun h35 => ?_)
    ·
      refine gm_iinc (v := s3.2.2.1 + (1 : Int32)) (L' := [(3, .int (s3.2.2.1 + (1 : Int32))), (0, .ref a0), (1, .int s6.1), (2, .int s6.2.1), (4, .int s6.2.2.1)]) d_X12_swap_95 3 rfl rfl (Nat.le_of_ble_eq_true rfl) rfl ?_
      refine gm_goto (tgt := 10) d_X12_swap_98 (by decide) ?_
      refine gm_sub (L' := [(0, .ref a0), (1, .int s6.1), (2, .int s6.2.1), (3, .int (s3.2.2.1 + (1 : Int32)))]) [1, 2, 3, 0] rfl ?_
      exact gm_back (fun h => h)
    ·
      refine gm_aload_n d_X12_swap_38 rfl 0 rfl ?_
      refine gm_iload_n d_X12_swap_39 rfl 3 rfl ?_
      refine gm_iload d_X12_swap_40 4 rfl ?_
      refine gm_grd (fun g42 => ?_)
      refine gm_callV (k0 := 12) [.int s3.2.2.1, .int s6.2.2.1] (c_X12_swaps a0 s3.2.2.1 s6.2.2.1 s6.2.2.2) g42 rfl B_X12_swaps gw_1198 gs_57 rfl rfl rfl d_X12_swap_42 (gm_kV (fun m9 => ?_))
      refine gm_aload_n d_X12_swap_45 rfl 0 rfl ?_
      refine gm_grd (fun g46 => ?_)
      refine gm_callV (k0 := 12) [] (c_X12_allHold a0 m9) g46 rfl B_X12_allHold gw_1090 gs_46 rfl rfl rfl d_X12_swap_46 (gm_kI (fun x12 m11 => ?_))
      refine gm_istore (L' := [(5, .int x12), (0, .ref a0), (1, .int s6.1), (2, .int s6.2.1), (3, .int s3.2.2.1), (4, .int s6.2.2.1)]) d_X12_swap_49 (Nat.le_of_ble_eq_true rfl) rfl ?_
      refine gm_aload_n d_X12_swap_51 rfl 1 rfl ?_
      refine gm_iload_n d_X12_swap_52 rfl 4 rfl ?_
      refine gm_iload d_X12_swap_53 5 rfl ?_
      refine gm_grd (fun g55 => ?_)
      refine gm_callV (k0 := 12) [.int s3.2.2.1, .int s6.2.2.1] (c_X12_swaps a0 s3.2.2.1 s6.2.2.1 m11) g55 rfl B_X12_swaps gw_1198 gs_57 rfl rfl rfl d_X12_swap_55 (gm_kV (fun m13 => ?_))
      refine gm_iload d_X12_swap_58 0 rfl ?_
      refine gm_iload_n d_X12_swap_60 rfl 3 rfl ?_
      refine gm_join (S := Int32) (pj := 75) (kj := 0) (nj := 0) (fun s15 => m13) (fun s15 => [(0, .ref a0), (1, .int s6.1), (2, .int s6.2.1), (3, .int s3.2.2.1), (4, .int s6.2.2.1), (5, .int x12)]) (fun s15 => [.int s15]) (fun s15 => ?_) (fun j16 hj16 => ?_)
      ·
        refine gm_istore_n (L' := [(1, .int s15), (0, .ref a0), (2, .int s6.2.1), (3, .int s3.2.2.1), (4, .int s6.2.2.1), (5, .int x12)]) d_X12_swap_75 rfl (Nat.le_of_ble_eq_true rfl) rfl ?_
        refine gm_iload d_X12_swap_76 5 rfl ?_
        refine gm_iload_n d_X12_swap_78 rfl 2 rfl ?_
        refine gm_join (S := Int32) (pj := 88) (kj := 0) (nj := 0) (fun s17 => m13) (fun s17 => [(0, .ref a0), (1, .int s15), (2, .int s6.2.1), (3, .int s3.2.2.1), (4, .int s6.2.2.1), (5, .int x12)]) (fun s17 => [.int s17]) (fun s17 => ?_) (fun j18 hj18 => ?_)
        ·
          refine gm_istore_n (L' := [(2, .int s17), (0, .ref a0), (1, .int s15), (3, .int s3.2.2.1), (4, .int s6.2.2.1), (5, .int x12)]) d_X12_swap_88 rfl (Nat.le_of_ble_eq_true rfl) rfl ?_
          refine gm_iinc (v := s6.2.2.1 + (1 : Int32)) (L' := [(4, .int (s6.2.2.1 + (1 : Int32))), (2, .int s17), (0, .ref a0), (1, .int s15), (3, .int s3.2.2.1), (5, .int x12)]) d_X12_swap_89 4 rfl rfl (Nat.le_of_ble_eq_true rfl) rfl ?_
          refine gm_goto (tgt := 26) d_X12_swap_92 (by decide) ?_
          refine gm_sub (L' := [(0, .ref a0), (1, .int s15), (2, .int s17), (3, .int s3.2.2.1), (4, .int (s6.2.2.1 + (1 : Int32)))]) [2, 3, 1, 4, 0] rfl ?_
          exact gm_back (fun h => h)
        ·
          refine gm_icmp_le (tgt := 87) d_X12_swap_79 (by decide) (fun h79 => ?_) (fun h79 => ?_)
          ·
            refine gm_iload_n d_X12_swap_87 rfl 2 rfl ?_
            refine gm_sub (L' := [(0, .ref a0), (1, .int s15), (2, .int s6.2.1), (3, .int s3.2.2.1), (4, .int s6.2.2.1), (5, .int x12)]) [1, 0, 2, 3, 4, 5] rfl ?_
            exact hj18 s6.2.1
          ·
            refine gm_iload d_X12_swap_82 5 rfl ?_
            refine gm_goto (tgt := 88) d_X12_swap_84 (by decide) ?_
            refine gm_sub (L' := [(0, .ref a0), (1, .int s15), (2, .int s6.2.1), (3, .int s3.2.2.1), (4, .int s6.2.2.1), (5, .int x12)]) [1, 0, 2, 3, 4, 5] rfl ?_
            exact hj18 x12
      ·
        refine gm_icmp_le (tgt := 74) d_X12_swap_61 (by decide) (fun h61 => ?_) (fun h61 => ?_)
        ·
          refine gm_iload_n d_X12_swap_74 rfl 2 rfl ?_
          refine gm_sub (L' := [(0, .ref a0), (1, .int s6.1), (2, .int s6.2.1), (3, .int s3.2.2.1), (4, .int s6.2.2.1), (5, .int x12)]) [1, 2, 3, 4, 5, 0] rfl ?_
          exact hj16 s6.1
        ·
          refine gm_bipush (v := 10) d_X12_swap_64 (by decide) ?_
          refine gm_iload_n d_X12_swap_66 rfl 4 rfl ?_
          refine gm_imul d_X12_swap_67 ?_
          refine gm_iload d_X12_swap_68 5 rfl ?_
          refine gm_iadd d_X12_swap_70 ?_
          refine gm_goto (tgt := 75) d_X12_swap_71 (by decide) ?_
          refine gm_sub (L' := [(0, .ref a0), (1, .int s6.1), (2, .int s6.2.1), (3, .int s3.2.2.1), (4, .int s6.2.2.1), (5, .int x12)]) [1, 2, 3, 4, 5, 0] rfl ?_
          exact hj16 (((10 : Int32) * s3.2.2.1) + s6.2.2.1)
theorem d_X12_told_0 : decode prog_14_method_36_code 0 = .ok (.iload_n 1, 1) := ge_iload_n_1 (by decide +kernel)
theorem d_X12_told_1 : decode prog_14_method_36_code 1 = .ok (.tableswitch 66 0 4 #[35, 42, 51, 56, 61], 35) := by decide +kernel
theorem d_X12_told_36 : decode prog_14_method_36_code 36 = .ok (.aload_n 0, 1) := ge_aload_n_0 (by decide +kernel)
theorem d_X12_told_37 : decode prog_14_method_36_code 37 = .ok (.getfield 9, 3) := ge_getfield (by decide +kernel)
theorem d_X12_told_40 : decode prog_14_method_36_code 40 = .ok (.iconst 0, 1) := ge_iconst_0 (by decide +kernel)
theorem d_X12_told_41 : decode prog_14_method_36_code 41 = .ok (.iaload, 1) := ge_iaload (by decide +kernel)
theorem d_X12_told_42 : decode prog_14_method_36_code 42 = .ok (.ireturn, 1) := ge_ireturn (by decide +kernel)
theorem d_X12_told_43 : decode prog_14_method_36_code 43 = .ok (.aload_n 0, 1) := ge_aload_n_0 (by decide +kernel)
theorem d_X12_told_44 : decode prog_14_method_36_code 44 = .ok (.sipush 210, 3) := ge_sipush (by decide +kernel)
theorem d_X12_told_47 : decode prog_14_method_36_code 47 = .ok (.iconst 0, 1) := ge_iconst_0 (by decide +kernel)
theorem d_X12_told_48 : decode prog_14_method_36_code 48 = .ok (.invokevirtual 129, 3) := ge_invokevirtual (by decide +kernel)
theorem d_X12_told_51 : decode prog_14_method_36_code 51 = .ok (.ireturn, 1) := ge_ireturn (by decide +kernel)
theorem d_X12_told_52 : decode prog_14_method_36_code 52 = .ok (.aload_n 0, 1) := ge_aload_n_0 (by decide +kernel)
theorem d_X12_told_53 : decode prog_14_method_36_code 53 = .ok (.invokevirtual 151, 3) := ge_invokevirtual (by decide +kernel)
theorem d_X12_told_56 : decode prog_14_method_36_code 56 = .ok (.ireturn, 1) := ge_ireturn (by decide +kernel)
theorem d_X12_told_57 : decode prog_14_method_36_code 57 = .ok (.aload_n 0, 1) := ge_aload_n_0 (by decide +kernel)
theorem d_X12_told_58 : decode prog_14_method_36_code 58 = .ok (.invokevirtual 164, 3) := ge_invokevirtual (by decide +kernel)
theorem d_X12_told_61 : decode prog_14_method_36_code 61 = .ok (.ireturn, 1) := ge_ireturn (by decide +kernel)
theorem d_X12_told_62 : decode prog_14_method_36_code 62 = .ok (.aload_n 0, 1) := ge_aload_n_0 (by decide +kernel)
theorem d_X12_told_63 : decode prog_14_method_36_code 63 = .ok (.invokevirtual 167, 3) := ge_invokevirtual (by decide +kernel)
theorem d_X12_told_66 : decode prog_14_method_36_code 66 = .ok (.ireturn, 1) := ge_ireturn (by decide +kernel)
theorem d_X12_told_67 : decode prog_14_method_36_code 67 = .ok (.iconst (-1), 1) := ge_iconst_m1_ (by decide +kernel)
theorem d_X12_told_68 : decode prog_14_method_36_code 68 = .ok (.ireturn, 1) := ge_ireturn (by decide +kernel)
def f_X12_told (a0 : Nat) (a1 : Int32) (μ : gm_M) : Option (Option Value × gm_M) := if a1 = 0 then gm_gR μ [17] a0 1 (fun v1 => gm_aI μ v1 (0 : Int32) (fun v2 => some (some (.int v2), μ))) else if a1 = 1 then if gm_tag μ a0 = 17 then gm_bI (f_X12_tellsOf a0 (210 : Int32) (0 : Int32) μ) (fun x4 m3 => some (some (.int x4), m3)) else none else if a1 = 2 then if gm_tag μ a0 = 17 then gm_bI (f_X12_sweetNow a0 μ) (fun x6 m5 => some (some (.int x6), m5)) else none else if a1 = 3 then if gm_tag μ a0 = 17 then gm_bI (f_X12_allHold a0 μ) (fun x8 m7 => some (some (.int x8), m7)) else none else if a1 = 4 then if gm_tag μ a0 = 17 then gm_bI (f_X12_bubbles a0 μ) (fun x10 m9 => some (some (.int x10), m9)) else none else some (some (.int (-1 : Int32)), μ)
set_option maxHeartbeats 4000000 in
theorem c_X12_told (a0 : Nat) (a1 : Int32) (μ : gm_M) : gm_Call ({ cls := "GumBubbleModel", name := "told", desc := "(I)I" } : Jvm.MethodName) prog_14_method_36_code 2 (some .int) 5 0 0 [.ref a0, .int a1] μ (f_X12_told a0 a1 μ) := by
  refine gm_start PN_12 (Nat.le_of_ble_eq_true rfl) (fun res μe => ?_)
  unfold f_X12_told
  show gm_A "GumBubbleModel" (gm_nm "told") _ _ _ _ _ _ _ _ _ 0 [(0, .ref a0), (1, .int a1)] [] _ _
  refine gm_iload_n d_X12_told_0 rfl 1 rfl ?_
  refine gm_ite (P := a1 = 0) (fun h1_0 => ?_) (fun h1_0 => ?_)
  ·
    refine gm_swIn (v := 0) (off := 35) (tgt := 36) d_X12_told_1 (by rw [h1_0] <;> rfl) (by decide) (by decide) (by decide) (by decide) ?_
    refine gm_aload_n d_X12_told_36 rfl 0 rfl ?_
    refine gm_getR F_12_s gw_890 d_X12_told_37 (fun v1 _ => ?_)
    refine gm_iconst (v := 0) d_X12_told_40 (by decide) ?_
    refine gm_iald d_X12_told_41 (fun v2 _ => ?_)
    exact gm_iret rfl d_X12_told_42 (Nat.le_of_ble_eq_true rfl) (Nat.le_of_ble_eq_true rfl) (fun h => h)
  ·
    refine gm_ite (P := a1 = 1) (fun h1_1 => ?_) (fun h1_1 => ?_)
    ·
      refine gm_swIn (v := 1) (off := 42) (tgt := 43) d_X12_told_1 (by rw [h1_1] <;> rfl) (by decide) (by decide) (by decide) (by decide) ?_
      refine gm_aload_n d_X12_told_43 rfl 0 rfl ?_
      refine gm_sipush (v := 210) d_X12_told_44 (by decide) ?_
      refine gm_iconst (v := 0) d_X12_told_47 (by decide) ?_
      refine gm_grd (fun g48 => ?_)
      refine gm_callV (k0 := 12) [.int (210 : Int32), .int (0 : Int32)] (c_X12_tellsOf a0 (210 : Int32) (0 : Int32) μ) g48 rfl B_X12_tellsOf gw_1039 gs_39 rfl rfl rfl d_X12_told_48 (gm_kI (fun x4 m3 => ?_))
      exact gm_iret rfl d_X12_told_51 (Nat.le_of_ble_eq_true rfl) (Nat.le_of_ble_eq_true rfl) (fun h => h)
    ·
      refine gm_ite (P := a1 = 2) (fun h1_2 => ?_) (fun h1_2 => ?_)
      ·
        refine gm_swIn (v := 2) (off := 51) (tgt := 52) d_X12_told_1 (by rw [h1_2] <;> rfl) (by decide) (by decide) (by decide) (by decide) ?_
        refine gm_aload_n d_X12_told_52 rfl 0 rfl ?_
        refine gm_grd (fun g53 => ?_)
        refine gm_callV (k0 := 12) [] (c_X12_sweetNow a0 μ) g53 rfl B_X12_sweetNow gw_1035 gs_38 rfl rfl rfl d_X12_told_53 (gm_kI (fun x6 m5 => ?_))
        exact gm_iret rfl d_X12_told_56 (Nat.le_of_ble_eq_true rfl) (Nat.le_of_ble_eq_true rfl) (fun h => h)
      ·
        refine gm_ite (P := a1 = 3) (fun h1_3 => ?_) (fun h1_3 => ?_)
        ·
          refine gm_swIn (v := 3) (off := 56) (tgt := 57) d_X12_told_1 (by rw [h1_3] <;> rfl) (by decide) (by decide) (by decide) (by decide) ?_
          refine gm_aload_n d_X12_told_57 rfl 0 rfl ?_
          refine gm_grd (fun g58 => ?_)
          refine gm_callV (k0 := 12) [] (c_X12_allHold a0 μ) g58 rfl B_X12_allHold gw_1090 gs_46 rfl rfl rfl d_X12_told_58 (gm_kI (fun x8 m7 => ?_))
          exact gm_iret rfl d_X12_told_61 (Nat.le_of_ble_eq_true rfl) (Nat.le_of_ble_eq_true rfl) (fun h => h)
        ·
          refine gm_ite (P := a1 = 4) (fun h1_4 => ?_) (fun h1_4 => ?_)
          ·
            refine gm_swIn (v := 4) (off := 61) (tgt := 62) d_X12_told_1 (by rw [h1_4] <;> rfl) (by decide) (by decide) (by decide) (by decide) ?_
            refine gm_aload_n d_X12_told_62 rfl 0 rfl ?_
            refine gm_grd (fun g63 => ?_)
            refine gm_callV (k0 := 12) [] (c_X12_bubbles a0 μ) g63 rfl B_X12_bubbles gw_1094 gs_47 rfl rfl rfl d_X12_told_63 (gm_kI (fun x10 m9 => ?_))
            exact gm_iret rfl d_X12_told_66 (Nat.le_of_ble_eq_true rfl) (Nat.le_of_ble_eq_true rfl) (fun h => h)
          ·
            refine gm_swOut (tgt := 67) d_X12_told_1 (by have g0 := lv_neT h1_0 (show (0 : Int32).toInt = 0 from rfl); have g1 := lv_neT h1_1 (show (1 : Int32).toInt = 1 from rfl); have g2 := lv_neT h1_2 (show (2 : Int32).toInt = 2 from rfl); have g3 := lv_neT h1_3 (show (3 : Int32).toInt = 3 from rfl); have g4 := lv_neT h1_4 (show (4 : Int32).toInt = 4 from rfl); omega) (by decide) ?_
            refine gm_iconst (v := -1) d_X12_told_67 (by decide) ?_
            exact gm_iret rfl d_X12_told_68 (Nat.le_of_ble_eq_true rfl) (Nat.le_of_ble_eq_true rfl) (fun h => h)
theorem d_X12_trace_0 : decode prog_14_method_88_code 0 = .ok (.iload_n 1, 1) := ge_iload_n_1 (by decide +kernel)
theorem d_X12_trace_1 : decode prog_14_method_88_code 1 = .ok (.iconst 0, 1) := ge_iconst_0 (by decide +kernel)
theorem d_X12_trace_2 : decode prog_14_method_88_code 2 = .ok (.aload_n 0, 1) := ge_aload_n_0 (by decide +kernel)
theorem d_X12_trace_3 : decode prog_14_method_88_code 3 = .ok (.getfield 247, 3) := ge_getfield (by decide +kernel)
theorem d_X12_trace_6 : decode prog_14_method_88_code 6 = .ok (.bipush 20, 2) := ge_bipush (by decide +kernel)
theorem d_X12_trace_8 : decode prog_14_method_88_code 8 = .ok (.if_icmp .ge 10, 3) := ge_if_icmp_ge (by decide +kernel)
theorem d_X12_trace_11 : decode prog_14_method_88_code 11 = .ok (.aload_n 0, 1) := ge_aload_n_0 (by decide +kernel)
theorem d_X12_trace_12 : decode prog_14_method_88_code 12 = .ok (.getfield 247, 3) := ge_getfield (by decide +kernel)
theorem d_X12_trace_15 : decode prog_14_method_88_code 15 = .ok (.goto 5, 3) := ge_goto (by decide +kernel)
theorem d_X12_trace_18 : decode prog_14_method_88_code 18 = .ok (.bipush 20, 2) := ge_bipush (by decide +kernel)
theorem d_X12_trace_20 : decode prog_14_method_88_code 20 = .ok (.iconst 1, 1) := ge_iconst_1 (by decide +kernel)
theorem d_X12_trace_21 : decode prog_14_method_88_code 21 = .ok (.isub, 1) := ge_isub (by decide +kernel)
theorem d_X12_trace_22 : decode prog_14_method_88_code 22 = .ok (.invokestatic 44, 3) := ge_invokestatic (by decide +kernel)
theorem d_X12_trace_25 : decode prog_14_method_88_code 25 = .ok (.ifCond .eq 12, 3) := ge_ifCond_eq (by decide +kernel)
theorem d_X12_trace_28 : decode prog_14_method_88_code 28 = .ok (.aload_n 0, 1) := ge_aload_n_0 (by decide +kernel)
theorem d_X12_trace_29 : decode prog_14_method_88_code 29 = .ok (.getfield 37, 3) := ge_getfield (by decide +kernel)
theorem d_X12_trace_32 : decode prog_14_method_88_code 32 = .ok (.iload_n 1, 1) := ge_iload_n_1 (by decide +kernel)
theorem d_X12_trace_33 : decode prog_14_method_88_code 33 = .ok (.iaload, 1) := ge_iaload (by decide +kernel)
theorem d_X12_trace_34 : decode prog_14_method_88_code 34 = .ok (.goto 4, 3) := ge_goto (by decide +kernel)
theorem d_X12_trace_37 : decode prog_14_method_88_code 37 = .ok (.iconst (-1), 1) := ge_iconst_m1_ (by decide +kernel)
theorem d_X12_trace_38 : decode prog_14_method_88_code 38 = .ok (.ireturn, 1) := ge_ireturn (by decide +kernel)
def f_X12_trace (a0 : Nat) (a1 : Int32) (μ : gm_M) : Option (Option Value × gm_M) := gm_gI μ [17] a0 19 (fun v1 => gm_j (fun (s2 : Int32) => gm_bI (f_X12_in a1 (0 : Int32) (s2 - (1 : Int32)) μ) (fun x5 m4 => if x5 = 0 then some (some (.int (-1 : Int32)), m4) else gm_gR m4 [17] a0 18 (fun v6 => gm_aI m4 v6 a1 (fun v7 => some (some (.int v7), m4))))) (fun j3 => if (20 : Int32) ≤ v1 then j3 (20 : Int32) else gm_gI μ [17] a0 19 (fun v8 => j3 v8)))
set_option maxHeartbeats 4000000 in
theorem c_X12_trace (a0 : Nat) (a1 : Int32) (μ : gm_M) : gm_Call ({ cls := "GumBubbleModel", name := "trace", desc := "(I)I" } : Jvm.MethodName) prog_14_method_88_code 2 (some .int) 1 0 0 [.ref a0, .int a1] μ (f_X12_trace a0 a1 μ) := by
  refine gm_start PN_12 (Nat.le_of_ble_eq_true rfl) (fun res μe => ?_)
  unfold f_X12_trace
  show gm_A "GumBubbleModel" (gm_nm "trace") _ _ _ _ _ _ _ _ _ 0 [(0, .ref a0), (1, .int a1)] [] _ _
  refine gm_iload_n d_X12_trace_0 rfl 1 rfl ?_
  refine gm_iconst (v := 0) d_X12_trace_1 (by decide) ?_
  refine gm_aload_n d_X12_trace_2 rfl 0 rfl ?_
  refine gm_getI F_12_ran gw_908 d_X12_trace_3 (fun v1 _ => ?_)
  refine gm_bipush (v := 20) d_X12_trace_6 (by decide) ?_
  refine gm_join (S := Int32) (pj := 20) (kj := 0) (nj := 0) (fun s2 => μ) (fun s2 => [(0, .ref a0), (1, .int a1)]) (fun s2 => [.int s2, .int (0 : Int32), .int a1]) (fun s2 => ?_) (fun j3 hj3 => ?_)
  ·
    refine gm_iconst (v := 1) d_X12_trace_20 (by decide) ?_
    refine gm_isub d_X12_trace_21 ?_
    refine gm_callS [.int a1, .int (0 : Int32), .int (s2 - (1 : Int32))] (c_X12_in a1 (0 : Int32) (s2 - (1 : Int32)) μ) B_X12_in gw_964 rfl rfl rfl d_X12_trace_22 (gm_kI (fun x5 m4 => ?_))
    refine gm_if_eq (tgt := 37) d_X12_trace_25 (by decide) (fun h25 => ?_) (fun h25 => ?_)
    ·
      refine gm_iconst (v := -1) d_X12_trace_37 (by decide) ?_
      exact gm_iret rfl d_X12_trace_38 (Nat.le_of_ble_eq_true rfl) (Nat.le_of_ble_eq_true rfl) (fun h => h)
    ·
      refine gm_aload_n d_X12_trace_28 rfl 0 rfl ?_
      refine gm_getR F_12_bodies gw_907 d_X12_trace_29 (fun v6 _ => ?_)
      refine gm_iload_n d_X12_trace_32 rfl 1 rfl ?_
      refine gm_iald d_X12_trace_33 (fun v7 _ => ?_)
      refine gm_goto (tgt := 38) d_X12_trace_34 (by decide) ?_
      exact gm_iret rfl d_X12_trace_38 (Nat.le_of_ble_eq_true rfl) (Nat.le_of_ble_eq_true rfl) (fun h => h)
  ·
    refine gm_icmp_ge (tgt := 18) d_X12_trace_8 (by decide) (fun h8 => ?_) (fun h8 => ?_)
    ·
      refine gm_bipush (v := 20) d_X12_trace_18 (by decide) ?_
      exact hj3 (20 : Int32)
    ·
      refine gm_aload_n d_X12_trace_11 rfl 0 rfl ?_
      refine gm_getI F_12_ran gw_908 d_X12_trace_12 (fun v8 _ => ?_)
      refine gm_goto (tgt := 20) d_X12_trace_15 (by decide) ?_
      exact hj3 v8
theorem d_X12_undo_0 : decode prog_14_method_91_code 0 = .ok (.aload_n 0, 1) := ge_aload_n_0 (by decide +kernel)
theorem d_X12_undo_1 : decode prog_14_method_91_code 1 = .ok (.getfield 283, 3) := ge_getfield (by decide +kernel)
theorem d_X12_undo_4 : decode prog_14_method_91_code 4 = .ok (.ifCond .ne 6, 3) := ge_ifCond_ne (by decide +kernel)
theorem d_X12_undo_7 : decode prog_14_method_91_code 7 = .ok (.bipush (-3), 2) := ge_bipush (by decide +kernel)
theorem d_X12_undo_9 : decode prog_14_method_91_code 9 = .ok (.ireturn, 1) := ge_ireturn (by decide +kernel)
theorem d_X12_undo_10 : decode prog_14_method_91_code 10 = .ok (.iconst 0, 1) := ge_iconst_0 (by decide +kernel)
theorem d_X12_undo_11 : decode prog_14_method_91_code 11 = .ok (.istore_n 1, 1) := ge_istore_n_1 (by decide +kernel)
theorem d_X12_undo_12 : decode prog_14_method_91_code 12 = .ok (.iload_n 1, 1) := ge_iload_n_1 (by decide +kernel)
theorem d_X12_undo_13 : decode prog_14_method_91_code 13 = .ok (.sipush 925, 3) := ge_sipush (by decide +kernel)
theorem d_X12_undo_16 : decode prog_14_method_91_code 16 = .ok (.if_icmp .ge 21, 3) := ge_if_icmp_ge (by decide +kernel)
theorem d_X12_undo_19 : decode prog_14_method_91_code 19 = .ok (.aload_n 0, 1) := ge_aload_n_0 (by decide +kernel)
theorem d_X12_undo_20 : decode prog_14_method_91_code 20 = .ok (.getfield 9, 3) := ge_getfield (by decide +kernel)
theorem d_X12_undo_23 : decode prog_14_method_91_code 23 = .ok (.iload_n 1, 1) := ge_iload_n_1 (by decide +kernel)
theorem d_X12_undo_24 : decode prog_14_method_91_code 24 = .ok (.aload_n 0, 1) := ge_aload_n_0 (by decide +kernel)
theorem d_X12_undo_25 : decode prog_14_method_91_code 25 = .ok (.getfield 15, 3) := ge_getfield (by decide +kernel)
theorem d_X12_undo_28 : decode prog_14_method_91_code 28 = .ok (.iload_n 1, 1) := ge_iload_n_1 (by decide +kernel)
theorem d_X12_undo_29 : decode prog_14_method_91_code 29 = .ok (.iaload, 1) := ge_iaload (by decide +kernel)
theorem d_X12_undo_30 : decode prog_14_method_91_code 30 = .ok (.iastore, 1) := ge_iastore (by decide +kernel)
theorem d_X12_undo_31 : decode prog_14_method_91_code 31 = .ok (.iinc 1 1, 3) := ge_iinc (by decide +kernel)
theorem d_X12_undo_34 : decode prog_14_method_91_code 34 = .ok (.goto (-22), 3) := ge_goto (by decide +kernel)
theorem d_X12_undo_37 : decode prog_14_method_91_code 37 = .ok (.aload_n 0, 1) := ge_aload_n_0 (by decide +kernel)
theorem d_X12_undo_38 : decode prog_14_method_91_code 38 = .ok (.getfield 9, 3) := ge_getfield (by decide +kernel)
theorem d_X12_undo_41 : decode prog_14_method_91_code 41 = .ok (.bipush 26, 2) := ge_bipush (by decide +kernel)
theorem d_X12_undo_43 : decode prog_14_method_91_code 43 = .ok (.iaload, 1) := ge_iaload (by decide +kernel)
theorem d_X12_undo_44 : decode prog_14_method_91_code 44 = .ok (.ireturn, 1) := ge_ireturn (by decide +kernel)
def f_X12_undo (a0 : Nat) (μ : gm_M) : Option (Option Value × gm_M) := gm_gI μ [17] a0 4 (fun v1 => if v1 ≠ 0 then gm_loop (fun (s2 : Int32 × gm_M) => if (925 : Int32) ≤ s2.1 then gm_gR s2.2 [17] a0 1 (fun v3 => gm_aI s2.2 v3 (26 : Int32) (fun v4 => some (Sum.inr (some (.int v4), s2.2)))) else gm_gR s2.2 [17] a0 1 (fun v5 => gm_gR s2.2 [17] a0 2 (fun v6 => gm_aI s2.2 v6 s2.1 (fun v7 => gm_sI s2.2 v5 s2.1 v7 (fun m8 => some (Sum.inl ((s2.1 + (1 : Int32)), m8))))))) 5000 ((0 : Int32), μ) else some (some (.int (-3 : Int32)), μ))
set_option maxHeartbeats 4000000 in
theorem c_X12_undo (a0 : Nat) (μ : gm_M) : gm_Call ({ cls := "GumBubbleModel", name := "undo", desc := "()I" } : Jvm.MethodName) prog_14_method_91_code 2 (some .int) 0 0 0 [.ref a0] μ (f_X12_undo a0 μ) := by
  refine gm_start PN_12 (Nat.le_of_ble_eq_true rfl) (fun res μe => ?_)
  unfold f_X12_undo
  show gm_A "GumBubbleModel" (gm_nm "undo") _ _ _ _ _ _ _ _ _ 0 [(0, .ref a0)] [] _ _
  refine gm_aload_n d_X12_undo_0 rfl 0 rfl ?_
  refine gm_getI F_12_hasImage gw_893 d_X12_undo_1 (fun v1 _ => ?_)
  refine gm_if_ne (tgt := 10) d_X12_undo_4 (by decide) (fun h4 => ?_) (fun h4 => ?_)
  ·
    refine gm_iconst (v := 0) d_X12_undo_10 (by decide) ?_
    refine gm_istore_n (L' := [(1, .int (0 : Int32)), (0, .ref a0)]) d_X12_undo_11 rfl (Nat.le_of_ble_eq_true rfl) rfl ?_
    refine gm_sub (L' := [(0, .ref a0), (1, .int (0 : Int32))]) [1, 0] rfl ?_
    refine gm_lp (S := Int32 × gm_M) (fun _ => 0) (fun _ => 0) (fun s2 => s2.2) (fun s2 => [(0, .ref a0), (1, .int s2.1)]) (fun _ => []) (fun s2 => ?_) 5000 ((0 : Int32), μ)
    refine gm_iload_n d_X12_undo_12 rfl 1 rfl ?_
    refine gm_sipush (v := 925) d_X12_undo_13 (by decide) ?_
    refine gm_icmp_ge (tgt := 37) d_X12_undo_16 (by decide) (fun h16 => ?_) (fun h16 => ?_)
    ·
      refine gm_aload_n d_X12_undo_37 rfl 0 rfl ?_
      refine gm_getR F_12_s gw_890 d_X12_undo_38 (fun v3 _ => ?_)
      refine gm_bipush (v := 26) d_X12_undo_41 (by decide) ?_
      refine gm_iald d_X12_undo_43 (fun v4 _ => ?_)
      exact gm_iret rfl d_X12_undo_44 (Nat.le_of_ble_eq_true rfl) (Nat.le_of_ble_eq_true rfl) (fun h => h)
    ·
      refine gm_aload_n d_X12_undo_19 rfl 0 rfl ?_
      refine gm_getR F_12_s gw_890 d_X12_undo_20 (fun v5 _ => ?_)
      refine gm_iload_n d_X12_undo_23 rfl 1 rfl ?_
      refine gm_aload_n d_X12_undo_24 rfl 0 rfl ?_
      refine gm_getR F_12_image gw_891 d_X12_undo_25 (fun v6 _ => ?_)
      refine gm_iload_n d_X12_undo_28 rfl 1 rfl ?_
      refine gm_iald d_X12_undo_29 (fun v7 _ => ?_)
      refine gm_iast d_X12_undo_30 (fun m8 _ => ?_)
      refine gm_iinc (v := s2.1 + (1 : Int32)) (L' := [(1, .int (s2.1 + (1 : Int32))), (0, .ref a0)]) d_X12_undo_31 1 rfl rfl (Nat.le_of_ble_eq_true rfl) rfl ?_
      refine gm_goto (tgt := 12) d_X12_undo_34 (by decide) ?_
      refine gm_sub (L' := [(0, .ref a0), (1, .int (s2.1 + (1 : Int32)))]) [1, 0] rfl ?_
      exact gm_back (fun h => h)
  ·
    refine gm_bipush (v := -3) d_X12_undo_7 (by decide) ?_
    exact gm_iret rfl d_X12_undo_9 (Nat.le_of_ble_eq_true rfl) (Nat.le_of_ble_eq_true rfl) (fun h => h)
theorem d_X12_when_0 : decode prog_14_method_47_code 0 = .ok (.aload_n 0, 1) := ge_aload_n_0 (by decide +kernel)
theorem d_X12_when_1 : decode prog_14_method_47_code 1 = .ok (.iload_n 1, 1) := ge_iload_n_1 (by decide +kernel)
theorem d_X12_when_2 : decode prog_14_method_47_code 2 = .ok (.invokevirtual 154, 3) := ge_invokevirtual (by decide +kernel)
theorem d_X12_when_5 : decode prog_14_method_47_code 5 = .ok (.ifCond .eq 12, 3) := ge_ifCond_eq (by decide +kernel)
theorem d_X12_when_8 : decode prog_14_method_47_code 8 = .ok (.iload_n 2, 1) := ge_iload_n_2 (by decide +kernel)
theorem d_X12_when_9 : decode prog_14_method_47_code 9 = .ok (.iconst 0, 1) := ge_iconst_0 (by decide +kernel)
theorem d_X12_when_10 : decode prog_14_method_47_code 10 = .ok (.iconst 1, 1) := ge_iconst_1 (by decide +kernel)
theorem d_X12_when_11 : decode prog_14_method_47_code 11 = .ok (.invokestatic 44, 3) := ge_invokestatic (by decide +kernel)
theorem d_X12_when_14 : decode prog_14_method_47_code 14 = .ok (.ifCond .ne 5, 3) := ge_ifCond_ne (by decide +kernel)
theorem d_X12_when_17 : decode prog_14_method_47_code 17 = .ok (.iconst (-1), 1) := ge_iconst_m1_ (by decide +kernel)
theorem d_X12_when_18 : decode prog_14_method_47_code 18 = .ok (.ireturn, 1) := ge_ireturn (by decide +kernel)
theorem d_X12_when_19 : decode prog_14_method_47_code 19 = .ok (.aload_n 0, 1) := ge_aload_n_0 (by decide +kernel)
theorem d_X12_when_20 : decode prog_14_method_47_code 20 = .ok (.invokevirtual 183, 3) := ge_invokevirtual (by decide +kernel)
theorem d_X12_when_23 : decode prog_14_method_47_code 23 = .ok (.aload_n 0, 1) := ge_aload_n_0 (by decide +kernel)
theorem d_X12_when_24 : decode prog_14_method_47_code 24 = .ok (.iload_n 1, 1) := ge_iload_n_1 (by decide +kernel)
theorem d_X12_when_25 : decode prog_14_method_47_code 25 = .ok (.invokevirtual 198, 3) := ge_invokevirtual (by decide +kernel)
theorem d_X12_when_28 : decode prog_14_method_47_code 28 = .ok (.iload_n 2, 1) := ge_iload_n_2 (by decide +kernel)
theorem d_X12_when_29 : decode prog_14_method_47_code 29 = .ok (.ifCond .ne 10, 3) := ge_ifCond_ne (by decide +kernel)
theorem d_X12_when_32 : decode prog_14_method_47_code 32 = .ok (.aload_n 0, 1) := ge_aload_n_0 (by decide +kernel)
theorem d_X12_when_33 : decode prog_14_method_47_code 33 = .ok (.getfield 189, 3) := ge_getfield (by decide +kernel)
theorem d_X12_when_36 : decode prog_14_method_47_code 36 = .ok (.goto 7, 3) := ge_goto (by decide +kernel)
theorem d_X12_when_39 : decode prog_14_method_47_code 39 = .ok (.aload_n 0, 1) := ge_aload_n_0 (by decide +kernel)
theorem d_X12_when_40 : decode prog_14_method_47_code 40 = .ok (.getfield 192, 3) := ge_getfield (by decide +kernel)
theorem d_X12_when_43 : decode prog_14_method_47_code 43 = .ok (.ireturn, 1) := ge_ireturn (by decide +kernel)
def f_X12_when (a0 : Nat) (a1 : Int32) (a2 : Int32) (μ : gm_M) : Option (Option Value × gm_M) := if gm_tag μ a0 = 17 then gm_bI (f_X12_isChild a0 a1 μ) (fun x2 m1 => if x2 = 0 then some (some (.int (-1 : Int32)), m1) else gm_bI (f_X12_in a2 (0 : Int32) (1 : Int32) m1) (fun x4 m3 => if x4 ≠ 0 then if gm_tag m3 a0 = 17 then gm_bV (f_X12_keeps a0 m3) (fun m5 => if gm_tag m5 a0 = 17 then gm_bV (f_X12_looksForWhen a0 a1 m5) (fun m7 => if a2 ≠ 0 then gm_gI m7 [17] a0 13 (fun v9 => some (some (.int v9), m7)) else gm_gI m7 [17] a0 12 (fun v10 => some (some (.int v10), m7))) else none) else none else some (some (.int (-1 : Int32)), m3))) else none
set_option maxHeartbeats 4000000 in
theorem c_X12_when (a0 : Nat) (a1 : Int32) (a2 : Int32) (μ : gm_M) : gm_Call ({ cls := "GumBubbleModel", name := "when", desc := "(II)I" } : Jvm.MethodName) prog_14_method_47_code 3 (some .int) 5 0 0 [.ref a0, .int a1, .int a2] μ (f_X12_when a0 a1 a2 μ) := by
  refine gm_start PN_12 (Nat.le_of_ble_eq_true rfl) (fun res μe => ?_)
  unfold f_X12_when
  show gm_A "GumBubbleModel" (gm_nm "when") _ _ _ _ _ _ _ _ _ 0 [(0, .ref a0), (1, .int a1), (2, .int a2)] [] _ _
  refine gm_aload_n d_X12_when_0 rfl 0 rfl ?_
  refine gm_iload_n d_X12_when_1 rfl 1 rfl ?_
  refine gm_grd (fun g2 => ?_)
  refine gm_callV (k0 := 12) [.int a1] (c_X12_isChild a0 a1 μ) g2 rfl B_X12_isChild gw_1047 gs_40 rfl rfl rfl d_X12_when_2 (gm_kI (fun x2 m1 => ?_))
  refine gm_if_eq (tgt := 17) d_X12_when_5 (by decide) (fun h5 => ?_) (fun h5 => ?_)
  ·
    refine gm_iconst (v := -1) d_X12_when_17 (by decide) ?_
    exact gm_iret rfl d_X12_when_18 (Nat.le_of_ble_eq_true rfl) (Nat.le_of_ble_eq_true rfl) (fun h => h)
  ·
    refine gm_iload_n d_X12_when_8 rfl 2 rfl ?_
    refine gm_iconst (v := 0) d_X12_when_9 (by decide) ?_
    refine gm_iconst (v := 1) d_X12_when_10 (by decide) ?_
    refine gm_callS [.int a2, .int (0 : Int32), .int (1 : Int32)] (c_X12_in a2 (0 : Int32) (1 : Int32) m1) B_X12_in gw_964 rfl rfl rfl d_X12_when_11 (gm_kI (fun x4 m3 => ?_))
    refine gm_if_ne (tgt := 19) d_X12_when_14 (by decide) (fun h14 => ?_) (fun h14 => ?_)
    ·
      refine gm_aload_n d_X12_when_19 rfl 0 rfl ?_
      refine gm_grd (fun g20 => ?_)
      refine gm_callV (k0 := 12) [] (c_X12_keeps a0 m3) g20 rfl B_X12_keeps gw_1126 gs_52 rfl rfl rfl d_X12_when_20 (gm_kV (fun m5 => ?_))
      refine gm_aload_n d_X12_when_23 rfl 0 rfl ?_
      refine gm_iload_n d_X12_when_24 rfl 1 rfl ?_
      refine gm_grd (fun g25 => ?_)
      refine gm_callV (k0 := 12) [.int a1] (c_X12_looksForWhen a0 a1 m5) g25 rfl B_X12_looksForWhen gw_1138 gs_54 rfl rfl rfl d_X12_when_25 (gm_kV (fun m7 => ?_))
      refine gm_iload_n d_X12_when_28 rfl 2 rfl ?_
      refine gm_if_ne (tgt := 39) d_X12_when_29 (by decide) (fun h29 => ?_) (fun h29 => ?_)
      ·
        refine gm_aload_n d_X12_when_39 rfl 0 rfl ?_
        refine gm_getI F_12_mostHeld gw_902 d_X12_when_40 (fun v9 _ => ?_)
        exact gm_iret rfl d_X12_when_43 (Nat.le_of_ble_eq_true rfl) (Nat.le_of_ble_eq_true rfl) (fun h => h)
      ·
        refine gm_aload_n d_X12_when_32 rfl 0 rfl ?_
        refine gm_getI F_12_bestWhen gw_901 d_X12_when_33 (fun v10 _ => ?_)
        refine gm_goto (tgt := 43) d_X12_when_36 (by decide) ?_
        exact gm_iret rfl d_X12_when_43 (Nat.le_of_ble_eq_true rfl) (Nat.le_of_ble_eq_true rfl) (fun h => h)
    ·
      refine gm_iconst (v := -1) d_X12_when_17 (by decide) ?_
      exact gm_iret rfl d_X12_when_18 (Nat.le_of_ble_eq_true rfl) (Nat.le_of_ble_eq_true rfl) (fun h => h)
theorem d_X12_who_0 : decode prog_14_method_69_code 0 = .ok (.iload_n 1, 1) := ge_iload_n_1 (by decide +kernel)
theorem d_X12_who_1 : decode prog_14_method_69_code 1 = .ok (.iconst 0, 1) := ge_iconst_0 (by decide +kernel)
theorem d_X12_who_2 : decode prog_14_method_69_code 2 = .ok (.sipush 999, 3) := ge_sipush (by decide +kernel)
theorem d_X12_who_5 : decode prog_14_method_69_code 5 = .ok (.invokestatic 44, 3) := ge_invokestatic (by decide +kernel)
theorem d_X12_who_8 : decode prog_14_method_69_code 8 = .ok (.ifCond .eq 13, 3) := ge_ifCond_eq (by decide +kernel)
theorem d_X12_who_11 : decode prog_14_method_69_code 11 = .ok (.iload_n 2, 1) := ge_iload_n_2 (by decide +kernel)
theorem d_X12_who_12 : decode prog_14_method_69_code 12 = .ok (.iconst 0, 1) := ge_iconst_0 (by decide +kernel)
theorem d_X12_who_13 : decode prog_14_method_69_code 13 = .ok (.bipush 40, 2) := ge_bipush (by decide +kernel)
theorem d_X12_who_15 : decode prog_14_method_69_code 15 = .ok (.invokestatic 44, 3) := ge_invokestatic (by decide +kernel)
theorem d_X12_who_18 : decode prog_14_method_69_code 18 = .ok (.ifCond .ne 6, 3) := ge_ifCond_ne (by decide +kernel)
theorem d_X12_who_21 : decode prog_14_method_69_code 21 = .ok (.bipush (-2), 2) := ge_bipush (by decide +kernel)
theorem d_X12_who_23 : decode prog_14_method_69_code 23 = .ok (.ireturn, 1) := ge_ireturn (by decide +kernel)
theorem d_X12_who_24 : decode prog_14_method_69_code 24 = .ok (.aload_n 0, 1) := ge_aload_n_0 (by decide +kernel)
theorem d_X12_who_25 : decode prog_14_method_69_code 25 = .ok (.invokevirtual 183, 3) := ge_invokevirtual (by decide +kernel)
theorem d_X12_who_28 : decode prog_14_method_69_code 28 = .ok (.aload_n 0, 1) := ge_aload_n_0 (by decide +kernel)
theorem d_X12_who_29 : decode prog_14_method_69_code 29 = .ok (.iload_n 2, 1) := ge_iload_n_2 (by decide +kernel)
theorem d_X12_who_30 : decode prog_14_method_69_code 30 = .ok (.invokevirtual 180, 3) := ge_invokevirtual (by decide +kernel)
theorem d_X12_who_33 : decode prog_14_method_69_code 33 = .ok (.iconst 0, 1) := ge_iconst_0 (by decide +kernel)
theorem d_X12_who_34 : decode prog_14_method_69_code 34 = .ok (.istore_n 3, 1) := ge_istore_n_3 (by decide +kernel)
theorem d_X12_who_35 : decode prog_14_method_69_code 35 = .ok (.iconst 0, 1) := ge_iconst_0 (by decide +kernel)
theorem d_X12_who_36 : decode prog_14_method_69_code 36 = .ok (.istore 4, 2) := ge_istore (by decide +kernel)
theorem d_X12_who_38 : decode prog_14_method_69_code 38 = .ok (.iload 4, 2) := ge_iload (by decide +kernel)
theorem d_X12_who_40 : decode prog_14_method_69_code 40 = .ok (.aload_n 0, 1) := ge_aload_n_0 (by decide +kernel)
theorem d_X12_who_41 : decode prog_14_method_69_code 41 = .ok (.getfield 9, 3) := ge_getfield (by decide +kernel)
theorem d_X12_who_44 : decode prog_14_method_69_code 44 = .ok (.bipush 26, 2) := ge_bipush (by decide +kernel)
theorem d_X12_who_46 : decode prog_14_method_69_code 46 = .ok (.iaload, 1) := ge_iaload (by decide +kernel)
theorem d_X12_who_47 : decode prog_14_method_69_code 47 = .ok (.if_icmp .ge 30, 3) := ge_if_icmp_ge (by decide +kernel)
theorem d_X12_who_50 : decode prog_14_method_69_code 50 = .ok (.iload_n 3, 1) := ge_iload_n_3 (by decide +kernel)
theorem d_X12_who_51 : decode prog_14_method_69_code 51 = .ok (.aload_n 0, 1) := ge_aload_n_0 (by decide +kernel)
theorem d_X12_who_52 : decode prog_14_method_69_code 52 = .ok (.iload 4, 2) := ge_iload (by decide +kernel)
theorem d_X12_who_54 : decode prog_14_method_69_code 54 = .ok (.invokevirtual 148, 3) := ge_invokevirtual (by decide +kernel)
theorem d_X12_who_57 : decode prog_14_method_69_code 57 = .ok (.iload_n 1, 1) := ge_iload_n_1 (by decide +kernel)
theorem d_X12_who_58 : decode prog_14_method_69_code 58 = .ok (.if_icmp .ne 10, 3) := ge_if_icmp_ne (by decide +kernel)
theorem d_X12_who_61 : decode prog_14_method_69_code 61 = .ok (.iconst 1, 1) := ge_iconst_1 (by decide +kernel)
theorem d_X12_who_62 : decode prog_14_method_69_code 62 = .ok (.iload 4, 2) := ge_iload (by decide +kernel)
theorem d_X12_who_64 : decode prog_14_method_69_code 64 = .ok (.ishl, 1) := ge_ishl (by decide +kernel)
theorem d_X12_who_65 : decode prog_14_method_69_code 65 = .ok (.goto 4, 3) := ge_goto (by decide +kernel)
theorem d_X12_who_68 : decode prog_14_method_69_code 68 = .ok (.iconst 0, 1) := ge_iconst_0 (by decide +kernel)
theorem d_X12_who_69 : decode prog_14_method_69_code 69 = .ok (.ior, 1) := ge_ior (by decide +kernel)
theorem d_X12_who_70 : decode prog_14_method_69_code 70 = .ok (.istore_n 3, 1) := ge_istore_n_3 (by decide +kernel)
theorem d_X12_who_71 : decode prog_14_method_69_code 71 = .ok (.iinc 4 1, 3) := ge_iinc (by decide +kernel)
theorem d_X12_who_74 : decode prog_14_method_69_code 74 = .ok (.goto (-36), 3) := ge_goto (by decide +kernel)
theorem d_X12_who_77 : decode prog_14_method_69_code 77 = .ok (.aload_n 0, 1) := ge_aload_n_0 (by decide +kernel)
theorem d_X12_who_78 : decode prog_14_method_69_code 78 = .ok (.invokevirtual 186, 3) := ge_invokevirtual (by decide +kernel)
theorem d_X12_who_81 : decode prog_14_method_69_code 81 = .ok (.iload_n 3, 1) := ge_iload_n_3 (by decide +kernel)
theorem d_X12_who_82 : decode prog_14_method_69_code 82 = .ok (.ireturn, 1) := ge_ireturn (by decide +kernel)
def f_X12_who (a0 : Nat) (a1 : Int32) (a2 : Int32) (μ : gm_M) : Option (Option Value × gm_M) := gm_bI (f_X12_in a1 (0 : Int32) (999 : Int32) μ) (fun x2 m1 => if x2 = 0 then some (some (.int (-2 : Int32)), m1) else gm_bI (f_X12_in a2 (0 : Int32) (40 : Int32) m1) (fun x4 m3 => if x4 ≠ 0 then if gm_tag m3 a0 = 17 then gm_bV (f_X12_keeps a0 m3) (fun m5 => if gm_tag m5 a0 = 17 then gm_bV (f_X12_goesOn a0 a2 m5) (fun m7 => gm_loop (fun (s9 : Int32 × Int32 × gm_M) => gm_gR s9.2.2 [17] a0 1 (fun v10 => gm_aI s9.2.2 v10 (26 : Int32) (fun v11 => if v11 ≤ s9.2.1 then if gm_tag s9.2.2 a0 = 17 then gm_bV (f_X12_goesBack a0 s9.2.2) (fun m12 => some (Sum.inr (some (.int s9.1), m12))) else none else if gm_tag s9.2.2 a0 = 17 then gm_bI (f_X12_holdsOf a0 s9.2.1 s9.2.2) (fun x15 m14 => gm_j (fun (s16 : Int32) => some (Sum.inl ((s9.1 ||| s16), (s9.2.1 + (1 : Int32)), m14))) (fun j17 => if x15 ≠ a1 then j17 (0 : Int32) else j17 ((1 : Int32) <<< (s9.2.1 &&& 31)))) else none))) 5000 ((0 : Int32), (0 : Int32), m7)) else none) else none else some (some (.int (-2 : Int32)), m3)))
set_option maxHeartbeats 4000000 in
theorem c_X12_who (a0 : Nat) (a1 : Int32) (a2 : Int32) (μ : gm_M) : gm_Call ({ cls := "GumBubbleModel", name := "who", desc := "(II)I" } : Jvm.MethodName) prog_14_method_69_code 5 (some .int) 5 0 0 [.ref a0, .int a1, .int a2] μ (f_X12_who a0 a1 a2 μ) := by
  refine gm_start PN_12 (Nat.le_of_ble_eq_true rfl) (fun res μe => ?_)
  unfold f_X12_who
  show gm_A "GumBubbleModel" (gm_nm "who") _ _ _ _ _ _ _ _ _ 0 [(0, .ref a0), (1, .int a1), (2, .int a2)] [] _ _
  refine gm_iload_n d_X12_who_0 rfl 1 rfl ?_
  refine gm_iconst (v := 0) d_X12_who_1 (by decide) ?_
  refine gm_sipush (v := 999) d_X12_who_2 (by decide) ?_
  refine gm_callS [.int a1, .int (0 : Int32), .int (999 : Int32)] (c_X12_in a1 (0 : Int32) (999 : Int32) μ) B_X12_in gw_964 rfl rfl rfl d_X12_who_5 (gm_kI (fun x2 m1 => ?_))
  refine gm_if_eq (tgt := 21) d_X12_who_8 (by decide) (fun h8 => ?_) (fun h8 => ?_)
  ·
    refine gm_bipush (v := -2) d_X12_who_21 (by decide) ?_
    exact gm_iret rfl d_X12_who_23 (Nat.le_of_ble_eq_true rfl) (Nat.le_of_ble_eq_true rfl) (fun h => h)
  ·
    refine gm_iload_n d_X12_who_11 rfl 2 rfl ?_
    refine gm_iconst (v := 0) d_X12_who_12 (by decide) ?_
    refine gm_bipush (v := 40) d_X12_who_13 (by decide) ?_
    refine gm_callS [.int a2, .int (0 : Int32), .int (40 : Int32)] (c_X12_in a2 (0 : Int32) (40 : Int32) m1) B_X12_in gw_964 rfl rfl rfl d_X12_who_15 (gm_kI (fun x4 m3 => ?_))
    refine gm_if_ne (tgt := 24) d_X12_who_18 (by decide) (fun h18 => ?_) (fun h18 => ?_)
    ·
      refine gm_aload_n d_X12_who_24 rfl 0 rfl ?_
      refine gm_grd (fun g25 => ?_)
      refine gm_callV (k0 := 12) [] (c_X12_keeps a0 m3) g25 rfl B_X12_keeps gw_1126 gs_52 rfl rfl rfl d_X12_who_25 (gm_kV (fun m5 => ?_))
      refine gm_aload_n d_X12_who_28 rfl 0 rfl ?_
      refine gm_iload_n d_X12_who_29 rfl 2 rfl ?_
      refine gm_grd (fun g30 => ?_)
      refine gm_callV (k0 := 12) [.int a2] (c_X12_goesOn a0 a2 m5) g30 rfl B_X12_goesOn gw_1110 gs_49 rfl rfl rfl d_X12_who_30 (gm_kV (fun m7 => ?_))
      refine gm_iconst (v := 0) d_X12_who_33 (by decide) ?_
      refine gm_istore_n (L' := [(3, .int (0 : Int32)), (0, .ref a0), (1, .int a1), (2, .int a2)]) d_X12_who_34 rfl (Nat.le_of_ble_eq_true rfl) rfl ?_
      refine gm_iconst (v := 0) d_X12_who_35 (by decide) ?_
      refine gm_istore (L' := [(4, .int (0 : Int32)), (3, .int (0 : Int32)), (0, .ref a0), (1, .int a1), (2, .int a2)]) d_X12_who_36 (Nat.le_of_ble_eq_true rfl) rfl ?_
      refine gm_sub (L' := [(0, .ref a0), (1, .int a1), (2, .int a2), (3, .int (0 : Int32)), (4, .int (0 : Int32))]) [2, 3, 4, 1, 0] rfl ?_
      refine gm_lp (S := Int32 × Int32 × gm_M) (fun _ => 0) (fun _ => 0) (fun s9 => s9.2.2) (fun s9 => [(0, .ref a0), (1, .int a1), (2, .int a2), (3, .int s9.1), (4, .int s9.2.1)]) (fun _ => []) (fun s9 => ?_) 5000 ((0 : Int32), (0 : Int32), m7)
      refine gm_iload d_X12_who_38 4 rfl ?_
      refine gm_aload_n d_X12_who_40 rfl 0 rfl ?_
      refine gm_getR F_12_s gw_890 d_X12_who_41 (fun v10 _ => ?_)
      refine gm_bipush (v := 26) d_X12_who_44 (by decide) ?_
      refine gm_iald d_X12_who_46 (fun v11 _ => ?_)
      refine gm_icmp_ge (tgt := 77) d_X12_who_47 (by decide) (fun h47 => ?_) (fun h47 => ?_)
      ·
        refine gm_aload_n d_X12_who_77 rfl 0 rfl ?_
        refine gm_grd (fun g78 => ?_)
        refine gm_callV (k0 := 12) [] (c_X12_goesBack a0 s9.2.2) g78 rfl B_X12_goesBack gw_1130 gs_53 rfl rfl rfl d_X12_who_78 (gm_kV (fun m12 => ?_))
        refine gm_iload_n d_X12_who_81 rfl 3 rfl ?_
        exact gm_iret rfl d_X12_who_82 (Nat.le_of_ble_eq_true rfl) (Nat.le_of_ble_eq_true rfl) (fun h => h)
      ·
        refine gm_iload_n d_X12_who_50 rfl 3 rfl ?_
        refine gm_aload_n d_X12_who_51 rfl 0 rfl ?_
        refine gm_iload d_X12_who_52 4 rfl ?_
        refine gm_grd (fun g54 => ?_)
        refine gm_callV (k0 := 12) [.int s9.2.1] (c_X12_holdsOf a0 s9.2.1 s9.2.2) g54 rfl B_X12_holdsOf gw_1074 gs_45 rfl rfl rfl d_X12_who_54 (gm_kI (fun x15 m14 => ?_))
        refine gm_iload_n d_X12_who_57 rfl 1 rfl ?_
        refine gm_join (S := Int32) (pj := 69) (kj := 0) (nj := 0) (fun s16 => m14) (fun s16 => [(0, .ref a0), (1, .int a1), (2, .int a2), (3, .int s9.1), (4, .int s9.2.1)]) (fun s16 => [.int s16, .int s9.1]) (fun s16 => ?_) (fun j17 hj17 => ?_)
        ·
          refine gm_ior d_X12_who_69 ?_
          refine gm_istore_n (L' := [(3, .int (s9.1 ||| s16)), (0, .ref a0), (1, .int a1), (2, .int a2), (4, .int s9.2.1)]) d_X12_who_70 rfl (Nat.le_of_ble_eq_true rfl) rfl ?_
          refine gm_iinc (v := s9.2.1 + (1 : Int32)) (L' := [(4, .int (s9.2.1 + (1 : Int32))), (3, .int (s9.1 ||| s16)), (0, .ref a0), (1, .int a1), (2, .int a2)]) d_X12_who_71 4 rfl rfl (Nat.le_of_ble_eq_true rfl) rfl ?_
          refine gm_goto (tgt := 38) d_X12_who_74 (by decide) ?_
          refine gm_sub (L' := [(0, .ref a0), (1, .int a1), (2, .int a2), (3, .int (s9.1 ||| s16)), (4, .int (s9.2.1 + (1 : Int32)))]) [2, 3, 4, 1, 0] rfl ?_
          exact gm_back (fun h => h)
        ·
          refine gm_icmp_ne (tgt := 68) d_X12_who_58 (by decide) (fun h58 => ?_) (fun h58 => ?_)
          ·
            refine gm_iconst (v := 0) d_X12_who_68 (by decide) ?_
            exact hj17 (0 : Int32)
          ·
            refine gm_iconst (v := 1) d_X12_who_61 (by decide) ?_
            refine gm_iload d_X12_who_62 4 rfl ?_
            refine gm_ishl d_X12_who_64 ?_
            refine gm_goto (tgt := 69) d_X12_who_65 (by decide) ?_
            exact hj17 ((1 : Int32) <<< (s9.2.1 &&& 31))
    ·
      refine gm_bipush (v := -2) d_X12_who_21 (by decide) ?_
      exact gm_iret rfl d_X12_who_23 (Nat.le_of_ble_eq_true rfl) (Nat.le_of_ble_eq_true rfl) (fun h => h)

