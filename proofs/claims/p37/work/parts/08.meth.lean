section
theorem d_X11_sumBehind_0 : decode prog_1_method_45_code 0 = .ok (.iconst 0, 1) := ge_iconst_0 (by decide +kernel)
theorem d_X11_sumBehind_1 : decode prog_1_method_45_code 1 = .ok (.istore_n 2, 1) := ge_istore_n_2 (by decide +kernel)
theorem d_X11_sumBehind_2 : decode prog_1_method_45_code 2 = .ok (.iconst 0, 1) := ge_iconst_0 (by decide +kernel)
theorem d_X11_sumBehind_3 : decode prog_1_method_45_code 3 = .ok (.istore_n 3, 1) := ge_istore_n_3 (by decide +kernel)
theorem d_X11_sumBehind_4 : decode prog_1_method_45_code 4 = .ok (.iload_n 3, 1) := ge_iload_n_3 (by decide +kernel)
theorem d_X11_sumBehind_5 : decode prog_1_method_45_code 5 = .ok (.aload_n 0, 1) := ge_aload_n_0 (by decide +kernel)
theorem d_X11_sumBehind_6 : decode prog_1_method_45_code 6 = .ok (.getfield 60, 3) := ge_getfield (by decide +kernel)
theorem d_X11_sumBehind_9 : decode prog_1_method_45_code 9 = .ok (.getfield 101, 3) := ge_getfield (by decide +kernel)
theorem d_X11_sumBehind_12 : decode prog_1_method_45_code 12 = .ok (.if_icmp .ge 18, 3) := ge_if_icmp_ge (by decide +kernel)
theorem d_X11_sumBehind_15 : decode prog_1_method_45_code 15 = .ok (.iload_n 2, 1) := ge_iload_n_2 (by decide +kernel)
theorem d_X11_sumBehind_16 : decode prog_1_method_45_code 16 = .ok (.aload_n 0, 1) := ge_aload_n_0 (by decide +kernel)
theorem d_X11_sumBehind_17 : decode prog_1_method_45_code 17 = .ok (.iload_n 3, 1) := ge_iload_n_3 (by decide +kernel)
theorem d_X11_sumBehind_18 : decode prog_1_method_45_code 18 = .ok (.iload_n 1, 1) := ge_iload_n_1 (by decide +kernel)
theorem d_X11_sumBehind_19 : decode prog_1_method_45_code 19 = .ok (.invokevirtual 182, 3) := ge_invokevirtual (by decide +kernel)
theorem d_X11_sumBehind_22 : decode prog_1_method_45_code 22 = .ok (.iadd, 1) := ge_iadd (by decide +kernel)
theorem d_X11_sumBehind_23 : decode prog_1_method_45_code 23 = .ok (.istore_n 2, 1) := ge_istore_n_2 (by decide +kernel)
theorem d_X11_sumBehind_24 : decode prog_1_method_45_code 24 = .ok (.iinc 3 1, 3) := ge_iinc (by decide +kernel)
theorem d_X11_sumBehind_27 : decode prog_1_method_45_code 27 = .ok (.goto (-23), 3) := ge_goto (by decide +kernel)
theorem d_X11_sumBehind_30 : decode prog_1_method_45_code 30 = .ok (.iload_n 2, 1) := ge_iload_n_2 (by decide +kernel)
theorem d_X11_sumBehind_31 : decode prog_1_method_45_code 31 = .ok (.ireturn, 1) := ge_ireturn (by decide +kernel)
def f_X11_sumBehind (a0 : Nat) (a1 : Int32) (μ : gm_M) : Option (Option Value × gm_M) := gm_loop (fun (s1 : Int32 × Int32 × gm_M) => gm_gR s1.2.2 [16] a0 1 (fun v2 => gm_gI s1.2.2 [13] v2 1 (fun v3 => if v3 ≤ s1.2.1 then some (Sum.inr (some (.int s1.1), s1.2.2)) else if gm_tag s1.2.2 a0 = 16 then gm_bI (f_X11_holdsBehind a0 s1.2.1 a1 s1.2.2) (fun x5 m4 => some (Sum.inl ((s1.1 + x5), (s1.2.1 + (1 : Int32)), m4))) else none))) 5000 ((0 : Int32), (0 : Int32), μ)
set_option maxHeartbeats 4000000 in
theorem c_X11_sumBehind (a0 : Nat) (a1 : Int32) (μ : gm_M) : gm_Call ({ cls := "GumBubble", name := "sumBehind", desc := "(I)I" } : Jvm.MethodName) prog_1_method_45_code 4 (some .int) 6 0 0 [.ref a0, .int a1] μ (f_X11_sumBehind a0 a1 μ) := by
  refine gm_start PN_11 (Nat.le_of_ble_eq_true rfl) (fun res μe => ?_)
  unfold f_X11_sumBehind
  show gm_A "GumBubble" (gm_nm "sumBehind") _ _ _ _ _ _ _ _ _ 0 [(0, .ref a0), (1, .int a1)] [] _ _
  refine gm_iconst (v := 0) d_X11_sumBehind_0 (by decide) ?_
  refine gm_istore_n (L' := [(2, .int (0 : Int32)), (0, .ref a0), (1, .int a1)]) d_X11_sumBehind_1 rfl (Nat.le_of_ble_eq_true rfl) rfl ?_
  refine gm_iconst (v := 0) d_X11_sumBehind_2 (by decide) ?_
  refine gm_istore_n (L' := [(3, .int (0 : Int32)), (2, .int (0 : Int32)), (0, .ref a0), (1, .int a1)]) d_X11_sumBehind_3 rfl (Nat.le_of_ble_eq_true rfl) rfl ?_
  refine gm_sub (L' := [(0, .ref a0), (1, .int a1), (2, .int (0 : Int32)), (3, .int (0 : Int32))]) [2, 3, 1, 0] rfl ?_
  refine gm_lp (S := Int32 × Int32 × gm_M) (fun _ => 0) (fun _ => 0) (fun s1 => s1.2.2) (fun s1 => [(0, .ref a0), (1, .int a1), (2, .int s1.1), (3, .int s1.2.1)]) (fun _ => []) (fun s1 => ?_) 5000 ((0 : Int32), (0 : Int32), μ)
  refine gm_iload_n d_X11_sumBehind_4 rfl 3 rfl ?_
  refine gm_aload_n d_X11_sumBehind_5 rfl 0 rfl ?_
  refine gm_getR F_11_now gw_262 d_X11_sumBehind_6 (fun v2 _ => ?_)
  refine gm_getI F_8_size gw_221 d_X11_sumBehind_9 (fun v3 _ => ?_)
  refine gm_icmp_ge (tgt := 30) d_X11_sumBehind_12 (by decide) (fun h12 => ?_) (fun h12 => ?_)
  ·
    refine gm_iload_n d_X11_sumBehind_30 rfl 2 rfl ?_
    exact gm_iret rfl d_X11_sumBehind_31 (Nat.le_of_ble_eq_true rfl) (Nat.le_of_ble_eq_true rfl) (fun h => h)
  ·
    refine gm_iload_n d_X11_sumBehind_15 rfl 2 rfl ?_
    refine gm_aload_n d_X11_sumBehind_16 rfl 0 rfl ?_
    refine gm_iload_n d_X11_sumBehind_17 rfl 3 rfl ?_
    refine gm_iload_n d_X11_sumBehind_18 rfl 1 rfl ?_
    refine gm_grd (fun g19 => ?_)
    refine gm_callV (k0 := 11) [.int s1.2.1, .int a1] (c_X11_holdsBehind a0 s1.2.1 a1 s1.2.2) g19 rfl B_X11_holdsBehind gw_581 gs_15 rfl rfl rfl d_X11_sumBehind_19 (gm_kI (fun x5 m4 => ?_))
    refine gm_iadd d_X11_sumBehind_22 ?_
    refine gm_istore_n (L' := [(2, .int (s1.1 + x5)), (0, .ref a0), (1, .int a1), (3, .int s1.2.1)]) d_X11_sumBehind_23 rfl (Nat.le_of_ble_eq_true rfl) rfl ?_
    refine gm_iinc (v := s1.2.1 + (1 : Int32)) (L' := [(3, .int (s1.2.1 + (1 : Int32))), (2, .int (s1.1 + x5)), (0, .ref a0), (1, .int a1)]) d_X11_sumBehind_24 3 rfl rfl (Nat.le_of_ble_eq_true rfl) rfl ?_
    refine gm_goto (tgt := 4) d_X11_sumBehind_27 (by decide) ?_
    refine gm_sub (L' := [(0, .ref a0), (1, .int a1), (2, .int (s1.1 + x5)), (3, .int (s1.2.1 + (1 : Int32)))]) [2, 3, 1, 0] rfl ?_
    exact gm_back (fun h => h)
theorem d_X11_mean_0 : decode prog_1_method_28_code 0 = .ok (.iload_n 1, 1) := ge_iload_n_1 (by decide +kernel)
theorem d_X11_mean_1 : decode prog_1_method_28_code 1 = .ok (.iconst 0, 1) := ge_iconst_0 (by decide +kernel)
theorem d_X11_mean_2 : decode prog_1_method_28_code 2 = .ok (.bipush 60, 2) := ge_bipush (by decide +kernel)
theorem d_X11_mean_4 : decode prog_1_method_28_code 4 = .ok (.invokestatic 76, 3) := ge_invokestatic (by decide +kernel)
theorem d_X11_mean_7 : decode prog_1_method_28_code 7 = .ok (.ifCond .ne 22, 3) := ge_ifCond_ne (by decide +kernel)
theorem d_X11_mean_10 : decode prog_1_method_28_code 10 = .ok (.iload_n 2, 1) := ge_iload_n_2 (by decide +kernel)
theorem d_X11_mean_11 : decode prog_1_method_28_code 11 = .ok (.iconst 0, 1) := ge_iconst_0 (by decide +kernel)
theorem d_X11_mean_12 : decode prog_1_method_28_code 12 = .ok (.iconst 1, 1) := ge_iconst_1 (by decide +kernel)
theorem d_X11_mean_13 : decode prog_1_method_28_code 13 = .ok (.invokestatic 76, 3) := ge_invokestatic (by decide +kernel)
theorem d_X11_mean_16 : decode prog_1_method_28_code 16 = .ok (.ifCond .ne 13, 3) := ge_ifCond_ne (by decide +kernel)
theorem d_X11_mean_19 : decode prog_1_method_28_code 19 = .ok (.aload_n 0, 1) := ge_aload_n_0 (by decide +kernel)
theorem d_X11_mean_20 : decode prog_1_method_28_code 20 = .ok (.getfield 60, 3) := ge_getfield (by decide +kernel)
theorem d_X11_mean_23 : decode prog_1_method_28_code 23 = .ok (.getfield 101, 3) := ge_getfield (by decide +kernel)
theorem d_X11_mean_26 : decode prog_1_method_28_code 26 = .ok (.ifCond .ne 7, 3) := ge_ifCond_ne (by decide +kernel)
theorem d_X11_mean_29 : decode prog_1_method_28_code 29 = .ok (.ldc2_w 202, 3) := ge_ldc2_w (by decide +kernel)
theorem d_X11_mean_32 : decode prog_1_method_28_code 32 = .ok (.lreturn, 1) := ge_lreturn (by decide +kernel)
theorem d_X11_mean_33 : decode prog_1_method_28_code 33 = .ok (.aload_n 0, 1) := ge_aload_n_0 (by decide +kernel)
theorem d_X11_mean_34 : decode prog_1_method_28_code 34 = .ok (.iload_n 1, 1) := ge_iload_n_1 (by decide +kernel)
theorem d_X11_mean_35 : decode prog_1_method_28_code 35 = .ok (.invokevirtual 168, 3) := ge_invokevirtual (by decide +kernel)
theorem d_X11_mean_38 : decode prog_1_method_28_code 38 = .ok (.aload_n 0, 1) := ge_aload_n_0 (by decide +kernel)
theorem d_X11_mean_39 : decode prog_1_method_28_code 39 = .ok (.getfield 60, 3) := ge_getfield (by decide +kernel)
theorem d_X11_mean_42 : decode prog_1_method_28_code 42 = .ok (.getfield 101, 3) := ge_getfield (by decide +kernel)
theorem d_X11_mean_45 : decode prog_1_method_28_code 45 = .ok (.iload_n 2, 1) := ge_iload_n_2 (by decide +kernel)
theorem d_X11_mean_46 : decode prog_1_method_28_code 46 = .ok (.invokestatic 207, 3) := ge_invokestatic (by decide +kernel)
theorem d_X11_mean_49 : decode prog_1_method_28_code 49 = .ok (.lreturn, 1) := ge_lreturn (by decide +kernel)
def f_X11_mean (a0 : Nat) (a1 : Int32) (a2 : Int32) (μ : gm_M) : Option (Option Value × gm_M) := gm_bI (f_X11_isOutside a1 (0 : Int32) (60 : Int32) μ) (fun x2 m1 => gm_j (fun (s3 : gm_M) => some (some (.long (-9223372036854775808 : Int64)), s3)) (fun j4 => if x2 ≠ 0 then j4 m1 else gm_bI (f_X11_isOutside a2 (0 : Int32) (1 : Int32) m1) (fun x6 m5 => if x6 ≠ 0 then j4 m5 else gm_gR m5 [16] a0 1 (fun v7 => gm_gI m5 [13] v7 1 (fun v8 => if v8 ≠ 0 then if gm_tag m5 a0 = 16 then gm_bI (f_X11_sumBehind a0 a1 m5) (fun x10 m9 => gm_gR m9 [16] a0 1 (fun v11 => gm_gI m9 [13] v11 1 (fun v12 => gm_bL (f_X11_fraction x10 v12 a2 m9) (fun x14 m13 => some (some (.long x14), m13))))) else none else j4 m5)))))
set_option maxHeartbeats 4000000 in
theorem c_X11_mean (a0 : Nat) (a1 : Int32) (a2 : Int32) (μ : gm_M) : gm_Call ({ cls := "GumBubble", name := "mean", desc := "(II)J" } : Jvm.MethodName) prog_1_method_28_code 3 (some .long) 7 0 0 [.ref a0, .int a1, .int a2] μ (f_X11_mean a0 a1 a2 μ) := by
  refine gm_start PN_11 (Nat.le_of_ble_eq_true rfl) (fun res μe => ?_)
  unfold f_X11_mean
  show gm_A "GumBubble" (gm_nm "mean") _ _ _ _ _ _ _ _ _ 0 [(0, .ref a0), (1, .int a1), (2, .int a2)] [] _ _
  refine gm_iload_n d_X11_mean_0 rfl 1 rfl ?_
  refine gm_iconst (v := 0) d_X11_mean_1 (by decide) ?_
  refine gm_bipush (v := 60) d_X11_mean_2 (by decide) ?_
  refine gm_callS [.int a1, .int (0 : Int32), .int (60 : Int32)] (c_X11_isOutside a1 (0 : Int32) (60 : Int32) μ) B_X11_isOutside gw_296 rfl rfl rfl d_X11_mean_4 (gm_kI (fun x2 m1 => ?_))
  refine gm_join (S := gm_M) (pj := 29) (kj := 0) (nj := 0) (fun s3 => s3) (fun s3 => [(0, .ref a0), (1, .int a1), (2, .int a2)]) (fun s3 => []) (fun s3 => ?_) (fun j4 hj4 => ?_)
  ·
    refine gm_ldc2 (v := -9223372036854775808) gw_652 d_X11_mean_29 ?_
    exact gm_lret rfl d_X11_mean_32 (Nat.le_of_ble_eq_true rfl) (Nat.le_of_ble_eq_true rfl) (fun h => h)
  ·
    refine gm_if_ne (tgt := 29) d_X11_mean_7 (by decide) (fun h7 => ?_) (fun h7 => ?_)
    ·
      exact hj4 m1
    ·
      refine gm_iload_n d_X11_mean_10 rfl 2 rfl ?_
      refine gm_iconst (v := 0) d_X11_mean_11 (by decide) ?_
      refine gm_iconst (v := 1) d_X11_mean_12 (by decide) ?_
      refine gm_callS [.int a2, .int (0 : Int32), .int (1 : Int32)] (c_X11_isOutside a2 (0 : Int32) (1 : Int32) m1) B_X11_isOutside gw_296 rfl rfl rfl d_X11_mean_13 (gm_kI (fun x6 m5 => ?_))
      refine gm_if_ne (tgt := 29) d_X11_mean_16 (by decide) (fun h16 => ?_) (fun h16 => ?_)
      ·
        exact hj4 m5
      ·
        refine gm_aload_n d_X11_mean_19 rfl 0 rfl ?_
        refine gm_getR F_11_now gw_262 d_X11_mean_20 (fun v7 _ => ?_)
        refine gm_getI F_8_size gw_221 d_X11_mean_23 (fun v8 _ => ?_)
        refine gm_if_ne (tgt := 33) d_X11_mean_26 (by decide) (fun h26 => ?_) (fun h26 => ?_)
        ·
          refine gm_aload_n d_X11_mean_33 rfl 0 rfl ?_
          refine gm_iload_n d_X11_mean_34 rfl 1 rfl ?_
          refine gm_grd (fun g35 => ?_)
          refine gm_callV (k0 := 11) [.int a1] (c_X11_sumBehind a0 a1 m5) g35 rfl B_X11_sumBehind gw_577 gs_14 rfl rfl rfl d_X11_mean_35 (gm_kI (fun x10 m9 => ?_))
          refine gm_aload_n d_X11_mean_38 rfl 0 rfl ?_
          refine gm_getR F_11_now gw_262 d_X11_mean_39 (fun v11 _ => ?_)
          refine gm_getI F_8_size gw_221 d_X11_mean_42 (fun v12 _ => ?_)
          refine gm_iload_n d_X11_mean_45 rfl 2 rfl ?_
          refine gm_callS [.int x10, .int v12, .int a2] (c_X11_fraction x10 v12 a2 m9) B_X11_fraction gw_662 rfl rfl rfl d_X11_mean_46 (gm_kL (fun x14 m13 => ?_))
          exact gm_lret rfl d_X11_mean_49 (Nat.le_of_ble_eq_true rfl) (Nat.le_of_ble_eq_true rfl) (fun h => h)
        ·
          exact hj4 m5
theorem d_X11_of_0 : decode prog_1_method_5_code 0 = .ok (.aload_n 0, 1) := ge_aload_n_0 (by decide +kernel)
theorem d_X11_of_1 : decode prog_1_method_5_code 1 = .ok (.iload_n 1, 1) := ge_iload_n_1 (by decide +kernel)
theorem d_X11_of_2 : decode prog_1_method_5_code 2 = .ok (.invokevirtual 115, 3) := ge_invokevirtual (by decide +kernel)
theorem d_X11_of_5 : decode prog_1_method_5_code 5 = .ok (.ifCond .eq 5, 3) := ge_ifCond_eq (by decide +kernel)
theorem d_X11_of_8 : decode prog_1_method_5_code 8 = .ok (.iconst (-1), 1) := ge_iconst_m1_ (by decide +kernel)
theorem d_X11_of_9 : decode prog_1_method_5_code 9 = .ok (.ireturn, 1) := ge_ireturn (by decide +kernel)
theorem d_X11_of_10 : decode prog_1_method_5_code 10 = .ok (.aload_n 0, 1) := ge_aload_n_0 (by decide +kernel)
theorem d_X11_of_11 : decode prog_1_method_5_code 11 = .ok (.getfield 60, 3) := ge_getfield (by decide +kernel)
theorem d_X11_of_14 : decode prog_1_method_5_code 14 = .ok (.getfield 104, 3) := ge_getfield (by decide +kernel)
theorem d_X11_of_17 : decode prog_1_method_5_code 17 = .ok (.iload_n 1, 1) := ge_iload_n_1 (by decide +kernel)
theorem d_X11_of_18 : decode prog_1_method_5_code 18 = .ok (.aaload, 1) := ge_aaload (by decide +kernel)
theorem d_X11_of_19 : decode prog_1_method_5_code 19 = .ok (.astore_n 3, 1) := ge_astore_n_3 (by decide +kernel)
theorem d_X11_of_20 : decode prog_1_method_5_code 20 = .ok (.iload_n 2, 1) := ge_iload_n_2 (by decide +kernel)
theorem d_X11_of_21 : decode prog_1_method_5_code 21 = .ok (.tableswitch 147 0 10 #[59, 67, 72, 77, 82, 87, 92, 97, 116, 132, 141], 59) := by decide +kernel
theorem d_X11_of_80 : decode prog_1_method_5_code 80 = .ok (.aload_n 3, 1) := ge_aload_n_3 (by decide +kernel)
theorem d_X11_of_81 : decode prog_1_method_5_code 81 = .ok (.getfield 119, 3) := ge_getfield (by decide +kernel)
theorem d_X11_of_84 : decode prog_1_method_5_code 84 = .ok (.getfield 123, 3) := ge_getfield (by decide +kernel)
theorem d_X11_of_87 : decode prog_1_method_5_code 87 = .ok (.ireturn, 1) := ge_ireturn (by decide +kernel)
theorem d_X11_of_88 : decode prog_1_method_5_code 88 = .ok (.aload_n 3, 1) := ge_aload_n_3 (by decide +kernel)
theorem d_X11_of_89 : decode prog_1_method_5_code 89 = .ok (.getfield 126, 3) := ge_getfield (by decide +kernel)
theorem d_X11_of_92 : decode prog_1_method_5_code 92 = .ok (.ireturn, 1) := ge_ireturn (by decide +kernel)
theorem d_X11_of_93 : decode prog_1_method_5_code 93 = .ok (.aload_n 3, 1) := ge_aload_n_3 (by decide +kernel)
theorem d_X11_of_94 : decode prog_1_method_5_code 94 = .ok (.getfield 129, 3) := ge_getfield (by decide +kernel)
theorem d_X11_of_97 : decode prog_1_method_5_code 97 = .ok (.ireturn, 1) := ge_ireturn (by decide +kernel)
theorem d_X11_of_98 : decode prog_1_method_5_code 98 = .ok (.aload_n 3, 1) := ge_aload_n_3 (by decide +kernel)
theorem d_X11_of_99 : decode prog_1_method_5_code 99 = .ok (.getfield 132, 3) := ge_getfield (by decide +kernel)
theorem d_X11_of_102 : decode prog_1_method_5_code 102 = .ok (.ireturn, 1) := ge_ireturn (by decide +kernel)
theorem d_X11_of_103 : decode prog_1_method_5_code 103 = .ok (.aload_n 3, 1) := ge_aload_n_3 (by decide +kernel)
theorem d_X11_of_104 : decode prog_1_method_5_code 104 = .ok (.getfield 135, 3) := ge_getfield (by decide +kernel)
theorem d_X11_of_107 : decode prog_1_method_5_code 107 = .ok (.ireturn, 1) := ge_ireturn (by decide +kernel)
theorem d_X11_of_108 : decode prog_1_method_5_code 108 = .ok (.aload_n 3, 1) := ge_aload_n_3 (by decide +kernel)
theorem d_X11_of_109 : decode prog_1_method_5_code 109 = .ok (.getfield 138, 3) := ge_getfield (by decide +kernel)
theorem d_X11_of_112 : decode prog_1_method_5_code 112 = .ok (.ireturn, 1) := ge_ireturn (by decide +kernel)
theorem d_X11_of_113 : decode prog_1_method_5_code 113 = .ok (.aload_n 3, 1) := ge_aload_n_3 (by decide +kernel)
theorem d_X11_of_114 : decode prog_1_method_5_code 114 = .ok (.getfield 141, 3) := ge_getfield (by decide +kernel)
theorem d_X11_of_117 : decode prog_1_method_5_code 117 = .ok (.ireturn, 1) := ge_ireturn (by decide +kernel)
theorem d_X11_of_118 : decode prog_1_method_5_code 118 = .ok (.aload_n 0, 1) := ge_aload_n_0 (by decide +kernel)
theorem d_X11_of_119 : decode prog_1_method_5_code 119 = .ok (.getfield 60, 3) := ge_getfield (by decide +kernel)
theorem d_X11_of_122 : decode prog_1_method_5_code 122 = .ok (.getfield 97, 3) := ge_getfield (by decide +kernel)
theorem d_X11_of_125 : decode prog_1_method_5_code 125 = .ok (.aload_n 3, 1) := ge_aload_n_3 (by decide +kernel)
theorem d_X11_of_126 : decode prog_1_method_5_code 126 = .ok (.aload_n 0, 1) := ge_aload_n_0 (by decide +kernel)
theorem d_X11_of_127 : decode prog_1_method_5_code 127 = .ok (.getfield 60, 3) := ge_getfield (by decide +kernel)
theorem d_X11_of_130 : decode prog_1_method_5_code 130 = .ok (.getfield 144, 3) := ge_getfield (by decide +kernel)
theorem d_X11_of_133 : decode prog_1_method_5_code 133 = .ok (.invokevirtual 147, 3) := ge_invokevirtual (by decide +kernel)
theorem d_X11_of_136 : decode prog_1_method_5_code 136 = .ok (.ireturn, 1) := ge_ireturn (by decide +kernel)
theorem d_X11_of_137 : decode prog_1_method_5_code 137 = .ok (.aload_n 3, 1) := ge_aload_n_3 (by decide +kernel)
theorem d_X11_of_138 : decode prog_1_method_5_code 138 = .ok (.getfield 119, 3) := ge_getfield (by decide +kernel)
theorem d_X11_of_141 : decode prog_1_method_5_code 141 = .ok (.aload_n 3, 1) := ge_aload_n_3 (by decide +kernel)
theorem d_X11_of_142 : decode prog_1_method_5_code 142 = .ok (.aload_n 0, 1) := ge_aload_n_0 (by decide +kernel)
theorem d_X11_of_143 : decode prog_1_method_5_code 143 = .ok (.getfield 60, 3) := ge_getfield (by decide +kernel)
theorem d_X11_of_146 : decode prog_1_method_5_code 146 = .ok (.getfield 144, 3) := ge_getfield (by decide +kernel)
theorem d_X11_of_149 : decode prog_1_method_5_code 149 = .ok (.invokevirtual 151, 3) := ge_invokevirtual (by decide +kernel)
theorem d_X11_of_152 : decode prog_1_method_5_code 152 = .ok (.ireturn, 1) := ge_ireturn (by decide +kernel)
theorem d_X11_of_153 : decode prog_1_method_5_code 153 = .ok (.aload_n 3, 1) := ge_aload_n_3 (by decide +kernel)
theorem d_X11_of_154 : decode prog_1_method_5_code 154 = .ok (.getfield 119, 3) := ge_getfield (by decide +kernel)
theorem d_X11_of_157 : decode prog_1_method_5_code 157 = .ok (.aload_n 3, 1) := ge_aload_n_3 (by decide +kernel)
theorem d_X11_of_158 : decode prog_1_method_5_code 158 = .ok (.invokevirtual 154, 3) := ge_invokevirtual (by decide +kernel)
theorem d_X11_of_161 : decode prog_1_method_5_code 161 = .ok (.ireturn, 1) := ge_ireturn (by decide +kernel)
theorem d_X11_of_162 : decode prog_1_method_5_code 162 = .ok (.aload_n 0, 1) := ge_aload_n_0 (by decide +kernel)
theorem d_X11_of_163 : decode prog_1_method_5_code 163 = .ok (.iload_n 1, 1) := ge_iload_n_1 (by decide +kernel)
theorem d_X11_of_164 : decode prog_1_method_5_code 164 = .ok (.invokevirtual 158, 3) := ge_invokevirtual (by decide +kernel)
theorem d_X11_of_167 : decode prog_1_method_5_code 167 = .ok (.ireturn, 1) := ge_ireturn (by decide +kernel)
theorem d_X11_of_168 : decode prog_1_method_5_code 168 = .ok (.iconst (-1), 1) := ge_iconst_m1_ (by decide +kernel)
theorem d_X11_of_169 : decode prog_1_method_5_code 169 = .ok (.ireturn, 1) := ge_ireturn (by decide +kernel)
def f_X11_of (a0 : Nat) (a1 : Int32) (a2 : Int32) (μ : gm_M) : Option (Option Value × gm_M) := if gm_tag μ a0 = 16 then gm_bI (f_X11_isNobody a0 a1 μ) (fun x2 m1 => if x2 = 0 then gm_gR m1 [16] a0 1 (fun v3 => gm_gR m1 [13] v3 2 (fun v4 => gm_aR m1 4 v4 a1 (fun v5 => if a2 = 0 then gm_gR m1 [7] v5 1 (fun v6 => gm_gI m1 [6, 8, 9, 10, 11, 14, 15] v6 0 (fun v7 => some (some (.int v7), m1))) else if a2 = 1 then gm_gI m1 [7] v5 2 (fun v8 => some (some (.int v8), m1)) else if a2 = 2 then gm_gI m1 [7] v5 3 (fun v9 => some (some (.int v9), m1)) else if a2 = 3 then gm_gI m1 [7] v5 4 (fun v10 => some (some (.int v10), m1)) else if a2 = 4 then gm_gI m1 [7] v5 5 (fun v11 => some (some (.int v11), m1)) else if a2 = 5 then gm_gI m1 [7] v5 6 (fun v12 => some (some (.int v12), m1)) else if a2 = 6 then gm_gI m1 [7] v5 7 (fun v13 => some (some (.int v13), m1)) else if a2 = 7 then gm_gR m1 [16] a0 1 (fun v14 => gm_gR m1 [13] v14 6 (fun v15 => gm_gR m1 [16] a0 1 (fun v16 => gm_gI m1 [13] v16 0 (fun v17 => if gm_tag m1 v15 = 5 then gm_bI (f_X0_stretchOf v15 v5 v17 m1) (fun x19 m18 => some (some (.int x19), m18)) else none)))) else if a2 = 8 then gm_gR m1 [7] v5 1 (fun v20 => gm_gR m1 [16] a0 1 (fun v21 => gm_gI m1 [13] v21 0 (fun v22 => gm_bI (fv_sugarChewed v20 v5 v22 m1) (fun x24 m23 => some (some (.int x24), m23))))) else if a2 = 9 then gm_gR m1 [7] v5 1 (fun v25 => gm_bI (fv_jawTired v25 v5 m1) (fun x27 m26 => some (some (.int x27), m26))) else if a2 = 10 then if gm_tag m1 a0 = 16 then gm_bI (f_X11_holdsNow a0 a1 m1) (fun x29 m28 => some (some (.int x29), m28)) else none else some (some (.int (-1 : Int32)), m1)))) else some (some (.int (-1 : Int32)), m1)) else none
set_option maxHeartbeats 4000000 in
theorem c_X11_of (a0 : Nat) (a1 : Int32) (a2 : Int32) (μ : gm_M) : gm_Call ({ cls := "GumBubble", name := "of", desc := "(II)I" } : Jvm.MethodName) prog_1_method_5_code 4 (some .int) 5 0 0 [.ref a0, .int a1, .int a2] μ (f_X11_of a0 a1 a2 μ) := by
  refine gm_start PN_11 (Nat.le_of_ble_eq_true rfl) (fun res μe => ?_)
  unfold f_X11_of
  show gm_A "GumBubble" (gm_nm "of") _ _ _ _ _ _ _ _ _ 0 [(0, .ref a0), (1, .int a1), (2, .int a2)] [] _ _
  refine gm_aload_n d_X11_of_0 rfl 0 rfl ?_
  refine gm_iload_n d_X11_of_1 rfl 1 rfl ?_
  refine gm_grd (fun g2 => ?_)
  refine gm_callV (k0 := 11) [.int a1] (c_X11_isNobody a0 a1 μ) g2 rfl B_X11_isNobody gw_478 gs_11 rfl rfl rfl d_X11_of_2 (gm_kI (fun x2 m1 => ?_))
  refine gm_if_eq (tgt := 10) d_X11_of_5 (by decide) (fun h5 => ?_) (fun h5 => ?_)
  ·
    refine gm_aload_n d_X11_of_10 rfl 0 rfl ?_
    refine gm_getR F_11_now gw_262 d_X11_of_11 (fun v3 _ => ?_)
    refine gm_getR F_8_children gw_223 d_X11_of_14 (fun v4 _ => ?_)
    refine gm_iload_n d_X11_of_17 rfl 1 rfl ?_
    refine gm_aald (Or.inr rfl) d_X11_of_18 (fun v5 _ => ?_)
    refine gm_astore_n (L' := [(3, .ref v5), (0, .ref a0), (1, .int a1), (2, .int a2)]) d_X11_of_19 rfl (Nat.le_of_ble_eq_true rfl) rfl ?_
    refine gm_iload_n d_X11_of_20 rfl 3 rfl ?_
    refine gm_ite (P := a2 = 0) (fun h21_0 => ?_) (fun h21_0 => ?_)
    ·
      refine gm_swIn (v := 0) (off := 59) (tgt := 80) d_X11_of_21 (by rw [h21_0] <;> rfl) (by decide) (by decide) (by decide) (by decide) ?_
      refine gm_aload_n d_X11_of_80 rfl 0 rfl ?_
      refine gm_getR F_2_kind gw_172 d_X11_of_81 (fun v6 _ => ?_)
      refine gm_getI F_5_number gw_58 d_X11_of_84 (fun v7 _ => ?_)
      exact gm_iret rfl d_X11_of_87 (Nat.le_of_ble_eq_true rfl) (Nat.le_of_ble_eq_true rfl) (fun h => h)
    ·
      refine gm_ite (P := a2 = 1) (fun h21_1 => ?_) (fun h21_1 => ?_)
      ·
        refine gm_swIn (v := 1) (off := 67) (tgt := 88) d_X11_of_21 (by rw [h21_1] <;> rfl) (by decide) (by decide) (by decide) (by decide) ?_
        refine gm_aload_n d_X11_of_88 rfl 0 rfl ?_
        refine gm_getI F_2_v gw_177 d_X11_of_89 (fun v8 _ => ?_)
        exact gm_iret rfl d_X11_of_92 (Nat.le_of_ble_eq_true rfl) (Nat.le_of_ble_eq_true rfl) (fun h => h)
      ·
        refine gm_ite (P := a2 = 2) (fun h21_2 => ?_) (fun h21_2 => ?_)
        ·
          refine gm_swIn (v := 2) (off := 72) (tgt := 93) d_X11_of_21 (by rw [h21_2] <;> rfl) (by decide) (by decide) (by decide) (by decide) ?_
          refine gm_aload_n d_X11_of_93 rfl 0 rfl ?_
          refine gm_getI F_2_pieces gw_185 d_X11_of_94 (fun v9 _ => ?_)
          exact gm_iret rfl d_X11_of_97 (Nat.le_of_ble_eq_true rfl) (Nat.le_of_ble_eq_true rfl) (fun h => h)
        ·
          refine gm_ite (P := a2 = 3) (fun h21_3 => ?_) (fun h21_3 => ?_)
          ·
            refine gm_swIn (v := 3) (off := 77) (tgt := 98) d_X11_of_21 (by rw [h21_3] <;> rfl) (by decide) (by decide) (by decide) (by decide) ?_
            refine gm_aload_n d_X11_of_98 rfl 0 rfl ?_
            refine gm_getI F_2_sugar gw_188 d_X11_of_99 (fun v10 _ => ?_)
            exact gm_iret rfl d_X11_of_102 (Nat.le_of_ble_eq_true rfl) (Nat.le_of_ble_eq_true rfl) (fun h => h)
          ·
            refine gm_ite (P := a2 = 4) (fun h21_4 => ?_) (fun h21_4 => ?_)
            ·
              refine gm_swIn (v := 4) (off := 82) (tgt := 103) d_X11_of_21 (by rw [h21_4] <;> rfl) (by decide) (by decide) (by decide) (by decide) ?_
              refine gm_aload_n d_X11_of_103 rfl 0 rfl ?_
              refine gm_getI F_2_jaw gw_191 d_X11_of_104 (fun v11 _ => ?_)
              exact gm_iret rfl d_X11_of_107 (Nat.le_of_ble_eq_true rfl) (Nat.le_of_ble_eq_true rfl) (fun h => h)
            ·
              refine gm_ite (P := a2 = 5) (fun h21_5 => ?_) (fun h21_5 => ?_)
              ·
                refine gm_swIn (v := 5) (off := 87) (tgt := 108) d_X11_of_21 (by rw [h21_5] <;> rfl) (by decide) (by decide) (by decide) (by decide) ?_
                refine gm_aload_n d_X11_of_108 rfl 0 rfl ?_
                refine gm_getI F_2_bubble gw_193 d_X11_of_109 (fun v12 _ => ?_)
                exact gm_iret rfl d_X11_of_112 (Nat.le_of_ble_eq_true rfl) (Nat.le_of_ble_eq_true rfl) (fun h => h)
              ·
                refine gm_ite (P := a2 = 6) (fun h21_6 => ?_) (fun h21_6 => ?_)
                ·
                  refine gm_swIn (v := 6) (off := 92) (tgt := 113) d_X11_of_21 (by rw [h21_6] <;> rfl) (by decide) (by decide) (by decide) (by decide) ?_
                  refine gm_aload_n d_X11_of_113 rfl 0 rfl ?_
                  refine gm_getI F_2_hair gw_195 d_X11_of_114 (fun v13 _ => ?_)
                  exact gm_iret rfl d_X11_of_117 (Nat.le_of_ble_eq_true rfl) (Nat.le_of_ble_eq_true rfl) (fun h => h)
                ·
                  refine gm_ite (P := a2 = 7) (fun h21_7 => ?_) (fun h21_7 => ?_)
                  ·
                    refine gm_swIn (v := 7) (off := 97) (tgt := 118) d_X11_of_21 (by rw [h21_7] <;> rfl) (by decide) (by decide) (by decide) (by decide) ?_
                    refine gm_aload_n d_X11_of_118 rfl 1 rfl ?_
                    refine gm_getR F_11_now gw_262 d_X11_of_119 (fun v14 _ => ?_)
                    refine gm_getR F_8_afternoon gw_231 d_X11_of_122 (fun v15 _ => ?_)
                    refine gm_aload_n d_X11_of_125 rfl 0 rfl ?_
                    refine gm_aload_n d_X11_of_126 rfl 1 rfl ?_
                    refine gm_getR F_11_now gw_262 d_X11_of_127 (fun v16 _ => ?_)
                    refine gm_getI F_8_minute gw_219 d_X11_of_130 (fun v17 _ => ?_)
                    refine gm_grd (fun g133 => ?_)
                    refine gm_callV (k0 := 0) [.ref v5, .int v17] (c_X0_stretchOf v15 v5 v17 m1) g133 rfl B_X0_stretchOf gw_482 gw_484 rfl rfl rfl d_X11_of_133 (gm_kI (fun x19 m18 => ?_))
                    exact gm_iret rfl d_X11_of_136 (Nat.le_of_ble_eq_true rfl) (Nat.le_of_ble_eq_true rfl) (fun h => h)
                  ·
                    refine gm_ite (P := a2 = 8) (fun h21_8 => ?_) (fun h21_8 => ?_)
                    ·
                      refine gm_swIn (v := 8) (off := 116) (tgt := 137) d_X11_of_21 (by rw [h21_8] <;> rfl) (by decide) (by decide) (by decide) (by decide) ?_
                      refine gm_aload_n d_X11_of_137 rfl 0 rfl ?_
                      refine gm_getR F_2_kind gw_172 d_X11_of_138 (fun v20 _ => ?_)
                      refine gm_aload_n d_X11_of_141 rfl 0 rfl ?_
                      refine gm_aload_n d_X11_of_142 rfl 1 rfl ?_
                      refine gm_getR F_11_now gw_262 d_X11_of_143 (fun v21 _ => ?_)
                      refine gm_getI F_8_minute gw_219 d_X11_of_146 (fun v22 _ => ?_)
                      refine V_sugarChewed v20 v5 v22 gw_494 rfl rfl rfl d_X11_of_149 (gm_kI (fun x24 m23 => ?_))
                      exact gm_iret rfl d_X11_of_152 (Nat.le_of_ble_eq_true rfl) (Nat.le_of_ble_eq_true rfl) (fun h => h)
                    ·
                      refine gm_ite (P := a2 = 9) (fun h21_9 => ?_) (fun h21_9 => ?_)
                      ·
                        refine gm_swIn (v := 9) (off := 132) (tgt := 153) d_X11_of_21 (by rw [h21_9] <;> rfl) (by decide) (by decide) (by decide) (by decide) ?_
                        refine gm_aload_n d_X11_of_153 rfl 0 rfl ?_
                        refine gm_getR F_2_kind gw_172 d_X11_of_154 (fun v25 _ => ?_)
                        refine gm_aload_n d_X11_of_157 rfl 0 rfl ?_
                        refine V_jawTired v25 v5 gw_524 rfl rfl rfl d_X11_of_158 (gm_kI (fun x27 m26 => ?_))
                        exact gm_iret rfl d_X11_of_161 (Nat.le_of_ble_eq_true rfl) (Nat.le_of_ble_eq_true rfl) (fun h => h)
                      ·
                        refine gm_ite (P := a2 = 10) (fun h21_10 => ?_) (fun h21_10 => ?_)
                        ·
                          refine gm_swIn (v := 10) (off := 141) (tgt := 162) d_X11_of_21 (by rw [h21_10] <;> rfl) (by decide) (by decide) (by decide) (by decide) ?_
                          refine gm_aload_n d_X11_of_162 rfl 1 rfl ?_
                          refine gm_iload_n d_X11_of_163 rfl 2 rfl ?_
                          refine gm_grd (fun g164 => ?_)
                          refine gm_callV (k0 := 11) [.int a1] (c_X11_holdsNow a0 a1 m1) g164 rfl B_X11_holdsNow gw_541 gs_13 rfl rfl rfl d_X11_of_164 (gm_kI (fun x29 m28 => ?_))
                          exact gm_iret rfl d_X11_of_167 (Nat.le_of_ble_eq_true rfl) (Nat.le_of_ble_eq_true rfl) (fun h => h)
                        ·
                          refine gm_swOut (tgt := 168) d_X11_of_21 (by have g0 := lv_neT h21_0 (show (0 : Int32).toInt = 0 from rfl); have g1 := lv_neT h21_1 (show (1 : Int32).toInt = 1 from rfl); have g2 := lv_neT h21_2 (show (2 : Int32).toInt = 2 from rfl); have g3 := lv_neT h21_3 (show (3 : Int32).toInt = 3 from rfl); have g4 := lv_neT h21_4 (show (4 : Int32).toInt = 4 from rfl); have g5 := lv_neT h21_5 (show (5 : Int32).toInt = 5 from rfl); have g6 := lv_neT h21_6 (show (6 : Int32).toInt = 6 from rfl); have g7 := lv_neT h21_7 (show (7 : Int32).toInt = 7 from rfl); have g8 := lv_neT h21_8 (show (8 : Int32).toInt = 8 from rfl); have g9 := lv_neT h21_9 (show (9 : Int32).toInt = 9 from rfl); have g10 := lv_neT h21_10 (show (10 : Int32).toInt = 10 from rfl); omega) (by decide) ?_
                          refine gm_iconst (v := -1) d_X11_of_168 (by decide) ?_
                          exact gm_iret rfl d_X11_of_169 (Nat.le_of_ble_eq_true rfl) (Nat.le_of_ble_eq_true rfl) (fun h => h)
  ·
    refine gm_iconst (v := -1) d_X11_of_8 (by decide) ?_
    exact gm_iret rfl d_X11_of_9 (Nat.le_of_ble_eq_true rfl) (Nat.le_of_ble_eq_true rfl) (fun h => h)
theorem d_X11_on_0 : decode prog_1_method_11_code 0 = .ok (.iload_n 2, 1) := ge_iload_n_2 (by decide +kernel)
theorem d_X11_on_1 : decode prog_1_method_11_code 1 = .ok (.bipush 20, 2) := ge_bipush (by decide +kernel)
theorem d_X11_on_3 : decode prog_1_method_11_code 3 = .ok (.if_icmp .lt 10, 3) := ge_if_icmp_lt (by decide +kernel)
theorem d_X11_on_6 : decode prog_1_method_11_code 6 = .ok (.iload_n 2, 1) := ge_iload_n_2 (by decide +kernel)
theorem d_X11_on_7 : decode prog_1_method_11_code 7 = .ok (.bipush 20, 2) := ge_bipush (by decide +kernel)
theorem d_X11_on_9 : decode prog_1_method_11_code 9 = .ok (.isub, 1) := ge_isub (by decide +kernel)
theorem d_X11_on_10 : decode prog_1_method_11_code 10 = .ok (.goto 7, 3) := ge_goto (by decide +kernel)
theorem d_X11_on_13 : decode prog_1_method_11_code 13 = .ok (.iload_n 2, 1) := ge_iload_n_2 (by decide +kernel)
theorem d_X11_on_14 : decode prog_1_method_11_code 14 = .ok (.bipush 10, 2) := ge_bipush (by decide +kernel)
theorem d_X11_on_16 : decode prog_1_method_11_code 16 = .ok (.isub, 1) := ge_isub (by decide +kernel)
theorem d_X11_on_17 : decode prog_1_method_11_code 17 = .ok (.istore_n 3, 1) := ge_istore_n_3 (by decide +kernel)
theorem d_X11_on_18 : decode prog_1_method_11_code 18 = .ok (.iload_n 2, 1) := ge_iload_n_2 (by decide +kernel)
theorem d_X11_on_19 : decode prog_1_method_11_code 19 = .ok (.ifCond .eq 13, 3) := ge_ifCond_eq (by decide +kernel)
theorem d_X11_on_22 : decode prog_1_method_11_code 22 = .ok (.aload_n 0, 1) := ge_aload_n_0 (by decide +kernel)
theorem d_X11_on_23 : decode prog_1_method_11_code 23 = .ok (.iload_n 3, 1) := ge_iload_n_3 (by decide +kernel)
theorem d_X11_on_24 : decode prog_1_method_11_code 24 = .ok (.invokevirtual 115, 3) := ge_invokevirtual (by decide +kernel)
theorem d_X11_on_27 : decode prog_1_method_11_code 27 = .ok (.ifCond .eq 5, 3) := ge_ifCond_eq (by decide +kernel)
theorem d_X11_on_30 : decode prog_1_method_11_code 30 = .ok (.iconst (-1), 1) := ge_iconst_m1_ (by decide +kernel)
theorem d_X11_on_31 : decode prog_1_method_11_code 31 = .ok (.ireturn, 1) := ge_ireturn (by decide +kernel)
theorem d_X11_on_32 : decode prog_1_method_11_code 32 = .ok (.iload_n 1, 1) := ge_iload_n_1 (by decide +kernel)
theorem d_X11_on_33 : decode prog_1_method_11_code 33 = .ok (.iconst 0, 1) := ge_iconst_0 (by decide +kernel)
theorem d_X11_on_34 : decode prog_1_method_11_code 34 = .ok (.bipush 60, 2) := ge_bipush (by decide +kernel)
theorem d_X11_on_36 : decode prog_1_method_11_code 36 = .ok (.invokestatic 76, 3) := ge_invokestatic (by decide +kernel)
theorem d_X11_on_39 : decode prog_1_method_11_code 39 = .ok (.ifCond .eq 6, 3) := ge_ifCond_eq (by decide +kernel)
theorem d_X11_on_42 : decode prog_1_method_11_code 42 = .ok (.bipush (-2), 2) := ge_bipush (by decide +kernel)
theorem d_X11_on_44 : decode prog_1_method_11_code 44 = .ok (.ireturn, 1) := ge_ireturn (by decide +kernel)
theorem d_X11_on_45 : decode prog_1_method_11_code 45 = .ok (.iload_n 2, 1) := ge_iload_n_2 (by decide +kernel)
theorem d_X11_on_46 : decode prog_1_method_11_code 46 = .ok (.ifCond .ne 9, 3) := ge_ifCond_ne (by decide +kernel)
theorem d_X11_on_49 : decode prog_1_method_11_code 49 = .ok (.aload_n 0, 1) := ge_aload_n_0 (by decide +kernel)
theorem d_X11_on_50 : decode prog_1_method_11_code 50 = .ok (.iload_n 1, 1) := ge_iload_n_1 (by decide +kernel)
theorem d_X11_on_51 : decode prog_1_method_11_code 51 = .ok (.invokevirtual 168, 3) := ge_invokevirtual (by decide +kernel)
theorem d_X11_on_54 : decode prog_1_method_11_code 54 = .ok (.ireturn, 1) := ge_ireturn (by decide +kernel)
theorem d_X11_on_55 : decode prog_1_method_11_code 55 = .ok (.aload_n 0, 1) := ge_aload_n_0 (by decide +kernel)
theorem d_X11_on_56 : decode prog_1_method_11_code 56 = .ok (.iload_n 3, 1) := ge_iload_n_3 (by decide +kernel)
theorem d_X11_on_57 : decode prog_1_method_11_code 57 = .ok (.iload_n 1, 1) := ge_iload_n_1 (by decide +kernel)
theorem d_X11_on_58 : decode prog_1_method_11_code 58 = .ok (.invokevirtual 182, 3) := ge_invokevirtual (by decide +kernel)
theorem d_X11_on_61 : decode prog_1_method_11_code 61 = .ok (.istore 4, 2) := ge_istore (by decide +kernel)
theorem d_X11_on_63 : decode prog_1_method_11_code 63 = .ok (.iload_n 2, 1) := ge_iload_n_2 (by decide +kernel)
theorem d_X11_on_64 : decode prog_1_method_11_code 64 = .ok (.bipush 20, 2) := ge_bipush (by decide +kernel)
theorem d_X11_on_66 : decode prog_1_method_11_code 66 = .ok (.if_icmp .lt 13, 3) := ge_if_icmp_lt (by decide +kernel)
theorem d_X11_on_69 : decode prog_1_method_11_code 69 = .ok (.aload_n 0, 1) := ge_aload_n_0 (by decide +kernel)
theorem d_X11_on_70 : decode prog_1_method_11_code 70 = .ok (.getfield 72, 3) := ge_getfield (by decide +kernel)
theorem d_X11_on_73 : decode prog_1_method_11_code 73 = .ok (.getfield 132, 3) := ge_getfield (by decide +kernel)
theorem d_X11_on_76 : decode prog_1_method_11_code 76 = .ok (.goto 5, 3) := ge_goto (by decide +kernel)
theorem d_X11_on_79 : decode prog_1_method_11_code 79 = .ok (.iload 4, 2) := ge_iload (by decide +kernel)
theorem d_X11_on_81 : decode prog_1_method_11_code 81 = .ok (.ireturn, 1) := ge_ireturn (by decide +kernel)
def f_X11_on (a0 : Nat) (a1 : Int32) (a2 : Int32) (μ : gm_M) : Option (Option Value × gm_M) := gm_j (fun (s1 : Int32) => gm_j (fun (s3 : gm_M) => gm_bI (f_X11_isOutside a1 (0 : Int32) (60 : Int32) s3) (fun x6 m5 => if x6 = 0 then if a2 ≠ 0 then if gm_tag m5 a0 = 16 then gm_bI (f_X11_holdsBehind a0 s1 a1 m5) (fun x8 m7 => if a2 < (20 : Int32) then some (some (.int x8), m7) else gm_gR m7 [16] a0 5 (fun v9 => gm_gI m7 [7] v9 4 (fun v10 => some (some (.int v10), m7)))) else none else if gm_tag m5 a0 = 16 then gm_bI (f_X11_sumBehind a0 a1 m5) (fun x12 m11 => some (some (.int x12), m11)) else none else some (some (.int (-2 : Int32)), m5))) (fun j4 => if a2 = 0 then j4 μ else if gm_tag μ a0 = 16 then gm_bI (f_X11_isNobody a0 s1 μ) (fun x14 m13 => if x14 = 0 then j4 m13 else some (some (.int (-1 : Int32)), m13)) else none)) (fun j2 => if a2 < (20 : Int32) then j2 (a2 - (10 : Int32)) else j2 (a2 - (20 : Int32)))
set_option maxHeartbeats 4000000 in
theorem c_X11_on (a0 : Nat) (a1 : Int32) (a2 : Int32) (μ : gm_M) : gm_Call ({ cls := "GumBubble", name := "on", desc := "(II)I" } : Jvm.MethodName) prog_1_method_11_code 5 (some .int) 7 0 0 [.ref a0, .int a1, .int a2] μ (f_X11_on a0 a1 a2 μ) := by
  refine gm_start PN_11 (Nat.le_of_ble_eq_true rfl) (fun res μe => ?_)
  unfold f_X11_on
  show gm_A "GumBubble" (gm_nm "on") _ _ _ _ _ _ _ _ _ 0 [(0, .ref a0), (1, .int a1), (2, .int a2)] [] _ _
  refine gm_iload_n d_X11_on_0 rfl 2 rfl ?_
  refine gm_bipush (v := 20) d_X11_on_1 (by decide) ?_
  refine gm_join (S := Int32) (pj := 17) (kj := 0) (nj := 0) (fun s1 => μ) (fun s1 => [(0, .ref a0), (1, .int a1), (2, .int a2)]) (fun s1 => [.int s1]) (fun s1 => ?_) (fun j2 hj2 => ?_)
  ·
    refine gm_istore_n (L' := [(3, .int s1), (0, .ref a0), (1, .int a1), (2, .int a2)]) d_X11_on_17 rfl (Nat.le_of_ble_eq_true rfl) rfl ?_
    refine gm_iload_n d_X11_on_18 rfl 3 rfl ?_
    refine gm_join (S := gm_M) (pj := 32) (kj := 0) (nj := 0) (fun s3 => s3) (fun s3 => [(0, .ref a0), (1, .int a1), (2, .int a2), (3, .int s1)]) (fun s3 => []) (fun s3 => ?_) (fun j4 hj4 => ?_)
    ·
      refine gm_iload_n d_X11_on_32 rfl 1 rfl ?_
      refine gm_iconst (v := 0) d_X11_on_33 (by decide) ?_
      refine gm_bipush (v := 60) d_X11_on_34 (by decide) ?_
      refine gm_callS [.int a1, .int (0 : Int32), .int (60 : Int32)] (c_X11_isOutside a1 (0 : Int32) (60 : Int32) s3) B_X11_isOutside gw_296 rfl rfl rfl d_X11_on_36 (gm_kI (fun x6 m5 => ?_))
      refine gm_if_eq (tgt := 45) d_X11_on_39 (by decide) (fun h39 => ?_) (fun h39 => ?_)
      ·
        refine gm_iload_n d_X11_on_45 rfl 2 rfl ?_
        refine gm_if_ne (tgt := 55) d_X11_on_46 (by decide) (fun h46 => ?_) (fun h46 => ?_)
        ·
          refine gm_aload_n d_X11_on_55 rfl 0 rfl ?_
          refine gm_iload_n d_X11_on_56 rfl 3 rfl ?_
          refine gm_iload_n d_X11_on_57 rfl 1 rfl ?_
          refine gm_grd (fun g58 => ?_)
          refine gm_callV (k0 := 11) [.int s1, .int a1] (c_X11_holdsBehind a0 s1 a1 m5) g58 rfl B_X11_holdsBehind gw_581 gs_15 rfl rfl rfl d_X11_on_58 (gm_kI (fun x8 m7 => ?_))
          refine gm_istore (L' := [(4, .int x8), (0, .ref a0), (1, .int a1), (2, .int a2), (3, .int s1)]) d_X11_on_61 (Nat.le_of_ble_eq_true rfl) rfl ?_
          refine gm_iload_n d_X11_on_63 rfl 3 rfl ?_
          refine gm_bipush (v := 20) d_X11_on_64 (by decide) ?_
          refine gm_icmp_lt (tgt := 79) d_X11_on_66 (by decide) (fun h66 => ?_) (fun h66 => ?_)
          ·
            refine gm_iload d_X11_on_79 0 rfl ?_
            exact gm_iret rfl d_X11_on_81 (Nat.le_of_ble_eq_true rfl) (Nat.le_of_ble_eq_true rfl) (fun h => h)
          ·
            refine gm_aload_n d_X11_on_69 rfl 1 rfl ?_
            refine gm_getR F_11_trial gw_266 d_X11_on_70 (fun v9 _ => ?_)
            refine gm_getI F_2_sugar gw_188 d_X11_on_73 (fun v10 _ => ?_)
            refine gm_goto (tgt := 81) d_X11_on_76 (by decide) ?_
            exact gm_iret rfl d_X11_on_81 (Nat.le_of_ble_eq_true rfl) (Nat.le_of_ble_eq_true rfl) (fun h => h)
        ·
          refine gm_aload_n d_X11_on_49 rfl 0 rfl ?_
          refine gm_iload_n d_X11_on_50 rfl 1 rfl ?_
          refine gm_grd (fun g51 => ?_)
          refine gm_callV (k0 := 11) [.int a1] (c_X11_sumBehind a0 a1 m5) g51 rfl B_X11_sumBehind gw_577 gs_14 rfl rfl rfl d_X11_on_51 (gm_kI (fun x12 m11 => ?_))
          exact gm_iret rfl d_X11_on_54 (Nat.le_of_ble_eq_true rfl) (Nat.le_of_ble_eq_true rfl) (fun h => h)
      ·
        refine gm_bipush (v := -2) d_X11_on_42 (by decide) ?_
        exact gm_iret rfl d_X11_on_44 (Nat.le_of_ble_eq_true rfl) (Nat.le_of_ble_eq_true rfl) (fun h => h)
    ·
      refine gm_if_eq (tgt := 32) d_X11_on_19 (by decide) (fun h19 => ?_) (fun h19 => ?_)
      ·
        refine gm_sub (L' := [(0, .ref a0), (1, .int a1), (2, .int a2), (3, .int s1)]) [1, 2, 3, 0] rfl ?_
        exact hj4 μ
      ·
        refine gm_aload_n d_X11_on_22 rfl 1 rfl ?_
        refine gm_iload_n d_X11_on_23 rfl 0 rfl ?_
        refine gm_grd (fun g24 => ?_)
        refine gm_callV (k0 := 11) [.int s1] (c_X11_isNobody a0 s1 μ) g24 rfl B_X11_isNobody gw_478 gs_11 rfl rfl rfl d_X11_on_24 (gm_kI (fun x14 m13 => ?_))
        refine gm_if_eq (tgt := 32) d_X11_on_27 (by decide) (fun h27 => ?_) (fun h27 => ?_)
        ·
          refine gm_sub (L' := [(0, .ref a0), (1, .int a1), (2, .int a2), (3, .int s1)]) [1, 2, 3, 0] rfl ?_
          exact hj4 m13
        ·
          refine gm_iconst (v := -1) d_X11_on_30 (by decide) ?_
          exact gm_iret rfl d_X11_on_31 (Nat.le_of_ble_eq_true rfl) (Nat.le_of_ble_eq_true rfl) (fun h => h)
  ·
    refine gm_icmp_lt (tgt := 13) d_X11_on_3 (by decide) (fun h3 => ?_) (fun h3 => ?_)
    ·
      refine gm_iload_n d_X11_on_13 rfl 2 rfl ?_
      refine gm_bipush (v := 10) d_X11_on_14 (by decide) ?_
      refine gm_isub d_X11_on_16 ?_
      exact hj2 (a2 - (10 : Int32))
    ·
      refine gm_iload_n d_X11_on_6 rfl 2 rfl ?_
      refine gm_bipush (v := 20) d_X11_on_7 (by decide) ?_
      refine gm_isub d_X11_on_9 ?_
      refine gm_goto (tgt := 17) d_X11_on_10 (by decide) ?_
      exact hj2 (a2 - (20 : Int32))
theorem d_X11_order_0 : decode prog_1_method_22_code 0 = .ok (.iload_n 1, 1) := ge_iload_n_1 (by decide +kernel)
theorem d_X11_order_1 : decode prog_1_method_22_code 1 = .ok (.iconst (-1), 1) := ge_iconst_m1_ (by decide +kernel)
theorem d_X11_order_2 : decode prog_1_method_22_code 2 = .ok (.iconst 4, 1) := ge_iconst_4 (by decide +kernel)
theorem d_X11_order_3 : decode prog_1_method_22_code 3 = .ok (.invokestatic 76, 3) := ge_invokestatic (by decide +kernel)
theorem d_X11_order_6 : decode prog_1_method_22_code 6 = .ok (.ifCond .eq 5, 3) := ge_ifCond_eq (by decide +kernel)
theorem d_X11_order_9 : decode prog_1_method_22_code 9 = .ok (.iconst (-1), 1) := ge_iconst_m1_ (by decide +kernel)
theorem d_X11_order_10 : decode prog_1_method_22_code 10 = .ok (.ireturn, 1) := ge_ireturn (by decide +kernel)
theorem d_X11_order_11 : decode prog_1_method_22_code 11 = .ok (.iload_n 1, 1) := ge_iload_n_1 (by decide +kernel)
theorem d_X11_order_12 : decode prog_1_method_22_code 12 = .ok (.aload_n 0, 1) := ge_aload_n_0 (by decide +kernel)
theorem d_X11_order_13 : decode prog_1_method_22_code 13 = .ok (.getfield 60, 3) := ge_getfield (by decide +kernel)
theorem d_X11_order_16 : decode prog_1_method_22_code 16 = .ok (.getfield 101, 3) := ge_getfield (by decide +kernel)
theorem d_X11_order_19 : decode prog_1_method_22_code 19 = .ok (.if_icmp .lt 6, 3) := ge_if_icmp_lt (by decide +kernel)
theorem d_X11_order_22 : decode prog_1_method_22_code 22 = .ok (.bipush (-5), 2) := ge_bipush (by decide +kernel)
theorem d_X11_order_24 : decode prog_1_method_22_code 24 = .ok (.ireturn, 1) := ge_ireturn (by decide +kernel)
theorem d_X11_order_25 : decode prog_1_method_22_code 25 = .ok (.iconst 0, 1) := ge_iconst_0 (by decide +kernel)
theorem d_X11_order_26 : decode prog_1_method_22_code 26 = .ok (.istore_n 2, 1) := ge_istore_n_2 (by decide +kernel)
theorem d_X11_order_27 : decode prog_1_method_22_code 27 = .ok (.iload_n 2, 1) := ge_iload_n_2 (by decide +kernel)
theorem d_X11_order_28 : decode prog_1_method_22_code 28 = .ok (.aload_n 0, 1) := ge_aload_n_0 (by decide +kernel)
theorem d_X11_order_29 : decode prog_1_method_22_code 29 = .ok (.getfield 60, 3) := ge_getfield (by decide +kernel)
theorem d_X11_order_32 : decode prog_1_method_22_code 32 = .ok (.getfield 101, 3) := ge_getfield (by decide +kernel)
theorem d_X11_order_35 : decode prog_1_method_22_code 35 = .ok (.if_icmp .ge 14, 3) := ge_if_icmp_ge (by decide +kernel)
theorem d_X11_order_38 : decode prog_1_method_22_code 38 = .ok (.aload_n 0, 1) := ge_aload_n_0 (by decide +kernel)
theorem d_X11_order_39 : decode prog_1_method_22_code 39 = .ok (.iload_n 2, 1) := ge_iload_n_2 (by decide +kernel)
theorem d_X11_order_40 : decode prog_1_method_22_code 40 = .ok (.invokevirtual 223, 3) := ge_invokevirtual (by decide +kernel)
theorem d_X11_order_43 : decode prog_1_method_22_code 43 = .ok (.iinc 2 1, 3) := ge_iinc (by decide +kernel)
theorem d_X11_order_46 : decode prog_1_method_22_code 46 = .ok (.goto (-19), 3) := ge_goto (by decide +kernel)
theorem d_X11_order_49 : decode prog_1_method_22_code 49 = .ok (.aload_n 0, 1) := ge_aload_n_0 (by decide +kernel)
theorem d_X11_order_50 : decode prog_1_method_22_code 50 = .ok (.iconst (-1), 1) := ge_iconst_m1_ (by decide +kernel)
theorem d_X11_order_51 : decode prog_1_method_22_code 51 = .ok (.putfield 226, 3) := ge_putfield (by decide +kernel)
theorem d_X11_order_54 : decode prog_1_method_22_code 54 = .ok (.aload_n 0, 1) := ge_aload_n_0 (by decide +kernel)
theorem d_X11_order_55 : decode prog_1_method_22_code 55 = .ok (.iconst 0, 1) := ge_iconst_0 (by decide +kernel)
theorem d_X11_order_56 : decode prog_1_method_22_code 56 = .ok (.iconst 0, 1) := ge_iconst_0 (by decide +kernel)
theorem d_X11_order_57 : decode prog_1_method_22_code 57 = .ok (.iconst 0, 1) := ge_iconst_0 (by decide +kernel)
theorem d_X11_order_58 : decode prog_1_method_22_code 58 = .ok (.invokevirtual 229, 3) := ge_invokevirtual (by decide +kernel)
theorem d_X11_order_61 : decode prog_1_method_22_code 61 = .ok (.iload_n 1, 1) := ge_iload_n_1 (by decide +kernel)
theorem d_X11_order_62 : decode prog_1_method_22_code 62 = .ok (.ifCond .ge 10, 3) := ge_ifCond_ge (by decide +kernel)
theorem d_X11_order_65 : decode prog_1_method_22_code 65 = .ok (.aload_n 0, 1) := ge_aload_n_0 (by decide +kernel)
theorem d_X11_order_66 : decode prog_1_method_22_code 66 = .ok (.getfield 226, 3) := ge_getfield (by decide +kernel)
theorem d_X11_order_69 : decode prog_1_method_22_code 69 = .ok (.goto 9, 3) := ge_goto (by decide +kernel)
theorem d_X11_order_72 : decode prog_1_method_22_code 72 = .ok (.aload_n 0, 1) := ge_aload_n_0 (by decide +kernel)
theorem d_X11_order_73 : decode prog_1_method_22_code 73 = .ok (.getfield 33, 3) := ge_getfield (by decide +kernel)
theorem d_X11_order_76 : decode prog_1_method_22_code 76 = .ok (.iload_n 1, 1) := ge_iload_n_1 (by decide +kernel)
theorem d_X11_order_77 : decode prog_1_method_22_code 77 = .ok (.iaload, 1) := ge_iaload (by decide +kernel)
theorem d_X11_order_78 : decode prog_1_method_22_code 78 = .ok (.ireturn, 1) := ge_ireturn (by decide +kernel)
def f_X11_order (a0 : Nat) (a1 : Int32) (μ : gm_M) : Option (Option Value × gm_M) := gm_bI (f_X11_isOutside a1 (-1 : Int32) (4 : Int32) μ) (fun x2 m1 => if x2 = 0 then gm_gR m1 [16] a0 1 (fun v3 => gm_gI m1 [13] v3 1 (fun v4 => if a1 < v4 then gm_loop (fun (s5 : Int32 × gm_M) => gm_gR s5.2 [16] a0 1 (fun v6 => gm_gI s5.2 [13] v6 1 (fun v7 => if v7 ≤ s5.1 then gm_pI s5.2 [16] a0 9 (-1 : Int32) (fun m8 => if gm_tag m8 a0 = 16 then gm_bV (f_X11_arrange a0 (0 : Int32) (0 : Int32) (0 : Int32) m8) (fun m9 => if 0 ≤ a1 then gm_gR m9 [16] a0 8 (fun v11 => gm_aI m9 v11 a1 (fun v12 => some (Sum.inr (some (.int v12), m9)))) else gm_gI m9 [16] a0 9 (fun v13 => some (Sum.inr (some (.int v13), m9)))) else none) else if gm_tag s5.2 a0 = 16 then gm_bV (f_X11_fillBehind a0 s5.1 s5.2) (fun m14 => some (Sum.inl ((s5.1 + (1 : Int32)), m14))) else none))) 5000 ((0 : Int32), m1) else some (some (.int (-5 : Int32)), m1))) else some (some (.int (-1 : Int32)), m1))
set_option maxHeartbeats 4000000 in
theorem c_X11_order (a0 : Nat) (a1 : Int32) (μ : gm_M) : gm_Call ({ cls := "GumBubble", name := "order", desc := "(I)I" } : Jvm.MethodName) prog_1_method_22_code 3 (some .int) 66 0 0 [.ref a0, .int a1] μ (f_X11_order a0 a1 μ) := by
  refine gm_start PN_11 (Nat.le_of_ble_eq_true rfl) (fun res μe => ?_)
  unfold f_X11_order
  show gm_A "GumBubble" (gm_nm "order") _ _ _ _ _ _ _ _ _ 0 [(0, .ref a0), (1, .int a1)] [] _ _
  refine gm_iload_n d_X11_order_0 rfl 1 rfl ?_
  refine gm_iconst (v := -1) d_X11_order_1 (by decide) ?_
  refine gm_iconst (v := 4) d_X11_order_2 (by decide) ?_
  refine gm_callS [.int a1, .int (-1 : Int32), .int (4 : Int32)] (c_X11_isOutside a1 (-1 : Int32) (4 : Int32) μ) B_X11_isOutside gw_296 rfl rfl rfl d_X11_order_3 (gm_kI (fun x2 m1 => ?_))
  refine gm_if_eq (tgt := 11) d_X11_order_6 (by decide) (fun h6 => ?_) (fun h6 => ?_)
  ·
    refine gm_iload_n d_X11_order_11 rfl 1 rfl ?_
    refine gm_aload_n d_X11_order_12 rfl 0 rfl ?_
    refine gm_getR F_11_now gw_262 d_X11_order_13 (fun v3 _ => ?_)
    refine gm_getI F_8_size gw_221 d_X11_order_16 (fun v4 _ => ?_)
    refine gm_icmp_lt (tgt := 25) d_X11_order_19 (by decide) (fun h19 => ?_) (fun h19 => ?_)
    ·
      refine gm_iconst (v := 0) d_X11_order_25 (by decide) ?_
      refine gm_istore_n (L' := [(2, .int (0 : Int32)), (0, .ref a0), (1, .int a1)]) d_X11_order_26 rfl (Nat.le_of_ble_eq_true rfl) rfl ?_
      refine gm_sub (L' := [(0, .ref a0), (1, .int a1), (2, .int (0 : Int32))]) [1, 2, 0] rfl ?_
      refine gm_lp (S := Int32 × gm_M) (fun _ => 0) (fun _ => 0) (fun s5 => s5.2) (fun s5 => [(0, .ref a0), (1, .int a1), (2, .int s5.1)]) (fun _ => []) (fun s5 => ?_) 5000 ((0 : Int32), m1)
      refine gm_iload_n d_X11_order_27 rfl 2 rfl ?_
      refine gm_aload_n d_X11_order_28 rfl 0 rfl ?_
      refine gm_getR F_11_now gw_262 d_X11_order_29 (fun v6 _ => ?_)
      refine gm_getI F_8_size gw_221 d_X11_order_32 (fun v7 _ => ?_)
      refine gm_icmp_ge (tgt := 49) d_X11_order_35 (by decide) (fun h35 => ?_) (fun h35 => ?_)
      ·
        refine gm_aload_n d_X11_order_49 rfl 0 rfl ?_
        refine gm_iconst (v := -1) d_X11_order_50 (by decide) ?_
        refine gm_putI F_11_bestSum (Or.inl rfl) gw_270 d_X11_order_51 (fun m8 _ => ?_)
        refine gm_aload_n d_X11_order_54 rfl 0 rfl ?_
        refine gm_iconst (v := 0) d_X11_order_55 (by decide) ?_
        refine gm_iconst (v := 0) d_X11_order_56 (by decide) ?_
        refine gm_iconst (v := 0) d_X11_order_57 (by decide) ?_
        refine gm_grd (fun g58 => ?_)
        refine gm_callV (k0 := 11) [.int (0 : Int32), .int (0 : Int32), .int (0 : Int32)] (c_X11_arrange a0 (0 : Int32) (0 : Int32) (0 : Int32) m8) g58 rfl B_X11_arrange gw_697 gs_21 rfl rfl rfl d_X11_order_58 (gm_kV (fun m9 => ?_))
        refine gm_iload_n d_X11_order_61 rfl 1 rfl ?_
        refine gm_if_ge (tgt := 72) d_X11_order_62 (by decide) (fun h62 => ?_) (fun h62 => ?_)
        ·
          refine gm_aload_n d_X11_order_72 rfl 0 rfl ?_
          refine gm_getR F_11_best gw_269 d_X11_order_73 (fun v11 _ => ?_)
          refine gm_iload_n d_X11_order_76 rfl 1 rfl ?_
          refine gm_iald d_X11_order_77 (fun v12 _ => ?_)
          exact gm_iret rfl d_X11_order_78 (Nat.le_of_ble_eq_true rfl) (Nat.le_of_ble_eq_true rfl) (fun h => h)
        ·
          refine gm_aload_n d_X11_order_65 rfl 0 rfl ?_
          refine gm_getI F_11_bestSum gw_270 d_X11_order_66 (fun v13 _ => ?_)
          refine gm_goto (tgt := 78) d_X11_order_69 (by decide) ?_
          exact gm_iret rfl d_X11_order_78 (Nat.le_of_ble_eq_true rfl) (Nat.le_of_ble_eq_true rfl) (fun h => h)
      ·
        refine gm_aload_n d_X11_order_38 rfl 0 rfl ?_
        refine gm_iload_n d_X11_order_39 rfl 2 rfl ?_
        refine gm_grd (fun g40 => ?_)
        refine gm_callV (k0 := 11) [.int s5.1] (c_X11_fillBehind a0 s5.1 s5.2) g40 rfl B_X11_fillBehind gw_693 gs_20 rfl rfl rfl d_X11_order_40 (gm_kV (fun m14 => ?_))
        refine gm_iinc (v := s5.1 + (1 : Int32)) (L' := [(2, .int (s5.1 + (1 : Int32))), (0, .ref a0), (1, .int a1)]) d_X11_order_43 2 rfl rfl (Nat.le_of_ble_eq_true rfl) rfl ?_
        refine gm_goto (tgt := 27) d_X11_order_46 (by decide) ?_
        refine gm_sub (L' := [(0, .ref a0), (1, .int a1), (2, .int (s5.1 + (1 : Int32)))]) [1, 2, 0] rfl ?_
        exact gm_back (fun h => h)
    ·
      refine gm_bipush (v := -5) d_X11_order_22 (by decide) ?_
      exact gm_iret rfl d_X11_order_24 (Nat.le_of_ble_eq_true rfl) (Nat.le_of_ble_eq_true rfl) (fun h => h)
  ·
    refine gm_iconst (v := -1) d_X11_order_9 (by decide) ?_
    exact gm_iret rfl d_X11_order_10 (Nat.le_of_ble_eq_true rfl) (Nat.le_of_ble_eq_true rfl) (fun h => h)
theorem d_X11_pass_0 : decode prog_1_method_10_code 0 = .ok (.iload_n 1, 1) := ge_iload_n_1 (by decide +kernel)
theorem d_X11_pass_1 : decode prog_1_method_10_code 1 = .ok (.iconst 0, 1) := ge_iconst_0 (by decide +kernel)
theorem d_X11_pass_2 : decode prog_1_method_10_code 2 = .ok (.bipush 60, 2) := ge_bipush (by decide +kernel)
theorem d_X11_pass_4 : decode prog_1_method_10_code 4 = .ok (.invokestatic 76, 3) := ge_invokestatic (by decide +kernel)
theorem d_X11_pass_7 : decode prog_1_method_10_code 7 = .ok (.ifCond .eq 6, 3) := ge_ifCond_eq (by decide +kernel)
theorem d_X11_pass_10 : decode prog_1_method_10_code 10 = .ok (.bipush (-2), 2) := ge_bipush (by decide +kernel)
theorem d_X11_pass_12 : decode prog_1_method_10_code 12 = .ok (.ireturn, 1) := ge_ireturn (by decide +kernel)
theorem d_X11_pass_13 : decode prog_1_method_10_code 13 = .ok (.aload_n 0, 1) := ge_aload_n_0 (by decide +kernel)
theorem d_X11_pass_14 : decode prog_1_method_10_code 14 = .ok (.getfield 60, 3) := ge_getfield (by decide +kernel)
theorem d_X11_pass_17 : decode prog_1_method_10_code 17 = .ok (.getfield 144, 3) := ge_getfield (by decide +kernel)
theorem d_X11_pass_20 : decode prog_1_method_10_code 20 = .ok (.iload_n 1, 1) := ge_iload_n_1 (by decide +kernel)
theorem d_X11_pass_21 : decode prog_1_method_10_code 21 = .ok (.iadd, 1) := ge_iadd (by decide +kernel)
theorem d_X11_pass_22 : decode prog_1_method_10_code 22 = .ok (.sipush 9999, 3) := ge_sipush (by decide +kernel)
theorem d_X11_pass_25 : decode prog_1_method_10_code 25 = .ok (.if_icmp .le 6, 3) := ge_if_icmp_le (by decide +kernel)
theorem d_X11_pass_28 : decode prog_1_method_10_code 28 = .ok (.bipush (-3), 2) := ge_bipush (by decide +kernel)
theorem d_X11_pass_30 : decode prog_1_method_10_code 30 = .ok (.ireturn, 1) := ge_ireturn (by decide +kernel)
theorem d_X11_pass_31 : decode prog_1_method_10_code 31 = .ok (.iconst 0, 1) := ge_iconst_0 (by decide +kernel)
theorem d_X11_pass_32 : decode prog_1_method_10_code 32 = .ok (.istore_n 2, 1) := ge_istore_n_2 (by decide +kernel)
theorem d_X11_pass_33 : decode prog_1_method_10_code 33 = .ok (.iload_n 2, 1) := ge_iload_n_2 (by decide +kernel)
theorem d_X11_pass_34 : decode prog_1_method_10_code 34 = .ok (.iload_n 1, 1) := ge_iload_n_1 (by decide +kernel)
theorem d_X11_pass_35 : decode prog_1_method_10_code 35 = .ok (.if_icmp .ge 60, 3) := ge_if_icmp_ge (by decide +kernel)
theorem d_X11_pass_38 : decode prog_1_method_10_code 38 = .ok (.iconst 0, 1) := ge_iconst_0 (by decide +kernel)
theorem d_X11_pass_39 : decode prog_1_method_10_code 39 = .ok (.istore_n 3, 1) := ge_istore_n_3 (by decide +kernel)
theorem d_X11_pass_40 : decode prog_1_method_10_code 40 = .ok (.iload_n 3, 1) := ge_iload_n_3 (by decide +kernel)
theorem d_X11_pass_41 : decode prog_1_method_10_code 41 = .ok (.aload_n 0, 1) := ge_aload_n_0 (by decide +kernel)
theorem d_X11_pass_42 : decode prog_1_method_10_code 42 = .ok (.getfield 60, 3) := ge_getfield (by decide +kernel)
theorem d_X11_pass_45 : decode prog_1_method_10_code 45 = .ok (.getfield 101, 3) := ge_getfield (by decide +kernel)
theorem d_X11_pass_48 : decode prog_1_method_10_code 48 = .ok (.if_icmp .ge 28, 3) := ge_if_icmp_ge (by decide +kernel)
theorem d_X11_pass_51 : decode prog_1_method_10_code 51 = .ok (.aload_n 0, 1) := ge_aload_n_0 (by decide +kernel)
theorem d_X11_pass_52 : decode prog_1_method_10_code 52 = .ok (.getfield 60, 3) := ge_getfield (by decide +kernel)
theorem d_X11_pass_55 : decode prog_1_method_10_code 55 = .ok (.getfield 104, 3) := ge_getfield (by decide +kernel)
theorem d_X11_pass_58 : decode prog_1_method_10_code 58 = .ok (.iload_n 3, 1) := ge_iload_n_3 (by decide +kernel)
theorem d_X11_pass_59 : decode prog_1_method_10_code 59 = .ok (.aaload, 1) := ge_aaload (by decide +kernel)
theorem d_X11_pass_60 : decode prog_1_method_10_code 60 = .ok (.aload_n 0, 1) := ge_aload_n_0 (by decide +kernel)
theorem d_X11_pass_61 : decode prog_1_method_10_code 61 = .ok (.getfield 60, 3) := ge_getfield (by decide +kernel)
theorem d_X11_pass_64 : decode prog_1_method_10_code 64 = .ok (.getfield 144, 3) := ge_getfield (by decide +kernel)
theorem d_X11_pass_67 : decode prog_1_method_10_code 67 = .ok (.invokevirtual 179, 3) := ge_invokevirtual (by decide +kernel)
theorem d_X11_pass_70 : decode prog_1_method_10_code 70 = .ok (.iinc 3 1, 3) := ge_iinc (by decide +kernel)
theorem d_X11_pass_73 : decode prog_1_method_10_code 73 = .ok (.goto (-33), 3) := ge_goto (by decide +kernel)
theorem d_X11_pass_76 : decode prog_1_method_10_code 76 = .ok (.aload_n 0, 1) := ge_aload_n_0 (by decide +kernel)
theorem d_X11_pass_77 : decode prog_1_method_10_code 77 = .ok (.getfield 60, 3) := ge_getfield (by decide +kernel)
theorem d_X11_pass_80 : decode prog_1_method_10_code 80 = .ok (.dup, 1) := ge_dup (by decide +kernel)
theorem d_X11_pass_81 : decode prog_1_method_10_code 81 = .ok (.getfield 144, 3) := ge_getfield (by decide +kernel)
theorem d_X11_pass_84 : decode prog_1_method_10_code 84 = .ok (.iconst 1, 1) := ge_iconst_1 (by decide +kernel)
theorem d_X11_pass_85 : decode prog_1_method_10_code 85 = .ok (.iadd, 1) := ge_iadd (by decide +kernel)
theorem d_X11_pass_86 : decode prog_1_method_10_code 86 = .ok (.putfield 144, 3) := ge_putfield (by decide +kernel)
theorem d_X11_pass_89 : decode prog_1_method_10_code 89 = .ok (.iinc 2 1, 3) := ge_iinc (by decide +kernel)
theorem d_X11_pass_92 : decode prog_1_method_10_code 92 = .ok (.goto (-59), 3) := ge_goto (by decide +kernel)
theorem d_X11_pass_95 : decode prog_1_method_10_code 95 = .ok (.aload_n 0, 1) := ge_aload_n_0 (by decide +kernel)
theorem d_X11_pass_96 : decode prog_1_method_10_code 96 = .ok (.getfield 60, 3) := ge_getfield (by decide +kernel)
theorem d_X11_pass_99 : decode prog_1_method_10_code 99 = .ok (.getfield 144, 3) := ge_getfield (by decide +kernel)
theorem d_X11_pass_102 : decode prog_1_method_10_code 102 = .ok (.ireturn, 1) := ge_ireturn (by decide +kernel)
def f_X11_pass (a0 : Nat) (a1 : Int32) (μ : gm_M) : Option (Option Value × gm_M) := gm_bI (f_X11_isOutside a1 (0 : Int32) (60 : Int32) μ) (fun x2 m1 => if x2 = 0 then gm_gR m1 [16] a0 1 (fun v3 => gm_gI m1 [13] v3 0 (fun v4 => if (v4 + a1) ≤ (9999 : Int32) then gm_loop (fun (s5 : Int32 × gm_M) => if a1 ≤ s5.1 then gm_gR s5.2 [16] a0 1 (fun v6 => gm_gI s5.2 [13] v6 0 (fun v7 => some (Sum.inr (some (.int v7), s5.2)))) else gm_loop (fun (s8 : Int32 × gm_M) => gm_gR s8.2 [16] a0 1 (fun v9 => gm_gI s8.2 [13] v9 1 (fun v10 => if v10 ≤ s8.1 then gm_gR s8.2 [16] a0 1 (fun v11 => gm_gI s8.2 [13] v11 0 (fun v12 => gm_pI s8.2 [13] v11 0 (v12 + (1 : Int32)) (fun m13 => some (Sum.inr (Sum.inl ((s5.1 + (1 : Int32)), m13)))))) else gm_gR s8.2 [16] a0 1 (fun v14 => gm_gR s8.2 [13] v14 2 (fun v15 => gm_aR s8.2 4 v15 s8.1 (fun v16 => gm_gR s8.2 [16] a0 1 (fun v17 => gm_gI s8.2 [13] v17 0 (fun v18 => if gm_tag s8.2 v16 = 7 then gm_bV (f_X2_passMinute v16 v18 s8.2) (fun m19 => some (Sum.inl ((s8.1 + (1 : Int32)), m19))) else none)))))))) 5000 ((0 : Int32), s5.2)) 5000 ((0 : Int32), m1) else some (some (.int (-3 : Int32)), m1))) else some (some (.int (-2 : Int32)), m1))
set_option maxHeartbeats 4000000 in
theorem c_X11_pass (a0 : Nat) (a1 : Int32) (μ : gm_M) : gm_Call ({ cls := "GumBubble", name := "pass", desc := "(I)I" } : Jvm.MethodName) prog_1_method_10_code 4 (some .int) 4 0 0 [.ref a0, .int a1] μ (f_X11_pass a0 a1 μ) := by
  refine gm_start PN_11 (Nat.le_of_ble_eq_true rfl) (fun res μe => ?_)
  unfold f_X11_pass
  show gm_A "GumBubble" (gm_nm "pass") _ _ _ _ _ _ _ _ _ 0 [(0, .ref a0), (1, .int a1)] [] _ _
  refine gm_iload_n d_X11_pass_0 rfl 1 rfl ?_
  refine gm_iconst (v := 0) d_X11_pass_1 (by decide) ?_
  refine gm_bipush (v := 60) d_X11_pass_2 (by decide) ?_
  refine gm_callS [.int a1, .int (0 : Int32), .int (60 : Int32)] (c_X11_isOutside a1 (0 : Int32) (60 : Int32) μ) B_X11_isOutside gw_296 rfl rfl rfl d_X11_pass_4 (gm_kI (fun x2 m1 => ?_))
  refine gm_if_eq (tgt := 13) d_X11_pass_7 (by decide) (fun h7 => ?_) (fun h7 => ?_)
  ·
    refine gm_aload_n d_X11_pass_13 rfl 0 rfl ?_
    refine gm_getR F_11_now gw_262 d_X11_pass_14 (fun v3 _ => ?_)
    refine gm_getI F_8_minute gw_219 d_X11_pass_17 (fun v4 _ => ?_)
    refine gm_iload_n d_X11_pass_20 rfl 1 rfl ?_
    refine gm_iadd d_X11_pass_21 ?_
    refine gm_sipush (v := 9999) d_X11_pass_22 (by decide) ?_
    refine gm_icmp_le (tgt := 31) d_X11_pass_25 (by decide) (fun h25 => ?_) (fun h25 => ?_)
    ·
      refine gm_iconst (v := 0) d_X11_pass_31 (by decide) ?_
      refine gm_istore_n (L' := [(2, .int (0 : Int32)), (0, .ref a0), (1, .int a1)]) d_X11_pass_32 rfl (Nat.le_of_ble_eq_true rfl) rfl ?_
      refine gm_sub (L' := [(0, .ref a0), (1, .int a1), (2, .int (0 : Int32))]) [1, 2, 0] rfl ?_
      refine gm_lp (S := Int32 × gm_M) (fun _ => 0) (fun _ => 0) (fun s5 => s5.2) (fun s5 => [(0, .ref a0), (1, .int a1), (2, .int s5.1)]) (fun _ => []) (fun s5 => ?_) 5000 ((0 : Int32), m1)
      refine gm_iload_n d_X11_pass_33 rfl 2 rfl ?_
      refine gm_iload_n d_X11_pass_34 rfl 1 rfl ?_
      refine gm_icmp_ge (tgt := 95) d_X11_pass_35 (by decide) (fun h35 => ?_) (fun h35 => ?_)
      ·
        refine gm_aload_n d_X11_pass_95 rfl 0 rfl ?_
        refine gm_getR F_11_now gw_262 d_X11_pass_96 (fun v6 _ => ?_)
        refine gm_getI F_8_minute gw_219 d_X11_pass_99 (fun v7 _ => ?_)
        exact gm_iret rfl d_X11_pass_102 (Nat.le_of_ble_eq_true rfl) (Nat.le_of_ble_eq_true rfl) (fun h => h)
      ·
        refine gm_iconst (v := 0) d_X11_pass_38 (by decide) ?_
        refine gm_istore_n (L' := [(3, .int (0 : Int32)), (0, .ref a0), (1, .int a1), (2, .int s5.1)]) d_X11_pass_39 rfl (Nat.le_of_ble_eq_true rfl) rfl ?_
        refine gm_sub (L' := [(0, .ref a0), (1, .int a1), (2, .int s5.1), (3, .int (0 : Int32))]) [1, 2, 3, 0] rfl ?_
        refine gm_lp (S := Int32 × gm_M) (fun _ => 0) (fun _ => 0) (fun s8 => s8.2) (fun s8 => [(0, .ref a0), (1, .int a1), (2, .int s5.1), (3, .int s8.1)]) (fun _ => []) (fun s8 => ?_) 5000 ((0 : Int32), s5.2)
        refine gm_iload_n d_X11_pass_40 rfl 3 rfl ?_
        refine gm_aload_n d_X11_pass_41 rfl 0 rfl ?_
        refine gm_getR F_11_now gw_262 d_X11_pass_42 (fun v9 _ => ?_)
        refine gm_getI F_8_size gw_221 d_X11_pass_45 (fun v10 _ => ?_)
        refine gm_icmp_ge (tgt := 76) d_X11_pass_48 (by decide) (fun h48 => ?_) (fun h48 => ?_)
        ·
          refine gm_aload_n d_X11_pass_76 rfl 0 rfl ?_
          refine gm_getR F_11_now gw_262 d_X11_pass_77 (fun v11 _ => ?_)
          refine gm_dup d_X11_pass_80 rfl ?_
          refine gm_getI F_8_minute gw_219 d_X11_pass_81 (fun v12 _ => ?_)
          refine gm_iconst (v := 1) d_X11_pass_84 (by decide) ?_
          refine gm_iadd d_X11_pass_85 ?_
          refine gm_putI F_8_minute (Or.inl rfl) gw_219 d_X11_pass_86 (fun m13 _ => ?_)
          refine gm_iinc (v := s5.1 + (1 : Int32)) (L' := [(2, .int (s5.1 + (1 : Int32))), (0, .ref a0), (1, .int a1), (3, .int s8.1)]) d_X11_pass_89 2 rfl rfl (Nat.le_of_ble_eq_true rfl) rfl ?_
          refine gm_goto (tgt := 33) d_X11_pass_92 (by decide) ?_
          refine gm_sub (L' := [(0, .ref a0), (1, .int a1), (2, .int (s5.1 + (1 : Int32)))]) [1, 2, 0] rfl ?_
          exact gm_back (fun h => h)
        ·
          refine gm_aload_n d_X11_pass_51 rfl 0 rfl ?_
          refine gm_getR F_11_now gw_262 d_X11_pass_52 (fun v14 _ => ?_)
          refine gm_getR F_8_children gw_223 d_X11_pass_55 (fun v15 _ => ?_)
          refine gm_iload_n d_X11_pass_58 rfl 3 rfl ?_
          refine gm_aald (Or.inr rfl) d_X11_pass_59 (fun v16 _ => ?_)
          refine gm_aload_n d_X11_pass_60 rfl 0 rfl ?_
          refine gm_getR F_11_now gw_262 d_X11_pass_61 (fun v17 _ => ?_)
          refine gm_getI F_8_minute gw_219 d_X11_pass_64 (fun v18 _ => ?_)
          refine gm_grd (fun g67 => ?_)
          refine gm_callV (k0 := 2) [.int v18] (c_X2_passMinute v16 v18 s8.2) g67 rfl B_X2_passMinute gw_596 gw_598 rfl rfl rfl d_X11_pass_67 (gm_kV (fun m19 => ?_))
          refine gm_iinc (v := s8.1 + (1 : Int32)) (L' := [(3, .int (s8.1 + (1 : Int32))), (0, .ref a0), (1, .int a1), (2, .int s5.1)]) d_X11_pass_70 3 rfl rfl (Nat.le_of_ble_eq_true rfl) rfl ?_
          refine gm_goto (tgt := 40) d_X11_pass_73 (by decide) ?_
          refine gm_sub (L' := [(0, .ref a0), (1, .int a1), (2, .int s5.1), (3, .int (s8.1 + (1 : Int32)))]) [1, 2, 3, 0] rfl ?_
          exact gm_back (fun h => h)
    ·
      refine gm_bipush (v := -3) d_X11_pass_28 (by decide) ?_
      exact gm_iret rfl d_X11_pass_30 (Nat.le_of_ble_eq_true rfl) (Nat.le_of_ble_eq_true rfl) (fun h => h)
  ·
    refine gm_bipush (v := -2) d_X11_pass_10 (by decide) ?_
    exact gm_iret rfl d_X11_pass_12 (Nat.le_of_ble_eq_true rfl) (Nat.le_of_ble_eq_true rfl) (fun h => h)
theorem d_X11_trialWhen_0 : decode prog_1_method_46_code 0 = .ok (.iconst (-1), 1) := ge_iconst_m1_ (by decide +kernel)
theorem d_X11_trialWhen_1 : decode prog_1_method_46_code 1 = .ok (.istore_n 2, 1) := ge_istore_n_2 (by decide +kernel)
theorem d_X11_trialWhen_2 : decode prog_1_method_46_code 2 = .ok (.iconst 0, 1) := ge_iconst_0 (by decide +kernel)
theorem d_X11_trialWhen_3 : decode prog_1_method_46_code 3 = .ok (.istore_n 3, 1) := ge_istore_n_3 (by decide +kernel)
theorem d_X11_trialWhen_4 : decode prog_1_method_46_code 4 = .ok (.iconst 0, 1) := ge_iconst_0 (by decide +kernel)
theorem d_X11_trialWhen_5 : decode prog_1_method_46_code 5 = .ok (.istore 4, 2) := ge_istore (by decide +kernel)
theorem d_X11_trialWhen_7 : decode prog_1_method_46_code 7 = .ok (.iload 4, 2) := ge_iload (by decide +kernel)
theorem d_X11_trialWhen_9 : decode prog_1_method_46_code 9 = .ok (.bipush 60, 2) := ge_bipush (by decide +kernel)
theorem d_X11_trialWhen_11 : decode prog_1_method_46_code 11 = .ok (.if_icmp .gt 64, 3) := ge_if_icmp_gt (by decide +kernel)
theorem d_X11_trialWhen_14 : decode prog_1_method_46_code 14 = .ok (.aload_n 0, 1) := ge_aload_n_0 (by decide +kernel)
theorem d_X11_trialWhen_15 : decode prog_1_method_46_code 15 = .ok (.getfield 72, 3) := ge_getfield (by decide +kernel)
theorem d_X11_trialWhen_18 : decode prog_1_method_46_code 18 = .ok (.aload_n 0, 1) := ge_aload_n_0 (by decide +kernel)
theorem d_X11_trialWhen_19 : decode prog_1_method_46_code 19 = .ok (.getfield 60, 3) := ge_getfield (by decide +kernel)
theorem d_X11_trialWhen_22 : decode prog_1_method_46_code 22 = .ok (.getfield 97, 3) := ge_getfield (by decide +kernel)
theorem d_X11_trialWhen_25 : decode prog_1_method_46_code 25 = .ok (.aload_n 0, 1) := ge_aload_n_0 (by decide +kernel)
theorem d_X11_trialWhen_26 : decode prog_1_method_46_code 26 = .ok (.getfield 60, 3) := ge_getfield (by decide +kernel)
theorem d_X11_trialWhen_29 : decode prog_1_method_46_code 29 = .ok (.getfield 144, 3) := ge_getfield (by decide +kernel)
theorem d_X11_trialWhen_32 : decode prog_1_method_46_code 32 = .ok (.iload 4, 2) := ge_iload (by decide +kernel)
theorem d_X11_trialWhen_34 : decode prog_1_method_46_code 34 = .ok (.iadd, 1) := ge_iadd (by decide +kernel)
theorem d_X11_trialWhen_35 : decode prog_1_method_46_code 35 = .ok (.invokevirtual 193, 3) := ge_invokevirtual (by decide +kernel)
theorem d_X11_trialWhen_38 : decode prog_1_method_46_code 38 = .ok (.istore 5, 2) := ge_istore (by decide +kernel)
theorem d_X11_trialWhen_40 : decode prog_1_method_46_code 40 = .ok (.iload 5, 2) := ge_iload (by decide +kernel)
theorem d_X11_trialWhen_42 : decode prog_1_method_46_code 42 = .ok (.iload_n 2, 1) := ge_iload_n_2 (by decide +kernel)
theorem d_X11_trialWhen_43 : decode prog_1_method_46_code 43 = .ok (.if_icmp .le 9, 3) := ge_if_icmp_le (by decide +kernel)
theorem d_X11_trialWhen_46 : decode prog_1_method_46_code 46 = .ok (.iload 5, 2) := ge_iload (by decide +kernel)
theorem d_X11_trialWhen_48 : decode prog_1_method_46_code 48 = .ok (.istore_n 2, 1) := ge_istore_n_2 (by decide +kernel)
theorem d_X11_trialWhen_49 : decode prog_1_method_46_code 49 = .ok (.iload 4, 2) := ge_iload (by decide +kernel)
theorem d_X11_trialWhen_51 : decode prog_1_method_46_code 51 = .ok (.istore_n 3, 1) := ge_istore_n_3 (by decide +kernel)
theorem d_X11_trialWhen_52 : decode prog_1_method_46_code 52 = .ok (.aload_n 0, 1) := ge_aload_n_0 (by decide +kernel)
theorem d_X11_trialWhen_53 : decode prog_1_method_46_code 53 = .ok (.getfield 72, 3) := ge_getfield (by decide +kernel)
theorem d_X11_trialWhen_56 : decode prog_1_method_46_code 56 = .ok (.aload_n 0, 1) := ge_aload_n_0 (by decide +kernel)
theorem d_X11_trialWhen_57 : decode prog_1_method_46_code 57 = .ok (.getfield 60, 3) := ge_getfield (by decide +kernel)
theorem d_X11_trialWhen_60 : decode prog_1_method_46_code 60 = .ok (.getfield 144, 3) := ge_getfield (by decide +kernel)
theorem d_X11_trialWhen_63 : decode prog_1_method_46_code 63 = .ok (.iload 4, 2) := ge_iload (by decide +kernel)
theorem d_X11_trialWhen_65 : decode prog_1_method_46_code 65 = .ok (.iadd, 1) := ge_iadd (by decide +kernel)
theorem d_X11_trialWhen_66 : decode prog_1_method_46_code 66 = .ok (.invokevirtual 179, 3) := ge_invokevirtual (by decide +kernel)
theorem d_X11_trialWhen_69 : decode prog_1_method_46_code 69 = .ok (.iinc 4 1, 3) := ge_iinc (by decide +kernel)
theorem d_X11_trialWhen_72 : decode prog_1_method_46_code 72 = .ok (.goto (-65), 3) := ge_goto (by decide +kernel)
theorem d_X11_trialWhen_75 : decode prog_1_method_46_code 75 = .ok (.iload_n 1, 1) := ge_iload_n_1 (by decide +kernel)
theorem d_X11_trialWhen_76 : decode prog_1_method_46_code 76 = .ok (.ifCond .ne 7, 3) := ge_ifCond_ne (by decide +kernel)
theorem d_X11_trialWhen_79 : decode prog_1_method_46_code 79 = .ok (.iload_n 3, 1) := ge_iload_n_3 (by decide +kernel)
theorem d_X11_trialWhen_80 : decode prog_1_method_46_code 80 = .ok (.goto 4, 3) := ge_goto (by decide +kernel)
theorem d_X11_trialWhen_83 : decode prog_1_method_46_code 83 = .ok (.iload_n 2, 1) := ge_iload_n_2 (by decide +kernel)
theorem d_X11_trialWhen_84 : decode prog_1_method_46_code 84 = .ok (.ireturn, 1) := ge_ireturn (by decide +kernel)
def f_X11_trialWhen (a0 : Nat) (a1 : Int32) (μ : gm_M) : Option (Option Value × gm_M) := gm_loop (fun (s1 : Int32 × Int32 × Int32 × gm_M) => if (60 : Int32) < s1.2.2.1 then if a1 ≠ 0 then some (Sum.inr (some (.int s1.1), s1.2.2.2)) else some (Sum.inr (some (.int s1.2.1), s1.2.2.2)) else gm_gR s1.2.2.2 [16] a0 5 (fun v2 => gm_gR s1.2.2.2 [16] a0 1 (fun v3 => gm_gR s1.2.2.2 [13] v3 6 (fun v4 => gm_gR s1.2.2.2 [16] a0 1 (fun v5 => gm_gI s1.2.2.2 [13] v5 0 (fun v6 => if gm_tag s1.2.2.2 v2 = 7 then gm_bI (f_X2_holds v2 v4 (v6 + s1.2.2.1) s1.2.2.2) (fun x8 m7 => gm_j (fun (s9 : Int32 × Int32) => gm_gR m7 [16] a0 5 (fun v11 => gm_gR m7 [16] a0 1 (fun v12 => gm_gI m7 [13] v12 0 (fun v13 => if gm_tag m7 v11 = 7 then gm_bV (f_X2_passMinute v11 (v13 + s1.2.2.1) m7) (fun m14 => some (Sum.inl (s9.1, s9.2, (s1.2.2.1 + (1 : Int32)), m14))) else none)))) (fun j10 => if x8 ≤ s1.1 then j10 (s1.1, s1.2.1) else j10 (x8, s1.2.2.1))) else none)))))) 5000 ((-1 : Int32), (0 : Int32), (0 : Int32), μ)
set_option maxHeartbeats 4000000 in
theorem c_X11_trialWhen (a0 : Nat) (a1 : Int32) (μ : gm_M) : gm_Call ({ cls := "GumBubble", name := "trialWhen", desc := "(I)I" } : Jvm.MethodName) prog_1_method_46_code 6 (some .int) 4 0 0 [.ref a0, .int a1] μ (f_X11_trialWhen a0 a1 μ) := by
  refine gm_start PN_11 (Nat.le_of_ble_eq_true rfl) (fun res μe => ?_)
  unfold f_X11_trialWhen
  show gm_A "GumBubble" (gm_nm "trialWhen") _ _ _ _ _ _ _ _ _ 0 [(0, .ref a0), (1, .int a1)] [] _ _
  refine gm_iconst (v := -1) d_X11_trialWhen_0 (by decide) ?_
  refine gm_istore_n (L' := [(2, .int (-1 : Int32)), (0, .ref a0), (1, .int a1)]) d_X11_trialWhen_1 rfl (Nat.le_of_ble_eq_true rfl) rfl ?_
  refine gm_iconst (v := 0) d_X11_trialWhen_2 (by decide) ?_
  refine gm_istore_n (L' := [(3, .int (0 : Int32)), (2, .int (-1 : Int32)), (0, .ref a0), (1, .int a1)]) d_X11_trialWhen_3 rfl (Nat.le_of_ble_eq_true rfl) rfl ?_
  refine gm_iconst (v := 0) d_X11_trialWhen_4 (by decide) ?_
  refine gm_istore (L' := [(4, .int (0 : Int32)), (3, .int (0 : Int32)), (2, .int (-1 : Int32)), (0, .ref a0), (1, .int a1)]) d_X11_trialWhen_5 (Nat.le_of_ble_eq_true rfl) rfl ?_
  refine gm_sub (L' := [(0, .ref a0), (1, .int a1), (2, .int (-1 : Int32)), (3, .int (0 : Int32)), (4, .int (0 : Int32))]) [3, 4, 2, 1, 0] rfl ?_
  refine gm_lp (S := Int32 × Int32 × Int32 × gm_M) (fun _ => 0) (fun _ => 0) (fun s1 => s1.2.2.2) (fun s1 => [(0, .ref a0), (1, .int a1), (2, .int s1.1), (3, .int s1.2.1), (4, .int s1.2.2.1)]) (fun _ => []) (fun s1 => ?_) 5000 ((-1 : Int32), (0 : Int32), (0 : Int32), μ)
  refine gm_iload d_X11_trialWhen_7 4 rfl ?_
  refine gm_bipush (v := 60) d_X11_trialWhen_9 (by decide) ?_
  refine gm_icmp_gt (tgt := 75) d_X11_trialWhen_11 (by decide) (fun h11 => ?_) (fun h11 => ?_)
  ·
    refine gm_iload_n d_X11_trialWhen_75 rfl 1 rfl ?_
    refine gm_if_ne (tgt := 83) d_X11_trialWhen_76 (by decide) (fun h76 => ?_) (fun h76 => ?_)
    ·
      refine gm_iload_n d_X11_trialWhen_83 rfl 2 rfl ?_
      exact gm_iret rfl d_X11_trialWhen_84 (Nat.le_of_ble_eq_true rfl) (Nat.le_of_ble_eq_true rfl) (fun h => h)
    ·
      refine gm_iload_n d_X11_trialWhen_79 rfl 3 rfl ?_
      refine gm_goto (tgt := 84) d_X11_trialWhen_80 (by decide) ?_
      exact gm_iret rfl d_X11_trialWhen_84 (Nat.le_of_ble_eq_true rfl) (Nat.le_of_ble_eq_true rfl) (fun h => h)
  ·
    refine gm_aload_n d_X11_trialWhen_14 rfl 0 rfl ?_
    refine gm_getR F_11_trial gw_266 d_X11_trialWhen_15 (fun v2 _ => ?_)
    refine gm_aload_n d_X11_trialWhen_18 rfl 0 rfl ?_
    refine gm_getR F_11_now gw_262 d_X11_trialWhen_19 (fun v3 _ => ?_)
    refine gm_getR F_8_afternoon gw_231 d_X11_trialWhen_22 (fun v4 _ => ?_)
    refine gm_aload_n d_X11_trialWhen_25 rfl 0 rfl ?_
    refine gm_getR F_11_now gw_262 d_X11_trialWhen_26 (fun v5 _ => ?_)
    refine gm_getI F_8_minute gw_219 d_X11_trialWhen_29 (fun v6 _ => ?_)
    refine gm_iload d_X11_trialWhen_32 4 rfl ?_
    refine gm_iadd d_X11_trialWhen_34 ?_
    refine gm_grd (fun g35 => ?_)
    refine gm_callV (k0 := 2) [.ref v4, .int (v6 + s1.2.2.1)] (c_X2_holds v2 v4 (v6 + s1.2.2.1) s1.2.2.2) g35 rfl B_X2_holds gw_545 gw_547 rfl rfl rfl d_X11_trialWhen_35 (gm_kI (fun x8 m7 => ?_))
    refine gm_istore (L' := [(5, .int x8), (0, .ref a0), (1, .int a1), (2, .int s1.1), (3, .int s1.2.1), (4, .int s1.2.2.1)]) d_X11_trialWhen_38 (Nat.le_of_ble_eq_true rfl) rfl ?_
    refine gm_iload d_X11_trialWhen_40 0 rfl ?_
    refine gm_iload_n d_X11_trialWhen_42 rfl 3 rfl ?_
    refine gm_join (S := Int32 × Int32) (pj := 52) (kj := 0) (nj := 0) (fun s9 => m7) (fun s9 => [(0, .ref a0), (1, .int a1), (2, .int s9.1), (3, .int s9.2), (4, .int s1.2.2.1), (5, .int x8)]) (fun s9 => []) (fun s9 => ?_) (fun j10 hj10 => ?_)
    ·
      refine gm_aload_n d_X11_trialWhen_52 rfl 0 rfl ?_
      refine gm_getR F_11_trial gw_266 d_X11_trialWhen_53 (fun v11 _ => ?_)
      refine gm_aload_n d_X11_trialWhen_56 rfl 0 rfl ?_
      refine gm_getR F_11_now gw_262 d_X11_trialWhen_57 (fun v12 _ => ?_)
      refine gm_getI F_8_minute gw_219 d_X11_trialWhen_60 (fun v13 _ => ?_)
      refine gm_iload d_X11_trialWhen_63 4 rfl ?_
      refine gm_iadd d_X11_trialWhen_65 ?_
      refine gm_grd (fun g66 => ?_)
      refine gm_callV (k0 := 2) [.int (v13 + s1.2.2.1)] (c_X2_passMinute v11 (v13 + s1.2.2.1) m7) g66 rfl B_X2_passMinute gw_596 gw_598 rfl rfl rfl d_X11_trialWhen_66 (gm_kV (fun m14 => ?_))
      refine gm_iinc (v := s1.2.2.1 + (1 : Int32)) (L' := [(4, .int (s1.2.2.1 + (1 : Int32))), (0, .ref a0), (1, .int a1), (2, .int s9.1), (3, .int s9.2), (5, .int x8)]) d_X11_trialWhen_69 4 rfl rfl (Nat.le_of_ble_eq_true rfl) rfl ?_
      refine gm_goto (tgt := 7) d_X11_trialWhen_72 (by decide) ?_
      refine gm_sub (L' := [(0, .ref a0), (1, .int a1), (2, .int s9.1), (3, .int s9.2), (4, .int (s1.2.2.1 + (1 : Int32)))]) [1, 2, 3, 4, 0] rfl ?_
      exact gm_back (fun h => h)
    ·
      refine gm_icmp_le (tgt := 52) d_X11_trialWhen_43 (by decide) (fun h43 => ?_) (fun h43 => ?_)
      ·
        refine gm_sub (L' := [(0, .ref a0), (1, .int a1), (2, .int s1.1), (3, .int s1.2.1), (4, .int s1.2.2.1), (5, .int x8)]) [1, 2, 3, 4, 5, 0] rfl ?_
        exact hj10 (s1.1, s1.2.1)
      ·
        refine gm_iload d_X11_trialWhen_46 0 rfl ?_
        refine gm_istore_n (L' := [(2, .int x8), (5, .int x8), (0, .ref a0), (1, .int a1), (3, .int s1.2.1), (4, .int s1.2.2.1)]) d_X11_trialWhen_48 rfl (Nat.le_of_ble_eq_true rfl) rfl ?_
        refine gm_iload d_X11_trialWhen_49 5 rfl ?_
        refine gm_istore_n (L' := [(3, .int s1.2.2.1), (2, .int x8), (5, .int x8), (0, .ref a0), (1, .int a1), (4, .int s1.2.2.1)]) d_X11_trialWhen_51 rfl (Nat.le_of_ble_eq_true rfl) rfl ?_
        refine gm_sub (L' := [(0, .ref a0), (1, .int a1), (2, .int x8), (3, .int s1.2.2.1), (4, .int s1.2.2.1), (5, .int x8)]) [3, 4, 1, 0, 5, 2] rfl ?_
        exact hj10 (x8, s1.2.2.1)
theorem d_X11_pieces_0 : decode prog_1_method_14_code 0 = .ok (.aload_n 0, 1) := ge_aload_n_0 (by decide +kernel)
theorem d_X11_pieces_1 : decode prog_1_method_14_code 1 = .ok (.iload_n 1, 1) := ge_iload_n_1 (by decide +kernel)
theorem d_X11_pieces_2 : decode prog_1_method_14_code 2 = .ok (.invokevirtual 115, 3) := ge_invokevirtual (by decide +kernel)
theorem d_X11_pieces_5 : decode prog_1_method_14_code 5 = .ok (.ifCond .ne 12, 3) := ge_ifCond_ne (by decide +kernel)
theorem d_X11_pieces_8 : decode prog_1_method_14_code 8 = .ok (.iload_n 2, 1) := ge_iload_n_2 (by decide +kernel)
theorem d_X11_pieces_9 : decode prog_1_method_14_code 9 = .ok (.iconst 0, 1) := ge_iconst_0 (by decide +kernel)
theorem d_X11_pieces_10 : decode prog_1_method_14_code 10 = .ok (.iconst 1, 1) := ge_iconst_1 (by decide +kernel)
theorem d_X11_pieces_11 : decode prog_1_method_14_code 11 = .ok (.invokestatic 76, 3) := ge_invokestatic (by decide +kernel)
theorem d_X11_pieces_14 : decode prog_1_method_14_code 14 = .ok (.ifCond .eq 5, 3) := ge_ifCond_eq (by decide +kernel)
theorem d_X11_pieces_17 : decode prog_1_method_14_code 17 = .ok (.iconst (-1), 1) := ge_iconst_m1_ (by decide +kernel)
theorem d_X11_pieces_18 : decode prog_1_method_14_code 18 = .ok (.ireturn, 1) := ge_ireturn (by decide +kernel)
theorem d_X11_pieces_19 : decode prog_1_method_14_code 19 = .ok (.iconst (-1), 1) := ge_iconst_m1_ (by decide +kernel)
theorem d_X11_pieces_20 : decode prog_1_method_14_code 20 = .ok (.istore_n 3, 1) := ge_istore_n_3 (by decide +kernel)
theorem d_X11_pieces_21 : decode prog_1_method_14_code 21 = .ok (.iconst 0, 1) := ge_iconst_0 (by decide +kernel)
theorem d_X11_pieces_22 : decode prog_1_method_14_code 22 = .ok (.istore 4, 2) := ge_istore (by decide +kernel)
theorem d_X11_pieces_24 : decode prog_1_method_14_code 24 = .ok (.iconst 0, 1) := ge_iconst_0 (by decide +kernel)
theorem d_X11_pieces_25 : decode prog_1_method_14_code 25 = .ok (.istore 5, 2) := ge_istore (by decide +kernel)
theorem d_X11_pieces_27 : decode prog_1_method_14_code 27 = .ok (.iload 5, 2) := ge_iload (by decide +kernel)
theorem d_X11_pieces_29 : decode prog_1_method_14_code 29 = .ok (.bipush 6, 2) := ge_bipush (by decide +kernel)
theorem d_X11_pieces_31 : decode prog_1_method_14_code 31 = .ok (.if_icmp .gt 82, 3) := ge_if_icmp_gt (by decide +kernel)
theorem d_X11_pieces_34 : decode prog_1_method_14_code 34 = .ok (.aload_n 0, 1) := ge_aload_n_0 (by decide +kernel)
theorem d_X11_pieces_35 : decode prog_1_method_14_code 35 = .ok (.getfield 72, 3) := ge_getfield (by decide +kernel)
theorem d_X11_pieces_38 : decode prog_1_method_14_code 38 = .ok (.aload_n 0, 1) := ge_aload_n_0 (by decide +kernel)
theorem d_X11_pieces_39 : decode prog_1_method_14_code 39 = .ok (.getfield 60, 3) := ge_getfield (by decide +kernel)
theorem d_X11_pieces_42 : decode prog_1_method_14_code 42 = .ok (.getfield 104, 3) := ge_getfield (by decide +kernel)
theorem d_X11_pieces_45 : decode prog_1_method_14_code 45 = .ok (.iload_n 1, 1) := ge_iload_n_1 (by decide +kernel)
theorem d_X11_pieces_46 : decode prog_1_method_14_code 46 = .ok (.aaload, 1) := ge_aaload (by decide +kernel)
theorem d_X11_pieces_47 : decode prog_1_method_14_code 47 = .ok (.invokevirtual 186, 3) := ge_invokevirtual (by decide +kernel)
theorem d_X11_pieces_50 : decode prog_1_method_14_code 50 = .ok (.aload_n 0, 1) := ge_aload_n_0 (by decide +kernel)
theorem d_X11_pieces_51 : decode prog_1_method_14_code 51 = .ok (.getfield 72, 3) := ge_getfield (by decide +kernel)
theorem d_X11_pieces_54 : decode prog_1_method_14_code 54 = .ok (.iload 5, 2) := ge_iload (by decide +kernel)
theorem d_X11_pieces_56 : decode prog_1_method_14_code 56 = .ok (.putfield 129, 3) := ge_putfield (by decide +kernel)
theorem d_X11_pieces_59 : decode prog_1_method_14_code 59 = .ok (.aload_n 0, 1) := ge_aload_n_0 (by decide +kernel)
theorem d_X11_pieces_60 : decode prog_1_method_14_code 60 = .ok (.getfield 72, 3) := ge_getfield (by decide +kernel)
theorem d_X11_pieces_63 : decode prog_1_method_14_code 63 = .ok (.aload_n 0, 1) := ge_aload_n_0 (by decide +kernel)
theorem d_X11_pieces_64 : decode prog_1_method_14_code 64 = .ok (.getfield 60, 3) := ge_getfield (by decide +kernel)
theorem d_X11_pieces_67 : decode prog_1_method_14_code 67 = .ok (.getfield 97, 3) := ge_getfield (by decide +kernel)
theorem d_X11_pieces_70 : decode prog_1_method_14_code 70 = .ok (.getfield 108, 3) := ge_getfield (by decide +kernel)
theorem d_X11_pieces_73 : decode prog_1_method_14_code 73 = .ok (.iload 5, 2) := ge_iload (by decide +kernel)
theorem d_X11_pieces_75 : decode prog_1_method_14_code 75 = .ok (.imul, 1) := ge_imul (by decide +kernel)
theorem d_X11_pieces_76 : decode prog_1_method_14_code 76 = .ok (.putfield 132, 3) := ge_putfield (by decide +kernel)
theorem d_X11_pieces_79 : decode prog_1_method_14_code 79 = .ok (.aload_n 0, 1) := ge_aload_n_0 (by decide +kernel)
theorem d_X11_pieces_80 : decode prog_1_method_14_code 80 = .ok (.getfield 72, 3) := ge_getfield (by decide +kernel)
theorem d_X11_pieces_83 : decode prog_1_method_14_code 83 = .ok (.iconst 0, 1) := ge_iconst_0 (by decide +kernel)
theorem d_X11_pieces_84 : decode prog_1_method_14_code 84 = .ok (.putfield 138, 3) := ge_putfield (by decide +kernel)
theorem d_X11_pieces_87 : decode prog_1_method_14_code 87 = .ok (.aload_n 0, 1) := ge_aload_n_0 (by decide +kernel)
theorem d_X11_pieces_88 : decode prog_1_method_14_code 88 = .ok (.iconst 1, 1) := ge_iconst_1 (by decide +kernel)
theorem d_X11_pieces_89 : decode prog_1_method_14_code 89 = .ok (.invokevirtual 190, 3) := ge_invokevirtual (by decide +kernel)
theorem d_X11_pieces_92 : decode prog_1_method_14_code 92 = .ok (.istore 6, 2) := ge_istore (by decide +kernel)
theorem d_X11_pieces_94 : decode prog_1_method_14_code 94 = .ok (.iload 6, 2) := ge_iload (by decide +kernel)
theorem d_X11_pieces_96 : decode prog_1_method_14_code 96 = .ok (.iload_n 3, 1) := ge_iload_n_3 (by decide +kernel)
theorem d_X11_pieces_97 : decode prog_1_method_14_code 97 = .ok (.if_icmp .le 10, 3) := ge_if_icmp_le (by decide +kernel)
theorem d_X11_pieces_100 : decode prog_1_method_14_code 100 = .ok (.iload 6, 2) := ge_iload (by decide +kernel)
theorem d_X11_pieces_102 : decode prog_1_method_14_code 102 = .ok (.istore_n 3, 1) := ge_istore_n_3 (by decide +kernel)
theorem d_X11_pieces_103 : decode prog_1_method_14_code 103 = .ok (.iload 5, 2) := ge_iload (by decide +kernel)
theorem d_X11_pieces_105 : decode prog_1_method_14_code 105 = .ok (.istore 4, 2) := ge_istore (by decide +kernel)
theorem d_X11_pieces_107 : decode prog_1_method_14_code 107 = .ok (.iinc 5 1, 3) := ge_iinc (by decide +kernel)
theorem d_X11_pieces_110 : decode prog_1_method_14_code 110 = .ok (.goto (-83), 3) := ge_goto (by decide +kernel)
theorem d_X11_pieces_113 : decode prog_1_method_14_code 113 = .ok (.iload_n 2, 1) := ge_iload_n_2 (by decide +kernel)
theorem d_X11_pieces_114 : decode prog_1_method_14_code 114 = .ok (.ifCond .ne 8, 3) := ge_ifCond_ne (by decide +kernel)
theorem d_X11_pieces_117 : decode prog_1_method_14_code 117 = .ok (.iload 4, 2) := ge_iload (by decide +kernel)
theorem d_X11_pieces_119 : decode prog_1_method_14_code 119 = .ok (.goto 4, 3) := ge_goto (by decide +kernel)
theorem d_X11_pieces_122 : decode prog_1_method_14_code 122 = .ok (.iload_n 3, 1) := ge_iload_n_3 (by decide +kernel)
theorem d_X11_pieces_123 : decode prog_1_method_14_code 123 = .ok (.ireturn, 1) := ge_ireturn (by decide +kernel)
def f_X11_pieces (a0 : Nat) (a1 : Int32) (a2 : Int32) (μ : gm_M) : Option (Option Value × gm_M) := if gm_tag μ a0 = 16 then gm_bI (f_X11_isNobody a0 a1 μ) (fun x2 m1 => if x2 ≠ 0 then some (some (.int (-1 : Int32)), m1) else gm_bI (f_X11_isOutside a2 (0 : Int32) (1 : Int32) m1) (fun x4 m3 => if x4 = 0 then gm_loop (fun (s5 : Int32 × Int32 × Int32 × gm_M) => if (6 : Int32) < s5.2.2.1 then if a2 ≠ 0 then some (Sum.inr (some (.int s5.1), s5.2.2.2)) else some (Sum.inr (some (.int s5.2.1), s5.2.2.2)) else gm_gR s5.2.2.2 [16] a0 5 (fun v6 => gm_gR s5.2.2.2 [16] a0 1 (fun v7 => gm_gR s5.2.2.2 [13] v7 2 (fun v8 => gm_aR s5.2.2.2 4 v8 a1 (fun v9 => if gm_tag s5.2.2.2 v6 = 7 then gm_bV (f_X2_copy v6 v9 s5.2.2.2) (fun m10 => gm_gR m10 [16] a0 5 (fun v12 => gm_pI m10 [7] v12 3 s5.2.2.1 (fun m13 => gm_gR m13 [16] a0 5 (fun v14 => gm_gR m13 [16] a0 1 (fun v15 => gm_gR m13 [13] v15 6 (fun v16 => gm_gI m13 [5] v16 1 (fun v17 => gm_pI m13 [7] v14 4 (v17 * s5.2.2.1) (fun m18 => gm_gR m18 [16] a0 5 (fun v19 => gm_pI m18 [7] v19 6 (0 : Int32) (fun m20 => if gm_tag m20 a0 = 16 then gm_bI (f_X11_trialWhen a0 (1 : Int32) m20) (fun x22 m21 => gm_j (fun (s23 : Int32 × Int32) => some (Sum.inl (s23.1, s23.2, (s5.2.2.1 + (1 : Int32)), m21))) (fun j24 => if x22 ≤ s5.1 then j24 (s5.1, s5.2.1) else j24 (x22, s5.2.2.1))) else none)))))))))) else none))))) 5000 ((-1 : Int32), (0 : Int32), (0 : Int32), m3) else some (some (.int (-1 : Int32)), m3))) else none
set_option maxHeartbeats 4000000 in
theorem c_X11_pieces (a0 : Nat) (a1 : Int32) (a2 : Int32) (μ : gm_M) : gm_Call ({ cls := "GumBubble", name := "pieces", desc := "(II)I" } : Jvm.MethodName) prog_1_method_14_code 7 (some .int) 5 0 0 [.ref a0, .int a1, .int a2] μ (f_X11_pieces a0 a1 a2 μ) := by
  refine gm_start PN_11 (Nat.le_of_ble_eq_true rfl) (fun res μe => ?_)
  unfold f_X11_pieces
  show gm_A "GumBubble" (gm_nm "pieces") _ _ _ _ _ _ _ _ _ 0 [(0, .ref a0), (1, .int a1), (2, .int a2)] [] _ _
  refine gm_aload_n d_X11_pieces_0 rfl 0 rfl ?_
  refine gm_iload_n d_X11_pieces_1 rfl 1 rfl ?_
  refine gm_grd (fun g2 => ?_)
  refine gm_callV (k0 := 11) [.int a1] (c_X11_isNobody a0 a1 μ) g2 rfl B_X11_isNobody gw_478 gs_11 rfl rfl rfl d_X11_pieces_2 (gm_kI (fun x2 m1 => ?_))
  refine gm_if_ne (tgt := 17) d_X11_pieces_5 (by decide) (fun h5 => ?_) (fun h5 => ?_)
  ·
    refine gm_iconst (v := -1) d_X11_pieces_17 (by decide) ?_
    exact gm_iret rfl d_X11_pieces_18 (Nat.le_of_ble_eq_true rfl) (Nat.le_of_ble_eq_true rfl) (fun h => h)
  ·
    refine gm_iload_n d_X11_pieces_8 rfl 2 rfl ?_
    refine gm_iconst (v := 0) d_X11_pieces_9 (by decide) ?_
    refine gm_iconst (v := 1) d_X11_pieces_10 (by decide) ?_
    refine gm_callS [.int a2, .int (0 : Int32), .int (1 : Int32)] (c_X11_isOutside a2 (0 : Int32) (1 : Int32) m1) B_X11_isOutside gw_296 rfl rfl rfl d_X11_pieces_11 (gm_kI (fun x4 m3 => ?_))
    refine gm_if_eq (tgt := 19) d_X11_pieces_14 (by decide) (fun h14 => ?_) (fun h14 => ?_)
    ·
      refine gm_iconst (v := -1) d_X11_pieces_19 (by decide) ?_
      refine gm_istore_n (L' := [(3, .int (-1 : Int32)), (0, .ref a0), (1, .int a1), (2, .int a2)]) d_X11_pieces_20 rfl (Nat.le_of_ble_eq_true rfl) rfl ?_
      refine gm_iconst (v := 0) d_X11_pieces_21 (by decide) ?_
      refine gm_istore (L' := [(4, .int (0 : Int32)), (3, .int (-1 : Int32)), (0, .ref a0), (1, .int a1), (2, .int a2)]) d_X11_pieces_22 (Nat.le_of_ble_eq_true rfl) rfl ?_
      refine gm_iconst (v := 0) d_X11_pieces_24 (by decide) ?_
      refine gm_istore (L' := [(5, .int (0 : Int32)), (4, .int (0 : Int32)), (3, .int (-1 : Int32)), (0, .ref a0), (1, .int a1), (2, .int a2)]) d_X11_pieces_25 (Nat.le_of_ble_eq_true rfl) rfl ?_
      refine gm_sub (L' := [(0, .ref a0), (1, .int a1), (2, .int a2), (3, .int (-1 : Int32)), (4, .int (0 : Int32)), (5, .int (0 : Int32))]) [3, 4, 5, 2, 1, 0] rfl ?_
      refine gm_lp (S := Int32 × Int32 × Int32 × gm_M) (fun _ => 0) (fun _ => 0) (fun s5 => s5.2.2.2) (fun s5 => [(0, .ref a0), (1, .int a1), (2, .int a2), (3, .int s5.1), (4, .int s5.2.1), (5, .int s5.2.2.1)]) (fun _ => []) (fun s5 => ?_) 5000 ((-1 : Int32), (0 : Int32), (0 : Int32), m3)
      refine gm_iload d_X11_pieces_27 5 rfl ?_
      refine gm_bipush (v := 6) d_X11_pieces_29 (by decide) ?_
      refine gm_icmp_gt (tgt := 113) d_X11_pieces_31 (by decide) (fun h31 => ?_) (fun h31 => ?_)
      ·
        refine gm_iload_n d_X11_pieces_113 rfl 2 rfl ?_
        refine gm_if_ne (tgt := 122) d_X11_pieces_114 (by decide) (fun h114 => ?_) (fun h114 => ?_)
        ·
          refine gm_iload_n d_X11_pieces_122 rfl 3 rfl ?_
          exact gm_iret rfl d_X11_pieces_123 (Nat.le_of_ble_eq_true rfl) (Nat.le_of_ble_eq_true rfl) (fun h => h)
        ·
          refine gm_iload d_X11_pieces_117 4 rfl ?_
          refine gm_goto (tgt := 123) d_X11_pieces_119 (by decide) ?_
          exact gm_iret rfl d_X11_pieces_123 (Nat.le_of_ble_eq_true rfl) (Nat.le_of_ble_eq_true rfl) (fun h => h)
      ·
        refine gm_aload_n d_X11_pieces_34 rfl 0 rfl ?_
        refine gm_getR F_11_trial gw_266 d_X11_pieces_35 (fun v6 _ => ?_)
        refine gm_aload_n d_X11_pieces_38 rfl 0 rfl ?_
        refine gm_getR F_11_now gw_262 d_X11_pieces_39 (fun v7 _ => ?_)
        refine gm_getR F_8_children gw_223 d_X11_pieces_42 (fun v8 _ => ?_)
        refine gm_iload_n d_X11_pieces_45 rfl 1 rfl ?_
        refine gm_aald (Or.inr rfl) d_X11_pieces_46 (fun v9 _ => ?_)
        refine gm_grd (fun g47 => ?_)
        refine gm_callV (k0 := 2) [.ref v9] (c_X2_copy v6 v9 s5.2.2.2) g47 rfl B_X2_copy gw_585 gw_587 rfl rfl rfl d_X11_pieces_47 (gm_kV (fun m10 => ?_))
        refine gm_aload_n d_X11_pieces_50 rfl 0 rfl ?_
        refine gm_getR F_11_trial gw_266 d_X11_pieces_51 (fun v12 _ => ?_)
        refine gm_iload d_X11_pieces_54 5 rfl ?_
        refine gm_putI F_2_pieces (Or.inl rfl) gw_185 d_X11_pieces_56 (fun m13 _ => ?_)
        refine gm_aload_n d_X11_pieces_59 rfl 0 rfl ?_
        refine gm_getR F_11_trial gw_266 d_X11_pieces_60 (fun v14 _ => ?_)
        refine gm_aload_n d_X11_pieces_63 rfl 0 rfl ?_
        refine gm_getR F_11_now gw_262 d_X11_pieces_64 (fun v15 _ => ?_)
        refine gm_getR F_8_afternoon gw_231 d_X11_pieces_67 (fun v16 _ => ?_)
        refine gm_getI F_0_sweet gw_129 d_X11_pieces_70 (fun v17 _ => ?_)
        refine gm_iload d_X11_pieces_73 5 rfl ?_
        refine gm_imul d_X11_pieces_75 ?_
        refine gm_putI F_2_sugar (Or.inl rfl) gw_188 d_X11_pieces_76 (fun m18 _ => ?_)
        refine gm_aload_n d_X11_pieces_79 rfl 0 rfl ?_
        refine gm_getR F_11_trial gw_266 d_X11_pieces_80 (fun v19 _ => ?_)
        refine gm_iconst (v := 0) d_X11_pieces_83 (by decide) ?_
        refine gm_putI F_2_bubble (Or.inl rfl) gw_193 d_X11_pieces_84 (fun m20 _ => ?_)
        refine gm_aload_n d_X11_pieces_87 rfl 0 rfl ?_
        refine gm_iconst (v := 1) d_X11_pieces_88 (by decide) ?_
        refine gm_grd (fun g89 => ?_)
        refine gm_callV (k0 := 11) [.int (1 : Int32)] (c_X11_trialWhen a0 (1 : Int32) m20) g89 rfl B_X11_trialWhen gw_627 gs_18 rfl rfl rfl d_X11_pieces_89 (gm_kI (fun x22 m21 => ?_))
        refine gm_istore (L' := [(6, .int x22), (0, .ref a0), (1, .int a1), (2, .int a2), (3, .int s5.1), (4, .int s5.2.1), (5, .int s5.2.2.1)]) d_X11_pieces_92 (Nat.le_of_ble_eq_true rfl) rfl ?_
        refine gm_iload d_X11_pieces_94 0 rfl ?_
        refine gm_iload_n d_X11_pieces_96 rfl 4 rfl ?_
        refine gm_join (S := Int32 × Int32) (pj := 107) (kj := 0) (nj := 0) (fun s23 => m21) (fun s23 => [(0, .ref a0), (1, .int a1), (2, .int a2), (3, .int s23.1), (4, .int s23.2), (5, .int s5.2.2.1), (6, .int x22)]) (fun s23 => []) (fun s23 => ?_) (fun j24 hj24 => ?_)
        ·
          refine gm_iinc (v := s5.2.2.1 + (1 : Int32)) (L' := [(5, .int (s5.2.2.1 + (1 : Int32))), (0, .ref a0), (1, .int a1), (2, .int a2), (3, .int s23.1), (4, .int s23.2), (6, .int x22)]) d_X11_pieces_107 5 rfl rfl (Nat.le_of_ble_eq_true rfl) rfl ?_
          refine gm_goto (tgt := 27) d_X11_pieces_110 (by decide) ?_
          refine gm_sub (L' := [(0, .ref a0), (1, .int a1), (2, .int a2), (3, .int s23.1), (4, .int s23.2), (5, .int (s5.2.2.1 + (1 : Int32)))]) [1, 2, 3, 4, 5, 0] rfl ?_
          exact gm_back (fun h => h)
        ·
          refine gm_icmp_le (tgt := 107) d_X11_pieces_97 (by decide) (fun h97 => ?_) (fun h97 => ?_)
          ·
            refine gm_sub (L' := [(0, .ref a0), (1, .int a1), (2, .int a2), (3, .int s5.1), (4, .int s5.2.1), (5, .int s5.2.2.1), (6, .int x22)]) [1, 2, 3, 4, 5, 6, 0] rfl ?_
            exact hj24 (s5.1, s5.2.1)
          ·
            refine gm_iload d_X11_pieces_100 0 rfl ?_
            refine gm_istore_n (L' := [(3, .int x22), (6, .int x22), (0, .ref a0), (1, .int a1), (2, .int a2), (4, .int s5.2.1), (5, .int s5.2.2.1)]) d_X11_pieces_102 rfl (Nat.le_of_ble_eq_true rfl) rfl ?_
            refine gm_iload d_X11_pieces_103 6 rfl ?_
            refine gm_istore (L' := [(4, .int s5.2.2.1), (3, .int x22), (6, .int x22), (0, .ref a0), (1, .int a1), (2, .int a2), (5, .int s5.2.2.1)]) d_X11_pieces_105 (Nat.le_of_ble_eq_true rfl) rfl ?_
            refine gm_sub (L' := [(0, .ref a0), (1, .int a1), (2, .int a2), (3, .int x22), (4, .int s5.2.2.1), (5, .int s5.2.2.1), (6, .int x22)]) [3, 4, 5, 1, 0, 6, 2] rfl ?_
            exact hj24 (x22, s5.2.2.1)
    ·
      refine gm_iconst (v := -1) d_X11_pieces_17 (by decide) ?_
      exact gm_iret rfl d_X11_pieces_18 (Nat.le_of_ble_eq_true rfl) (Nat.le_of_ble_eq_true rfl) (fun h => h)
theorem d_X11_plan_0 : decode prog_1_method_29_code 0 = .ok (.iload_n 1, 1) := ge_iload_n_1 (by decide +kernel)
theorem d_X11_plan_1 : decode prog_1_method_29_code 1 = .ok (.iconst (-1), 1) := ge_iconst_m1_ (by decide +kernel)
theorem d_X11_plan_2 : decode prog_1_method_29_code 2 = .ok (.if_icmp .ne 14, 3) := ge_if_icmp_ne (by decide +kernel)
theorem d_X11_plan_5 : decode prog_1_method_29_code 5 = .ok (.aload_n 0, 1) := ge_aload_n_0 (by decide +kernel)
theorem d_X11_plan_6 : decode prog_1_method_29_code 6 = .ok (.getfield 60, 3) := ge_getfield (by decide +kernel)
theorem d_X11_plan_9 : decode prog_1_method_29_code 9 = .ok (.getfield 250, 3) := ge_getfield (by decide +kernel)
theorem d_X11_plan_12 : decode prog_1_method_29_code 12 = .ok (.invokevirtual 236, 3) := ge_invokevirtual (by decide +kernel)
theorem d_X11_plan_15 : decode prog_1_method_29_code 15 = .ok (.ireturn, 1) := ge_ireturn (by decide +kernel)
theorem d_X11_plan_16 : decode prog_1_method_29_code 16 = .ok (.iload_n 1, 1) := ge_iload_n_1 (by decide +kernel)
theorem d_X11_plan_17 : decode prog_1_method_29_code 17 = .ok (.iconst 0, 1) := ge_iconst_0 (by decide +kernel)
theorem d_X11_plan_18 : decode prog_1_method_29_code 18 = .ok (.iconst 3, 1) := ge_iconst_3 (by decide +kernel)
theorem d_X11_plan_19 : decode prog_1_method_29_code 19 = .ok (.invokestatic 76, 3) := ge_invokestatic (by decide +kernel)
theorem d_X11_plan_22 : decode prog_1_method_29_code 22 = .ok (.ifCond .ne 15, 3) := ge_ifCond_ne (by decide +kernel)
theorem d_X11_plan_25 : decode prog_1_method_29_code 25 = .ok (.iload_n 1, 1) := ge_iload_n_1 (by decide +kernel)
theorem d_X11_plan_26 : decode prog_1_method_29_code 26 = .ok (.ifCond .eq 13, 3) := ge_ifCond_eq (by decide +kernel)
theorem d_X11_plan_29 : decode prog_1_method_29_code 29 = .ok (.aload_n 0, 1) := ge_aload_n_0 (by decide +kernel)
theorem d_X11_plan_30 : decode prog_1_method_29_code 30 = .ok (.iload_n 2, 1) := ge_iload_n_2 (by decide +kernel)
theorem d_X11_plan_31 : decode prog_1_method_29_code 31 = .ok (.invokevirtual 115, 3) := ge_invokevirtual (by decide +kernel)
theorem d_X11_plan_34 : decode prog_1_method_29_code 34 = .ok (.ifCond .eq 5, 3) := ge_ifCond_eq (by decide +kernel)
theorem d_X11_plan_37 : decode prog_1_method_29_code 37 = .ok (.iconst (-1), 1) := ge_iconst_m1_ (by decide +kernel)
theorem d_X11_plan_38 : decode prog_1_method_29_code 38 = .ok (.ireturn, 1) := ge_ireturn (by decide +kernel)
theorem d_X11_plan_39 : decode prog_1_method_29_code 39 = .ok (.aload_n 0, 1) := ge_aload_n_0 (by decide +kernel)
theorem d_X11_plan_40 : decode prog_1_method_29_code 40 = .ok (.getfield 60, 3) := ge_getfield (by decide +kernel)
theorem d_X11_plan_43 : decode prog_1_method_29_code 43 = .ok (.getfield 250, 3) := ge_getfield (by decide +kernel)
theorem d_X11_plan_46 : decode prog_1_method_29_code 46 = .ok (.invokevirtual 239, 3) := ge_invokevirtual (by decide +kernel)
theorem d_X11_plan_49 : decode prog_1_method_29_code 49 = .ok (.ifCond .eq 6, 3) := ge_ifCond_eq (by decide +kernel)
theorem d_X11_plan_52 : decode prog_1_method_29_code 52 = .ok (.bipush (-4), 2) := ge_bipush (by decide +kernel)
theorem d_X11_plan_54 : decode prog_1_method_29_code 54 = .ok (.ireturn, 1) := ge_ireturn (by decide +kernel)
theorem d_X11_plan_55 : decode prog_1_method_29_code 55 = .ok (.aload_n 0, 1) := ge_aload_n_0 (by decide +kernel)
theorem d_X11_plan_56 : decode prog_1_method_29_code 56 = .ok (.getfield 60, 3) := ge_getfield (by decide +kernel)
theorem d_X11_plan_59 : decode prog_1_method_29_code 59 = .ok (.getfield 250, 3) := ge_getfield (by decide +kernel)
theorem d_X11_plan_62 : decode prog_1_method_29_code 62 = .ok (.iload_n 1, 1) := ge_iload_n_1 (by decide +kernel)
theorem d_X11_plan_63 : decode prog_1_method_29_code 63 = .ok (.iload_n 2, 1) := ge_iload_n_2 (by decide +kernel)
theorem d_X11_plan_64 : decode prog_1_method_29_code 64 = .ok (.iconst 0, 1) := ge_iconst_0 (by decide +kernel)
theorem d_X11_plan_65 : decode prog_1_method_29_code 65 = .ok (.invokevirtual 243, 3) := ge_invokevirtual (by decide +kernel)
theorem d_X11_plan_68 : decode prog_1_method_29_code 68 = .ok (.ireturn, 1) := ge_ireturn (by decide +kernel)
def f_X11_plan (a0 : Nat) (a1 : Int32) (a2 : Int32) (μ : gm_M) : Option (Option Value × gm_M) := if a1 ≠ (-1 : Int32) then gm_bI (f_X11_isOutside a1 (0 : Int32) (3 : Int32) μ) (fun x2 m1 => if x2 ≠ 0 then some (some (.int (-1 : Int32)), m1) else gm_j (fun (s3 : gm_M) => gm_gR s3 [16] a0 1 (fun v5 => gm_gR s3 [13] v5 8 (fun v6 => if gm_tag s3 v6 = 12 then gm_bI (f_X7_isFull v6 s3) (fun x8 m7 => if x8 = 0 then gm_gR m7 [16] a0 1 (fun v9 => gm_gR m7 [13] v9 8 (fun v10 => if gm_tag m7 v10 = 12 then gm_bI (f_X7_add v10 a1 a2 (0 : Int32) m7) (fun x12 m11 => some (some (.int x12), m11)) else none)) else some (some (.int (-4 : Int32)), m7)) else none))) (fun j4 => if a1 = 0 then j4 m1 else if gm_tag m1 a0 = 16 then gm_bI (f_X11_isNobody a0 a2 m1) (fun x14 m13 => if x14 = 0 then j4 m13 else some (some (.int (-1 : Int32)), m13)) else none)) else gm_gR μ [16] a0 1 (fun v15 => gm_gR μ [13] v15 8 (fun v16 => if gm_tag μ v16 = 12 then gm_bI (f_X7_clear v16 μ) (fun x18 m17 => some (some (.int x18), m17)) else none))
set_option maxHeartbeats 4000000 in
theorem c_X11_plan (a0 : Nat) (a1 : Int32) (a2 : Int32) (μ : gm_M) : gm_Call ({ cls := "GumBubble", name := "plan", desc := "(II)I" } : Jvm.MethodName) prog_1_method_29_code 3 (some .int) 2 0 0 [.ref a0, .int a1, .int a2] μ (f_X11_plan a0 a1 a2 μ) := by
  refine gm_start PN_11 (Nat.le_of_ble_eq_true rfl) (fun res μe => ?_)
  unfold f_X11_plan
  show gm_A "GumBubble" (gm_nm "plan") _ _ _ _ _ _ _ _ _ 0 [(0, .ref a0), (1, .int a1), (2, .int a2)] [] _ _
  refine gm_iload_n d_X11_plan_0 rfl 1 rfl ?_
  refine gm_iconst (v := -1) d_X11_plan_1 (by decide) ?_
  refine gm_icmp_ne (tgt := 16) d_X11_plan_2 (by decide) (fun h2 => ?_) (fun h2 => ?_)
  ·
    refine gm_iload_n d_X11_plan_16 rfl 1 rfl ?_
    refine gm_iconst (v := 0) d_X11_plan_17 (by decide) ?_
    refine gm_iconst (v := 3) d_X11_plan_18 (by decide) ?_
    refine gm_callS [.int a1, .int (0 : Int32), .int (3 : Int32)] (c_X11_isOutside a1 (0 : Int32) (3 : Int32) μ) B_X11_isOutside gw_296 rfl rfl rfl d_X11_plan_19 (gm_kI (fun x2 m1 => ?_))
    refine gm_if_ne (tgt := 37) d_X11_plan_22 (by decide) (fun h22 => ?_) (fun h22 => ?_)
    ·
      refine gm_iconst (v := -1) d_X11_plan_37 (by decide) ?_
      exact gm_iret rfl d_X11_plan_38 (Nat.le_of_ble_eq_true rfl) (Nat.le_of_ble_eq_true rfl) (fun h => h)
    ·
      refine gm_iload_n d_X11_plan_25 rfl 1 rfl ?_
      refine gm_join (S := gm_M) (pj := 39) (kj := 0) (nj := 0) (fun s3 => s3) (fun s3 => [(0, .ref a0), (1, .int a1), (2, .int a2)]) (fun s3 => []) (fun s3 => ?_) (fun j4 hj4 => ?_)
      ·
        refine gm_aload_n d_X11_plan_39 rfl 0 rfl ?_
        refine gm_getR F_11_now gw_262 d_X11_plan_40 (fun v5 _ => ?_)
        refine gm_getR F_8_plan gw_235 d_X11_plan_43 (fun v6 _ => ?_)
        refine gm_grd (fun g46 => ?_)
        refine gm_callV (k0 := 7) [] (c_X7_isFull v6 s3) g46 rfl B_X7_isFull gw_714 gw_716 rfl rfl rfl d_X11_plan_46 (gm_kI (fun x8 m7 => ?_))
        refine gm_if_eq (tgt := 55) d_X11_plan_49 (by decide) (fun h49 => ?_) (fun h49 => ?_)
        ·
          refine gm_aload_n d_X11_plan_55 rfl 0 rfl ?_
          refine gm_getR F_11_now gw_262 d_X11_plan_56 (fun v9 _ => ?_)
          refine gm_getR F_8_plan gw_235 d_X11_plan_59 (fun v10 _ => ?_)
          refine gm_iload_n d_X11_plan_62 rfl 1 rfl ?_
          refine gm_iload_n d_X11_plan_63 rfl 2 rfl ?_
          refine gm_iconst (v := 0) d_X11_plan_64 (by decide) ?_
          refine gm_grd (fun g65 => ?_)
          refine gm_callV (k0 := 7) [.int a1, .int a2, .int (0 : Int32)] (c_X7_add v10 a1 a2 (0 : Int32) m7) g65 rfl B_X7_add gw_718 gw_720 rfl rfl rfl d_X11_plan_65 (gm_kI (fun x12 m11 => ?_))
          exact gm_iret rfl d_X11_plan_68 (Nat.le_of_ble_eq_true rfl) (Nat.le_of_ble_eq_true rfl) (fun h => h)
        ·
          refine gm_bipush (v := -4) d_X11_plan_52 (by decide) ?_
          exact gm_iret rfl d_X11_plan_54 (Nat.le_of_ble_eq_true rfl) (Nat.le_of_ble_eq_true rfl) (fun h => h)
      ·
        refine gm_if_eq (tgt := 39) d_X11_plan_26 (by decide) (fun h26 => ?_) (fun h26 => ?_)
        ·
          exact hj4 m1
        ·
          refine gm_aload_n d_X11_plan_29 rfl 0 rfl ?_
          refine gm_iload_n d_X11_plan_30 rfl 2 rfl ?_
          refine gm_grd (fun g31 => ?_)
          refine gm_callV (k0 := 11) [.int a2] (c_X11_isNobody a0 a2 m1) g31 rfl B_X11_isNobody gw_478 gs_11 rfl rfl rfl d_X11_plan_31 (gm_kI (fun x14 m13 => ?_))
          refine gm_if_eq (tgt := 39) d_X11_plan_34 (by decide) (fun h34 => ?_) (fun h34 => ?_)
          ·
            exact hj4 m13
          ·
            refine gm_iconst (v := -1) d_X11_plan_37 (by decide) ?_
            exact gm_iret rfl d_X11_plan_38 (Nat.le_of_ble_eq_true rfl) (Nat.le_of_ble_eq_true rfl) (fun h => h)
  ·
    refine gm_aload_n d_X11_plan_5 rfl 0 rfl ?_
    refine gm_getR F_11_now gw_262 d_X11_plan_6 (fun v15 _ => ?_)
    refine gm_getR F_8_plan gw_235 d_X11_plan_9 (fun v16 _ => ?_)
    refine gm_grd (fun g12 => ?_)
    refine gm_callV (k0 := 7) [] (c_X7_clear v16 μ) g12 rfl B_X7_clear gw_710 gw_712 rfl rfl rfl d_X11_plan_12 (gm_kI (fun x18 m17 => ?_))
    exact gm_iret rfl d_X11_plan_15 (Nat.le_of_ble_eq_true rfl) (Nat.le_of_ble_eq_true rfl) (fun h => h)
theorem d_X11_row_0 : decode prog_1_method_6_code 0 = .ok (.aload_n 0, 1) := ge_aload_n_0 (by decide +kernel)
theorem d_X11_row_1 : decode prog_1_method_6_code 1 = .ok (.iload_n 1, 1) := ge_iload_n_1 (by decide +kernel)
theorem d_X11_row_2 : decode prog_1_method_6_code 2 = .ok (.invokevirtual 115, 3) := ge_invokevirtual (by decide +kernel)
theorem d_X11_row_5 : decode prog_1_method_6_code 5 = .ok (.ifCond .ne 12, 3) := ge_ifCond_ne (by decide +kernel)
theorem d_X11_row_8 : decode prog_1_method_6_code 8 = .ok (.iload_n 2, 1) := ge_iload_n_2 (by decide +kernel)
theorem d_X11_row_9 : decode prog_1_method_6_code 9 = .ok (.iconst 0, 1) := ge_iconst_0 (by decide +kernel)
theorem d_X11_row_10 : decode prog_1_method_6_code 10 = .ok (.iconst 3, 1) := ge_iconst_3 (by decide +kernel)
theorem d_X11_row_11 : decode prog_1_method_6_code 11 = .ok (.invokestatic 76, 3) := ge_invokestatic (by decide +kernel)
theorem d_X11_row_14 : decode prog_1_method_6_code 14 = .ok (.ifCond .eq 5, 3) := ge_ifCond_eq (by decide +kernel)
theorem d_X11_row_17 : decode prog_1_method_6_code 17 = .ok (.iconst (-1), 1) := ge_iconst_m1_ (by decide +kernel)
theorem d_X11_row_18 : decode prog_1_method_6_code 18 = .ok (.ireturn, 1) := ge_ireturn (by decide +kernel)
theorem d_X11_row_19 : decode prog_1_method_6_code 19 = .ok (.iload_n 3, 1) := ge_iload_n_3 (by decide +kernel)
theorem d_X11_row_20 : decode prog_1_method_6_code 20 = .ok (.iconst 0, 1) := ge_iconst_0 (by decide +kernel)
theorem d_X11_row_21 : decode prog_1_method_6_code 21 = .ok (.bipush 9, 2) := ge_bipush (by decide +kernel)
theorem d_X11_row_23 : decode prog_1_method_6_code 23 = .ok (.invokestatic 76, 3) := ge_invokestatic (by decide +kernel)
theorem d_X11_row_26 : decode prog_1_method_6_code 26 = .ok (.ifCond .eq 6, 3) := ge_ifCond_eq (by decide +kernel)
theorem d_X11_row_29 : decode prog_1_method_6_code 29 = .ok (.bipush (-2), 2) := ge_bipush (by decide +kernel)
theorem d_X11_row_31 : decode prog_1_method_6_code 31 = .ok (.ireturn, 1) := ge_ireturn (by decide +kernel)
theorem d_X11_row_32 : decode prog_1_method_6_code 32 = .ok (.aload_n 0, 1) := ge_aload_n_0 (by decide +kernel)
theorem d_X11_row_33 : decode prog_1_method_6_code 33 = .ok (.getfield 60, 3) := ge_getfield (by decide +kernel)
theorem d_X11_row_36 : decode prog_1_method_6_code 36 = .ok (.getfield 104, 3) := ge_getfield (by decide +kernel)
theorem d_X11_row_39 : decode prog_1_method_6_code 39 = .ok (.iload_n 1, 1) := ge_iload_n_1 (by decide +kernel)
theorem d_X11_row_40 : decode prog_1_method_6_code 40 = .ok (.aaload, 1) := ge_aaload (by decide +kernel)
theorem d_X11_row_41 : decode prog_1_method_6_code 41 = .ok (.astore 4, 2) := ge_astore (by decide +kernel)
theorem d_X11_row_43 : decode prog_1_method_6_code 43 = .ok (.aload 4, 2) := ge_aload (by decide +kernel)
theorem d_X11_row_45 : decode prog_1_method_6_code 45 = .ok (.getfield 119, 3) := ge_getfield (by decide +kernel)
theorem d_X11_row_48 : decode prog_1_method_6_code 48 = .ok (.instanceof 52, 3) := ge_instanceof (by decide +kernel)
theorem d_X11_row_51 : decode prog_1_method_6_code 51 = .ok (.ifCond .ne 6, 3) := ge_ifCond_ne (by decide +kernel)
theorem d_X11_row_54 : decode prog_1_method_6_code 54 = .ok (.bipush (-3), 2) := ge_bipush (by decide +kernel)
theorem d_X11_row_56 : decode prog_1_method_6_code 56 = .ok (.ireturn, 1) := ge_ireturn (by decide +kernel)
theorem d_X11_row_57 : decode prog_1_method_6_code 57 = .ok (.aload 4, 2) := ge_aload (by decide +kernel)
theorem d_X11_row_59 : decode prog_1_method_6_code 59 = .ok (.getfield 162, 3) := ge_getfield (by decide +kernel)
theorem d_X11_row_62 : decode prog_1_method_6_code 62 = .ok (.iload_n 2, 1) := ge_iload_n_2 (by decide +kernel)
theorem d_X11_row_63 : decode prog_1_method_6_code 63 = .ok (.iaload, 1) := ge_iaload (by decide +kernel)
theorem d_X11_row_64 : decode prog_1_method_6_code 64 = .ok (.istore 5, 2) := ge_istore (by decide +kernel)
theorem d_X11_row_66 : decode prog_1_method_6_code 66 = .ok (.aload 4, 2) := ge_aload (by decide +kernel)
theorem d_X11_row_68 : decode prog_1_method_6_code 68 = .ok (.getfield 162, 3) := ge_getfield (by decide +kernel)
theorem d_X11_row_71 : decode prog_1_method_6_code 71 = .ok (.iload_n 2, 1) := ge_iload_n_2 (by decide +kernel)
theorem d_X11_row_72 : decode prog_1_method_6_code 72 = .ok (.iload_n 3, 1) := ge_iload_n_3 (by decide +kernel)
theorem d_X11_row_73 : decode prog_1_method_6_code 73 = .ok (.iastore, 1) := ge_iastore (by decide +kernel)
theorem d_X11_row_74 : decode prog_1_method_6_code 74 = .ok (.iload 5, 2) := ge_iload (by decide +kernel)
theorem d_X11_row_76 : decode prog_1_method_6_code 76 = .ok (.ireturn, 1) := ge_ireturn (by decide +kernel)
def f_X11_row (a0 : Nat) (a1 : Int32) (a2 : Int32) (a3 : Int32) (μ : gm_M) : Option (Option Value × gm_M) := if gm_tag μ a0 = 16 then gm_bI (f_X11_isNobody a0 a1 μ) (fun x2 m1 => if x2 ≠ 0 then some (some (.int (-1 : Int32)), m1) else gm_bI (f_X11_isOutside a2 (0 : Int32) (3 : Int32) m1) (fun x4 m3 => if x4 = 0 then gm_bI (f_X11_isOutside a3 (0 : Int32) (9 : Int32) m3) (fun x6 m5 => if x6 = 0 then gm_gR m5 [16] a0 1 (fun v7 => gm_gR m5 [13] v7 2 (fun v8 => gm_aR m5 4 v8 a1 (fun v9 => gm_gR m5 [7] v9 1 (fun v10 => gm_io m5 [15] [10, 6, 8, 9, 11, 14] v10 (fun v11 => if v11 ≠ 0 then gm_gR m5 [7] v9 8 (fun v12 => gm_aI m5 v12 a2 (fun v13 => gm_gR m5 [7] v9 8 (fun v14 => gm_sI m5 v14 a2 a3 (fun m15 => some (some (.int v13), m15))))) else some (some (.int (-3 : Int32)), m5)))))) else some (some (.int (-2 : Int32)), m5)) else some (some (.int (-1 : Int32)), m3))) else none
set_option maxHeartbeats 4000000 in
theorem c_X11_row (a0 : Nat) (a1 : Int32) (a2 : Int32) (a3 : Int32) (μ : gm_M) : gm_Call ({ cls := "GumBubble", name := "row", desc := "(III)I" } : Jvm.MethodName) prog_1_method_6_code 6 (some .int) 2 0 0 [.ref a0, .int a1, .int a2, .int a3] μ (f_X11_row a0 a1 a2 a3 μ) := by
  refine gm_start PN_11 (Nat.le_of_ble_eq_true rfl) (fun res μe => ?_)
  unfold f_X11_row
  show gm_A "GumBubble" (gm_nm "row") _ _ _ _ _ _ _ _ _ 0 [(0, .ref a0), (1, .int a1), (2, .int a2), (3, .int a3)] [] _ _
  refine gm_aload_n d_X11_row_0 rfl 0 rfl ?_
  refine gm_iload_n d_X11_row_1 rfl 1 rfl ?_
  refine gm_grd (fun g2 => ?_)
  refine gm_callV (k0 := 11) [.int a1] (c_X11_isNobody a0 a1 μ) g2 rfl B_X11_isNobody gw_478 gs_11 rfl rfl rfl d_X11_row_2 (gm_kI (fun x2 m1 => ?_))
  refine gm_if_ne (tgt := 17) d_X11_row_5 (by decide) (fun h5 => ?_) (fun h5 => ?_)
  ·
    refine gm_iconst (v := -1) d_X11_row_17 (by decide) ?_
    exact gm_iret rfl d_X11_row_18 (Nat.le_of_ble_eq_true rfl) (Nat.le_of_ble_eq_true rfl) (fun h => h)
  ·
    refine gm_iload_n d_X11_row_8 rfl 2 rfl ?_
    refine gm_iconst (v := 0) d_X11_row_9 (by decide) ?_
    refine gm_iconst (v := 3) d_X11_row_10 (by decide) ?_
    refine gm_callS [.int a2, .int (0 : Int32), .int (3 : Int32)] (c_X11_isOutside a2 (0 : Int32) (3 : Int32) m1) B_X11_isOutside gw_296 rfl rfl rfl d_X11_row_11 (gm_kI (fun x4 m3 => ?_))
    refine gm_if_eq (tgt := 19) d_X11_row_14 (by decide) (fun h14 => ?_) (fun h14 => ?_)
    ·
      refine gm_iload_n d_X11_row_19 rfl 3 rfl ?_
      refine gm_iconst (v := 0) d_X11_row_20 (by decide) ?_
      refine gm_bipush (v := 9) d_X11_row_21 (by decide) ?_
      refine gm_callS [.int a3, .int (0 : Int32), .int (9 : Int32)] (c_X11_isOutside a3 (0 : Int32) (9 : Int32) m3) B_X11_isOutside gw_296 rfl rfl rfl d_X11_row_23 (gm_kI (fun x6 m5 => ?_))
      refine gm_if_eq (tgt := 32) d_X11_row_26 (by decide) (fun h26 => ?_) (fun h26 => ?_)
      ·
        refine gm_aload_n d_X11_row_32 rfl 0 rfl ?_
        refine gm_getR F_11_now gw_262 d_X11_row_33 (fun v7 _ => ?_)
        refine gm_getR F_8_children gw_223 d_X11_row_36 (fun v8 _ => ?_)
        refine gm_iload_n d_X11_row_39 rfl 1 rfl ?_
        refine gm_aald (Or.inr rfl) d_X11_row_40 (fun v9 _ => ?_)
        refine gm_astore (L' := [(4, .ref v9), (0, .ref a0), (1, .int a1), (2, .int a2), (3, .int a3)]) d_X11_row_41 (Nat.le_of_ble_eq_true rfl) rfl ?_
        refine gm_aload d_X11_row_43 0 rfl ?_
        refine gm_getR F_2_kind gw_172 d_X11_row_45 (fun v10 _ => ?_)
        refine gm_inst IY_10 IN_10 gw_103 d_X11_row_48 (fun v11 => ?_)
        refine gm_if_ne (tgt := 57) d_X11_row_51 (by decide) (fun h51 => ?_) (fun h51 => ?_)
        ·
          refine gm_aload d_X11_row_57 0 rfl ?_
          refine gm_getR F_2_row gw_198 d_X11_row_59 (fun v12 _ => ?_)
          refine gm_iload_n d_X11_row_62 rfl 3 rfl ?_
          refine gm_iald d_X11_row_63 (fun v13 _ => ?_)
          refine gm_istore (L' := [(5, .int v13), (4, .ref v9), (0, .ref a0), (1, .int a1), (2, .int a2), (3, .int a3)]) d_X11_row_64 (Nat.le_of_ble_eq_true rfl) rfl ?_
          refine gm_aload d_X11_row_66 1 rfl ?_
          refine gm_getR F_2_row gw_198 d_X11_row_68 (fun v14 _ => ?_)
          refine gm_iload_n d_X11_row_71 rfl 4 rfl ?_
          refine gm_iload_n d_X11_row_72 rfl 5 rfl ?_
          refine gm_iast d_X11_row_73 (fun m15 _ => ?_)
          refine gm_iload d_X11_row_74 0 rfl ?_
          exact gm_iret rfl d_X11_row_76 (Nat.le_of_ble_eq_true rfl) (Nat.le_of_ble_eq_true rfl) (fun h => h)
        ·
          refine gm_bipush (v := -3) d_X11_row_54 (by decide) ?_
          exact gm_iret rfl d_X11_row_56 (Nat.le_of_ble_eq_true rfl) (Nat.le_of_ble_eq_true rfl) (fun h => h)
      ·
        refine gm_bipush (v := -2) d_X11_row_29 (by decide) ?_
        exact gm_iret rfl d_X11_row_31 (Nat.le_of_ble_eq_true rfl) (Nat.le_of_ble_eq_true rfl) (fun h => h)
    ·
      refine gm_iconst (v := -1) d_X11_row_17 (by decide) ?_
      exact gm_iret rfl d_X11_row_18 (Nat.le_of_ble_eq_true rfl) (Nat.le_of_ble_eq_true rfl) (fun h => h)
theorem d_X11_see_0 : decode prog_1_method_24_code 0 = .ok (.iload_n 1, 1) := ge_iload_n_1 (by decide +kernel)
theorem d_X11_see_1 : decode prog_1_method_24_code 1 = .ok (.iconst (-1), 1) := ge_iconst_m1_ (by decide +kernel)
theorem d_X11_see_2 : decode prog_1_method_24_code 2 = .ok (.if_icmp .ne 14, 3) := ge_if_icmp_ne (by decide +kernel)
theorem d_X11_see_5 : decode prog_1_method_24_code 5 = .ok (.aload_n 0, 1) := ge_aload_n_0 (by decide +kernel)
theorem d_X11_see_6 : decode prog_1_method_24_code 6 = .ok (.getfield 60, 3) := ge_getfield (by decide +kernel)
theorem d_X11_see_9 : decode prog_1_method_24_code 9 = .ok (.getfield 233, 3) := ge_getfield (by decide +kernel)
theorem d_X11_see_12 : decode prog_1_method_24_code 12 = .ok (.invokevirtual 236, 3) := ge_invokevirtual (by decide +kernel)
theorem d_X11_see_15 : decode prog_1_method_24_code 15 = .ok (.ireturn, 1) := ge_ireturn (by decide +kernel)
theorem d_X11_see_16 : decode prog_1_method_24_code 16 = .ok (.aload_n 0, 1) := ge_aload_n_0 (by decide +kernel)
theorem d_X11_see_17 : decode prog_1_method_24_code 17 = .ok (.iload_n 1, 1) := ge_iload_n_1 (by decide +kernel)
theorem d_X11_see_18 : decode prog_1_method_24_code 18 = .ok (.invokevirtual 115, 3) := ge_invokevirtual (by decide +kernel)
theorem d_X11_see_21 : decode prog_1_method_24_code 21 = .ok (.ifCond .eq 5, 3) := ge_ifCond_eq (by decide +kernel)
theorem d_X11_see_24 : decode prog_1_method_24_code 24 = .ok (.iconst (-1), 1) := ge_iconst_m1_ (by decide +kernel)
theorem d_X11_see_25 : decode prog_1_method_24_code 25 = .ok (.ireturn, 1) := ge_ireturn (by decide +kernel)
theorem d_X11_see_26 : decode prog_1_method_24_code 26 = .ok (.iload_n 2, 1) := ge_iload_n_2 (by decide +kernel)
theorem d_X11_see_27 : decode prog_1_method_24_code 27 = .ok (.iconst 0, 1) := ge_iconst_0 (by decide +kernel)
theorem d_X11_see_28 : decode prog_1_method_24_code 28 = .ok (.sipush 999, 3) := ge_sipush (by decide +kernel)
theorem d_X11_see_31 : decode prog_1_method_24_code 31 = .ok (.invokestatic 76, 3) := ge_invokestatic (by decide +kernel)
theorem d_X11_see_34 : decode prog_1_method_24_code 34 = .ok (.ifCond .ne 13, 3) := ge_ifCond_ne (by decide +kernel)
theorem d_X11_see_37 : decode prog_1_method_24_code 37 = .ok (.iload_n 3, 1) := ge_iload_n_3 (by decide +kernel)
theorem d_X11_see_38 : decode prog_1_method_24_code 38 = .ok (.iconst 0, 1) := ge_iconst_0 (by decide +kernel)
theorem d_X11_see_39 : decode prog_1_method_24_code 39 = .ok (.bipush 20, 2) := ge_bipush (by decide +kernel)
theorem d_X11_see_41 : decode prog_1_method_24_code 41 = .ok (.invokestatic 76, 3) := ge_invokestatic (by decide +kernel)
theorem d_X11_see_44 : decode prog_1_method_24_code 44 = .ok (.ifCond .eq 6, 3) := ge_ifCond_eq (by decide +kernel)
theorem d_X11_see_47 : decode prog_1_method_24_code 47 = .ok (.bipush (-2), 2) := ge_bipush (by decide +kernel)
theorem d_X11_see_49 : decode prog_1_method_24_code 49 = .ok (.ireturn, 1) := ge_ireturn (by decide +kernel)
theorem d_X11_see_50 : decode prog_1_method_24_code 50 = .ok (.aload_n 0, 1) := ge_aload_n_0 (by decide +kernel)
theorem d_X11_see_51 : decode prog_1_method_24_code 51 = .ok (.getfield 60, 3) := ge_getfield (by decide +kernel)
theorem d_X11_see_54 : decode prog_1_method_24_code 54 = .ok (.getfield 233, 3) := ge_getfield (by decide +kernel)
theorem d_X11_see_57 : decode prog_1_method_24_code 57 = .ok (.invokevirtual 239, 3) := ge_invokevirtual (by decide +kernel)
theorem d_X11_see_60 : decode prog_1_method_24_code 60 = .ok (.ifCond .eq 6, 3) := ge_ifCond_eq (by decide +kernel)
theorem d_X11_see_63 : decode prog_1_method_24_code 63 = .ok (.bipush (-4), 2) := ge_bipush (by decide +kernel)
theorem d_X11_see_65 : decode prog_1_method_24_code 65 = .ok (.ireturn, 1) := ge_ireturn (by decide +kernel)
theorem d_X11_see_66 : decode prog_1_method_24_code 66 = .ok (.aload_n 0, 1) := ge_aload_n_0 (by decide +kernel)
theorem d_X11_see_67 : decode prog_1_method_24_code 67 = .ok (.getfield 60, 3) := ge_getfield (by decide +kernel)
theorem d_X11_see_70 : decode prog_1_method_24_code 70 = .ok (.getfield 233, 3) := ge_getfield (by decide +kernel)
theorem d_X11_see_73 : decode prog_1_method_24_code 73 = .ok (.iload_n 1, 1) := ge_iload_n_1 (by decide +kernel)
theorem d_X11_see_74 : decode prog_1_method_24_code 74 = .ok (.iload_n 2, 1) := ge_iload_n_2 (by decide +kernel)
theorem d_X11_see_75 : decode prog_1_method_24_code 75 = .ok (.iload_n 3, 1) := ge_iload_n_3 (by decide +kernel)
theorem d_X11_see_76 : decode prog_1_method_24_code 76 = .ok (.invokevirtual 243, 3) := ge_invokevirtual (by decide +kernel)
theorem d_X11_see_79 : decode prog_1_method_24_code 79 = .ok (.ireturn, 1) := ge_ireturn (by decide +kernel)
def f_X11_see (a0 : Nat) (a1 : Int32) (a2 : Int32) (a3 : Int32) (μ : gm_M) : Option (Option Value × gm_M) := if a1 ≠ (-1 : Int32) then if gm_tag μ a0 = 16 then gm_bI (f_X11_isNobody a0 a1 μ) (fun x2 m1 => if x2 = 0 then gm_bI (f_X11_isOutside a2 (0 : Int32) (999 : Int32) m1) (fun x4 m3 => if x4 ≠ 0 then some (some (.int (-2 : Int32)), m3) else gm_bI (f_X11_isOutside a3 (0 : Int32) (20 : Int32) m3) (fun x6 m5 => if x6 = 0 then gm_gR m5 [16] a0 1 (fun v7 => gm_gR m5 [13] v7 7 (fun v8 => if gm_tag m5 v8 = 12 then gm_bI (f_X7_isFull v8 m5) (fun x10 m9 => if x10 = 0 then gm_gR m9 [16] a0 1 (fun v11 => gm_gR m9 [13] v11 7 (fun v12 => if gm_tag m9 v12 = 12 then gm_bI (f_X7_add v12 a1 a2 a3 m9) (fun x14 m13 => some (some (.int x14), m13)) else none)) else some (some (.int (-4 : Int32)), m9)) else none)) else some (some (.int (-2 : Int32)), m5))) else some (some (.int (-1 : Int32)), m1)) else none else gm_gR μ [16] a0 1 (fun v15 => gm_gR μ [13] v15 7 (fun v16 => if gm_tag μ v16 = 12 then gm_bI (f_X7_clear v16 μ) (fun x18 m17 => some (some (.int x18), m17)) else none))
set_option maxHeartbeats 4000000 in
theorem c_X11_see (a0 : Nat) (a1 : Int32) (a2 : Int32) (a3 : Int32) (μ : gm_M) : gm_Call ({ cls := "GumBubble", name := "see", desc := "(III)I" } : Jvm.MethodName) prog_1_method_24_code 4 (some .int) 2 0 0 [.ref a0, .int a1, .int a2, .int a3] μ (f_X11_see a0 a1 a2 a3 μ) := by
  refine gm_start PN_11 (Nat.le_of_ble_eq_true rfl) (fun res μe => ?_)
  unfold f_X11_see
  show gm_A "GumBubble" (gm_nm "see") _ _ _ _ _ _ _ _ _ 0 [(0, .ref a0), (1, .int a1), (2, .int a2), (3, .int a3)] [] _ _
  refine gm_iload_n d_X11_see_0 rfl 1 rfl ?_
  refine gm_iconst (v := -1) d_X11_see_1 (by decide) ?_
  refine gm_icmp_ne (tgt := 16) d_X11_see_2 (by decide) (fun h2 => ?_) (fun h2 => ?_)
  ·
    refine gm_aload_n d_X11_see_16 rfl 0 rfl ?_
    refine gm_iload_n d_X11_see_17 rfl 1 rfl ?_
    refine gm_grd (fun g18 => ?_)
    refine gm_callV (k0 := 11) [.int a1] (c_X11_isNobody a0 a1 μ) g18 rfl B_X11_isNobody gw_478 gs_11 rfl rfl rfl d_X11_see_18 (gm_kI (fun x2 m1 => ?_))
    refine gm_if_eq (tgt := 26) d_X11_see_21 (by decide) (fun h21 => ?_) (fun h21 => ?_)
    ·
      refine gm_iload_n d_X11_see_26 rfl 2 rfl ?_
      refine gm_iconst (v := 0) d_X11_see_27 (by decide) ?_
      refine gm_sipush (v := 999) d_X11_see_28 (by decide) ?_
      refine gm_callS [.int a2, .int (0 : Int32), .int (999 : Int32)] (c_X11_isOutside a2 (0 : Int32) (999 : Int32) m1) B_X11_isOutside gw_296 rfl rfl rfl d_X11_see_31 (gm_kI (fun x4 m3 => ?_))
      refine gm_if_ne (tgt := 47) d_X11_see_34 (by decide) (fun h34 => ?_) (fun h34 => ?_)
      ·
        refine gm_bipush (v := -2) d_X11_see_47 (by decide) ?_
        exact gm_iret rfl d_X11_see_49 (Nat.le_of_ble_eq_true rfl) (Nat.le_of_ble_eq_true rfl) (fun h => h)
      ·
        refine gm_iload_n d_X11_see_37 rfl 3 rfl ?_
        refine gm_iconst (v := 0) d_X11_see_38 (by decide) ?_
        refine gm_bipush (v := 20) d_X11_see_39 (by decide) ?_
        refine gm_callS [.int a3, .int (0 : Int32), .int (20 : Int32)] (c_X11_isOutside a3 (0 : Int32) (20 : Int32) m3) B_X11_isOutside gw_296 rfl rfl rfl d_X11_see_41 (gm_kI (fun x6 m5 => ?_))
        refine gm_if_eq (tgt := 50) d_X11_see_44 (by decide) (fun h44 => ?_) (fun h44 => ?_)
        ·
          refine gm_aload_n d_X11_see_50 rfl 0 rfl ?_
          refine gm_getR F_11_now gw_262 d_X11_see_51 (fun v7 _ => ?_)
          refine gm_getR F_8_seen gw_233 d_X11_see_54 (fun v8 _ => ?_)
          refine gm_grd (fun g57 => ?_)
          refine gm_callV (k0 := 7) [] (c_X7_isFull v8 m5) g57 rfl B_X7_isFull gw_714 gw_716 rfl rfl rfl d_X11_see_57 (gm_kI (fun x10 m9 => ?_))
          refine gm_if_eq (tgt := 66) d_X11_see_60 (by decide) (fun h60 => ?_) (fun h60 => ?_)
          ·
            refine gm_aload_n d_X11_see_66 rfl 0 rfl ?_
            refine gm_getR F_11_now gw_262 d_X11_see_67 (fun v11 _ => ?_)
            refine gm_getR F_8_seen gw_233 d_X11_see_70 (fun v12 _ => ?_)
            refine gm_iload_n d_X11_see_73 rfl 1 rfl ?_
            refine gm_iload_n d_X11_see_74 rfl 2 rfl ?_
            refine gm_iload_n d_X11_see_75 rfl 3 rfl ?_
            refine gm_grd (fun g76 => ?_)
            refine gm_callV (k0 := 7) [.int a1, .int a2, .int a3] (c_X7_add v12 a1 a2 a3 m9) g76 rfl B_X7_add gw_718 gw_720 rfl rfl rfl d_X11_see_76 (gm_kI (fun x14 m13 => ?_))
            exact gm_iret rfl d_X11_see_79 (Nat.le_of_ble_eq_true rfl) (Nat.le_of_ble_eq_true rfl) (fun h => h)
          ·
            refine gm_bipush (v := -4) d_X11_see_63 (by decide) ?_
            exact gm_iret rfl d_X11_see_65 (Nat.le_of_ble_eq_true rfl) (Nat.le_of_ble_eq_true rfl) (fun h => h)
        ·
          refine gm_bipush (v := -2) d_X11_see_47 (by decide) ?_
          exact gm_iret rfl d_X11_see_49 (Nat.le_of_ble_eq_true rfl) (Nat.le_of_ble_eq_true rfl) (fun h => h)
    ·
      refine gm_iconst (v := -1) d_X11_see_24 (by decide) ?_
      exact gm_iret rfl d_X11_see_25 (Nat.le_of_ble_eq_true rfl) (Nat.le_of_ble_eq_true rfl) (fun h => h)
  ·
    refine gm_aload_n d_X11_see_5 rfl 0 rfl ?_
    refine gm_getR F_11_now gw_262 d_X11_see_6 (fun v15 _ => ?_)
    refine gm_getR F_8_seen gw_233 d_X11_see_9 (fun v16 _ => ?_)
    refine gm_grd (fun g12 => ?_)
    refine gm_callV (k0 := 7) [] (c_X7_clear v16 μ) g12 rfl B_X7_clear gw_710 gw_712 rfl rfl rfl d_X11_see_12 (gm_kI (fun x18 m17 => ?_))
    exact gm_iret rfl d_X11_see_15 (Nat.le_of_ble_eq_true rfl) (Nat.le_of_ble_eq_true rfl) (fun h => h)
theorem d_X11_set_0 : decode prog_1_method_7_code 0 = .ok (.aload_n 0, 1) := ge_aload_n_0 (by decide +kernel)
theorem d_X11_set_1 : decode prog_1_method_7_code 1 = .ok (.iload_n 1, 1) := ge_iload_n_1 (by decide +kernel)
theorem d_X11_set_2 : decode prog_1_method_7_code 2 = .ok (.invokevirtual 115, 3) := ge_invokevirtual (by decide +kernel)
theorem d_X11_set_5 : decode prog_1_method_7_code 5 = .ok (.ifCond .ne 12, 3) := ge_ifCond_ne (by decide +kernel)
theorem d_X11_set_8 : decode prog_1_method_7_code 8 = .ok (.iload_n 2, 1) := ge_iload_n_2 (by decide +kernel)
theorem d_X11_set_9 : decode prog_1_method_7_code 9 = .ok (.iconst 0, 1) := ge_iconst_0 (by decide +kernel)
theorem d_X11_set_10 : decode prog_1_method_7_code 10 = .ok (.iconst 2, 1) := ge_iconst_2 (by decide +kernel)
theorem d_X11_set_11 : decode prog_1_method_7_code 11 = .ok (.invokestatic 76, 3) := ge_invokestatic (by decide +kernel)
theorem d_X11_set_14 : decode prog_1_method_7_code 14 = .ok (.ifCond .eq 5, 3) := ge_ifCond_eq (by decide +kernel)
theorem d_X11_set_17 : decode prog_1_method_7_code 17 = .ok (.iconst (-1), 1) := ge_iconst_m1_ (by decide +kernel)
theorem d_X11_set_18 : decode prog_1_method_7_code 18 = .ok (.ireturn, 1) := ge_ireturn (by decide +kernel)
theorem d_X11_set_19 : decode prog_1_method_7_code 19 = .ok (.aload_n 0, 1) := ge_aload_n_0 (by decide +kernel)
theorem d_X11_set_20 : decode prog_1_method_7_code 20 = .ok (.getfield 60, 3) := ge_getfield (by decide +kernel)
theorem d_X11_set_23 : decode prog_1_method_7_code 23 = .ok (.getfield 104, 3) := ge_getfield (by decide +kernel)
theorem d_X11_set_26 : decode prog_1_method_7_code 26 = .ok (.iload_n 1, 1) := ge_iload_n_1 (by decide +kernel)
theorem d_X11_set_27 : decode prog_1_method_7_code 27 = .ok (.aaload, 1) := ge_aaload (by decide +kernel)
theorem d_X11_set_28 : decode prog_1_method_7_code 28 = .ok (.astore 4, 2) := ge_astore (by decide +kernel)
theorem d_X11_set_30 : decode prog_1_method_7_code 30 = .ok (.iload_n 2, 1) := ge_iload_n_2 (by decide +kernel)
theorem d_X11_set_31 : decode prog_1_method_7_code 31 = .ok (.ifCond .ne 8, 3) := ge_ifCond_ne (by decide +kernel)
theorem d_X11_set_34 : decode prog_1_method_7_code 34 = .ok (.bipush 6, 2) := ge_bipush (by decide +kernel)
theorem d_X11_set_36 : decode prog_1_method_7_code 36 = .ok (.goto 16, 3) := ge_goto (by decide +kernel)
theorem d_X11_set_39 : decode prog_1_method_7_code 39 = .ok (.iload_n 2, 1) := ge_iload_n_2 (by decide +kernel)
theorem d_X11_set_40 : decode prog_1_method_7_code 40 = .ok (.iconst 1, 1) := ge_iconst_1 (by decide +kernel)
theorem d_X11_set_41 : decode prog_1_method_7_code 41 = .ok (.if_icmp .ne 9, 3) := ge_if_icmp_ne (by decide +kernel)
theorem d_X11_set_44 : decode prog_1_method_7_code 44 = .ok (.sipush 999, 3) := ge_sipush (by decide +kernel)
theorem d_X11_set_47 : decode prog_1_method_7_code 47 = .ok (.goto 5, 3) := ge_goto (by decide +kernel)
theorem d_X11_set_50 : decode prog_1_method_7_code 50 = .ok (.bipush 99, 2) := ge_bipush (by decide +kernel)
theorem d_X11_set_52 : decode prog_1_method_7_code 52 = .ok (.istore 5, 2) := ge_istore (by decide +kernel)
theorem d_X11_set_54 : decode prog_1_method_7_code 54 = .ok (.iload_n 3, 1) := ge_iload_n_3 (by decide +kernel)
theorem d_X11_set_55 : decode prog_1_method_7_code 55 = .ok (.iconst 0, 1) := ge_iconst_0 (by decide +kernel)
theorem d_X11_set_56 : decode prog_1_method_7_code 56 = .ok (.iload 5, 2) := ge_iload (by decide +kernel)
theorem d_X11_set_58 : decode prog_1_method_7_code 58 = .ok (.invokestatic 76, 3) := ge_invokestatic (by decide +kernel)
theorem d_X11_set_61 : decode prog_1_method_7_code 61 = .ok (.ifCond .eq 6, 3) := ge_ifCond_eq (by decide +kernel)
theorem d_X11_set_64 : decode prog_1_method_7_code 64 = .ok (.bipush (-2), 2) := ge_bipush (by decide +kernel)
theorem d_X11_set_66 : decode prog_1_method_7_code 66 = .ok (.ireturn, 1) := ge_ireturn (by decide +kernel)
theorem d_X11_set_67 : decode prog_1_method_7_code 67 = .ok (.iload_n 2, 1) := ge_iload_n_2 (by decide +kernel)
theorem d_X11_set_68 : decode prog_1_method_7_code 68 = .ok (.ifCond .ne 19, 3) := ge_ifCond_ne (by decide +kernel)
theorem d_X11_set_71 : decode prog_1_method_7_code 71 = .ok (.aload 4, 2) := ge_aload (by decide +kernel)
theorem d_X11_set_73 : decode prog_1_method_7_code 73 = .ok (.getfield 129, 3) := ge_getfield (by decide +kernel)
theorem d_X11_set_76 : decode prog_1_method_7_code 76 = .ok (.istore 6, 2) := ge_istore (by decide +kernel)
theorem d_X11_set_78 : decode prog_1_method_7_code 78 = .ok (.aload 4, 2) := ge_aload (by decide +kernel)
theorem d_X11_set_80 : decode prog_1_method_7_code 80 = .ok (.iload_n 3, 1) := ge_iload_n_3 (by decide +kernel)
theorem d_X11_set_81 : decode prog_1_method_7_code 81 = .ok (.putfield 129, 3) := ge_putfield (by decide +kernel)
theorem d_X11_set_84 : decode prog_1_method_7_code 84 = .ok (.goto 37, 3) := ge_goto (by decide +kernel)
theorem d_X11_set_87 : decode prog_1_method_7_code 87 = .ok (.iload_n 2, 1) := ge_iload_n_2 (by decide +kernel)
theorem d_X11_set_88 : decode prog_1_method_7_code 88 = .ok (.iconst 1, 1) := ge_iconst_1 (by decide +kernel)
theorem d_X11_set_89 : decode prog_1_method_7_code 89 = .ok (.if_icmp .ne 19, 3) := ge_if_icmp_ne (by decide +kernel)
theorem d_X11_set_92 : decode prog_1_method_7_code 92 = .ok (.aload 4, 2) := ge_aload (by decide +kernel)
theorem d_X11_set_94 : decode prog_1_method_7_code 94 = .ok (.getfield 132, 3) := ge_getfield (by decide +kernel)
theorem d_X11_set_97 : decode prog_1_method_7_code 97 = .ok (.istore 6, 2) := ge_istore (by decide +kernel)
theorem d_X11_set_99 : decode prog_1_method_7_code 99 = .ok (.aload 4, 2) := ge_aload (by decide +kernel)
theorem d_X11_set_101 : decode prog_1_method_7_code 101 = .ok (.iload_n 3, 1) := ge_iload_n_3 (by decide +kernel)
theorem d_X11_set_102 : decode prog_1_method_7_code 102 = .ok (.putfield 132, 3) := ge_putfield (by decide +kernel)
theorem d_X11_set_105 : decode prog_1_method_7_code 105 = .ok (.goto 16, 3) := ge_goto (by decide +kernel)
theorem d_X11_set_108 : decode prog_1_method_7_code 108 = .ok (.aload 4, 2) := ge_aload (by decide +kernel)
theorem d_X11_set_110 : decode prog_1_method_7_code 110 = .ok (.getfield 135, 3) := ge_getfield (by decide +kernel)
theorem d_X11_set_113 : decode prog_1_method_7_code 113 = .ok (.istore 6, 2) := ge_istore (by decide +kernel)
theorem d_X11_set_115 : decode prog_1_method_7_code 115 = .ok (.aload 4, 2) := ge_aload (by decide +kernel)
theorem d_X11_set_117 : decode prog_1_method_7_code 117 = .ok (.iload_n 3, 1) := ge_iload_n_3 (by decide +kernel)
theorem d_X11_set_118 : decode prog_1_method_7_code 118 = .ok (.putfield 135, 3) := ge_putfield (by decide +kernel)
theorem d_X11_set_121 : decode prog_1_method_7_code 121 = .ok (.iload 6, 2) := ge_iload (by decide +kernel)
theorem d_X11_set_123 : decode prog_1_method_7_code 123 = .ok (.ireturn, 1) := ge_ireturn (by decide +kernel)
def f_X11_set (a0 : Nat) (a1 : Int32) (a2 : Int32) (a3 : Int32) (μ : gm_M) : Option (Option Value × gm_M) := if gm_tag μ a0 = 16 then gm_bI (f_X11_isNobody a0 a1 μ) (fun x2 m1 => if x2 ≠ 0 then some (some (.int (-1 : Int32)), m1) else gm_bI (f_X11_isOutside a2 (0 : Int32) (2 : Int32) m1) (fun x4 m3 => if x4 = 0 then gm_gR m3 [16] a0 1 (fun v5 => gm_gR m3 [13] v5 2 (fun v6 => gm_aR m3 4 v6 a1 (fun v7 => gm_j (fun (s8 : Int32) => gm_bI (f_X11_isOutside a3 (0 : Int32) s8 m3) (fun x11 m10 => if x11 = 0 then if a2 ≠ 0 then if a2 ≠ (1 : Int32) then gm_gI m10 [7] v7 5 (fun v12 => gm_pI m10 [7] v7 5 a3 (fun m13 => some (some (.int v12), m13))) else gm_gI m10 [7] v7 4 (fun v14 => gm_pI m10 [7] v7 4 a3 (fun m15 => some (some (.int v14), m15))) else gm_gI m10 [7] v7 3 (fun v16 => gm_pI m10 [7] v7 3 a3 (fun m17 => some (some (.int v16), m17))) else some (some (.int (-2 : Int32)), m10))) (fun j9 => if a2 ≠ 0 then if a2 ≠ (1 : Int32) then j9 (99 : Int32) else j9 (999 : Int32) else j9 (6 : Int32))))) else some (some (.int (-1 : Int32)), m3))) else none
set_option maxHeartbeats 4000000 in
theorem c_X11_set (a0 : Nat) (a1 : Int32) (a2 : Int32) (a3 : Int32) (μ : gm_M) : gm_Call ({ cls := "GumBubble", name := "set", desc := "(III)I" } : Jvm.MethodName) prog_1_method_7_code 7 (some .int) 2 0 0 [.ref a0, .int a1, .int a2, .int a3] μ (f_X11_set a0 a1 a2 a3 μ) := by
  refine gm_start PN_11 (Nat.le_of_ble_eq_true rfl) (fun res μe => ?_)
  unfold f_X11_set
  show gm_A "GumBubble" (gm_nm "set") _ _ _ _ _ _ _ _ _ 0 [(0, .ref a0), (1, .int a1), (2, .int a2), (3, .int a3)] [] _ _
  refine gm_aload_n d_X11_set_0 rfl 0 rfl ?_
  refine gm_iload_n d_X11_set_1 rfl 1 rfl ?_
  refine gm_grd (fun g2 => ?_)
  refine gm_callV (k0 := 11) [.int a1] (c_X11_isNobody a0 a1 μ) g2 rfl B_X11_isNobody gw_478 gs_11 rfl rfl rfl d_X11_set_2 (gm_kI (fun x2 m1 => ?_))
  refine gm_if_ne (tgt := 17) d_X11_set_5 (by decide) (fun h5 => ?_) (fun h5 => ?_)
  ·
    refine gm_iconst (v := -1) d_X11_set_17 (by decide) ?_
    exact gm_iret rfl d_X11_set_18 (Nat.le_of_ble_eq_true rfl) (Nat.le_of_ble_eq_true rfl) (fun h => h)
  ·
    refine gm_iload_n d_X11_set_8 rfl 2 rfl ?_
    refine gm_iconst (v := 0) d_X11_set_9 (by decide) ?_
    refine gm_iconst (v := 2) d_X11_set_10 (by decide) ?_
    refine gm_callS [.int a2, .int (0 : Int32), .int (2 : Int32)] (c_X11_isOutside a2 (0 : Int32) (2 : Int32) m1) B_X11_isOutside gw_296 rfl rfl rfl d_X11_set_11 (gm_kI (fun x4 m3 => ?_))
    refine gm_if_eq (tgt := 19) d_X11_set_14 (by decide) (fun h14 => ?_) (fun h14 => ?_)
    ·
      refine gm_aload_n d_X11_set_19 rfl 0 rfl ?_
      refine gm_getR F_11_now gw_262 d_X11_set_20 (fun v5 _ => ?_)
      refine gm_getR F_8_children gw_223 d_X11_set_23 (fun v6 _ => ?_)
      refine gm_iload_n d_X11_set_26 rfl 1 rfl ?_
      refine gm_aald (Or.inr rfl) d_X11_set_27 (fun v7 _ => ?_)
      refine gm_astore (L' := [(4, .ref v7), (0, .ref a0), (1, .int a1), (2, .int a2), (3, .int a3)]) d_X11_set_28 (Nat.le_of_ble_eq_true rfl) rfl ?_
      refine gm_iload_n d_X11_set_30 rfl 3 rfl ?_
      refine gm_join (S := Int32) (pj := 52) (kj := 0) (nj := 0) (fun s8 => m3) (fun s8 => [(0, .ref a0), (1, .int a1), (2, .int a2), (3, .int a3), (4, .ref v7)]) (fun s8 => [.int s8]) (fun s8 => ?_) (fun j9 hj9 => ?_)
      ·
        refine gm_istore (L' := [(5, .int s8), (0, .ref a0), (1, .int a1), (2, .int a2), (3, .int a3), (4, .ref v7)]) d_X11_set_52 (Nat.le_of_ble_eq_true rfl) rfl ?_
        refine gm_iload_n d_X11_set_54 rfl 4 rfl ?_
        refine gm_iconst (v := 0) d_X11_set_55 (by decide) ?_
        refine gm_iload d_X11_set_56 0 rfl ?_
        refine gm_callS [.int a3, .int (0 : Int32), .int s8] (c_X11_isOutside a3 (0 : Int32) s8 m3) B_X11_isOutside gw_296 rfl rfl rfl d_X11_set_58 (gm_kI (fun x11 m10 => ?_))
        refine gm_if_eq (tgt := 67) d_X11_set_61 (by decide) (fun h61 => ?_) (fun h61 => ?_)
        ·
          refine gm_iload_n d_X11_set_67 rfl 3 rfl ?_
          refine gm_if_ne (tgt := 87) d_X11_set_68 (by decide) (fun h68 => ?_) (fun h68 => ?_)
          ·
            refine gm_iload_n d_X11_set_87 rfl 3 rfl ?_
            refine gm_iconst (v := 1) d_X11_set_88 (by decide) ?_
            refine gm_icmp_ne (tgt := 108) d_X11_set_89 (by decide) (fun h89 => ?_) (fun h89 => ?_)
            ·
              refine gm_aload d_X11_set_108 5 rfl ?_
              refine gm_getI F_2_jaw gw_191 d_X11_set_110 (fun v12 _ => ?_)
              refine gm_istore (L' := [(6, .int v12), (5, .int s8), (0, .ref a0), (1, .int a1), (2, .int a2), (3, .int a3), (4, .ref v7)]) d_X11_set_113 (Nat.le_of_ble_eq_true rfl) rfl ?_
              refine gm_aload d_X11_set_115 6 rfl ?_
              refine gm_iload_n d_X11_set_117 rfl 5 rfl ?_
              refine gm_putI F_2_jaw (Or.inl rfl) gw_191 d_X11_set_118 (fun m13 _ => ?_)
              refine gm_iload d_X11_set_121 0 rfl ?_
              exact gm_iret rfl d_X11_set_123 (Nat.le_of_ble_eq_true rfl) (Nat.le_of_ble_eq_true rfl) (fun h => h)
            ·
              refine gm_aload d_X11_set_92 5 rfl ?_
              refine gm_getI F_2_sugar gw_188 d_X11_set_94 (fun v14 _ => ?_)
              refine gm_istore (L' := [(6, .int v14), (5, .int s8), (0, .ref a0), (1, .int a1), (2, .int a2), (3, .int a3), (4, .ref v7)]) d_X11_set_97 (Nat.le_of_ble_eq_true rfl) rfl ?_
              refine gm_aload d_X11_set_99 6 rfl ?_
              refine gm_iload_n d_X11_set_101 rfl 5 rfl ?_
              refine gm_putI F_2_sugar (Or.inl rfl) gw_188 d_X11_set_102 (fun m15 _ => ?_)
              refine gm_goto (tgt := 121) d_X11_set_105 (by decide) ?_
              refine gm_iload d_X11_set_121 0 rfl ?_
              exact gm_iret rfl d_X11_set_123 (Nat.le_of_ble_eq_true rfl) (Nat.le_of_ble_eq_true rfl) (fun h => h)
          ·
            refine gm_aload d_X11_set_71 5 rfl ?_
            refine gm_getI F_2_pieces gw_185 d_X11_set_73 (fun v16 _ => ?_)
            refine gm_istore (L' := [(6, .int v16), (5, .int s8), (0, .ref a0), (1, .int a1), (2, .int a2), (3, .int a3), (4, .ref v7)]) d_X11_set_76 (Nat.le_of_ble_eq_true rfl) rfl ?_
            refine gm_aload d_X11_set_78 6 rfl ?_
            refine gm_iload_n d_X11_set_80 rfl 5 rfl ?_
            refine gm_putI F_2_pieces (Or.inl rfl) gw_185 d_X11_set_81 (fun m17 _ => ?_)
            refine gm_goto (tgt := 121) d_X11_set_84 (by decide) ?_
            refine gm_iload d_X11_set_121 0 rfl ?_
            exact gm_iret rfl d_X11_set_123 (Nat.le_of_ble_eq_true rfl) (Nat.le_of_ble_eq_true rfl) (fun h => h)
        ·
          refine gm_bipush (v := -2) d_X11_set_64 (by decide) ?_
          exact gm_iret rfl d_X11_set_66 (Nat.le_of_ble_eq_true rfl) (Nat.le_of_ble_eq_true rfl) (fun h => h)
      ·
        refine gm_if_ne (tgt := 39) d_X11_set_31 (by decide) (fun h31 => ?_) (fun h31 => ?_)
        ·
          refine gm_iload_n d_X11_set_39 rfl 3 rfl ?_
          refine gm_iconst (v := 1) d_X11_set_40 (by decide) ?_
          refine gm_icmp_ne (tgt := 50) d_X11_set_41 (by decide) (fun h41 => ?_) (fun h41 => ?_)
          ·
            refine gm_bipush (v := 99) d_X11_set_50 (by decide) ?_
            refine gm_sub (L' := [(0, .ref a0), (1, .int a1), (2, .int a2), (3, .int a3), (4, .ref v7)]) [1, 2, 3, 4, 0] rfl ?_
            exact hj9 (99 : Int32)
          ·
            refine gm_sipush (v := 999) d_X11_set_44 (by decide) ?_
            refine gm_goto (tgt := 52) d_X11_set_47 (by decide) ?_
            refine gm_sub (L' := [(0, .ref a0), (1, .int a1), (2, .int a2), (3, .int a3), (4, .ref v7)]) [1, 2, 3, 4, 0] rfl ?_
            exact hj9 (999 : Int32)
        ·
          refine gm_bipush (v := 6) d_X11_set_34 (by decide) ?_
          refine gm_goto (tgt := 52) d_X11_set_36 (by decide) ?_
          refine gm_sub (L' := [(0, .ref a0), (1, .int a1), (2, .int a2), (3, .int a3), (4, .ref v7)]) [1, 2, 3, 4, 0] rfl ?_
          exact hj9 (6 : Int32)
    ·
      refine gm_iconst (v := -1) d_X11_set_17 (by decide) ?_
      exact gm_iret rfl d_X11_set_18 (Nat.le_of_ble_eq_true rfl) (Nat.le_of_ble_eq_true rfl) (fun h => h)
theorem d_X11_slack_0 : decode prog_1_method_16_code 0 = .ok (.aload_n 0, 1) := ge_aload_n_0 (by decide +kernel)
theorem d_X11_slack_1 : decode prog_1_method_16_code 1 = .ok (.iload_n 1, 1) := ge_iload_n_1 (by decide +kernel)
theorem d_X11_slack_2 : decode prog_1_method_16_code 2 = .ok (.invokevirtual 115, 3) := ge_invokevirtual (by decide +kernel)
theorem d_X11_slack_5 : decode prog_1_method_16_code 5 = .ok (.ifCond .eq 7, 3) := ge_ifCond_eq (by decide +kernel)
theorem d_X11_slack_8 : decode prog_1_method_16_code 8 = .ok (.sipush (-10001), 3) := ge_sipush (by decide +kernel)
theorem d_X11_slack_11 : decode prog_1_method_16_code 11 = .ok (.ireturn, 1) := ge_ireturn (by decide +kernel)
theorem d_X11_slack_12 : decode prog_1_method_16_code 12 = .ok (.aload_n 0, 1) := ge_aload_n_0 (by decide +kernel)
theorem d_X11_slack_13 : decode prog_1_method_16_code 13 = .ok (.iload_n 1, 1) := ge_iload_n_1 (by decide +kernel)
theorem d_X11_slack_14 : decode prog_1_method_16_code 14 = .ok (.invokevirtual 158, 3) := ge_invokevirtual (by decide +kernel)
theorem d_X11_slack_17 : decode prog_1_method_16_code 17 = .ok (.aload_n 0, 1) := ge_aload_n_0 (by decide +kernel)
theorem d_X11_slack_18 : decode prog_1_method_16_code 18 = .ok (.getfield 60, 3) := ge_getfield (by decide +kernel)
theorem d_X11_slack_21 : decode prog_1_method_16_code 21 = .ok (.getfield 104, 3) := ge_getfield (by decide +kernel)
theorem d_X11_slack_24 : decode prog_1_method_16_code 24 = .ok (.iload_n 1, 1) := ge_iload_n_1 (by decide +kernel)
theorem d_X11_slack_25 : decode prog_1_method_16_code 25 = .ok (.aaload, 1) := ge_aaload (by decide +kernel)
theorem d_X11_slack_26 : decode prog_1_method_16_code 26 = .ok (.getfield 138, 3) := ge_getfield (by decide +kernel)
theorem d_X11_slack_29 : decode prog_1_method_16_code 29 = .ok (.isub, 1) := ge_isub (by decide +kernel)
theorem d_X11_slack_30 : decode prog_1_method_16_code 30 = .ok (.ireturn, 1) := ge_ireturn (by decide +kernel)
def f_X11_slack (a0 : Nat) (a1 : Int32) (μ : gm_M) : Option (Option Value × gm_M) := if gm_tag μ a0 = 16 then gm_bI (f_X11_isNobody a0 a1 μ) (fun x2 m1 => if x2 = 0 then if gm_tag m1 a0 = 16 then gm_bI (f_X11_holdsNow a0 a1 m1) (fun x4 m3 => gm_gR m3 [16] a0 1 (fun v5 => gm_gR m3 [13] v5 2 (fun v6 => gm_aR m3 4 v6 a1 (fun v7 => gm_gI m3 [7] v7 6 (fun v8 => some (some (.int (x4 - v8)), m3)))))) else none else some (some (.int (-10001 : Int32)), m1)) else none
set_option maxHeartbeats 4000000 in
theorem c_X11_slack (a0 : Nat) (a1 : Int32) (μ : gm_M) : gm_Call ({ cls := "GumBubble", name := "slack", desc := "(I)I" } : Jvm.MethodName) prog_1_method_16_code 2 (some .int) 5 0 0 [.ref a0, .int a1] μ (f_X11_slack a0 a1 μ) := by
  refine gm_start PN_11 (Nat.le_of_ble_eq_true rfl) (fun res μe => ?_)
  unfold f_X11_slack
  show gm_A "GumBubble" (gm_nm "slack") _ _ _ _ _ _ _ _ _ 0 [(0, .ref a0), (1, .int a1)] [] _ _
  refine gm_aload_n d_X11_slack_0 rfl 0 rfl ?_
  refine gm_iload_n d_X11_slack_1 rfl 1 rfl ?_
  refine gm_grd (fun g2 => ?_)
  refine gm_callV (k0 := 11) [.int a1] (c_X11_isNobody a0 a1 μ) g2 rfl B_X11_isNobody gw_478 gs_11 rfl rfl rfl d_X11_slack_2 (gm_kI (fun x2 m1 => ?_))
  refine gm_if_eq (tgt := 12) d_X11_slack_5 (by decide) (fun h5 => ?_) (fun h5 => ?_)
  ·
    refine gm_aload_n d_X11_slack_12 rfl 0 rfl ?_
    refine gm_iload_n d_X11_slack_13 rfl 1 rfl ?_
    refine gm_grd (fun g14 => ?_)
    refine gm_callV (k0 := 11) [.int a1] (c_X11_holdsNow a0 a1 m1) g14 rfl B_X11_holdsNow gw_541 gs_13 rfl rfl rfl d_X11_slack_14 (gm_kI (fun x4 m3 => ?_))
    refine gm_aload_n d_X11_slack_17 rfl 0 rfl ?_
    refine gm_getR F_11_now gw_262 d_X11_slack_18 (fun v5 _ => ?_)
    refine gm_getR F_8_children gw_223 d_X11_slack_21 (fun v6 _ => ?_)
    refine gm_iload_n d_X11_slack_24 rfl 1 rfl ?_
    refine gm_aald (Or.inr rfl) d_X11_slack_25 (fun v7 _ => ?_)
    refine gm_getI F_2_bubble gw_193 d_X11_slack_26 (fun v8 _ => ?_)
    refine gm_isub d_X11_slack_29 ?_
    exact gm_iret rfl d_X11_slack_30 (Nat.le_of_ble_eq_true rfl) (Nat.le_of_ble_eq_true rfl) (fun h => h)
  ·
    refine gm_sipush (v := -10001) d_X11_slack_8 (by decide) ?_
    exact gm_iret rfl d_X11_slack_11 (Nat.le_of_ble_eq_true rfl) (Nat.le_of_ble_eq_true rfl) (fun h => h)
theorem d_X11_soon_0 : decode prog_1_method_13_code 0 = .ok (.aload_n 0, 1) := ge_aload_n_0 (by decide +kernel)
theorem d_X11_soon_1 : decode prog_1_method_13_code 1 = .ok (.iload_n 1, 1) := ge_iload_n_1 (by decide +kernel)
theorem d_X11_soon_2 : decode prog_1_method_13_code 2 = .ok (.invokevirtual 115, 3) := ge_invokevirtual (by decide +kernel)
theorem d_X11_soon_5 : decode prog_1_method_13_code 5 = .ok (.ifCond .eq 5, 3) := ge_ifCond_eq (by decide +kernel)
theorem d_X11_soon_8 : decode prog_1_method_13_code 8 = .ok (.iconst (-1), 1) := ge_iconst_m1_ (by decide +kernel)
theorem d_X11_soon_9 : decode prog_1_method_13_code 9 = .ok (.ireturn, 1) := ge_ireturn (by decide +kernel)
theorem d_X11_soon_10 : decode prog_1_method_13_code 10 = .ok (.iload_n 2, 1) := ge_iload_n_2 (by decide +kernel)
theorem d_X11_soon_11 : decode prog_1_method_13_code 11 = .ok (.iconst 1, 1) := ge_iconst_1 (by decide +kernel)
theorem d_X11_soon_12 : decode prog_1_method_13_code 12 = .ok (.sipush 999, 3) := ge_sipush (by decide +kernel)
theorem d_X11_soon_15 : decode prog_1_method_13_code 15 = .ok (.invokestatic 76, 3) := ge_invokestatic (by decide +kernel)
theorem d_X11_soon_18 : decode prog_1_method_13_code 18 = .ok (.ifCond .eq 6, 3) := ge_ifCond_eq (by decide +kernel)
theorem d_X11_soon_21 : decode prog_1_method_13_code 21 = .ok (.bipush (-2), 2) := ge_bipush (by decide +kernel)
theorem d_X11_soon_23 : decode prog_1_method_13_code 23 = .ok (.ireturn, 1) := ge_ireturn (by decide +kernel)
theorem d_X11_soon_24 : decode prog_1_method_13_code 24 = .ok (.aload_n 0, 1) := ge_aload_n_0 (by decide +kernel)
theorem d_X11_soon_25 : decode prog_1_method_13_code 25 = .ok (.getfield 72, 3) := ge_getfield (by decide +kernel)
theorem d_X11_soon_28 : decode prog_1_method_13_code 28 = .ok (.aload_n 0, 1) := ge_aload_n_0 (by decide +kernel)
theorem d_X11_soon_29 : decode prog_1_method_13_code 29 = .ok (.getfield 60, 3) := ge_getfield (by decide +kernel)
theorem d_X11_soon_32 : decode prog_1_method_13_code 32 = .ok (.getfield 104, 3) := ge_getfield (by decide +kernel)
theorem d_X11_soon_35 : decode prog_1_method_13_code 35 = .ok (.iload_n 1, 1) := ge_iload_n_1 (by decide +kernel)
theorem d_X11_soon_36 : decode prog_1_method_13_code 36 = .ok (.aaload, 1) := ge_aaload (by decide +kernel)
theorem d_X11_soon_37 : decode prog_1_method_13_code 37 = .ok (.invokevirtual 186, 3) := ge_invokevirtual (by decide +kernel)
theorem d_X11_soon_40 : decode prog_1_method_13_code 40 = .ok (.iconst 0, 1) := ge_iconst_0 (by decide +kernel)
theorem d_X11_soon_41 : decode prog_1_method_13_code 41 = .ok (.istore_n 3, 1) := ge_istore_n_3 (by decide +kernel)
theorem d_X11_soon_42 : decode prog_1_method_13_code 42 = .ok (.iload_n 3, 1) := ge_iload_n_3 (by decide +kernel)
theorem d_X11_soon_43 : decode prog_1_method_13_code 43 = .ok (.bipush 60, 2) := ge_bipush (by decide +kernel)
theorem d_X11_soon_45 : decode prog_1_method_13_code 45 = .ok (.if_icmp .gt 54, 3) := ge_if_icmp_gt (by decide +kernel)
theorem d_X11_soon_48 : decode prog_1_method_13_code 48 = .ok (.aload_n 0, 1) := ge_aload_n_0 (by decide +kernel)
theorem d_X11_soon_49 : decode prog_1_method_13_code 49 = .ok (.getfield 72, 3) := ge_getfield (by decide +kernel)
theorem d_X11_soon_52 : decode prog_1_method_13_code 52 = .ok (.aload_n 0, 1) := ge_aload_n_0 (by decide +kernel)
theorem d_X11_soon_53 : decode prog_1_method_13_code 53 = .ok (.getfield 60, 3) := ge_getfield (by decide +kernel)
theorem d_X11_soon_56 : decode prog_1_method_13_code 56 = .ok (.getfield 97, 3) := ge_getfield (by decide +kernel)
theorem d_X11_soon_59 : decode prog_1_method_13_code 59 = .ok (.aload_n 0, 1) := ge_aload_n_0 (by decide +kernel)
theorem d_X11_soon_60 : decode prog_1_method_13_code 60 = .ok (.getfield 60, 3) := ge_getfield (by decide +kernel)
theorem d_X11_soon_63 : decode prog_1_method_13_code 63 = .ok (.getfield 144, 3) := ge_getfield (by decide +kernel)
theorem d_X11_soon_66 : decode prog_1_method_13_code 66 = .ok (.iload_n 3, 1) := ge_iload_n_3 (by decide +kernel)
theorem d_X11_soon_67 : decode prog_1_method_13_code 67 = .ok (.iadd, 1) := ge_iadd (by decide +kernel)
theorem d_X11_soon_68 : decode prog_1_method_13_code 68 = .ok (.invokevirtual 193, 3) := ge_invokevirtual (by decide +kernel)
theorem d_X11_soon_71 : decode prog_1_method_13_code 71 = .ok (.iload_n 2, 1) := ge_iload_n_2 (by decide +kernel)
theorem d_X11_soon_72 : decode prog_1_method_13_code 72 = .ok (.if_icmp .lt 5, 3) := ge_if_icmp_lt (by decide +kernel)
theorem d_X11_soon_75 : decode prog_1_method_13_code 75 = .ok (.iload_n 3, 1) := ge_iload_n_3 (by decide +kernel)
theorem d_X11_soon_76 : decode prog_1_method_13_code 76 = .ok (.ireturn, 1) := ge_ireturn (by decide +kernel)
theorem d_X11_soon_77 : decode prog_1_method_13_code 77 = .ok (.aload_n 0, 1) := ge_aload_n_0 (by decide +kernel)
theorem d_X11_soon_78 : decode prog_1_method_13_code 78 = .ok (.getfield 72, 3) := ge_getfield (by decide +kernel)
theorem d_X11_soon_81 : decode prog_1_method_13_code 81 = .ok (.aload_n 0, 1) := ge_aload_n_0 (by decide +kernel)
theorem d_X11_soon_82 : decode prog_1_method_13_code 82 = .ok (.getfield 60, 3) := ge_getfield (by decide +kernel)
theorem d_X11_soon_85 : decode prog_1_method_13_code 85 = .ok (.getfield 144, 3) := ge_getfield (by decide +kernel)
theorem d_X11_soon_88 : decode prog_1_method_13_code 88 = .ok (.iload_n 3, 1) := ge_iload_n_3 (by decide +kernel)
theorem d_X11_soon_89 : decode prog_1_method_13_code 89 = .ok (.iadd, 1) := ge_iadd (by decide +kernel)
theorem d_X11_soon_90 : decode prog_1_method_13_code 90 = .ok (.invokevirtual 179, 3) := ge_invokevirtual (by decide +kernel)
theorem d_X11_soon_93 : decode prog_1_method_13_code 93 = .ok (.iinc 3 1, 3) := ge_iinc (by decide +kernel)
theorem d_X11_soon_96 : decode prog_1_method_13_code 96 = .ok (.goto (-54), 3) := ge_goto (by decide +kernel)
theorem d_X11_soon_99 : decode prog_1_method_13_code 99 = .ok (.bipush (-5), 2) := ge_bipush (by decide +kernel)
theorem d_X11_soon_101 : decode prog_1_method_13_code 101 = .ok (.ireturn, 1) := ge_ireturn (by decide +kernel)
def f_X11_soon (a0 : Nat) (a1 : Int32) (a2 : Int32) (μ : gm_M) : Option (Option Value × gm_M) := if gm_tag μ a0 = 16 then gm_bI (f_X11_isNobody a0 a1 μ) (fun x2 m1 => if x2 = 0 then gm_bI (f_X11_isOutside a2 (1 : Int32) (999 : Int32) m1) (fun x4 m3 => if x4 = 0 then gm_gR m3 [16] a0 5 (fun v5 => gm_gR m3 [16] a0 1 (fun v6 => gm_gR m3 [13] v6 2 (fun v7 => gm_aR m3 4 v7 a1 (fun v8 => if gm_tag m3 v5 = 7 then gm_bV (f_X2_copy v5 v8 m3) (fun m9 => gm_loop (fun (s11 : Int32 × gm_M) => if (60 : Int32) < s11.1 then some (Sum.inr (some (.int (-5 : Int32)), s11.2)) else gm_gR s11.2 [16] a0 5 (fun v12 => gm_gR s11.2 [16] a0 1 (fun v13 => gm_gR s11.2 [13] v13 6 (fun v14 => gm_gR s11.2 [16] a0 1 (fun v15 => gm_gI s11.2 [13] v15 0 (fun v16 => if gm_tag s11.2 v12 = 7 then gm_bI (f_X2_holds v12 v14 (v16 + s11.1) s11.2) (fun x18 m17 => if x18 < a2 then gm_gR m17 [16] a0 5 (fun v19 => gm_gR m17 [16] a0 1 (fun v20 => gm_gI m17 [13] v20 0 (fun v21 => if gm_tag m17 v19 = 7 then gm_bV (f_X2_passMinute v19 (v21 + s11.1) m17) (fun m22 => some (Sum.inl ((s11.1 + (1 : Int32)), m22))) else none))) else some (Sum.inr (some (.int s11.1), m17))) else none)))))) 5000 ((0 : Int32), m9)) else none)))) else some (some (.int (-2 : Int32)), m3)) else some (some (.int (-1 : Int32)), m1)) else none
set_option maxHeartbeats 4000000 in
theorem c_X11_soon (a0 : Nat) (a1 : Int32) (a2 : Int32) (μ : gm_M) : gm_Call ({ cls := "GumBubble", name := "soon", desc := "(II)I" } : Jvm.MethodName) prog_1_method_13_code 4 (some .int) 4 0 0 [.ref a0, .int a1, .int a2] μ (f_X11_soon a0 a1 a2 μ) := by
  refine gm_start PN_11 (Nat.le_of_ble_eq_true rfl) (fun res μe => ?_)
  unfold f_X11_soon
  show gm_A "GumBubble" (gm_nm "soon") _ _ _ _ _ _ _ _ _ 0 [(0, .ref a0), (1, .int a1), (2, .int a2)] [] _ _
  refine gm_aload_n d_X11_soon_0 rfl 0 rfl ?_
  refine gm_iload_n d_X11_soon_1 rfl 1 rfl ?_
  refine gm_grd (fun g2 => ?_)
  refine gm_callV (k0 := 11) [.int a1] (c_X11_isNobody a0 a1 μ) g2 rfl B_X11_isNobody gw_478 gs_11 rfl rfl rfl d_X11_soon_2 (gm_kI (fun x2 m1 => ?_))
  refine gm_if_eq (tgt := 10) d_X11_soon_5 (by decide) (fun h5 => ?_) (fun h5 => ?_)
  ·
    refine gm_iload_n d_X11_soon_10 rfl 2 rfl ?_
    refine gm_iconst (v := 1) d_X11_soon_11 (by decide) ?_
    refine gm_sipush (v := 999) d_X11_soon_12 (by decide) ?_
    refine gm_callS [.int a2, .int (1 : Int32), .int (999 : Int32)] (c_X11_isOutside a2 (1 : Int32) (999 : Int32) m1) B_X11_isOutside gw_296 rfl rfl rfl d_X11_soon_15 (gm_kI (fun x4 m3 => ?_))
    refine gm_if_eq (tgt := 24) d_X11_soon_18 (by decide) (fun h18 => ?_) (fun h18 => ?_)
    ·
      refine gm_aload_n d_X11_soon_24 rfl 0 rfl ?_
      refine gm_getR F_11_trial gw_266 d_X11_soon_25 (fun v5 _ => ?_)
      refine gm_aload_n d_X11_soon_28 rfl 0 rfl ?_
      refine gm_getR F_11_now gw_262 d_X11_soon_29 (fun v6 _ => ?_)
      refine gm_getR F_8_children gw_223 d_X11_soon_32 (fun v7 _ => ?_)
      refine gm_iload_n d_X11_soon_35 rfl 1 rfl ?_
      refine gm_aald (Or.inr rfl) d_X11_soon_36 (fun v8 _ => ?_)
      refine gm_grd (fun g37 => ?_)
      refine gm_callV (k0 := 2) [.ref v8] (c_X2_copy v5 v8 m3) g37 rfl B_X2_copy gw_585 gw_587 rfl rfl rfl d_X11_soon_37 (gm_kV (fun m9 => ?_))
      refine gm_iconst (v := 0) d_X11_soon_40 (by decide) ?_
      refine gm_istore_n (L' := [(3, .int (0 : Int32)), (0, .ref a0), (1, .int a1), (2, .int a2)]) d_X11_soon_41 rfl (Nat.le_of_ble_eq_true rfl) rfl ?_
      refine gm_sub (L' := [(0, .ref a0), (1, .int a1), (2, .int a2), (3, .int (0 : Int32))]) [1, 2, 3, 0] rfl ?_
      refine gm_lp (S := Int32 × gm_M) (fun _ => 0) (fun _ => 0) (fun s11 => s11.2) (fun s11 => [(0, .ref a0), (1, .int a1), (2, .int a2), (3, .int s11.1)]) (fun _ => []) (fun s11 => ?_) 5000 ((0 : Int32), m9)
      refine gm_iload_n d_X11_soon_42 rfl 3 rfl ?_
      refine gm_bipush (v := 60) d_X11_soon_43 (by decide) ?_
      refine gm_icmp_gt (tgt := 99) d_X11_soon_45 (by decide) (fun h45 => ?_) (fun h45 => ?_)
      ·
        refine gm_bipush (v := -5) d_X11_soon_99 (by decide) ?_
        exact gm_iret rfl d_X11_soon_101 (Nat.le_of_ble_eq_true rfl) (Nat.le_of_ble_eq_true rfl) (fun h => h)
      ·
        refine gm_aload_n d_X11_soon_48 rfl 0 rfl ?_
        refine gm_getR F_11_trial gw_266 d_X11_soon_49 (fun v12 _ => ?_)
        refine gm_aload_n d_X11_soon_52 rfl 0 rfl ?_
        refine gm_getR F_11_now gw_262 d_X11_soon_53 (fun v13 _ => ?_)
        refine gm_getR F_8_afternoon gw_231 d_X11_soon_56 (fun v14 _ => ?_)
        refine gm_aload_n d_X11_soon_59 rfl 0 rfl ?_
        refine gm_getR F_11_now gw_262 d_X11_soon_60 (fun v15 _ => ?_)
        refine gm_getI F_8_minute gw_219 d_X11_soon_63 (fun v16 _ => ?_)
        refine gm_iload_n d_X11_soon_66 rfl 3 rfl ?_
        refine gm_iadd d_X11_soon_67 ?_
        refine gm_grd (fun g68 => ?_)
        refine gm_callV (k0 := 2) [.ref v14, .int (v16 + s11.1)] (c_X2_holds v12 v14 (v16 + s11.1) s11.2) g68 rfl B_X2_holds gw_545 gw_547 rfl rfl rfl d_X11_soon_68 (gm_kI (fun x18 m17 => ?_))
        refine gm_iload_n d_X11_soon_71 rfl 2 rfl ?_
        refine gm_icmp_lt (tgt := 77) d_X11_soon_72 (by decide) (fun h72 => ?_) (fun h72 => ?_)
        ·
          refine gm_aload_n d_X11_soon_77 rfl 0 rfl ?_
          refine gm_getR F_11_trial gw_266 d_X11_soon_78 (fun v19 _ => ?_)
          refine gm_aload_n d_X11_soon_81 rfl 0 rfl ?_
          refine gm_getR F_11_now gw_262 d_X11_soon_82 (fun v20 _ => ?_)
          refine gm_getI F_8_minute gw_219 d_X11_soon_85 (fun v21 _ => ?_)
          refine gm_iload_n d_X11_soon_88 rfl 3 rfl ?_
          refine gm_iadd d_X11_soon_89 ?_
          refine gm_grd (fun g90 => ?_)
          refine gm_callV (k0 := 2) [.int (v21 + s11.1)] (c_X2_passMinute v19 (v21 + s11.1) m17) g90 rfl B_X2_passMinute gw_596 gw_598 rfl rfl rfl d_X11_soon_90 (gm_kV (fun m22 => ?_))
          refine gm_iinc (v := s11.1 + (1 : Int32)) (L' := [(3, .int (s11.1 + (1 : Int32))), (0, .ref a0), (1, .int a1), (2, .int a2)]) d_X11_soon_93 3 rfl rfl (Nat.le_of_ble_eq_true rfl) rfl ?_
          refine gm_goto (tgt := 42) d_X11_soon_96 (by decide) ?_
          refine gm_sub (L' := [(0, .ref a0), (1, .int a1), (2, .int a2), (3, .int (s11.1 + (1 : Int32)))]) [1, 2, 3, 0] rfl ?_
          exact gm_back (fun h => h)
        ·
          refine gm_iload_n d_X11_soon_75 rfl 3 rfl ?_
          exact gm_iret rfl d_X11_soon_76 (Nat.le_of_ble_eq_true rfl) (Nat.le_of_ble_eq_true rfl) (fun h => h)
    ·
      refine gm_bipush (v := -2) d_X11_soon_21 (by decide) ?_
      exact gm_iret rfl d_X11_soon_23 (Nat.le_of_ble_eq_true rfl) (Nat.le_of_ble_eq_true rfl) (fun h => h)
  ·
    refine gm_iconst (v := -1) d_X11_soon_8 (by decide) ?_
    exact gm_iret rfl d_X11_soon_9 (Nat.le_of_ble_eq_true rfl) (Nat.le_of_ble_eq_true rfl) (fun h => h)
theorem d_X11_swap_0 : decode prog_1_method_21_code 0 = .ok (.iconst 0, 1) := ge_iconst_0 (by decide +kernel)
theorem d_X11_swap_1 : decode prog_1_method_21_code 1 = .ok (.istore_n 1, 1) := ge_istore_n_1 (by decide +kernel)
theorem d_X11_swap_2 : decode prog_1_method_21_code 2 = .ok (.bipush (-5), 2) := ge_bipush (by decide +kernel)
theorem d_X11_swap_4 : decode prog_1_method_21_code 4 = .ok (.istore_n 2, 1) := ge_istore_n_2 (by decide +kernel)
theorem d_X11_swap_5 : decode prog_1_method_21_code 5 = .ok (.iconst 0, 1) := ge_iconst_0 (by decide +kernel)
theorem d_X11_swap_6 : decode prog_1_method_21_code 6 = .ok (.istore_n 3, 1) := ge_istore_n_3 (by decide +kernel)
theorem d_X11_swap_7 : decode prog_1_method_21_code 7 = .ok (.iload_n 3, 1) := ge_iload_n_3 (by decide +kernel)
theorem d_X11_swap_8 : decode prog_1_method_21_code 8 = .ok (.aload_n 0, 1) := ge_aload_n_0 (by decide +kernel)
theorem d_X11_swap_9 : decode prog_1_method_21_code 9 = .ok (.getfield 60, 3) := ge_getfield (by decide +kernel)
theorem d_X11_swap_12 : decode prog_1_method_21_code 12 = .ok (.getfield 101, 3) := ge_getfield (by decide +kernel)
theorem d_X11_swap_15 : decode prog_1_method_21_code 15 = .ok (.if_icmp .ge 79, 3) := ge_if_icmp_ge (by decide +kernel)
theorem d_X11_swap_18 : decode prog_1_method_21_code 18 = .ok (.iload_n 3, 1) := ge_iload_n_3 (by decide +kernel)
theorem d_X11_swap_19 : decode prog_1_method_21_code 19 = .ok (.iconst 1, 1) := ge_iconst_1 (by decide +kernel)
theorem d_X11_swap_20 : decode prog_1_method_21_code 20 = .ok (.iadd, 1) := ge_iadd (by decide +kernel)
theorem d_X11_swap_21 : decode prog_1_method_21_code 21 = .ok (.istore 4, 2) := ge_istore (by decide +kernel)
theorem d_X11_swap_23 : decode prog_1_method_21_code 23 = .ok (.iload 4, 2) := ge_iload (by decide +kernel)
theorem d_X11_swap_25 : decode prog_1_method_21_code 25 = .ok (.aload_n 0, 1) := ge_aload_n_0 (by decide +kernel)
theorem d_X11_swap_26 : decode prog_1_method_21_code 26 = .ok (.getfield 60, 3) := ge_getfield (by decide +kernel)
theorem d_X11_swap_29 : decode prog_1_method_21_code 29 = .ok (.getfield 101, 3) := ge_getfield (by decide +kernel)
theorem d_X11_swap_32 : decode prog_1_method_21_code 32 = .ok (.if_icmp .ge 56, 3) := ge_if_icmp_ge (by decide +kernel)
theorem d_X11_swap_35 : decode prog_1_method_21_code 35 = .ok (.aload_n 0, 1) := ge_aload_n_0 (by decide +kernel)
theorem d_X11_swap_36 : decode prog_1_method_21_code 36 = .ok (.iload_n 3, 1) := ge_iload_n_3 (by decide +kernel)
theorem d_X11_swap_37 : decode prog_1_method_21_code 37 = .ok (.iload 4, 2) := ge_iload (by decide +kernel)
theorem d_X11_swap_39 : decode prog_1_method_21_code 39 = .ok (.invokevirtual 220, 3) := ge_invokevirtual (by decide +kernel)
theorem d_X11_swap_42 : decode prog_1_method_21_code 42 = .ok (.aload_n 0, 1) := ge_aload_n_0 (by decide +kernel)
theorem d_X11_swap_43 : decode prog_1_method_21_code 43 = .ok (.iload 4, 2) := ge_iload (by decide +kernel)
theorem d_X11_swap_45 : decode prog_1_method_21_code 45 = .ok (.iload_n 3, 1) := ge_iload_n_3 (by decide +kernel)
theorem d_X11_swap_46 : decode prog_1_method_21_code 46 = .ok (.invokevirtual 220, 3) := ge_invokevirtual (by decide +kernel)
theorem d_X11_swap_49 : decode prog_1_method_21_code 49 = .ok (.iadd, 1) := ge_iadd (by decide +kernel)
theorem d_X11_swap_50 : decode prog_1_method_21_code 50 = .ok (.aload_n 0, 1) := ge_aload_n_0 (by decide +kernel)
theorem d_X11_swap_51 : decode prog_1_method_21_code 51 = .ok (.iload_n 3, 1) := ge_iload_n_3 (by decide +kernel)
theorem d_X11_swap_52 : decode prog_1_method_21_code 52 = .ok (.invokevirtual 158, 3) := ge_invokevirtual (by decide +kernel)
theorem d_X11_swap_55 : decode prog_1_method_21_code 55 = .ok (.isub, 1) := ge_isub (by decide +kernel)
theorem d_X11_swap_56 : decode prog_1_method_21_code 56 = .ok (.aload_n 0, 1) := ge_aload_n_0 (by decide +kernel)
theorem d_X11_swap_57 : decode prog_1_method_21_code 57 = .ok (.iload 4, 2) := ge_iload (by decide +kernel)
theorem d_X11_swap_59 : decode prog_1_method_21_code 59 = .ok (.invokevirtual 158, 3) := ge_invokevirtual (by decide +kernel)
theorem d_X11_swap_62 : decode prog_1_method_21_code 62 = .ok (.isub, 1) := ge_isub (by decide +kernel)
theorem d_X11_swap_63 : decode prog_1_method_21_code 63 = .ok (.istore 5, 2) := ge_istore (by decide +kernel)
theorem d_X11_swap_65 : decode prog_1_method_21_code 65 = .ok (.iload 5, 2) := ge_iload (by decide +kernel)
theorem d_X11_swap_67 : decode prog_1_method_21_code 67 = .ok (.iload_n 1, 1) := ge_iload_n_1 (by decide +kernel)
theorem d_X11_swap_68 : decode prog_1_method_21_code 68 = .ok (.if_icmp .le 14, 3) := ge_if_icmp_le (by decide +kernel)
theorem d_X11_swap_71 : decode prog_1_method_21_code 71 = .ok (.iload 5, 2) := ge_iload (by decide +kernel)
theorem d_X11_swap_73 : decode prog_1_method_21_code 73 = .ok (.istore_n 1, 1) := ge_istore_n_1 (by decide +kernel)
theorem d_X11_swap_74 : decode prog_1_method_21_code 74 = .ok (.bipush 10, 2) := ge_bipush (by decide +kernel)
theorem d_X11_swap_76 : decode prog_1_method_21_code 76 = .ok (.iload_n 3, 1) := ge_iload_n_3 (by decide +kernel)
theorem d_X11_swap_77 : decode prog_1_method_21_code 77 = .ok (.imul, 1) := ge_imul (by decide +kernel)
theorem d_X11_swap_78 : decode prog_1_method_21_code 78 = .ok (.iload 4, 2) := ge_iload (by decide +kernel)
theorem d_X11_swap_80 : decode prog_1_method_21_code 80 = .ok (.iadd, 1) := ge_iadd (by decide +kernel)
theorem d_X11_swap_81 : decode prog_1_method_21_code 81 = .ok (.istore_n 2, 1) := ge_istore_n_2 (by decide +kernel)
theorem d_X11_swap_82 : decode prog_1_method_21_code 82 = .ok (.iinc 4 1, 3) := ge_iinc (by decide +kernel)
theorem d_X11_swap_85 : decode prog_1_method_21_code 85 = .ok (.goto (-62), 3) := ge_goto (by decide +kernel)
theorem d_X11_swap_88 : decode prog_1_method_21_code 88 = .ok (.iinc 3 1, 3) := ge_iinc (by decide +kernel)
theorem d_X11_swap_91 : decode prog_1_method_21_code 91 = .ok (.goto (-84), 3) := ge_goto (by decide +kernel)
theorem d_X11_swap_94 : decode prog_1_method_21_code 94 = .ok (.iload_n 2, 1) := ge_iload_n_2 (by decide +kernel)
theorem d_X11_swap_95 : decode prog_1_method_21_code 95 = .ok (.ireturn, 1) := ge_ireturn (by decide +kernel)
def f_X11_swap (a0 : Nat) (μ : gm_M) : Option (Option Value × gm_M) := gm_loop (fun (s1 : Int32 × Int32 × Int32 × gm_M) => gm_gR s1.2.2.2 [16] a0 1 (fun v2 => gm_gI s1.2.2.2 [13] v2 1 (fun v3 => if v3 ≤ s1.2.2.1 then some (Sum.inr (some (.int s1.2.1), s1.2.2.2)) else gm_loop (fun (s4 : Int32 × Int32 × Int32 × gm_M) => gm_gR s4.2.2.2 [16] a0 1 (fun v5 => gm_gI s4.2.2.2 [13] v5 1 (fun v6 => if v6 ≤ s4.2.2.1 then some (Sum.inr (Sum.inl (s4.1, s4.2.1, (s1.2.2.1 + (1 : Int32)), s4.2.2.2))) else if gm_tag s4.2.2.2 a0 = 16 then gm_bI (f_X11_holdsWithGumOf a0 s1.2.2.1 s4.2.2.1 s4.2.2.2) (fun x8 m7 => if gm_tag m7 a0 = 16 then gm_bI (f_X11_holdsWithGumOf a0 s4.2.2.1 s1.2.2.1 m7) (fun x10 m9 => if gm_tag m9 a0 = 16 then gm_bI (f_X11_holdsNow a0 s1.2.2.1 m9) (fun x12 m11 => if gm_tag m11 a0 = 16 then gm_bI (f_X11_holdsNow a0 s4.2.2.1 m11) (fun x14 m13 => gm_j (fun (s15 : Int32 × Int32) => some (Sum.inl (s15.1, s15.2, (s4.2.2.1 + (1 : Int32)), m13))) (fun j16 => if (((x8 + x10) - x12) - x14) ≤ s4.1 then j16 (s4.1, s4.2.1) else j16 ((((x8 + x10) - x12) - x14), (((10 : Int32) * s1.2.2.1) + s4.2.2.1)))) else none) else none) else none) else none))) 5000 (s1.1, s1.2.1, (s1.2.2.1 + (1 : Int32)), s1.2.2.2)))) 5000 ((0 : Int32), (-5 : Int32), (0 : Int32), μ)
set_option maxHeartbeats 4000000 in
theorem c_X11_swap (a0 : Nat) (μ : gm_M) : gm_Call ({ cls := "GumBubble", name := "swap", desc := "()I" } : Jvm.MethodName) prog_1_method_21_code 6 (some .int) 6 0 0 [.ref a0] μ (f_X11_swap a0 μ) := by
  refine gm_start PN_11 (Nat.le_of_ble_eq_true rfl) (fun res μe => ?_)
  unfold f_X11_swap
  show gm_A "GumBubble" (gm_nm "swap") _ _ _ _ _ _ _ _ _ 0 [(0, .ref a0)] [] _ _
  refine gm_iconst (v := 0) d_X11_swap_0 (by decide) ?_
  refine gm_istore_n (L' := [(1, .int (0 : Int32)), (0, .ref a0)]) d_X11_swap_1 rfl (Nat.le_of_ble_eq_true rfl) rfl ?_
  refine gm_bipush (v := -5) d_X11_swap_2 (by decide) ?_
  refine gm_istore_n (L' := [(2, .int (-5 : Int32)), (1, .int (0 : Int32)), (0, .ref a0)]) d_X11_swap_4 rfl (Nat.le_of_ble_eq_true rfl) rfl ?_
  refine gm_iconst (v := 0) d_X11_swap_5 (by decide) ?_
  refine gm_istore_n (L' := [(3, .int (0 : Int32)), (2, .int (-5 : Int32)), (1, .int (0 : Int32)), (0, .ref a0)]) d_X11_swap_6 rfl (Nat.le_of_ble_eq_true rfl) rfl ?_
  refine gm_sub (L' := [(0, .ref a0), (1, .int (0 : Int32)), (2, .int (-5 : Int32)), (3, .int (0 : Int32))]) [3, 2, 1, 0] rfl ?_
  refine gm_lp (S := Int32 × Int32 × Int32 × gm_M) (fun _ => 0) (fun _ => 0) (fun s1 => s1.2.2.2) (fun s1 => [(0, .ref a0), (1, .int s1.1), (2, .int s1.2.1), (3, .int s1.2.2.1)]) (fun _ => []) (fun s1 => ?_) 5000 ((0 : Int32), (-5 : Int32), (0 : Int32), μ)
  refine gm_iload_n d_X11_swap_7 rfl 3 rfl ?_
  refine gm_aload_n d_X11_swap_8 rfl 0 rfl ?_
  refine gm_getR F_11_now gw_262 d_X11_swap_9 (fun v2 _ => ?_)
  refine gm_getI F_8_size gw_221 d_X11_swap_12 (fun v3 _ => ?_)
  refine gm_icmp_ge (tgt := 94) d_X11_swap_15 (by decide) (fun h15 => ?_) (fun h15 => ?_)
  ·
    refine gm_iload_n d_X11_swap_94 rfl 2 rfl ?_
    exact gm_iret rfl d_X11_swap_95 (Nat.le_of_ble_eq_true rfl) (Nat.le_of_ble_eq_true rfl) (fun h => h)
  ·
    refine gm_iload_n d_X11_swap_18 rfl 3 rfl ?_
    refine gm_iconst (v := 1) d_X11_swap_19 (by decide) ?_
    refine gm_iadd d_X11_swap_20 ?_
    refine gm_istore (L' := [(4, .int (s1.2.2.1 + (1 : Int32))), (0, .ref a0), (1, .int s1.1), (2, .int s1.2.1), (3, .int s1.2.2.1)]) d_X11_swap_21 (Nat.le_of_ble_eq_true rfl) rfl ?_
    refine gm_sub (L' := [(0, .ref a0), (1, .int s1.1), (2, .int s1.2.1), (3, .int s1.2.2.1), (4, .int (s1.2.2.1 + (1 : Int32)))]) [1, 2, 3, 4, 0] rfl ?_
    refine gm_lp (S := Int32 × Int32 × Int32 × gm_M) (fun _ => 0) (fun _ => 0) (fun s4 => s4.2.2.2) (fun s4 => [(0, .ref a0), (1, .int s4.1), (2, .int s4.2.1), (3, .int s1.2.2.1), (4, .int s4.2.2.1)]) (fun _ => []) (fun s4 => ?_) 5000 (s1.1, s1.2.1, (s1.2.2.1 + (1 : Int32)), s1.2.2.2)
    refine gm_iload d_X11_swap_23 4 rfl ?_
    refine gm_aload_n d_X11_swap_25 rfl 0 rfl ?_
    refine gm_getR F_11_now gw_262 d_X11_swap_26 (fun v5 _ => ?_)
    refine gm_getI F_8_size gw_221 d_X11_swap_29 (fun v6 _ => ?_)
    refine gm_icmp_ge (tgt := 88) d_X11_swap_32 (by decide) (fun h32 => ?_) (fun h32 => ?_)
    ·
      refine gm_iinc (v := s1.2.2.1 + (1 : Int32)) (L' := [(3, .int (s1.2.2.1 + (1 : Int32))), (0, .ref a0), (1, .int s4.1), (2, .int s4.2.1), (4, .int s4.2.2.1)]) d_X11_swap_88 3 rfl rfl (Nat.le_of_ble_eq_true rfl) rfl ?_
      refine gm_goto (tgt := 7) d_X11_swap_91 (by decide) ?_
      refine gm_sub (L' := [(0, .ref a0), (1, .int s4.1), (2, .int s4.2.1), (3, .int (s1.2.2.1 + (1 : Int32)))]) [1, 2, 3, 0] rfl ?_
      exact gm_back (fun h => h)
    ·
      refine gm_aload_n d_X11_swap_35 rfl 0 rfl ?_
      refine gm_iload_n d_X11_swap_36 rfl 3 rfl ?_
      refine gm_iload d_X11_swap_37 4 rfl ?_
      refine gm_grd (fun g39 => ?_)
      refine gm_callV (k0 := 11) [.int s1.2.2.1, .int s4.2.2.1] (c_X11_holdsWithGumOf a0 s1.2.2.1 s4.2.2.1 s4.2.2.2) g39 rfl B_X11_holdsWithGumOf gw_685 gs_19 rfl rfl rfl d_X11_swap_39 (gm_kI (fun x8 m7 => ?_))
      refine gm_aload_n d_X11_swap_42 rfl 0 rfl ?_
      refine gm_iload d_X11_swap_43 4 rfl ?_
      refine gm_iload_n d_X11_swap_45 rfl 3 rfl ?_
      refine gm_grd (fun g46 => ?_)
      refine gm_callV (k0 := 11) [.int s4.2.2.1, .int s1.2.2.1] (c_X11_holdsWithGumOf a0 s4.2.2.1 s1.2.2.1 m7) g46 rfl B_X11_holdsWithGumOf gw_685 gs_19 rfl rfl rfl d_X11_swap_46 (gm_kI (fun x10 m9 => ?_))
      refine gm_iadd d_X11_swap_49 ?_
      refine gm_aload_n d_X11_swap_50 rfl 0 rfl ?_
      refine gm_iload_n d_X11_swap_51 rfl 3 rfl ?_
      refine gm_grd (fun g52 => ?_)
      refine gm_callV (k0 := 11) [.int s1.2.2.1] (c_X11_holdsNow a0 s1.2.2.1 m9) g52 rfl B_X11_holdsNow gw_541 gs_13 rfl rfl rfl d_X11_swap_52 (gm_kI (fun x12 m11 => ?_))
      refine gm_isub d_X11_swap_55 ?_
      refine gm_aload_n d_X11_swap_56 rfl 0 rfl ?_
      refine gm_iload d_X11_swap_57 4 rfl ?_
      refine gm_grd (fun g59 => ?_)
      refine gm_callV (k0 := 11) [.int s4.2.2.1] (c_X11_holdsNow a0 s4.2.2.1 m11) g59 rfl B_X11_holdsNow gw_541 gs_13 rfl rfl rfl d_X11_swap_59 (gm_kI (fun x14 m13 => ?_))
      refine gm_isub d_X11_swap_62 ?_
      refine gm_istore (L' := [(5, .int (((x8 + x10) - x12) - x14)), (0, .ref a0), (1, .int s4.1), (2, .int s4.2.1), (3, .int s1.2.2.1), (4, .int s4.2.2.1)]) d_X11_swap_63 (Nat.le_of_ble_eq_true rfl) rfl ?_
      refine gm_iload d_X11_swap_65 0 rfl ?_
      refine gm_iload_n d_X11_swap_67 rfl 2 rfl ?_
      refine gm_join (S := Int32 × Int32) (pj := 82) (kj := 0) (nj := 0) (fun s15 => m13) (fun s15 => [(0, .ref a0), (1, .int s15.1), (2, .int s15.2), (3, .int s1.2.2.1), (4, .int s4.2.2.1), (5, .int (((x8 + x10) - x12) - x14))]) (fun s15 => []) (fun s15 => ?_) (fun j16 hj16 => ?_)
      ·
        refine gm_iinc (v := s4.2.2.1 + (1 : Int32)) (L' := [(4, .int (s4.2.2.1 + (1 : Int32))), (0, .ref a0), (1, .int s15.1), (2, .int s15.2), (3, .int s1.2.2.1), (5, .int (((x8 + x10) - x12) - x14))]) d_X11_swap_82 4 rfl rfl (Nat.le_of_ble_eq_true rfl) rfl ?_
        refine gm_goto (tgt := 23) d_X11_swap_85 (by decide) ?_
        refine gm_sub (L' := [(0, .ref a0), (1, .int s15.1), (2, .int s15.2), (3, .int s1.2.2.1), (4, .int (s4.2.2.1 + (1 : Int32)))]) [1, 2, 3, 4, 0] rfl ?_
        exact gm_back (fun h => h)
      ·
        refine gm_icmp_le (tgt := 82) d_X11_swap_68 (by decide) (fun h68 => ?_) (fun h68 => ?_)
        ·
          refine gm_sub (L' := [(0, .ref a0), (1, .int s4.1), (2, .int s4.2.1), (3, .int s1.2.2.1), (4, .int s4.2.2.1), (5, .int (((x8 + x10) - x12) - x14))]) [1, 2, 3, 4, 5, 0] rfl ?_
          exact hj16 (s4.1, s4.2.1)
        ·
          refine gm_iload d_X11_swap_71 0 rfl ?_
          refine gm_istore_n (L' := [(1, .int (((x8 + x10) - x12) - x14)), (5, .int (((x8 + x10) - x12) - x14)), (0, .ref a0), (2, .int s4.2.1), (3, .int s1.2.2.1), (4, .int s4.2.2.1)]) d_X11_swap_73 rfl (Nat.le_of_ble_eq_true rfl) rfl ?_
          refine gm_bipush (v := 10) d_X11_swap_74 (by decide) ?_
          refine gm_iload_n d_X11_swap_76 rfl 4 rfl ?_
          refine gm_imul d_X11_swap_77 ?_
          refine gm_iload d_X11_swap_78 5 rfl ?_
          refine gm_iadd d_X11_swap_80 ?_
          refine gm_istore_n (L' := [(2, .int (((10 : Int32) * s1.2.2.1) + s4.2.2.1)), (1, .int (((x8 + x10) - x12) - x14)), (5, .int (((x8 + x10) - x12) - x14)), (0, .ref a0), (3, .int s1.2.2.1), (4, .int s4.2.2.1)]) d_X11_swap_81 rfl (Nat.le_of_ble_eq_true rfl) rfl ?_
          refine gm_sub (L' := [(0, .ref a0), (1, .int (((x8 + x10) - x12) - x14)), (2, .int (((10 : Int32) * s1.2.2.1) + s4.2.2.1)), (3, .int s1.2.2.1), (4, .int s4.2.2.1), (5, .int (((x8 + x10) - x12) - x14))]) [3, 1, 0, 4, 5, 2] rfl ?_
          exact hj16 ((((x8 + x10) - x12) - x14), (((10 : Int32) * s1.2.2.1) + s4.2.2.1))
theorem d_X11_told_0 : decode prog_1_method_8_code 0 = .ok (.iload_n 1, 1) := ge_iload_n_1 (by decide +kernel)
theorem d_X11_told_1 : decode prog_1_method_8_code 1 = .ok (.tableswitch 76 0 4 #[35, 43, 54, 65, 71], 35) := by decide +kernel
theorem d_X11_told_36 : decode prog_1_method_8_code 36 = .ok (.aload_n 0, 1) := ge_aload_n_0 (by decide +kernel)
theorem d_X11_told_37 : decode prog_1_method_8_code 37 = .ok (.getfield 60, 3) := ge_getfield (by decide +kernel)
theorem d_X11_told_40 : decode prog_1_method_8_code 40 = .ok (.getfield 144, 3) := ge_getfield (by decide +kernel)
theorem d_X11_told_43 : decode prog_1_method_8_code 43 = .ok (.ireturn, 1) := ge_ireturn (by decide +kernel)
theorem d_X11_told_44 : decode prog_1_method_8_code 44 = .ok (.aload_n 0, 1) := ge_aload_n_0 (by decide +kernel)
theorem d_X11_told_45 : decode prog_1_method_8_code 45 = .ok (.getfield 60, 3) := ge_getfield (by decide +kernel)
theorem d_X11_told_48 : decode prog_1_method_8_code 48 = .ok (.getfield 97, 3) := ge_getfield (by decide +kernel)
theorem d_X11_told_51 : decode prog_1_method_8_code 51 = .ok (.getfield 165, 3) := ge_getfield (by decide +kernel)
theorem d_X11_told_54 : decode prog_1_method_8_code 54 = .ok (.ireturn, 1) := ge_ireturn (by decide +kernel)
theorem d_X11_told_55 : decode prog_1_method_8_code 55 = .ok (.aload_n 0, 1) := ge_aload_n_0 (by decide +kernel)
theorem d_X11_told_56 : decode prog_1_method_8_code 56 = .ok (.getfield 60, 3) := ge_getfield (by decide +kernel)
theorem d_X11_told_59 : decode prog_1_method_8_code 59 = .ok (.getfield 97, 3) := ge_getfield (by decide +kernel)
theorem d_X11_told_62 : decode prog_1_method_8_code 62 = .ok (.getfield 108, 3) := ge_getfield (by decide +kernel)
theorem d_X11_told_65 : decode prog_1_method_8_code 65 = .ok (.ireturn, 1) := ge_ireturn (by decide +kernel)
theorem d_X11_told_66 : decode prog_1_method_8_code 66 = .ok (.aload_n 0, 1) := ge_aload_n_0 (by decide +kernel)
theorem d_X11_told_67 : decode prog_1_method_8_code 67 = .ok (.iconst 0, 1) := ge_iconst_0 (by decide +kernel)
theorem d_X11_told_68 : decode prog_1_method_8_code 68 = .ok (.invokevirtual 168, 3) := ge_invokevirtual (by decide +kernel)
theorem d_X11_told_71 : decode prog_1_method_8_code 71 = .ok (.ireturn, 1) := ge_ireturn (by decide +kernel)
theorem d_X11_told_72 : decode prog_1_method_8_code 72 = .ok (.aload_n 0, 1) := ge_aload_n_0 (by decide +kernel)
theorem d_X11_told_73 : decode prog_1_method_8_code 73 = .ok (.invokevirtual 171, 3) := ge_invokevirtual (by decide +kernel)
theorem d_X11_told_76 : decode prog_1_method_8_code 76 = .ok (.ireturn, 1) := ge_ireturn (by decide +kernel)
theorem d_X11_told_77 : decode prog_1_method_8_code 77 = .ok (.iconst (-1), 1) := ge_iconst_m1_ (by decide +kernel)
theorem d_X11_told_78 : decode prog_1_method_8_code 78 = .ok (.ireturn, 1) := ge_ireturn (by decide +kernel)
def f_X11_told (a0 : Nat) (a1 : Int32) (μ : gm_M) : Option (Option Value × gm_M) := if a1 = 0 then gm_gR μ [16] a0 1 (fun v1 => gm_gI μ [13] v1 0 (fun v2 => some (some (.int v2), μ))) else if a1 = 1 then gm_gR μ [16] a0 1 (fun v3 => gm_gR μ [13] v3 6 (fun v4 => gm_gI μ [5] v4 0 (fun v5 => some (some (.int v5), μ)))) else if a1 = 2 then gm_gR μ [16] a0 1 (fun v6 => gm_gR μ [13] v6 6 (fun v7 => gm_gI μ [5] v7 1 (fun v8 => some (some (.int v8), μ)))) else if a1 = 3 then if gm_tag μ a0 = 16 then gm_bI (f_X11_sumBehind a0 (0 : Int32) μ) (fun x10 m9 => some (some (.int x10), m9)) else none else if a1 = 4 then if gm_tag μ a0 = 16 then gm_bI (f_X11_bubbleBits a0 μ) (fun x12 m11 => some (some (.int x12), m11)) else none else some (some (.int (-1 : Int32)), μ)
set_option maxHeartbeats 4000000 in
theorem c_X11_told (a0 : Nat) (a1 : Int32) (μ : gm_M) : gm_Call ({ cls := "GumBubble", name := "told", desc := "(I)I" } : Jvm.MethodName) prog_1_method_8_code 2 (some .int) 7 0 0 [.ref a0, .int a1] μ (f_X11_told a0 a1 μ) := by
  refine gm_start PN_11 (Nat.le_of_ble_eq_true rfl) (fun res μe => ?_)
  unfold f_X11_told
  show gm_A "GumBubble" (gm_nm "told") _ _ _ _ _ _ _ _ _ 0 [(0, .ref a0), (1, .int a1)] [] _ _
  refine gm_iload_n d_X11_told_0 rfl 1 rfl ?_
  refine gm_ite (P := a1 = 0) (fun h1_0 => ?_) (fun h1_0 => ?_)
  ·
    refine gm_swIn (v := 0) (off := 35) (tgt := 36) d_X11_told_1 (by rw [h1_0] <;> rfl) (by decide) (by decide) (by decide) (by decide) ?_
    refine gm_aload_n d_X11_told_36 rfl 0 rfl ?_
    refine gm_getR F_11_now gw_262 d_X11_told_37 (fun v1 _ => ?_)
    refine gm_getI F_8_minute gw_219 d_X11_told_40 (fun v2 _ => ?_)
    exact gm_iret rfl d_X11_told_43 (Nat.le_of_ble_eq_true rfl) (Nat.le_of_ble_eq_true rfl) (fun h => h)
  ·
    refine gm_ite (P := a1 = 1) (fun h1_1 => ?_) (fun h1_1 => ?_)
    ·
      refine gm_swIn (v := 1) (off := 43) (tgt := 44) d_X11_told_1 (by rw [h1_1] <;> rfl) (by decide) (by decide) (by decide) (by decide) ?_
      refine gm_aload_n d_X11_told_44 rfl 0 rfl ?_
      refine gm_getR F_11_now gw_262 d_X11_told_45 (fun v3 _ => ?_)
      refine gm_getR F_8_afternoon gw_231 d_X11_told_48 (fun v4 _ => ?_)
      refine gm_getI F_0_wind gw_127 d_X11_told_51 (fun v5 _ => ?_)
      exact gm_iret rfl d_X11_told_54 (Nat.le_of_ble_eq_true rfl) (Nat.le_of_ble_eq_true rfl) (fun h => h)
    ·
      refine gm_ite (P := a1 = 2) (fun h1_2 => ?_) (fun h1_2 => ?_)
      ·
        refine gm_swIn (v := 2) (off := 54) (tgt := 55) d_X11_told_1 (by rw [h1_2] <;> rfl) (by decide) (by decide) (by decide) (by decide) ?_
        refine gm_aload_n d_X11_told_55 rfl 0 rfl ?_
        refine gm_getR F_11_now gw_262 d_X11_told_56 (fun v6 _ => ?_)
        refine gm_getR F_8_afternoon gw_231 d_X11_told_59 (fun v7 _ => ?_)
        refine gm_getI F_0_sweet gw_129 d_X11_told_62 (fun v8 _ => ?_)
        exact gm_iret rfl d_X11_told_65 (Nat.le_of_ble_eq_true rfl) (Nat.le_of_ble_eq_true rfl) (fun h => h)
      ·
        refine gm_ite (P := a1 = 3) (fun h1_3 => ?_) (fun h1_3 => ?_)
        ·
          refine gm_swIn (v := 3) (off := 65) (tgt := 66) d_X11_told_1 (by rw [h1_3] <;> rfl) (by decide) (by decide) (by decide) (by decide) ?_
          refine gm_aload_n d_X11_told_66 rfl 0 rfl ?_
          refine gm_iconst (v := 0) d_X11_told_67 (by decide) ?_
          refine gm_grd (fun g68 => ?_)
          refine gm_callV (k0 := 11) [.int (0 : Int32)] (c_X11_sumBehind a0 (0 : Int32) μ) g68 rfl B_X11_sumBehind gw_577 gs_14 rfl rfl rfl d_X11_told_68 (gm_kI (fun x10 m9 => ?_))
          exact gm_iret rfl d_X11_told_71 (Nat.le_of_ble_eq_true rfl) (Nat.le_of_ble_eq_true rfl) (fun h => h)
        ·
          refine gm_ite (P := a1 = 4) (fun h1_4 => ?_) (fun h1_4 => ?_)
          ·
            refine gm_swIn (v := 4) (off := 71) (tgt := 72) d_X11_told_1 (by rw [h1_4] <;> rfl) (by decide) (by decide) (by decide) (by decide) ?_
            refine gm_aload_n d_X11_told_72 rfl 0 rfl ?_
            refine gm_grd (fun g73 => ?_)
            refine gm_callV (k0 := 11) [] (c_X11_bubbleBits a0 μ) g73 rfl B_X11_bubbleBits gw_603 gs_17 rfl rfl rfl d_X11_told_73 (gm_kI (fun x12 m11 => ?_))
            exact gm_iret rfl d_X11_told_76 (Nat.le_of_ble_eq_true rfl) (Nat.le_of_ble_eq_true rfl) (fun h => h)
          ·
            refine gm_swOut (tgt := 77) d_X11_told_1 (by have g0 := lv_neT h1_0 (show (0 : Int32).toInt = 0 from rfl); have g1 := lv_neT h1_1 (show (1 : Int32).toInt = 1 from rfl); have g2 := lv_neT h1_2 (show (2 : Int32).toInt = 2 from rfl); have g3 := lv_neT h1_3 (show (3 : Int32).toInt = 3 from rfl); have g4 := lv_neT h1_4 (show (4 : Int32).toInt = 4 from rfl); omega) (by decide) ?_
            refine gm_iconst (v := -1) d_X11_told_77 (by decide) ?_
            exact gm_iret rfl d_X11_told_78 (Nat.le_of_ble_eq_true rfl) (Nat.le_of_ble_eq_true rfl) (fun h => h)
theorem d_X11_trace_0 : decode prog_1_method_34_code 0 = .ok (.aload_n 0, 1) := ge_aload_n_0 (by decide +kernel)
theorem d_X11_trace_1 : decode prog_1_method_34_code 1 = .ok (.getfield 22, 3) := ge_getfield (by decide +kernel)
theorem d_X11_trace_4 : decode prog_1_method_34_code 4 = .ok (.iload_n 1, 1) := ge_iload_n_1 (by decide +kernel)
theorem d_X11_trace_5 : decode prog_1_method_34_code 5 = .ok (.invokevirtual 275, 3) := ge_invokevirtual (by decide +kernel)
theorem d_X11_trace_8 : decode prog_1_method_34_code 8 = .ok (.ifCond .eq 15, 3) := ge_ifCond_eq (by decide +kernel)
theorem d_X11_trace_11 : decode prog_1_method_34_code 11 = .ok (.aload_n 0, 1) := ge_aload_n_0 (by decide +kernel)
theorem d_X11_trace_12 : decode prog_1_method_34_code 12 = .ok (.getfield 22, 3) := ge_getfield (by decide +kernel)
theorem d_X11_trace_15 : decode prog_1_method_34_code 15 = .ok (.iload_n 1, 1) := ge_iload_n_1 (by decide +kernel)
theorem d_X11_trace_16 : decode prog_1_method_34_code 16 = .ok (.iconst 0, 1) := ge_iconst_0 (by decide +kernel)
theorem d_X11_trace_17 : decode prog_1_method_34_code 17 = .ok (.invokevirtual 262, 3) := ge_invokevirtual (by decide +kernel)
theorem d_X11_trace_20 : decode prog_1_method_34_code 20 = .ok (.goto 4, 3) := ge_goto (by decide +kernel)
theorem d_X11_trace_23 : decode prog_1_method_34_code 23 = .ok (.iconst (-1), 1) := ge_iconst_m1_ (by decide +kernel)
theorem d_X11_trace_24 : decode prog_1_method_34_code 24 = .ok (.ireturn, 1) := ge_ireturn (by decide +kernel)
def f_X11_trace (a0 : Nat) (a1 : Int32) (μ : gm_M) : Option (Option Value × gm_M) := gm_gR μ [16] a0 4 (fun v1 => if gm_tag μ v1 = 12 then gm_bI (f_X7_isKept v1 a1 μ) (fun x3 m2 => if x3 = 0 then some (some (.int (-1 : Int32)), m2) else gm_gR m2 [16] a0 4 (fun v4 => if gm_tag m2 v4 = 12 then gm_bI (f_X7_cell v4 a1 (0 : Int32) m2) (fun x6 m5 => some (some (.int x6), m5)) else none)) else none)
set_option maxHeartbeats 4000000 in
theorem c_X11_trace (a0 : Nat) (a1 : Int32) (μ : gm_M) : gm_Call ({ cls := "GumBubble", name := "trace", desc := "(I)I" } : Jvm.MethodName) prog_1_method_34_code 2 (some .int) 2 0 0 [.ref a0, .int a1] μ (f_X11_trace a0 a1 μ) := by
  refine gm_start PN_11 (Nat.le_of_ble_eq_true rfl) (fun res μe => ?_)
  unfold f_X11_trace
  show gm_A "GumBubble" (gm_nm "trace") _ _ _ _ _ _ _ _ _ 0 [(0, .ref a0), (1, .int a1)] [] _ _
  refine gm_aload_n d_X11_trace_0 rfl 0 rfl ?_
  refine gm_getR F_11_trace gw_265 d_X11_trace_1 (fun v1 _ => ?_)
  refine gm_iload_n d_X11_trace_4 rfl 1 rfl ?_
  refine gm_grd (fun g5 => ?_)
  refine gm_callV (k0 := 7) [.int a1] (c_X7_isKept v1 a1 μ) g5 rfl B_X7_isKept gw_852 gw_740 rfl rfl rfl d_X11_trace_5 (gm_kI (fun x3 m2 => ?_))
  refine gm_if_eq (tgt := 23) d_X11_trace_8 (by decide) (fun h8 => ?_) (fun h8 => ?_)
  ·
    refine gm_iconst (v := -1) d_X11_trace_23 (by decide) ?_
    exact gm_iret rfl d_X11_trace_24 (Nat.le_of_ble_eq_true rfl) (Nat.le_of_ble_eq_true rfl) (fun h => h)
  ·
    refine gm_aload_n d_X11_trace_11 rfl 0 rfl ?_
    refine gm_getR F_11_trace gw_265 d_X11_trace_12 (fun v4 _ => ?_)
    refine gm_iload_n d_X11_trace_15 rfl 1 rfl ?_
    refine gm_iconst (v := 0) d_X11_trace_16 (by decide) ?_
    refine gm_grd (fun g17 => ?_)
    refine gm_callV (k0 := 7) [.int a1, .int (0 : Int32)] (c_X7_cell v4 a1 (0 : Int32) m2) g17 rfl B_X7_cell gw_734 gw_736 rfl rfl rfl d_X11_trace_17 (gm_kI (fun x6 m5 => ?_))
    refine gm_goto (tgt := 24) d_X11_trace_20 (by decide) ?_
    exact gm_iret rfl d_X11_trace_24 (Nat.le_of_ble_eq_true rfl) (Nat.le_of_ble_eq_true rfl) (fun h => h)
end
section
theorem d_X11_undo_0 : decode prog_1_method_37_code 0 = .ok (.aload_n 0, 1) := ge_aload_n_0 (by decide +kernel)
theorem d_X11_undo_1 : decode prog_1_method_37_code 1 = .ok (.getfield 285, 3) := ge_getfield (by decide +kernel)
theorem d_X11_undo_4 : decode prog_1_method_37_code 4 = .ok (.ifCond .ne 6, 3) := ge_ifCond_ne (by decide +kernel)
theorem d_X11_undo_7 : decode prog_1_method_37_code 7 = .ok (.bipush (-3), 2) := ge_bipush (by decide +kernel)
theorem d_X11_undo_9 : decode prog_1_method_37_code 9 = .ok (.ireturn, 1) := ge_ireturn (by decide +kernel)
theorem d_X11_undo_10 : decode prog_1_method_37_code 10 = .ok (.aload_n 0, 1) := ge_aload_n_0 (by decide +kernel)
theorem d_X11_undo_11 : decode prog_1_method_37_code 11 = .ok (.getfield 60, 3) := ge_getfield (by decide +kernel)
theorem d_X11_undo_14 : decode prog_1_method_37_code 14 = .ok (.aload_n 0, 1) := ge_aload_n_0 (by decide +kernel)
theorem d_X11_undo_15 : decode prog_1_method_37_code 15 = .ok (.getfield 64, 3) := ge_getfield (by decide +kernel)
theorem d_X11_undo_18 : decode prog_1_method_37_code 18 = .ok (.invokevirtual 282, 3) := ge_invokevirtual (by decide +kernel)
theorem d_X11_undo_21 : decode prog_1_method_37_code 21 = .ok (.aload_n 0, 1) := ge_aload_n_0 (by decide +kernel)
theorem d_X11_undo_22 : decode prog_1_method_37_code 22 = .ok (.getfield 60, 3) := ge_getfield (by decide +kernel)
theorem d_X11_undo_25 : decode prog_1_method_37_code 25 = .ok (.getfield 101, 3) := ge_getfield (by decide +kernel)
theorem d_X11_undo_28 : decode prog_1_method_37_code 28 = .ok (.ireturn, 1) := ge_ireturn (by decide +kernel)
def f_X11_undo (a0 : Nat) (μ : gm_M) : Option (Option Value × gm_M) := gm_gI μ [16] a0 3 (fun v1 => if v1 ≠ 0 then gm_gR μ [16] a0 1 (fun v2 => gm_gR μ [16] a0 2 (fun v3 => if gm_tag μ v2 = 13 then gm_bV (f_X8_copy v2 v3 μ) (fun m4 => gm_gR m4 [16] a0 1 (fun v6 => gm_gI m4 [13] v6 1 (fun v7 => some (some (.int v7), m4)))) else none)) else some (some (.int (-3 : Int32)), μ))
set_option maxHeartbeats 4000000 in
theorem c_X11_undo (a0 : Nat) (μ : gm_M) : gm_Call ({ cls := "GumBubble", name := "undo", desc := "()I" } : Jvm.MethodName) prog_1_method_37_code 1 (some .int) 3 0 0 [.ref a0] μ (f_X11_undo a0 μ) := by
  refine gm_start PN_11 (Nat.le_of_ble_eq_true rfl) (fun res μe => ?_)
  unfold f_X11_undo
  show gm_A "GumBubble" (gm_nm "undo") _ _ _ _ _ _ _ _ _ 0 [(0, .ref a0)] [] _ _
  refine gm_aload_n d_X11_undo_0 rfl 0 rfl ?_
  refine gm_getI F_11_hasImage gw_264 d_X11_undo_1 (fun v1 _ => ?_)
  refine gm_if_ne (tgt := 10) d_X11_undo_4 (by decide) (fun h4 => ?_) (fun h4 => ?_)
  ·
    refine gm_aload_n d_X11_undo_10 rfl 0 rfl ?_
    refine gm_getR F_11_now gw_262 d_X11_undo_11 (fun v2 _ => ?_)
    refine gm_aload_n d_X11_undo_14 rfl 0 rfl ?_
    refine gm_getR F_11_kept gw_263 d_X11_undo_15 (fun v3 _ => ?_)
    refine gm_grd (fun g18 => ?_)
    refine gm_callV (k0 := 8) [.ref v3] (c_X8_copy v2 v3 μ) g18 rfl B_X8_copy gw_864 gw_866 rfl rfl rfl d_X11_undo_18 (gm_kV (fun m4 => ?_))
    refine gm_aload_n d_X11_undo_21 rfl 0 rfl ?_
    refine gm_getR F_11_now gw_262 d_X11_undo_22 (fun v6 _ => ?_)
    refine gm_getI F_8_size gw_221 d_X11_undo_25 (fun v7 _ => ?_)
    exact gm_iret rfl d_X11_undo_28 (Nat.le_of_ble_eq_true rfl) (Nat.le_of_ble_eq_true rfl) (fun h => h)
  ·
    refine gm_bipush (v := -3) d_X11_undo_7 (by decide) ?_
    exact gm_iret rfl d_X11_undo_9 (Nat.le_of_ble_eq_true rfl) (Nat.le_of_ble_eq_true rfl) (fun h => h)
theorem d_X11_when_0 : decode prog_1_method_12_code 0 = .ok (.aload_n 0, 1) := ge_aload_n_0 (by decide +kernel)
theorem d_X11_when_1 : decode prog_1_method_12_code 1 = .ok (.iload_n 1, 1) := ge_iload_n_1 (by decide +kernel)
theorem d_X11_when_2 : decode prog_1_method_12_code 2 = .ok (.invokevirtual 115, 3) := ge_invokevirtual (by decide +kernel)
theorem d_X11_when_5 : decode prog_1_method_12_code 5 = .ok (.ifCond .ne 12, 3) := ge_ifCond_ne (by decide +kernel)
theorem d_X11_when_8 : decode prog_1_method_12_code 8 = .ok (.iload_n 2, 1) := ge_iload_n_2 (by decide +kernel)
theorem d_X11_when_9 : decode prog_1_method_12_code 9 = .ok (.iconst 0, 1) := ge_iconst_0 (by decide +kernel)
theorem d_X11_when_10 : decode prog_1_method_12_code 10 = .ok (.iconst 1, 1) := ge_iconst_1 (by decide +kernel)
theorem d_X11_when_11 : decode prog_1_method_12_code 11 = .ok (.invokestatic 76, 3) := ge_invokestatic (by decide +kernel)
theorem d_X11_when_14 : decode prog_1_method_12_code 14 = .ok (.ifCond .eq 5, 3) := ge_ifCond_eq (by decide +kernel)
theorem d_X11_when_17 : decode prog_1_method_12_code 17 = .ok (.iconst (-1), 1) := ge_iconst_m1_ (by decide +kernel)
theorem d_X11_when_18 : decode prog_1_method_12_code 18 = .ok (.ireturn, 1) := ge_ireturn (by decide +kernel)
theorem d_X11_when_19 : decode prog_1_method_12_code 19 = .ok (.aload_n 0, 1) := ge_aload_n_0 (by decide +kernel)
theorem d_X11_when_20 : decode prog_1_method_12_code 20 = .ok (.getfield 72, 3) := ge_getfield (by decide +kernel)
theorem d_X11_when_23 : decode prog_1_method_12_code 23 = .ok (.aload_n 0, 1) := ge_aload_n_0 (by decide +kernel)
theorem d_X11_when_24 : decode prog_1_method_12_code 24 = .ok (.getfield 60, 3) := ge_getfield (by decide +kernel)
theorem d_X11_when_27 : decode prog_1_method_12_code 27 = .ok (.getfield 104, 3) := ge_getfield (by decide +kernel)
theorem d_X11_when_30 : decode prog_1_method_12_code 30 = .ok (.iload_n 1, 1) := ge_iload_n_1 (by decide +kernel)
theorem d_X11_when_31 : decode prog_1_method_12_code 31 = .ok (.aaload, 1) := ge_aaload (by decide +kernel)
theorem d_X11_when_32 : decode prog_1_method_12_code 32 = .ok (.invokevirtual 186, 3) := ge_invokevirtual (by decide +kernel)
theorem d_X11_when_35 : decode prog_1_method_12_code 35 = .ok (.aload_n 0, 1) := ge_aload_n_0 (by decide +kernel)
theorem d_X11_when_36 : decode prog_1_method_12_code 36 = .ok (.iload_n 2, 1) := ge_iload_n_2 (by decide +kernel)
theorem d_X11_when_37 : decode prog_1_method_12_code 37 = .ok (.invokevirtual 190, 3) := ge_invokevirtual (by decide +kernel)
theorem d_X11_when_40 : decode prog_1_method_12_code 40 = .ok (.ireturn, 1) := ge_ireturn (by decide +kernel)
def f_X11_when (a0 : Nat) (a1 : Int32) (a2 : Int32) (μ : gm_M) : Option (Option Value × gm_M) := if gm_tag μ a0 = 16 then gm_bI (f_X11_isNobody a0 a1 μ) (fun x2 m1 => if x2 ≠ 0 then some (some (.int (-1 : Int32)), m1) else gm_bI (f_X11_isOutside a2 (0 : Int32) (1 : Int32) m1) (fun x4 m3 => if x4 = 0 then gm_gR m3 [16] a0 5 (fun v5 => gm_gR m3 [16] a0 1 (fun v6 => gm_gR m3 [13] v6 2 (fun v7 => gm_aR m3 4 v7 a1 (fun v8 => if gm_tag m3 v5 = 7 then gm_bV (f_X2_copy v5 v8 m3) (fun m9 => if gm_tag m9 a0 = 16 then gm_bI (f_X11_trialWhen a0 a2 m9) (fun x12 m11 => some (some (.int x12), m11)) else none) else none)))) else some (some (.int (-1 : Int32)), m3))) else none
set_option maxHeartbeats 4000000 in
theorem c_X11_when (a0 : Nat) (a1 : Int32) (a2 : Int32) (μ : gm_M) : gm_Call ({ cls := "GumBubble", name := "when", desc := "(II)I" } : Jvm.MethodName) prog_1_method_12_code 3 (some .int) 5 0 0 [.ref a0, .int a1, .int a2] μ (f_X11_when a0 a1 a2 μ) := by
  refine gm_start PN_11 (Nat.le_of_ble_eq_true rfl) (fun res μe => ?_)
  unfold f_X11_when
  show gm_A "GumBubble" (gm_nm "when") _ _ _ _ _ _ _ _ _ 0 [(0, .ref a0), (1, .int a1), (2, .int a2)] [] _ _
  refine gm_aload_n d_X11_when_0 rfl 0 rfl ?_
  refine gm_iload_n d_X11_when_1 rfl 1 rfl ?_
  refine gm_grd (fun g2 => ?_)
  refine gm_callV (k0 := 11) [.int a1] (c_X11_isNobody a0 a1 μ) g2 rfl B_X11_isNobody gw_478 gs_11 rfl rfl rfl d_X11_when_2 (gm_kI (fun x2 m1 => ?_))
  refine gm_if_ne (tgt := 17) d_X11_when_5 (by decide) (fun h5 => ?_) (fun h5 => ?_)
  ·
    refine gm_iconst (v := -1) d_X11_when_17 (by decide) ?_
    exact gm_iret rfl d_X11_when_18 (Nat.le_of_ble_eq_true rfl) (Nat.le_of_ble_eq_true rfl) (fun h => h)
  ·
    refine gm_iload_n d_X11_when_8 rfl 2 rfl ?_
    refine gm_iconst (v := 0) d_X11_when_9 (by decide) ?_
    refine gm_iconst (v := 1) d_X11_when_10 (by decide) ?_
    refine gm_callS [.int a2, .int (0 : Int32), .int (1 : Int32)] (c_X11_isOutside a2 (0 : Int32) (1 : Int32) m1) B_X11_isOutside gw_296 rfl rfl rfl d_X11_when_11 (gm_kI (fun x4 m3 => ?_))
    refine gm_if_eq (tgt := 19) d_X11_when_14 (by decide) (fun h14 => ?_) (fun h14 => ?_)
    ·
      refine gm_aload_n d_X11_when_19 rfl 0 rfl ?_
      refine gm_getR F_11_trial gw_266 d_X11_when_20 (fun v5 _ => ?_)
      refine gm_aload_n d_X11_when_23 rfl 0 rfl ?_
      refine gm_getR F_11_now gw_262 d_X11_when_24 (fun v6 _ => ?_)
      refine gm_getR F_8_children gw_223 d_X11_when_27 (fun v7 _ => ?_)
      refine gm_iload_n d_X11_when_30 rfl 1 rfl ?_
      refine gm_aald (Or.inr rfl) d_X11_when_31 (fun v8 _ => ?_)
      refine gm_grd (fun g32 => ?_)
      refine gm_callV (k0 := 2) [.ref v8] (c_X2_copy v5 v8 m3) g32 rfl B_X2_copy gw_585 gw_587 rfl rfl rfl d_X11_when_32 (gm_kV (fun m9 => ?_))
      refine gm_aload_n d_X11_when_35 rfl 0 rfl ?_
      refine gm_iload_n d_X11_when_36 rfl 2 rfl ?_
      refine gm_grd (fun g37 => ?_)
      refine gm_callV (k0 := 11) [.int a2] (c_X11_trialWhen a0 a2 m9) g37 rfl B_X11_trialWhen gw_627 gs_18 rfl rfl rfl d_X11_when_37 (gm_kI (fun x12 m11 => ?_))
      exact gm_iret rfl d_X11_when_40 (Nat.le_of_ble_eq_true rfl) (Nat.le_of_ble_eq_true rfl) (fun h => h)
    ·
      refine gm_iconst (v := -1) d_X11_when_17 (by decide) ?_
      exact gm_iret rfl d_X11_when_18 (Nat.le_of_ble_eq_true rfl) (Nat.le_of_ble_eq_true rfl) (fun h => h)
theorem d_X11_who_0 : decode prog_1_method_25_code 0 = .ok (.iload_n 1, 1) := ge_iload_n_1 (by decide +kernel)
theorem d_X11_who_1 : decode prog_1_method_25_code 1 = .ok (.iconst 0, 1) := ge_iconst_0 (by decide +kernel)
theorem d_X11_who_2 : decode prog_1_method_25_code 2 = .ok (.sipush 999, 3) := ge_sipush (by decide +kernel)
theorem d_X11_who_5 : decode prog_1_method_25_code 5 = .ok (.invokestatic 76, 3) := ge_invokestatic (by decide +kernel)
theorem d_X11_who_8 : decode prog_1_method_25_code 8 = .ok (.ifCond .ne 13, 3) := ge_ifCond_ne (by decide +kernel)
theorem d_X11_who_11 : decode prog_1_method_25_code 11 = .ok (.iload_n 2, 1) := ge_iload_n_2 (by decide +kernel)
theorem d_X11_who_12 : decode prog_1_method_25_code 12 = .ok (.iconst 0, 1) := ge_iconst_0 (by decide +kernel)
theorem d_X11_who_13 : decode prog_1_method_25_code 13 = .ok (.bipush 40, 2) := ge_bipush (by decide +kernel)
theorem d_X11_who_15 : decode prog_1_method_25_code 15 = .ok (.invokestatic 76, 3) := ge_invokestatic (by decide +kernel)
theorem d_X11_who_18 : decode prog_1_method_25_code 18 = .ok (.ifCond .eq 6, 3) := ge_ifCond_eq (by decide +kernel)
theorem d_X11_who_21 : decode prog_1_method_25_code 21 = .ok (.bipush (-2), 2) := ge_bipush (by decide +kernel)
theorem d_X11_who_23 : decode prog_1_method_25_code 23 = .ok (.ireturn, 1) := ge_ireturn (by decide +kernel)
theorem d_X11_who_24 : decode prog_1_method_25_code 24 = .ok (.iconst 0, 1) := ge_iconst_0 (by decide +kernel)
theorem d_X11_who_25 : decode prog_1_method_25_code 25 = .ok (.istore_n 3, 1) := ge_istore_n_3 (by decide +kernel)
theorem d_X11_who_26 : decode prog_1_method_25_code 26 = .ok (.iconst 0, 1) := ge_iconst_0 (by decide +kernel)
theorem d_X11_who_27 : decode prog_1_method_25_code 27 = .ok (.istore 4, 2) := ge_istore (by decide +kernel)
theorem d_X11_who_29 : decode prog_1_method_25_code 29 = .ok (.iload 4, 2) := ge_iload (by decide +kernel)
theorem d_X11_who_31 : decode prog_1_method_25_code 31 = .ok (.aload_n 0, 1) := ge_aload_n_0 (by decide +kernel)
theorem d_X11_who_32 : decode prog_1_method_25_code 32 = .ok (.getfield 60, 3) := ge_getfield (by decide +kernel)
theorem d_X11_who_35 : decode prog_1_method_25_code 35 = .ok (.getfield 101, 3) := ge_getfield (by decide +kernel)
theorem d_X11_who_38 : decode prog_1_method_25_code 38 = .ok (.if_icmp .ge 27, 3) := ge_if_icmp_ge (by decide +kernel)
theorem d_X11_who_41 : decode prog_1_method_25_code 41 = .ok (.aload_n 0, 1) := ge_aload_n_0 (by decide +kernel)
theorem d_X11_who_42 : decode prog_1_method_25_code 42 = .ok (.iload 4, 2) := ge_iload (by decide +kernel)
theorem d_X11_who_44 : decode prog_1_method_25_code 44 = .ok (.iload_n 2, 1) := ge_iload_n_2 (by decide +kernel)
theorem d_X11_who_45 : decode prog_1_method_25_code 45 = .ok (.invokevirtual 182, 3) := ge_invokevirtual (by decide +kernel)
theorem d_X11_who_48 : decode prog_1_method_25_code 48 = .ok (.iload_n 1, 1) := ge_iload_n_1 (by decide +kernel)
theorem d_X11_who_49 : decode prog_1_method_25_code 49 = .ok (.if_icmp .ne 10, 3) := ge_if_icmp_ne (by decide +kernel)
theorem d_X11_who_52 : decode prog_1_method_25_code 52 = .ok (.iload_n 3, 1) := ge_iload_n_3 (by decide +kernel)
theorem d_X11_who_53 : decode prog_1_method_25_code 53 = .ok (.iconst 1, 1) := ge_iconst_1 (by decide +kernel)
theorem d_X11_who_54 : decode prog_1_method_25_code 54 = .ok (.iload 4, 2) := ge_iload (by decide +kernel)
theorem d_X11_who_56 : decode prog_1_method_25_code 56 = .ok (.ishl, 1) := ge_ishl (by decide +kernel)
theorem d_X11_who_57 : decode prog_1_method_25_code 57 = .ok (.ior, 1) := ge_ior (by decide +kernel)
theorem d_X11_who_58 : decode prog_1_method_25_code 58 = .ok (.istore_n 3, 1) := ge_istore_n_3 (by decide +kernel)
theorem d_X11_who_59 : decode prog_1_method_25_code 59 = .ok (.iinc 4 1, 3) := ge_iinc (by decide +kernel)
theorem d_X11_who_62 : decode prog_1_method_25_code 62 = .ok (.goto (-33), 3) := ge_goto (by decide +kernel)
theorem d_X11_who_65 : decode prog_1_method_25_code 65 = .ok (.iload_n 3, 1) := ge_iload_n_3 (by decide +kernel)
theorem d_X11_who_66 : decode prog_1_method_25_code 66 = .ok (.ireturn, 1) := ge_ireturn (by decide +kernel)
def f_X11_who (a0 : Nat) (a1 : Int32) (a2 : Int32) (μ : gm_M) : Option (Option Value × gm_M) := gm_bI (f_X11_isOutside a1 (0 : Int32) (999 : Int32) μ) (fun x2 m1 => if x2 ≠ 0 then some (some (.int (-2 : Int32)), m1) else gm_bI (f_X11_isOutside a2 (0 : Int32) (40 : Int32) m1) (fun x4 m3 => if x4 = 0 then gm_loop (fun (s5 : Int32 × Int32 × gm_M) => gm_gR s5.2.2 [16] a0 1 (fun v6 => gm_gI s5.2.2 [13] v6 1 (fun v7 => if v7 ≤ s5.2.1 then some (Sum.inr (some (.int s5.1), s5.2.2)) else if gm_tag s5.2.2 a0 = 16 then gm_bI (f_X11_holdsBehind a0 s5.2.1 a2 s5.2.2) (fun x9 m8 => gm_j (fun (s10 : Int32) => some (Sum.inl (s10, (s5.2.1 + (1 : Int32)), m8))) (fun j11 => if x9 ≠ a1 then j11 s5.1 else j11 (s5.1 ||| ((1 : Int32) <<< (s5.2.1 &&& 31))))) else none))) 5000 ((0 : Int32), (0 : Int32), m3) else some (some (.int (-2 : Int32)), m3)))
set_option maxHeartbeats 4000000 in
theorem c_X11_who (a0 : Nat) (a1 : Int32) (a2 : Int32) (μ : gm_M) : gm_Call ({ cls := "GumBubble", name := "who", desc := "(II)I" } : Jvm.MethodName) prog_1_method_25_code 5 (some .int) 6 0 0 [.ref a0, .int a1, .int a2] μ (f_X11_who a0 a1 a2 μ) := by
  refine gm_start PN_11 (Nat.le_of_ble_eq_true rfl) (fun res μe => ?_)
  unfold f_X11_who
  show gm_A "GumBubble" (gm_nm "who") _ _ _ _ _ _ _ _ _ 0 [(0, .ref a0), (1, .int a1), (2, .int a2)] [] _ _
  refine gm_iload_n d_X11_who_0 rfl 1 rfl ?_
  refine gm_iconst (v := 0) d_X11_who_1 (by decide) ?_
  refine gm_sipush (v := 999) d_X11_who_2 (by decide) ?_
  refine gm_callS [.int a1, .int (0 : Int32), .int (999 : Int32)] (c_X11_isOutside a1 (0 : Int32) (999 : Int32) μ) B_X11_isOutside gw_296 rfl rfl rfl d_X11_who_5 (gm_kI (fun x2 m1 => ?_))
  refine gm_if_ne (tgt := 21) d_X11_who_8 (by decide) (fun h8 => ?_) (fun h8 => ?_)
  ·
    refine gm_bipush (v := -2) d_X11_who_21 (by decide) ?_
    exact gm_iret rfl d_X11_who_23 (Nat.le_of_ble_eq_true rfl) (Nat.le_of_ble_eq_true rfl) (fun h => h)
  ·
    refine gm_iload_n d_X11_who_11 rfl 2 rfl ?_
    refine gm_iconst (v := 0) d_X11_who_12 (by decide) ?_
    refine gm_bipush (v := 40) d_X11_who_13 (by decide) ?_
    refine gm_callS [.int a2, .int (0 : Int32), .int (40 : Int32)] (c_X11_isOutside a2 (0 : Int32) (40 : Int32) m1) B_X11_isOutside gw_296 rfl rfl rfl d_X11_who_15 (gm_kI (fun x4 m3 => ?_))
    refine gm_if_eq (tgt := 24) d_X11_who_18 (by decide) (fun h18 => ?_) (fun h18 => ?_)
    ·
      refine gm_iconst (v := 0) d_X11_who_24 (by decide) ?_
      refine gm_istore_n (L' := [(3, .int (0 : Int32)), (0, .ref a0), (1, .int a1), (2, .int a2)]) d_X11_who_25 rfl (Nat.le_of_ble_eq_true rfl) rfl ?_
      refine gm_iconst (v := 0) d_X11_who_26 (by decide) ?_
      refine gm_istore (L' := [(4, .int (0 : Int32)), (3, .int (0 : Int32)), (0, .ref a0), (1, .int a1), (2, .int a2)]) d_X11_who_27 (Nat.le_of_ble_eq_true rfl) rfl ?_
      refine gm_sub (L' := [(0, .ref a0), (1, .int a1), (2, .int a2), (3, .int (0 : Int32)), (4, .int (0 : Int32))]) [2, 3, 4, 1, 0] rfl ?_
      refine gm_lp (S := Int32 × Int32 × gm_M) (fun _ => 0) (fun _ => 0) (fun s5 => s5.2.2) (fun s5 => [(0, .ref a0), (1, .int a1), (2, .int a2), (3, .int s5.1), (4, .int s5.2.1)]) (fun _ => []) (fun s5 => ?_) 5000 ((0 : Int32), (0 : Int32), m3)
      refine gm_iload d_X11_who_29 4 rfl ?_
      refine gm_aload_n d_X11_who_31 rfl 0 rfl ?_
      refine gm_getR F_11_now gw_262 d_X11_who_32 (fun v6 _ => ?_)
      refine gm_getI F_8_size gw_221 d_X11_who_35 (fun v7 _ => ?_)
      refine gm_icmp_ge (tgt := 65) d_X11_who_38 (by decide) (fun h38 => ?_) (fun h38 => ?_)
      ·
        refine gm_iload_n d_X11_who_65 rfl 3 rfl ?_
        exact gm_iret rfl d_X11_who_66 (Nat.le_of_ble_eq_true rfl) (Nat.le_of_ble_eq_true rfl) (fun h => h)
      ·
        refine gm_aload_n d_X11_who_41 rfl 0 rfl ?_
        refine gm_iload d_X11_who_42 4 rfl ?_
        refine gm_iload_n d_X11_who_44 rfl 2 rfl ?_
        refine gm_grd (fun g45 => ?_)
        refine gm_callV (k0 := 11) [.int s5.2.1, .int a2] (c_X11_holdsBehind a0 s5.2.1 a2 s5.2.2) g45 rfl B_X11_holdsBehind gw_581 gs_15 rfl rfl rfl d_X11_who_45 (gm_kI (fun x9 m8 => ?_))
        refine gm_iload_n d_X11_who_48 rfl 1 rfl ?_
        refine gm_join (S := Int32) (pj := 59) (kj := 0) (nj := 0) (fun s10 => m8) (fun s10 => [(0, .ref a0), (1, .int a1), (2, .int a2), (3, .int s10), (4, .int s5.2.1)]) (fun s10 => []) (fun s10 => ?_) (fun j11 hj11 => ?_)
        ·
          refine gm_iinc (v := s5.2.1 + (1 : Int32)) (L' := [(4, .int (s5.2.1 + (1 : Int32))), (0, .ref a0), (1, .int a1), (2, .int a2), (3, .int s10)]) d_X11_who_59 4 rfl rfl (Nat.le_of_ble_eq_true rfl) rfl ?_
          refine gm_goto (tgt := 29) d_X11_who_62 (by decide) ?_
          refine gm_sub (L' := [(0, .ref a0), (1, .int a1), (2, .int a2), (3, .int s10), (4, .int (s5.2.1 + (1 : Int32)))]) [1, 2, 3, 4, 0] rfl ?_
          exact gm_back (fun h => h)
        ·
          refine gm_icmp_ne (tgt := 59) d_X11_who_49 (by decide) (fun h49 => ?_) (fun h49 => ?_)
          ·
            exact hj11 s5.1
          ·
            refine gm_iload_n d_X11_who_52 rfl 3 rfl ?_
            refine gm_iconst (v := 1) d_X11_who_53 (by decide) ?_
            refine gm_iload d_X11_who_54 4 rfl ?_
            refine gm_ishl d_X11_who_56 ?_
            refine gm_ior d_X11_who_57 ?_
            refine gm_istore_n (L' := [(3, .int (s5.1 ||| ((1 : Int32) <<< (s5.2.1 &&& 31)))), (0, .ref a0), (1, .int a1), (2, .int a2), (4, .int s5.2.1)]) d_X11_who_58 rfl (Nat.le_of_ble_eq_true rfl) rfl ?_
            refine gm_sub (L' := [(0, .ref a0), (1, .int a1), (2, .int a2), (3, .int (s5.1 ||| ((1 : Int32) <<< (s5.2.1 &&& 31)))), (4, .int s5.2.1)]) [1, 2, 3, 0, 4] rfl ?_
            exact hj11 (s5.1 ||| ((1 : Int32) <<< (s5.2.1 &&& 31)))
    ·
      refine gm_bipush (v := -2) d_X11_who_21 (by decide) ?_
      exact gm_iret rfl d_X11_who_23 (Nat.le_of_ble_eq_true rfl) (Nat.le_of_ble_eq_true rfl) (fun h => h)
theorem d_X12_above_0 : decode prog_14_method_5_code 0 = .ok (.iload_n 0, 1) := ge_iload_n_0 (by decide +kernel)
theorem d_X12_above_1 : decode prog_14_method_5_code 1 = .ok (.ifCond .ge 7, 3) := ge_ifCond_ge (by decide +kernel)
theorem d_X12_above_4 : decode prog_14_method_5_code 4 = .ok (.iconst 0, 1) := ge_iconst_0 (by decide +kernel)
theorem d_X12_above_5 : decode prog_14_method_5_code 5 = .ok (.goto 4, 3) := ge_goto (by decide +kernel)
theorem d_X12_above_8 : decode prog_14_method_5_code 8 = .ok (.iload_n 0, 1) := ge_iload_n_0 (by decide +kernel)
theorem d_X12_above_9 : decode prog_14_method_5_code 9 = .ok (.ireturn, 1) := ge_ireturn (by decide +kernel)
def f_X12_above (a0 : Int32) (μ : gm_M) : Option (Option Value × gm_M) := if 0 ≤ a0 then some (some (.int a0), μ) else some (some (.int (0 : Int32)), μ)
set_option maxHeartbeats 4000000 in
theorem c_X12_above (a0 : Int32) (μ : gm_M) : gm_Call ({ cls := "GumBubbleModel", name := "above", desc := "(I)I" } : Jvm.MethodName) prog_14_method_5_code 1 (some .int) 0 0 0 [.int a0] μ (f_X12_above a0 μ) := by
  refine gm_start PN_12 (Nat.le_of_ble_eq_true rfl) (fun res μe => ?_)
  unfold f_X12_above
  show gm_A "GumBubbleModel" (gm_nm "above") _ _ _ _ _ _ _ _ _ 0 [(0, .int a0)] [] _ _
  refine gm_iload_n d_X12_above_0 rfl 0 rfl ?_
  refine gm_if_ge (tgt := 8) d_X12_above_1 (by decide) (fun h1 => ?_) (fun h1 => ?_)
  ·
    refine gm_iload_n d_X12_above_8 rfl 0 rfl ?_
    exact gm_iret rfl d_X12_above_9 (Nat.le_of_ble_eq_true rfl) (Nat.le_of_ble_eq_true rfl) (fun h => h)
  ·
    refine gm_iconst (v := 0) d_X12_above_4 (by decide) ?_
    refine gm_goto (tgt := 9) d_X12_above_5 (by decide) ?_
    exact gm_iret rfl d_X12_above_9 (Nat.le_of_ble_eq_true rfl) (Nat.le_of_ble_eq_true rfl) (fun h => h)
theorem d_X12_isUnder_0 : decode prog_14_method_80_code 0 = .ok (.iload_n 1, 1) := ge_iload_n_1 (by decide +kernel)
theorem d_X12_isUnder_1 : decode prog_14_method_80_code 1 = .ok (.ifCond .eq 24, 3) := ge_ifCond_eq (by decide +kernel)
theorem d_X12_isUnder_4 : decode prog_14_method_80_code 4 = .ok (.iload_n 1, 1) := ge_iload_n_1 (by decide +kernel)
theorem d_X12_isUnder_5 : decode prog_14_method_80_code 5 = .ok (.iload_n 0, 1) := ge_iload_n_0 (by decide +kernel)
theorem d_X12_isUnder_6 : decode prog_14_method_80_code 6 = .ok (.if_icmp .eq 19, 3) := ge_if_icmp_eq (by decide +kernel)
theorem d_X12_isUnder_9 : decode prog_14_method_80_code 9 = .ok (.iload_n 1, 1) := ge_iload_n_1 (by decide +kernel)
theorem d_X12_isUnder_10 : decode prog_14_method_80_code 10 = .ok (.ifCond .le 19, 3) := ge_ifCond_le (by decide +kernel)
theorem d_X12_isUnder_13 : decode prog_14_method_80_code 13 = .ok (.iload_n 1, 1) := ge_iload_n_1 (by decide +kernel)
theorem d_X12_isUnder_14 : decode prog_14_method_80_code 14 = .ok (.iconst 4, 1) := ge_iconst_4 (by decide +kernel)
theorem d_X12_isUnder_15 : decode prog_14_method_80_code 15 = .ok (.if_icmp .ge 14, 3) := ge_if_icmp_ge (by decide +kernel)
theorem d_X12_isUnder_18 : decode prog_14_method_80_code 18 = .ok (.iload_n 0, 1) := ge_iload_n_0 (by decide +kernel)
theorem d_X12_isUnder_19 : decode prog_14_method_80_code 19 = .ok (.iload_n 1, 1) := ge_iload_n_1 (by decide +kernel)
theorem d_X12_isUnder_20 : decode prog_14_method_80_code 20 = .ok (.iconst 3, 1) := ge_iconst_3 (by decide +kernel)
theorem d_X12_isUnder_21 : decode prog_14_method_80_code 21 = .ok (.iadd, 1) := ge_iadd (by decide +kernel)
theorem d_X12_isUnder_22 : decode prog_14_method_80_code 22 = .ok (.if_icmp .ne 7, 3) := ge_if_icmp_ne (by decide +kernel)
theorem d_X12_isUnder_25 : decode prog_14_method_80_code 25 = .ok (.iconst 1, 1) := ge_iconst_1 (by decide +kernel)
theorem d_X12_isUnder_26 : decode prog_14_method_80_code 26 = .ok (.goto 4, 3) := ge_goto (by decide +kernel)
theorem d_X12_isUnder_29 : decode prog_14_method_80_code 29 = .ok (.iconst 0, 1) := ge_iconst_0 (by decide +kernel)
theorem d_X12_isUnder_30 : decode prog_14_method_80_code 30 = .ok (.ireturn, 1) := ge_ireturn (by decide +kernel)
def f_X12_isUnder (a0 : Int32) (a1 : Int32) (μ : gm_M) : Option (Option Value × gm_M) := gm_j (fun (s1 : Unit) => if (1 : Int32) = 0 ∨ (1 : Int32) = 1 then some (some (.int (1 : Int32)), μ) else none) (fun j2 => if a1 = 0 then j2 () else if a1 = a0 then j2 () else if a1 ≤ 0 then if (0 : Int32) = 0 ∨ (0 : Int32) = 1 then some (some (.int (0 : Int32)), μ) else none else if (4 : Int32) ≤ a1 then if (0 : Int32) = 0 ∨ (0 : Int32) = 1 then some (some (.int (0 : Int32)), μ) else none else if a0 ≠ (a1 + (3 : Int32)) then if (0 : Int32) = 0 ∨ (0 : Int32) = 1 then some (some (.int (0 : Int32)), μ) else none else j2 ())
set_option maxHeartbeats 4000000 in
theorem c_X12_isUnder (a0 : Int32) (a1 : Int32) (μ : gm_M) : gm_Call ({ cls := "GumBubbleModel", name := "isUnder", desc := "(II)Z" } : Jvm.MethodName) prog_14_method_80_code 2 (some .boolean) 0 0 0 [.int a0, .int a1] μ (f_X12_isUnder a0 a1 μ) := by
  refine gm_start PN_12 (Nat.le_of_ble_eq_true rfl) (fun res μe => ?_)
  unfold f_X12_isUnder
  show gm_A "GumBubbleModel" (gm_nm "isUnder") _ _ _ _ _ _ _ _ _ 0 [(0, .int a0), (1, .int a1)] [] _ _
  refine gm_iload_n d_X12_isUnder_0 rfl 1 rfl ?_
  refine gm_join (S := Unit) (pj := 25) (kj := 0) (nj := 0) (fun s1 => μ) (fun s1 => [(0, .int a0), (1, .int a1)]) (fun s1 => []) (fun s1 => ?_) (fun j2 hj2 => ?_)
  ·
    refine gm_iconst (v := 1) d_X12_isUnder_25 (by decide) ?_
    refine gm_goto (tgt := 30) d_X12_isUnder_26 (by decide) ?_
    exact gm_zret rfl d_X12_isUnder_30 (Nat.le_of_ble_eq_true rfl) (Nat.le_of_ble_eq_true rfl) (fun h => h)
  ·
    refine gm_if_eq (tgt := 25) d_X12_isUnder_1 (by decide) (fun h1 => ?_) (fun h1 => ?_)
    ·
      exact hj2 ()
    ·
      refine gm_iload_n d_X12_isUnder_4 rfl 1 rfl ?_
      refine gm_iload_n d_X12_isUnder_5 rfl 0 rfl ?_
      refine gm_icmp_eq (tgt := 25) d_X12_isUnder_6 (by decide) (fun h6 => ?_) (fun h6 => ?_)
      ·
        exact hj2 ()
      ·
        refine gm_iload_n d_X12_isUnder_9 rfl 1 rfl ?_
        refine gm_if_le (tgt := 29) d_X12_isUnder_10 (by decide) (fun h10 => ?_) (fun h10 => ?_)
        ·
          refine gm_iconst (v := 0) d_X12_isUnder_29 (by decide) ?_
          exact gm_zret rfl d_X12_isUnder_30 (Nat.le_of_ble_eq_true rfl) (Nat.le_of_ble_eq_true rfl) (fun h => h)
        ·
          refine gm_iload_n d_X12_isUnder_13 rfl 1 rfl ?_
          refine gm_iconst (v := 4) d_X12_isUnder_14 (by decide) ?_
          refine gm_icmp_ge (tgt := 29) d_X12_isUnder_15 (by decide) (fun h15 => ?_) (fun h15 => ?_)
          ·
            refine gm_iconst (v := 0) d_X12_isUnder_29 (by decide) ?_
            exact gm_zret rfl d_X12_isUnder_30 (Nat.le_of_ble_eq_true rfl) (Nat.le_of_ble_eq_true rfl) (fun h => h)
          ·
            refine gm_iload_n d_X12_isUnder_18 rfl 0 rfl ?_
            refine gm_iload_n d_X12_isUnder_19 rfl 1 rfl ?_
            refine gm_iconst (v := 3) d_X12_isUnder_20 (by decide) ?_
            refine gm_iadd d_X12_isUnder_21 ?_
            refine gm_icmp_ne (tgt := 29) d_X12_isUnder_22 (by decide) (fun h22 => ?_) (fun h22 => ?_)
            ·
              refine gm_iconst (v := 0) d_X12_isUnder_29 (by decide) ?_
              exact gm_zret rfl d_X12_isUnder_30 (Nat.le_of_ble_eq_true rfl) (Nat.le_of_ble_eq_true rfl) (fun h => h)
            ·
              exact hj2 ()
theorem d_X12_ranBody_0 : decode prog_14_method_79_code 0 = .ok (.aload_n 0, 1) := ge_aload_n_0 (by decide +kernel)
theorem d_X12_ranBody_1 : decode prog_14_method_79_code 1 = .ok (.getfield 247, 3) := ge_getfield (by decide +kernel)
theorem d_X12_ranBody_4 : decode prog_14_method_79_code 4 = .ok (.bipush 20, 2) := ge_bipush (by decide +kernel)
theorem d_X12_ranBody_6 : decode prog_14_method_79_code 6 = .ok (.if_icmp .ge 13, 3) := ge_if_icmp_ge (by decide +kernel)
theorem d_X12_ranBody_9 : decode prog_14_method_79_code 9 = .ok (.aload_n 0, 1) := ge_aload_n_0 (by decide +kernel)
theorem d_X12_ranBody_10 : decode prog_14_method_79_code 10 = .ok (.getfield 37, 3) := ge_getfield (by decide +kernel)
theorem d_X12_ranBody_13 : decode prog_14_method_79_code 13 = .ok (.aload_n 0, 1) := ge_aload_n_0 (by decide +kernel)
theorem d_X12_ranBody_14 : decode prog_14_method_79_code 14 = .ok (.getfield 247, 3) := ge_getfield (by decide +kernel)
theorem d_X12_ranBody_17 : decode prog_14_method_79_code 17 = .ok (.iload_n 1, 1) := ge_iload_n_1 (by decide +kernel)
theorem d_X12_ranBody_18 : decode prog_14_method_79_code 18 = .ok (.iastore, 1) := ge_iastore (by decide +kernel)
theorem d_X12_ranBody_19 : decode prog_14_method_79_code 19 = .ok (.aload_n 0, 1) := ge_aload_n_0 (by decide +kernel)
theorem d_X12_ranBody_20 : decode prog_14_method_79_code 20 = .ok (.dup, 1) := ge_dup (by decide +kernel)
theorem d_X12_ranBody_21 : decode prog_14_method_79_code 21 = .ok (.getfield 247, 3) := ge_getfield (by decide +kernel)
theorem d_X12_ranBody_24 : decode prog_14_method_79_code 24 = .ok (.iconst 1, 1) := ge_iconst_1 (by decide +kernel)
theorem d_X12_ranBody_25 : decode prog_14_method_79_code 25 = .ok (.iadd, 1) := ge_iadd (by decide +kernel)
theorem d_X12_ranBody_26 : decode prog_14_method_79_code 26 = .ok (.putfield 247, 3) := ge_putfield (by decide +kernel)
theorem d_X12_ranBody_29 : decode prog_14_method_79_code 29 = .ok (.return_, 1) := ge_return_ (by decide +kernel)
def f_X12_ranBody (a0 : Nat) (a1 : Int32) (μ : gm_M) : Option (Option Value × gm_M) := gm_gI μ [17] a0 19 (fun v1 => gm_j (fun (s2 : gm_M) => gm_gI s2 [17] a0 19 (fun v4 => gm_pI s2 [17] a0 19 (v4 + (1 : Int32)) (fun m5 => some (none, m5)))) (fun j3 => if (20 : Int32) ≤ v1 then j3 μ else gm_gR μ [17] a0 18 (fun v6 => gm_gI μ [17] a0 19 (fun v7 => gm_sI μ v6 v7 a1 (fun m8 => j3 m8)))))
set_option maxHeartbeats 4000000 in
theorem c_X12_ranBody (a0 : Nat) (a1 : Int32) (μ : gm_M) : gm_Call ({ cls := "GumBubbleModel", name := "ranBody", desc := "(I)V" } : Jvm.MethodName) prog_14_method_79_code 2 none 0 0 0 [.ref a0, .int a1] μ (f_X12_ranBody a0 a1 μ) := by
  refine gm_start PN_12 (Nat.le_of_ble_eq_true rfl) (fun res μe => ?_)
  unfold f_X12_ranBody
  show gm_A "GumBubbleModel" (gm_nm "ranBody") _ _ _ _ _ _ _ _ _ 0 [(0, .ref a0), (1, .int a1)] [] _ _
  refine gm_aload_n d_X12_ranBody_0 rfl 0 rfl ?_
  refine gm_getI F_12_ran gw_908 d_X12_ranBody_1 (fun v1 _ => ?_)
  refine gm_bipush (v := 20) d_X12_ranBody_4 (by decide) ?_
  refine gm_join (S := gm_M) (pj := 19) (kj := 0) (nj := 0) (fun s2 => s2) (fun s2 => [(0, .ref a0), (1, .int a1)]) (fun s2 => []) (fun s2 => ?_) (fun j3 hj3 => ?_)
  ·
    refine gm_aload_n d_X12_ranBody_19 rfl 0 rfl ?_
    refine gm_dup d_X12_ranBody_20 rfl ?_
    refine gm_getI F_12_ran gw_908 d_X12_ranBody_21 (fun v4 _ => ?_)
    refine gm_iconst (v := 1) d_X12_ranBody_24 (by decide) ?_
    refine gm_iadd d_X12_ranBody_25 ?_
    refine gm_putI F_12_ran (Or.inl rfl) gw_908 d_X12_ranBody_26 (fun m5 _ => ?_)
    exact gm_vret rfl d_X12_ranBody_29 (Nat.le_of_ble_eq_true rfl) (Nat.le_of_ble_eq_true rfl) (fun h => h)
  ·
    refine gm_icmp_ge (tgt := 19) d_X12_ranBody_6 (by decide) (fun h6 => ?_) (fun h6 => ?_)
    ·
      exact hj3 μ
    ·
      refine gm_aload_n d_X12_ranBody_9 rfl 0 rfl ?_
      refine gm_getR F_12_bodies gw_907 d_X12_ranBody_10 (fun v6 _ => ?_)
      refine gm_aload_n d_X12_ranBody_13 rfl 0 rfl ?_
      refine gm_getI F_12_ran gw_908 d_X12_ranBody_14 (fun v7 _ => ?_)
      refine gm_iload_n d_X12_ranBody_17 rfl 1 rfl ?_
      refine gm_iast d_X12_ranBody_18 (fun m8 _ => ?_)
      exact hj3 m8
theorem d_X12_plainChews_0 : decode prog_14_method_81_code 0 = .ok (.aload_n 0, 1) := ge_aload_n_0 (by decide +kernel)
theorem d_X12_plainChews_1 : decode prog_14_method_81_code 1 = .ok (.iconst 1, 1) := ge_iconst_1 (by decide +kernel)
theorem d_X12_plainChews_2 : decode prog_14_method_81_code 2 = .ok (.invokevirtual 250, 3) := ge_invokevirtual (by decide +kernel)
theorem d_X12_plainChews_5 : decode prog_14_method_81_code 5 = .ok (.iload_n 1, 1) := ge_iload_n_1 (by decide +kernel)
theorem d_X12_plainChews_6 : decode prog_14_method_81_code 6 = .ok (.aload_n 0, 1) := ge_aload_n_0 (by decide +kernel)
theorem d_X12_plainChews_7 : decode prog_14_method_81_code 7 = .ok (.getfield 253, 3) := ge_getfield (by decide +kernel)
theorem d_X12_plainChews_10 : decode prog_14_method_81_code 10 = .ok (.iadd, 1) := ge_iadd (by decide +kernel)
theorem d_X12_plainChews_11 : decode prog_14_method_81_code 11 = .ok (.ireturn, 1) := ge_ireturn (by decide +kernel)
def f_X12_plainChews (a0 : Nat) (a1 : Int32) (μ : gm_M) : Option (Option Value × gm_M) := if gm_tag μ a0 = 17 then gm_bV (f_X12_ranBody a0 (1 : Int32) μ) (fun m1 => gm_gI m1 [17] a0 21 (fun v3 => some (some (.int (a1 + v3)), m1))) else none
set_option maxHeartbeats 4000000 in
theorem c_X12_plainChews (a0 : Nat) (a1 : Int32) (μ : gm_M) : gm_Call ({ cls := "GumBubbleModel", name := "plainChews", desc := "(I)I" } : Jvm.MethodName) prog_14_method_81_code 2 (some .int) 1 0 0 [.ref a0, .int a1] μ (f_X12_plainChews a0 a1 μ) := by
  refine gm_start PN_12 (Nat.le_of_ble_eq_true rfl) (fun res μe => ?_)
  unfold f_X12_plainChews
  show gm_A "GumBubbleModel" (gm_nm "plainChews") _ _ _ _ _ _ _ _ _ 0 [(0, .ref a0), (1, .int a1)] [] _ _
  refine gm_aload_n d_X12_plainChews_0 rfl 0 rfl ?_
  refine gm_iconst (v := 1) d_X12_plainChews_1 (by decide) ?_
  refine gm_grd (fun g2 => ?_)
  refine gm_callV (k0 := 12) [.int (1 : Int32)] (c_X12_ranBody a0 (1 : Int32) μ) g2 rfl B_X12_ranBody gw_1281 gs_65 rfl rfl rfl d_X12_plainChews_2 (gm_kV (fun m1 => ?_))
  refine gm_iload_n d_X12_plainChews_5 rfl 1 rfl ?_
  refine gm_aload_n d_X12_plainChews_6 rfl 0 rfl ?_
  refine gm_getI F_12_number gw_910 d_X12_plainChews_7 (fun v3 _ => ?_)
  refine gm_iadd d_X12_plainChews_10 ?_
  exact gm_iret rfl d_X12_plainChews_11 (Nat.le_of_ble_eq_true rfl) (Nat.le_of_ble_eq_true rfl) (fun h => h)
theorem d_X12_chewsActs_0 : decode prog_14_method_82_code 0 = .ok (.aload_n 0, 1) := ge_aload_n_0 (by decide +kernel)
theorem d_X12_chewsActs_1 : decode prog_14_method_82_code 1 = .ok (.getfield 256, 3) := ge_getfield (by decide +kernel)
theorem d_X12_chewsActs_4 : decode prog_14_method_82_code 4 = .ok (.iconst 1, 1) := ge_iconst_1 (by decide +kernel)
theorem d_X12_chewsActs_5 : decode prog_14_method_82_code 5 = .ok (.invokestatic 259, 3) := ge_invokestatic (by decide +kernel)
theorem d_X12_chewsActs_8 : decode prog_14_method_82_code 8 = .ok (.ifCond .eq 17, 3) := ge_ifCond_eq (by decide +kernel)
theorem d_X12_chewsActs_11 : decode prog_14_method_82_code 11 = .ok (.aload_n 0, 1) := ge_aload_n_0 (by decide +kernel)
theorem d_X12_chewsActs_12 : decode prog_14_method_82_code 12 = .ok (.bipush 11, 2) := ge_bipush (by decide +kernel)
theorem d_X12_chewsActs_14 : decode prog_14_method_82_code 14 = .ok (.invokevirtual 250, 3) := ge_invokevirtual (by decide +kernel)
theorem d_X12_chewsActs_17 : decode prog_14_method_82_code 17 = .ok (.aload_n 0, 1) := ge_aload_n_0 (by decide +kernel)
theorem d_X12_chewsActs_18 : decode prog_14_method_82_code 18 = .ok (.iload_n 1, 1) := ge_iload_n_1 (by decide +kernel)
theorem d_X12_chewsActs_19 : decode prog_14_method_82_code 19 = .ok (.iconst 3, 1) := ge_iconst_3 (by decide +kernel)
theorem d_X12_chewsActs_20 : decode prog_14_method_82_code 20 = .ok (.imul, 1) := ge_imul (by decide +kernel)
theorem d_X12_chewsActs_21 : decode prog_14_method_82_code 21 = .ok (.invokevirtual 262, 3) := ge_invokevirtual (by decide +kernel)
theorem d_X12_chewsActs_24 : decode prog_14_method_82_code 24 = .ok (.ireturn, 1) := ge_ireturn (by decide +kernel)
theorem d_X12_chewsActs_25 : decode prog_14_method_82_code 25 = .ok (.aload_n 0, 1) := ge_aload_n_0 (by decide +kernel)
theorem d_X12_chewsActs_26 : decode prog_14_method_82_code 26 = .ok (.getfield 256, 3) := ge_getfield (by decide +kernel)
theorem d_X12_chewsActs_29 : decode prog_14_method_82_code 29 = .ok (.iconst 5, 1) := ge_iconst_5 (by decide +kernel)
theorem d_X12_chewsActs_30 : decode prog_14_method_82_code 30 = .ok (.if_icmp .ne 20, 3) := ge_if_icmp_ne (by decide +kernel)
theorem d_X12_chewsActs_33 : decode prog_14_method_82_code 33 = .ok (.aload_n 0, 1) := ge_aload_n_0 (by decide +kernel)
theorem d_X12_chewsActs_34 : decode prog_14_method_82_code 34 = .ok (.bipush 51, 2) := ge_bipush (by decide +kernel)
theorem d_X12_chewsActs_36 : decode prog_14_method_82_code 36 = .ok (.invokevirtual 250, 3) := ge_invokevirtual (by decide +kernel)
theorem d_X12_chewsActs_39 : decode prog_14_method_82_code 39 = .ok (.aload_n 0, 1) := ge_aload_n_0 (by decide +kernel)
theorem d_X12_chewsActs_40 : decode prog_14_method_82_code 40 = .ok (.iload_n 1, 1) := ge_iload_n_1 (by decide +kernel)
theorem d_X12_chewsActs_41 : decode prog_14_method_82_code 41 = .ok (.invokevirtual 262, 3) := ge_invokevirtual (by decide +kernel)
theorem d_X12_chewsActs_44 : decode prog_14_method_82_code 44 = .ok (.aload_n 0, 1) := ge_aload_n_0 (by decide +kernel)
theorem d_X12_chewsActs_45 : decode prog_14_method_82_code 45 = .ok (.getfield 253, 3) := ge_getfield (by decide +kernel)
theorem d_X12_chewsActs_48 : decode prog_14_method_82_code 48 = .ok (.ixor, 1) := ge_ixor (by decide +kernel)
theorem d_X12_chewsActs_49 : decode prog_14_method_82_code 49 = .ok (.ireturn, 1) := ge_ireturn (by decide +kernel)
theorem d_X12_chewsActs_50 : decode prog_14_method_82_code 50 = .ok (.aload_n 0, 1) := ge_aload_n_0 (by decide +kernel)
theorem d_X12_chewsActs_51 : decode prog_14_method_82_code 51 = .ok (.iload_n 1, 1) := ge_iload_n_1 (by decide +kernel)
theorem d_X12_chewsActs_52 : decode prog_14_method_82_code 52 = .ok (.invokevirtual 262, 3) := ge_invokevirtual (by decide +kernel)
theorem d_X12_chewsActs_55 : decode prog_14_method_82_code 55 = .ok (.ireturn, 1) := ge_ireturn (by decide +kernel)
def f_X12_chewsActs (a0 : Nat) (a1 : Int32) (μ : gm_M) : Option (Option Value × gm_M) := gm_gI μ [17] a0 20 (fun v1 => gm_bI (f_X12_isUnder v1 (1 : Int32) μ) (fun x3 m2 => if x3 = 0 then gm_gI m2 [17] a0 20 (fun v4 => if v4 ≠ (5 : Int32) then if gm_tag m2 a0 = 17 then gm_bI (f_X12_plainChews a0 a1 m2) (fun x6 m5 => some (some (.int x6), m5)) else none else if gm_tag m2 a0 = 17 then gm_bV (f_X12_ranBody a0 (51 : Int32) m2) (fun m7 => if gm_tag m7 a0 = 17 then gm_bI (f_X12_plainChews a0 a1 m7) (fun x10 m9 => gm_gI m9 [17] a0 21 (fun v11 => some (some (.int (x10 ^^^ v11)), m9))) else none) else none) else if gm_tag m2 a0 = 17 then gm_bV (f_X12_ranBody a0 (11 : Int32) m2) (fun m12 => if gm_tag m12 a0 = 17 then gm_bI (f_X12_plainChews a0 (a1 * (3 : Int32)) m12) (fun x15 m14 => some (some (.int x15), m14)) else none) else none))
set_option maxHeartbeats 4000000 in
theorem c_X12_chewsActs (a0 : Nat) (a1 : Int32) (μ : gm_M) : gm_Call ({ cls := "GumBubbleModel", name := "chewsActs", desc := "(I)I" } : Jvm.MethodName) prog_14_method_82_code 2 (some .int) 2 0 0 [.ref a0, .int a1] μ (f_X12_chewsActs a0 a1 μ) := by
  refine gm_start PN_12 (Nat.le_of_ble_eq_true rfl) (fun res μe => ?_)
  unfold f_X12_chewsActs
  show gm_A "GumBubbleModel" (gm_nm "chewsActs") _ _ _ _ _ _ _ _ _ 0 [(0, .ref a0), (1, .int a1)] [] _ _
  refine gm_aload_n d_X12_chewsActs_0 rfl 0 rfl ?_
  refine gm_getI F_12_kind gw_909 d_X12_chewsActs_1 (fun v1 _ => ?_)
  refine gm_iconst (v := 1) d_X12_chewsActs_4 (by decide) ?_
  refine gm_callS [.int v1, .int (1 : Int32)] (c_X12_isUnder v1 (1 : Int32) μ) B_X12_isUnder gw_1278 rfl rfl rfl d_X12_chewsActs_5 (gm_kI (fun x3 m2 => ?_))
  refine gm_if_eq (tgt := 25) d_X12_chewsActs_8 (by decide) (fun h8 => ?_) (fun h8 => ?_)
  ·
    refine gm_aload_n d_X12_chewsActs_25 rfl 0 rfl ?_
    refine gm_getI F_12_kind gw_909 d_X12_chewsActs_26 (fun v4 _ => ?_)
    refine gm_iconst (v := 5) d_X12_chewsActs_29 (by decide) ?_
    refine gm_icmp_ne (tgt := 50) d_X12_chewsActs_30 (by decide) (fun h30 => ?_) (fun h30 => ?_)
    ·
      refine gm_aload_n d_X12_chewsActs_50 rfl 0 rfl ?_
      refine gm_iload_n d_X12_chewsActs_51 rfl 1 rfl ?_
      refine gm_grd (fun g52 => ?_)
      refine gm_callV (k0 := 12) [.int a1] (c_X12_plainChews a0 a1 m2) g52 rfl B_X12_plainChews gw_1285 gs_66 rfl rfl rfl d_X12_chewsActs_52 (gm_kI (fun x6 m5 => ?_))
      exact gm_iret rfl d_X12_chewsActs_55 (Nat.le_of_ble_eq_true rfl) (Nat.le_of_ble_eq_true rfl) (fun h => h)
    ·
      refine gm_aload_n d_X12_chewsActs_33 rfl 0 rfl ?_
      refine gm_bipush (v := 51) d_X12_chewsActs_34 (by decide) ?_
      refine gm_grd (fun g36 => ?_)
      refine gm_callV (k0 := 12) [.int (51 : Int32)] (c_X12_ranBody a0 (51 : Int32) m2) g36 rfl B_X12_ranBody gw_1281 gs_65 rfl rfl rfl d_X12_chewsActs_36 (gm_kV (fun m7 => ?_))
      refine gm_aload_n d_X12_chewsActs_39 rfl 0 rfl ?_
      refine gm_iload_n d_X12_chewsActs_40 rfl 1 rfl ?_
      refine gm_grd (fun g41 => ?_)
      refine gm_callV (k0 := 12) [.int a1] (c_X12_plainChews a0 a1 m7) g41 rfl B_X12_plainChews gw_1285 gs_66 rfl rfl rfl d_X12_chewsActs_41 (gm_kI (fun x10 m9 => ?_))
      refine gm_aload_n d_X12_chewsActs_44 rfl 0 rfl ?_
      refine gm_getI F_12_number gw_910 d_X12_chewsActs_45 (fun v11 _ => ?_)
      refine gm_ixor d_X12_chewsActs_48 ?_
      exact gm_iret rfl d_X12_chewsActs_49 (Nat.le_of_ble_eq_true rfl) (Nat.le_of_ble_eq_true rfl) (fun h => h)
  ·
    refine gm_aload_n d_X12_chewsActs_11 rfl 0 rfl ?_
    refine gm_bipush (v := 11) d_X12_chewsActs_12 (by decide) ?_
    refine gm_grd (fun g14 => ?_)
    refine gm_callV (k0 := 12) [.int (11 : Int32)] (c_X12_ranBody a0 (11 : Int32) m2) g14 rfl B_X12_ranBody gw_1281 gs_65 rfl rfl rfl d_X12_chewsActs_14 (gm_kV (fun m12 => ?_))
    refine gm_aload_n d_X12_chewsActs_17 rfl 0 rfl ?_
    refine gm_iload_n d_X12_chewsActs_18 rfl 1 rfl ?_
    refine gm_iconst (v := 3) d_X12_chewsActs_19 (by decide) ?_
    refine gm_imul d_X12_chewsActs_20 ?_
    refine gm_grd (fun g21 => ?_)
    refine gm_callV (k0 := 12) [.int (a1 * (3 : Int32))] (c_X12_plainChews a0 (a1 * (3 : Int32)) m12) g21 rfl B_X12_plainChews gw_1285 gs_66 rfl rfl rfl d_X12_chewsActs_21 (gm_kI (fun x15 m14 => ?_))
    exact gm_iret rfl d_X12_chewsActs_24 (Nat.le_of_ble_eq_true rfl) (Nat.le_of_ble_eq_true rfl) (fun h => h)
theorem d_X12_plainBlows_0 : decode prog_14_method_83_code 0 = .ok (.aload_n 0, 1) := ge_aload_n_0 (by decide +kernel)
theorem d_X12_plainBlows_1 : decode prog_14_method_83_code 1 = .ok (.iconst 2, 1) := ge_iconst_2 (by decide +kernel)
theorem d_X12_plainBlows_2 : decode prog_14_method_83_code 2 = .ok (.invokevirtual 250, 3) := ge_invokevirtual (by decide +kernel)
theorem d_X12_plainBlows_5 : decode prog_14_method_83_code 5 = .ok (.aload_n 0, 1) := ge_aload_n_0 (by decide +kernel)
theorem d_X12_plainBlows_6 : decode prog_14_method_83_code 6 = .ok (.iload_n 1, 1) := ge_iload_n_1 (by decide +kernel)
theorem d_X12_plainBlows_7 : decode prog_14_method_83_code 7 = .ok (.invokevirtual 265, 3) := ge_invokevirtual (by decide +kernel)
theorem d_X12_plainBlows_10 : decode prog_14_method_83_code 10 = .ok (.aload_n 0, 1) := ge_aload_n_0 (by decide +kernel)
theorem d_X12_plainBlows_11 : decode prog_14_method_83_code 11 = .ok (.getfield 268, 3) := ge_getfield (by decide +kernel)
theorem d_X12_plainBlows_14 : decode prog_14_method_83_code 14 = .ok (.isub, 1) := ge_isub (by decide +kernel)
theorem d_X12_plainBlows_15 : decode prog_14_method_83_code 15 = .ok (.ireturn, 1) := ge_ireturn (by decide +kernel)
def f_X12_plainBlows (a0 : Nat) (a1 : Int32) (μ : gm_M) : Option (Option Value × gm_M) := if gm_tag μ a0 = 17 then gm_bV (f_X12_ranBody a0 (2 : Int32) μ) (fun m1 => if gm_tag m1 a0 = 17 then gm_bI (f_X12_chewsActs a0 a1 m1) (fun x4 m3 => gm_gI m3 [17] a0 22 (fun v5 => some (some (.int (x4 - v5)), m3))) else none) else none
set_option maxHeartbeats 4000000 in
theorem c_X12_plainBlows (a0 : Nat) (a1 : Int32) (μ : gm_M) : gm_Call ({ cls := "GumBubbleModel", name := "plainBlows", desc := "(I)I" } : Jvm.MethodName) prog_14_method_83_code 2 (some .int) 3 0 0 [.ref a0, .int a1] μ (f_X12_plainBlows a0 a1 μ) := by
  refine gm_start PN_12 (Nat.le_of_ble_eq_true rfl) (fun res μe => ?_)
  unfold f_X12_plainBlows
  show gm_A "GumBubbleModel" (gm_nm "plainBlows") _ _ _ _ _ _ _ _ _ 0 [(0, .ref a0), (1, .int a1)] [] _ _
  refine gm_aload_n d_X12_plainBlows_0 rfl 0 rfl ?_
  refine gm_iconst (v := 2) d_X12_plainBlows_1 (by decide) ?_
  refine gm_grd (fun g2 => ?_)
  refine gm_callV (k0 := 12) [.int (2 : Int32)] (c_X12_ranBody a0 (2 : Int32) μ) g2 rfl B_X12_ranBody gw_1281 gs_65 rfl rfl rfl d_X12_plainBlows_2 (gm_kV (fun m1 => ?_))
  refine gm_aload_n d_X12_plainBlows_5 rfl 0 rfl ?_
  refine gm_iload_n d_X12_plainBlows_6 rfl 1 rfl ?_
  refine gm_grd (fun g7 => ?_)
  refine gm_callV (k0 := 12) [.int a1] (c_X12_chewsActs a0 a1 m1) g7 rfl B_X12_chewsActs gw_1274 gs_64 rfl rfl rfl d_X12_plainBlows_7 (gm_kI (fun x4 m3 => ?_))
  refine gm_aload_n d_X12_plainBlows_10 rfl 0 rfl ?_
  refine gm_getI F_12_tellsV gw_911 d_X12_plainBlows_11 (fun v5 _ => ?_)
  refine gm_isub d_X12_plainBlows_14 ?_
  exact gm_iret rfl d_X12_plainBlows_15 (Nat.le_of_ble_eq_true rfl) (Nat.le_of_ble_eq_true rfl) (fun h => h)
theorem d_X12_blowsActs_0 : decode prog_14_method_84_code 0 = .ok (.aload_n 0, 1) := ge_aload_n_0 (by decide +kernel)
theorem d_X12_blowsActs_1 : decode prog_14_method_84_code 1 = .ok (.getfield 256, 3) := ge_getfield (by decide +kernel)
theorem d_X12_blowsActs_4 : decode prog_14_method_84_code 4 = .ok (.iconst 2, 1) := ge_iconst_2 (by decide +kernel)
theorem d_X12_blowsActs_5 : decode prog_14_method_84_code 5 = .ok (.invokestatic 259, 3) := ge_invokestatic (by decide +kernel)
theorem d_X12_blowsActs_8 : decode prog_14_method_84_code 8 = .ok (.ifCond .eq 16, 3) := ge_ifCond_eq (by decide +kernel)
theorem d_X12_blowsActs_11 : decode prog_14_method_84_code 11 = .ok (.aload_n 0, 1) := ge_aload_n_0 (by decide +kernel)
theorem d_X12_blowsActs_12 : decode prog_14_method_84_code 12 = .ok (.bipush 21, 2) := ge_bipush (by decide +kernel)
theorem d_X12_blowsActs_14 : decode prog_14_method_84_code 14 = .ok (.invokevirtual 250, 3) := ge_invokevirtual (by decide +kernel)
theorem d_X12_blowsActs_17 : decode prog_14_method_84_code 17 = .ok (.aload_n 0, 1) := ge_aload_n_0 (by decide +kernel)
theorem d_X12_blowsActs_18 : decode prog_14_method_84_code 18 = .ok (.iload_n 1, 1) := ge_iload_n_1 (by decide +kernel)
theorem d_X12_blowsActs_19 : decode prog_14_method_84_code 19 = .ok (.invokevirtual 271, 3) := ge_invokevirtual (by decide +kernel)
theorem d_X12_blowsActs_22 : decode prog_14_method_84_code 22 = .ok (.ineg, 1) := ge_ineg (by decide +kernel)
theorem d_X12_blowsActs_23 : decode prog_14_method_84_code 23 = .ok (.ireturn, 1) := ge_ireturn (by decide +kernel)
theorem d_X12_blowsActs_24 : decode prog_14_method_84_code 24 = .ok (.aload_n 0, 1) := ge_aload_n_0 (by decide +kernel)
theorem d_X12_blowsActs_25 : decode prog_14_method_84_code 25 = .ok (.getfield 256, 3) := ge_getfield (by decide +kernel)
theorem d_X12_blowsActs_28 : decode prog_14_method_84_code 28 = .ok (.bipush 6, 2) := ge_bipush (by decide +kernel)
theorem d_X12_blowsActs_30 : decode prog_14_method_84_code 30 = .ok (.if_icmp .ne 20, 3) := ge_if_icmp_ne (by decide +kernel)
theorem d_X12_blowsActs_33 : decode prog_14_method_84_code 33 = .ok (.aload_n 0, 1) := ge_aload_n_0 (by decide +kernel)
theorem d_X12_blowsActs_34 : decode prog_14_method_84_code 34 = .ok (.bipush 61, 2) := ge_bipush (by decide +kernel)
theorem d_X12_blowsActs_36 : decode prog_14_method_84_code 36 = .ok (.invokevirtual 250, 3) := ge_invokevirtual (by decide +kernel)
theorem d_X12_blowsActs_39 : decode prog_14_method_84_code 39 = .ok (.aload_n 0, 1) := ge_aload_n_0 (by decide +kernel)
theorem d_X12_blowsActs_40 : decode prog_14_method_84_code 40 = .ok (.iload_n 1, 1) := ge_iload_n_1 (by decide +kernel)
theorem d_X12_blowsActs_41 : decode prog_14_method_84_code 41 = .ok (.invokevirtual 271, 3) := ge_invokevirtual (by decide +kernel)
theorem d_X12_blowsActs_44 : decode prog_14_method_84_code 44 = .ok (.aload_n 0, 1) := ge_aload_n_0 (by decide +kernel)
theorem d_X12_blowsActs_45 : decode prog_14_method_84_code 45 = .ok (.getfield 268, 3) := ge_getfield (by decide +kernel)
theorem d_X12_blowsActs_48 : decode prog_14_method_84_code 48 = .ok (.iadd, 1) := ge_iadd (by decide +kernel)
theorem d_X12_blowsActs_49 : decode prog_14_method_84_code 49 = .ok (.ireturn, 1) := ge_ireturn (by decide +kernel)
theorem d_X12_blowsActs_50 : decode prog_14_method_84_code 50 = .ok (.aload_n 0, 1) := ge_aload_n_0 (by decide +kernel)
theorem d_X12_blowsActs_51 : decode prog_14_method_84_code 51 = .ok (.iload_n 1, 1) := ge_iload_n_1 (by decide +kernel)
theorem d_X12_blowsActs_52 : decode prog_14_method_84_code 52 = .ok (.invokevirtual 271, 3) := ge_invokevirtual (by decide +kernel)
theorem d_X12_blowsActs_55 : decode prog_14_method_84_code 55 = .ok (.ireturn, 1) := ge_ireturn (by decide +kernel)
def f_X12_blowsActs (a0 : Nat) (a1 : Int32) (μ : gm_M) : Option (Option Value × gm_M) := gm_gI μ [17] a0 20 (fun v1 => gm_bI (f_X12_isUnder v1 (2 : Int32) μ) (fun x3 m2 => if x3 = 0 then gm_gI m2 [17] a0 20 (fun v4 => if v4 ≠ (6 : Int32) then if gm_tag m2 a0 = 17 then gm_bI (f_X12_plainBlows a0 a1 m2) (fun x6 m5 => some (some (.int x6), m5)) else none else if gm_tag m2 a0 = 17 then gm_bV (f_X12_ranBody a0 (61 : Int32) m2) (fun m7 => if gm_tag m7 a0 = 17 then gm_bI (f_X12_plainBlows a0 a1 m7) (fun x10 m9 => gm_gI m9 [17] a0 22 (fun v11 => some (some (.int (x10 + v11)), m9))) else none) else none) else if gm_tag m2 a0 = 17 then gm_bV (f_X12_ranBody a0 (21 : Int32) m2) (fun m12 => if gm_tag m12 a0 = 17 then gm_bI (f_X12_plainBlows a0 a1 m12) (fun x15 m14 => some (some (.int (-x15)), m14)) else none) else none))
set_option maxHeartbeats 4000000 in
theorem c_X12_blowsActs (a0 : Nat) (a1 : Int32) (μ : gm_M) : gm_Call ({ cls := "GumBubbleModel", name := "blowsActs", desc := "(I)I" } : Jvm.MethodName) prog_14_method_84_code 2 (some .int) 4 0 0 [.ref a0, .int a1] μ (f_X12_blowsActs a0 a1 μ) := by
  refine gm_start PN_12 (Nat.le_of_ble_eq_true rfl) (fun res μe => ?_)
  unfold f_X12_blowsActs
  show gm_A "GumBubbleModel" (gm_nm "blowsActs") _ _ _ _ _ _ _ _ _ 0 [(0, .ref a0), (1, .int a1)] [] _ _
  refine gm_aload_n d_X12_blowsActs_0 rfl 0 rfl ?_
  refine gm_getI F_12_kind gw_909 d_X12_blowsActs_1 (fun v1 _ => ?_)
  refine gm_iconst (v := 2) d_X12_blowsActs_4 (by decide) ?_
  refine gm_callS [.int v1, .int (2 : Int32)] (c_X12_isUnder v1 (2 : Int32) μ) B_X12_isUnder gw_1278 rfl rfl rfl d_X12_blowsActs_5 (gm_kI (fun x3 m2 => ?_))
  refine gm_if_eq (tgt := 24) d_X12_blowsActs_8 (by decide) (fun h8 => ?_) (fun h8 => ?_)
  ·
    refine gm_aload_n d_X12_blowsActs_24 rfl 0 rfl ?_
    refine gm_getI F_12_kind gw_909 d_X12_blowsActs_25 (fun v4 _ => ?_)
    refine gm_bipush (v := 6) d_X12_blowsActs_28 (by decide) ?_
    refine gm_icmp_ne (tgt := 50) d_X12_blowsActs_30 (by decide) (fun h30 => ?_) (fun h30 => ?_)
    ·
      refine gm_aload_n d_X12_blowsActs_50 rfl 0 rfl ?_
      refine gm_iload_n d_X12_blowsActs_51 rfl 1 rfl ?_
      refine gm_grd (fun g52 => ?_)
      refine gm_callV (k0 := 12) [.int a1] (c_X12_plainBlows a0 a1 m2) g52 rfl B_X12_plainBlows gw_1293 gs_68 rfl rfl rfl d_X12_blowsActs_52 (gm_kI (fun x6 m5 => ?_))
      exact gm_iret rfl d_X12_blowsActs_55 (Nat.le_of_ble_eq_true rfl) (Nat.le_of_ble_eq_true rfl) (fun h => h)
    ·
      refine gm_aload_n d_X12_blowsActs_33 rfl 0 rfl ?_
      refine gm_bipush (v := 61) d_X12_blowsActs_34 (by decide) ?_
      refine gm_grd (fun g36 => ?_)
      refine gm_callV (k0 := 12) [.int (61 : Int32)] (c_X12_ranBody a0 (61 : Int32) m2) g36 rfl B_X12_ranBody gw_1281 gs_65 rfl rfl rfl d_X12_blowsActs_36 (gm_kV (fun m7 => ?_))
      refine gm_aload_n d_X12_blowsActs_39 rfl 0 rfl ?_
      refine gm_iload_n d_X12_blowsActs_40 rfl 1 rfl ?_
      refine gm_grd (fun g41 => ?_)
      refine gm_callV (k0 := 12) [.int a1] (c_X12_plainBlows a0 a1 m7) g41 rfl B_X12_plainBlows gw_1293 gs_68 rfl rfl rfl d_X12_blowsActs_41 (gm_kI (fun x10 m9 => ?_))
      refine gm_aload_n d_X12_blowsActs_44 rfl 0 rfl ?_
      refine gm_getI F_12_tellsV gw_911 d_X12_blowsActs_45 (fun v11 _ => ?_)
      refine gm_iadd d_X12_blowsActs_48 ?_
      exact gm_iret rfl d_X12_blowsActs_49 (Nat.le_of_ble_eq_true rfl) (Nat.le_of_ble_eq_true rfl) (fun h => h)
  ·
    refine gm_aload_n d_X12_blowsActs_11 rfl 0 rfl ?_
    refine gm_bipush (v := 21) d_X12_blowsActs_12 (by decide) ?_
    refine gm_grd (fun g14 => ?_)
    refine gm_callV (k0 := 12) [.int (21 : Int32)] (c_X12_ranBody a0 (21 : Int32) m2) g14 rfl B_X12_ranBody gw_1281 gs_65 rfl rfl rfl d_X12_blowsActs_14 (gm_kV (fun m12 => ?_))
    refine gm_aload_n d_X12_blowsActs_17 rfl 0 rfl ?_
    refine gm_iload_n d_X12_blowsActs_18 rfl 1 rfl ?_
    refine gm_grd (fun g19 => ?_)
    refine gm_callV (k0 := 12) [.int a1] (c_X12_plainBlows a0 a1 m12) g19 rfl B_X12_plainBlows gw_1293 gs_68 rfl rfl rfl d_X12_blowsActs_19 (gm_kI (fun x15 m14 => ?_))
    refine gm_ineg d_X12_blowsActs_22 ?_
    exact gm_iret rfl d_X12_blowsActs_23 (Nat.le_of_ble_eq_true rfl) (Nat.le_of_ble_eq_true rfl) (fun h => h)
theorem d_X12_in_0 : decode prog_14_method_3_code 0 = .ok (.iload_n 0, 1) := ge_iload_n_0 (by decide +kernel)
theorem d_X12_in_1 : decode prog_14_method_3_code 1 = .ok (.iload_n 1, 1) := ge_iload_n_1 (by decide +kernel)
theorem d_X12_in_2 : decode prog_14_method_3_code 2 = .ok (.if_icmp .lt 12, 3) := ge_if_icmp_lt (by decide +kernel)
theorem d_X12_in_5 : decode prog_14_method_3_code 5 = .ok (.iload_n 0, 1) := ge_iload_n_0 (by decide +kernel)
theorem d_X12_in_6 : decode prog_14_method_3_code 6 = .ok (.iload_n 2, 1) := ge_iload_n_2 (by decide +kernel)
theorem d_X12_in_7 : decode prog_14_method_3_code 7 = .ok (.if_icmp .gt 7, 3) := ge_if_icmp_gt (by decide +kernel)
theorem d_X12_in_10 : decode prog_14_method_3_code 10 = .ok (.iconst 1, 1) := ge_iconst_1 (by decide +kernel)
theorem d_X12_in_11 : decode prog_14_method_3_code 11 = .ok (.goto 4, 3) := ge_goto (by decide +kernel)
theorem d_X12_in_14 : decode prog_14_method_3_code 14 = .ok (.iconst 0, 1) := ge_iconst_0 (by decide +kernel)
theorem d_X12_in_15 : decode prog_14_method_3_code 15 = .ok (.ireturn, 1) := ge_ireturn (by decide +kernel)
def f_X12_in (a0 : Int32) (a1 : Int32) (a2 : Int32) (μ : gm_M) : Option (Option Value × gm_M) := if a0 < a1 then if (0 : Int32) = 0 ∨ (0 : Int32) = 1 then some (some (.int (0 : Int32)), μ) else none else if a2 < a0 then if (0 : Int32) = 0 ∨ (0 : Int32) = 1 then some (some (.int (0 : Int32)), μ) else none else if (1 : Int32) = 0 ∨ (1 : Int32) = 1 then some (some (.int (1 : Int32)), μ) else none
set_option maxHeartbeats 4000000 in
theorem c_X12_in (a0 : Int32) (a1 : Int32) (a2 : Int32) (μ : gm_M) : gm_Call ({ cls := "GumBubbleModel", name := "in", desc := "(III)Z" } : Jvm.MethodName) prog_14_method_3_code 3 (some .boolean) 0 0 0 [.int a0, .int a1, .int a2] μ (f_X12_in a0 a1 a2 μ) := by
  refine gm_start PN_12 (Nat.le_of_ble_eq_true rfl) (fun res μe => ?_)
  unfold f_X12_in
  show gm_A "GumBubbleModel" (gm_nm "in") _ _ _ _ _ _ _ _ _ 0 [(0, .int a0), (1, .int a1), (2, .int a2)] [] _ _
  refine gm_iload_n d_X12_in_0 rfl 0 rfl ?_
  refine gm_iload_n d_X12_in_1 rfl 1 rfl ?_
  refine gm_icmp_lt (tgt := 14) d_X12_in_2 (by decide) (fun h2 => ?_) (fun h2 => ?_)
  ·
    refine gm_iconst (v := 0) d_X12_in_14 (by decide) ?_
    exact gm_zret rfl d_X12_in_15 (Nat.le_of_ble_eq_true rfl) (Nat.le_of_ble_eq_true rfl) (fun h => h)
  ·
    refine gm_iload_n d_X12_in_5 rfl 0 rfl ?_
    refine gm_iload_n d_X12_in_6 rfl 2 rfl ?_
    refine gm_icmp_gt (tgt := 14) d_X12_in_7 (by decide) (fun h7 => ?_) (fun h7 => ?_)
    ·
      refine gm_iconst (v := 0) d_X12_in_14 (by decide) ?_
      exact gm_zret rfl d_X12_in_15 (Nat.le_of_ble_eq_true rfl) (Nat.le_of_ble_eq_true rfl) (fun h => h)
    ·
      refine gm_iconst (v := 1) d_X12_in_10 (by decide) ?_
      refine gm_goto (tgt := 15) d_X12_in_11 (by decide) ?_
      exact gm_zret rfl d_X12_in_15 (Nat.le_of_ble_eq_true rfl) (Nat.le_of_ble_eq_true rfl) (fun h => h)
theorem d_X12_isChild_0 : decode prog_14_method_6_code 0 = .ok (.iload_n 1, 1) := ge_iload_n_1 (by decide +kernel)
theorem d_X12_isChild_1 : decode prog_14_method_6_code 1 = .ok (.iconst 0, 1) := ge_iconst_0 (by decide +kernel)
theorem d_X12_isChild_2 : decode prog_14_method_6_code 2 = .ok (.aload_n 0, 1) := ge_aload_n_0 (by decide +kernel)
theorem d_X12_isChild_3 : decode prog_14_method_6_code 3 = .ok (.getfield 9, 3) := ge_getfield (by decide +kernel)
theorem d_X12_isChild_6 : decode prog_14_method_6_code 6 = .ok (.bipush 26, 2) := ge_bipush (by decide +kernel)
theorem d_X12_isChild_8 : decode prog_14_method_6_code 8 = .ok (.iaload, 1) := ge_iaload (by decide +kernel)
theorem d_X12_isChild_9 : decode prog_14_method_6_code 9 = .ok (.iconst 1, 1) := ge_iconst_1 (by decide +kernel)
theorem d_X12_isChild_10 : decode prog_14_method_6_code 10 = .ok (.isub, 1) := ge_isub (by decide +kernel)
theorem d_X12_isChild_11 : decode prog_14_method_6_code 11 = .ok (.invokestatic 44, 3) := ge_invokestatic (by decide +kernel)
theorem d_X12_isChild_14 : decode prog_14_method_6_code 14 = .ok (.ireturn, 1) := ge_ireturn (by decide +kernel)
def f_X12_isChild (a0 : Nat) (a1 : Int32) (μ : gm_M) : Option (Option Value × gm_M) := gm_gR μ [17] a0 1 (fun v1 => gm_aI μ v1 (26 : Int32) (fun v2 => gm_bI (f_X12_in a1 (0 : Int32) (v2 - (1 : Int32)) μ) (fun x4 m3 => if x4 = 0 ∨ x4 = 1 then some (some (.int x4), m3) else none)))
set_option maxHeartbeats 4000000 in
theorem c_X12_isChild (a0 : Nat) (a1 : Int32) (μ : gm_M) : gm_Call ({ cls := "GumBubbleModel", name := "isChild", desc := "(I)Z" } : Jvm.MethodName) prog_14_method_6_code 2 (some .boolean) 1 0 0 [.ref a0, .int a1] μ (f_X12_isChild a0 a1 μ) := by
  refine gm_start PN_12 (Nat.le_of_ble_eq_true rfl) (fun res μe => ?_)
  unfold f_X12_isChild
  show gm_A "GumBubbleModel" (gm_nm "isChild") _ _ _ _ _ _ _ _ _ 0 [(0, .ref a0), (1, .int a1)] [] _ _
  refine gm_iload_n d_X12_isChild_0 rfl 1 rfl ?_
  refine gm_iconst (v := 0) d_X12_isChild_1 (by decide) ?_
  refine gm_aload_n d_X12_isChild_2 rfl 0 rfl ?_
  refine gm_getR F_12_s gw_890 d_X12_isChild_3 (fun v1 _ => ?_)
  refine gm_bipush (v := 26) d_X12_isChild_6 (by decide) ?_
  refine gm_iald d_X12_isChild_8 (fun v2 _ => ?_)
  refine gm_iconst (v := 1) d_X12_isChild_9 (by decide) ?_
  refine gm_isub d_X12_isChild_10 ?_
  refine gm_callS [.int a1, .int (0 : Int32), .int (v2 - (1 : Int32))] (c_X12_in a1 (0 : Int32) (v2 - (1 : Int32)) μ) B_X12_in gw_964 rfl rfl rfl d_X12_isChild_11 (gm_kI (fun x4 m3 => ?_))
  exact gm_zret rfl d_X12_isChild_14 (Nat.le_of_ble_eq_true rfl) (Nat.le_of_ble_eq_true rfl) (fun h => h)
theorem d_X12_plainTelling_0 : decode prog_14_method_85_code 0 = .ok (.aload_n 0, 1) := ge_aload_n_0 (by decide +kernel)
theorem d_X12_plainTelling_1 : decode prog_14_method_85_code 1 = .ok (.iconst 3, 1) := ge_iconst_3 (by decide +kernel)
theorem d_X12_plainTelling_2 : decode prog_14_method_85_code 2 = .ok (.invokevirtual 250, 3) := ge_invokevirtual (by decide +kernel)
theorem d_X12_plainTelling_5 : decode prog_14_method_85_code 5 = .ok (.aload_n 0, 1) := ge_aload_n_0 (by decide +kernel)
theorem d_X12_plainTelling_6 : decode prog_14_method_85_code 6 = .ok (.iload_n 1, 1) := ge_iload_n_1 (by decide +kernel)
theorem d_X12_plainTelling_7 : decode prog_14_method_85_code 7 = .ok (.invokevirtual 274, 3) := ge_invokevirtual (by decide +kernel)
theorem d_X12_plainTelling_10 : decode prog_14_method_85_code 10 = .ok (.iconst 2, 1) := ge_iconst_2 (by decide +kernel)
theorem d_X12_plainTelling_11 : decode prog_14_method_85_code 11 = .ok (.imul, 1) := ge_imul (by decide +kernel)
theorem d_X12_plainTelling_12 : decode prog_14_method_85_code 12 = .ok (.ireturn, 1) := ge_ireturn (by decide +kernel)
def f_X12_plainTelling (a0 : Nat) (a1 : Int32) (μ : gm_M) : Option (Option Value × gm_M) := if gm_tag μ a0 = 17 then gm_bV (f_X12_ranBody a0 (3 : Int32) μ) (fun m1 => if gm_tag m1 a0 = 17 then gm_bI (f_X12_blowsActs a0 a1 m1) (fun x4 m3 => some (some (.int (x4 * (2 : Int32))), m3)) else none) else none
set_option maxHeartbeats 4000000 in
theorem c_X12_plainTelling (a0 : Nat) (a1 : Int32) (μ : gm_M) : gm_Call ({ cls := "GumBubbleModel", name := "plainTelling", desc := "(I)I" } : Jvm.MethodName) prog_14_method_85_code 2 (some .int) 5 0 0 [.ref a0, .int a1] μ (f_X12_plainTelling a0 a1 μ) := by
  refine gm_start PN_12 (Nat.le_of_ble_eq_true rfl) (fun res μe => ?_)
  unfold f_X12_plainTelling
  show gm_A "GumBubbleModel" (gm_nm "plainTelling") _ _ _ _ _ _ _ _ _ 0 [(0, .ref a0), (1, .int a1)] [] _ _
  refine gm_aload_n d_X12_plainTelling_0 rfl 0 rfl ?_
  refine gm_iconst (v := 3) d_X12_plainTelling_1 (by decide) ?_
  refine gm_grd (fun g2 => ?_)
  refine gm_callV (k0 := 12) [.int (3 : Int32)] (c_X12_ranBody a0 (3 : Int32) μ) g2 rfl B_X12_ranBody gw_1281 gs_65 rfl rfl rfl d_X12_plainTelling_2 (gm_kV (fun m1 => ?_))
  refine gm_aload_n d_X12_plainTelling_5 rfl 0 rfl ?_
  refine gm_iload_n d_X12_plainTelling_6 rfl 1 rfl ?_
  refine gm_grd (fun g7 => ?_)
  refine gm_callV (k0 := 12) [.int a1] (c_X12_blowsActs a0 a1 m1) g7 rfl B_X12_blowsActs gw_1289 gs_67 rfl rfl rfl d_X12_plainTelling_7 (gm_kI (fun x4 m3 => ?_))
  refine gm_iconst (v := 2) d_X12_plainTelling_10 (by decide) ?_
  refine gm_imul d_X12_plainTelling_11 ?_
  exact gm_iret rfl d_X12_plainTelling_12 (Nat.le_of_ble_eq_true rfl) (Nat.le_of_ble_eq_true rfl) (fun h => h)
theorem d_X12_tellsActs_0 : decode prog_14_method_86_code 0 = .ok (.aload_n 0, 1) := ge_aload_n_0 (by decide +kernel)
theorem d_X12_tellsActs_1 : decode prog_14_method_86_code 1 = .ok (.getfield 256, 3) := ge_getfield (by decide +kernel)
theorem d_X12_tellsActs_4 : decode prog_14_method_86_code 4 = .ok (.iconst 3, 1) := ge_iconst_3 (by decide +kernel)
theorem d_X12_tellsActs_5 : decode prog_14_method_86_code 5 = .ok (.invokestatic 259, 3) := ge_invokestatic (by decide +kernel)
theorem d_X12_tellsActs_8 : decode prog_14_method_86_code 8 = .ok (.ifCond .eq 18, 3) := ge_ifCond_eq (by decide +kernel)
theorem d_X12_tellsActs_11 : decode prog_14_method_86_code 11 = .ok (.aload_n 0, 1) := ge_aload_n_0 (by decide +kernel)
theorem d_X12_tellsActs_12 : decode prog_14_method_86_code 12 = .ok (.bipush 31, 2) := ge_bipush (by decide +kernel)
theorem d_X12_tellsActs_14 : decode prog_14_method_86_code 14 = .ok (.invokevirtual 250, 3) := ge_invokevirtual (by decide +kernel)
theorem d_X12_tellsActs_17 : decode prog_14_method_86_code 17 = .ok (.aload_n 0, 1) := ge_aload_n_0 (by decide +kernel)
theorem d_X12_tellsActs_18 : decode prog_14_method_86_code 18 = .ok (.iload_n 1, 1) := ge_iload_n_1 (by decide +kernel)
theorem d_X12_tellsActs_19 : decode prog_14_method_86_code 19 = .ok (.invokevirtual 277, 3) := ge_invokevirtual (by decide +kernel)
theorem d_X12_tellsActs_22 : decode prog_14_method_86_code 22 = .ok (.bipush 7, 2) := ge_bipush (by decide +kernel)
theorem d_X12_tellsActs_24 : decode prog_14_method_86_code 24 = .ok (.ixor, 1) := ge_ixor (by decide +kernel)
theorem d_X12_tellsActs_25 : decode prog_14_method_86_code 25 = .ok (.ireturn, 1) := ge_ireturn (by decide +kernel)
theorem d_X12_tellsActs_26 : decode prog_14_method_86_code 26 = .ok (.aload_n 0, 1) := ge_aload_n_0 (by decide +kernel)
theorem d_X12_tellsActs_27 : decode prog_14_method_86_code 27 = .ok (.getfield 256, 3) := ge_getfield (by decide +kernel)
theorem d_X12_tellsActs_30 : decode prog_14_method_86_code 30 = .ok (.iconst 4, 1) := ge_iconst_4 (by decide +kernel)
theorem d_X12_tellsActs_31 : decode prog_14_method_86_code 31 = .ok (.if_icmp .ne 25, 3) := ge_if_icmp_ne (by decide +kernel)
theorem d_X12_tellsActs_34 : decode prog_14_method_86_code 34 = .ok (.aload_n 0, 1) := ge_aload_n_0 (by decide +kernel)
theorem d_X12_tellsActs_35 : decode prog_14_method_86_code 35 = .ok (.bipush 41, 2) := ge_bipush (by decide +kernel)
theorem d_X12_tellsActs_37 : decode prog_14_method_86_code 37 = .ok (.invokevirtual 250, 3) := ge_invokevirtual (by decide +kernel)
theorem d_X12_tellsActs_40 : decode prog_14_method_86_code 40 = .ok (.aload_n 0, 1) := ge_aload_n_0 (by decide +kernel)
theorem d_X12_tellsActs_41 : decode prog_14_method_86_code 41 = .ok (.iload_n 1, 1) := ge_iload_n_1 (by decide +kernel)
theorem d_X12_tellsActs_42 : decode prog_14_method_86_code 42 = .ok (.iconst 1, 1) := ge_iconst_1 (by decide +kernel)
theorem d_X12_tellsActs_43 : decode prog_14_method_86_code 43 = .ok (.isub, 1) := ge_isub (by decide +kernel)
theorem d_X12_tellsActs_44 : decode prog_14_method_86_code 44 = .ok (.invokevirtual 277, 3) := ge_invokevirtual (by decide +kernel)
theorem d_X12_tellsActs_47 : decode prog_14_method_86_code 47 = .ok (.istore_n 2, 1) := ge_istore_n_2 (by decide +kernel)
theorem d_X12_tellsActs_48 : decode prog_14_method_86_code 48 = .ok (.iload_n 2, 1) := ge_iload_n_2 (by decide +kernel)
theorem d_X12_tellsActs_49 : decode prog_14_method_86_code 49 = .ok (.aload_n 0, 1) := ge_aload_n_0 (by decide +kernel)
theorem d_X12_tellsActs_50 : decode prog_14_method_86_code 50 = .ok (.iconst 2, 1) := ge_iconst_2 (by decide +kernel)
theorem d_X12_tellsActs_51 : decode prog_14_method_86_code 51 = .ok (.invokevirtual 265, 3) := ge_invokevirtual (by decide +kernel)
theorem d_X12_tellsActs_54 : decode prog_14_method_86_code 54 = .ok (.iadd, 1) := ge_iadd (by decide +kernel)
theorem d_X12_tellsActs_55 : decode prog_14_method_86_code 55 = .ok (.ireturn, 1) := ge_ireturn (by decide +kernel)
theorem d_X12_tellsActs_56 : decode prog_14_method_86_code 56 = .ok (.aload_n 0, 1) := ge_aload_n_0 (by decide +kernel)
theorem d_X12_tellsActs_57 : decode prog_14_method_86_code 57 = .ok (.iload_n 1, 1) := ge_iload_n_1 (by decide +kernel)
theorem d_X12_tellsActs_58 : decode prog_14_method_86_code 58 = .ok (.invokevirtual 277, 3) := ge_invokevirtual (by decide +kernel)
theorem d_X12_tellsActs_61 : decode prog_14_method_86_code 61 = .ok (.ireturn, 1) := ge_ireturn (by decide +kernel)
def f_X12_tellsActs (a0 : Nat) (a1 : Int32) (μ : gm_M) : Option (Option Value × gm_M) := gm_gI μ [17] a0 20 (fun v1 => gm_bI (f_X12_isUnder v1 (3 : Int32) μ) (fun x3 m2 => if x3 = 0 then gm_gI m2 [17] a0 20 (fun v4 => if v4 ≠ (4 : Int32) then if gm_tag m2 a0 = 17 then gm_bI (f_X12_plainTelling a0 a1 m2) (fun x6 m5 => some (some (.int x6), m5)) else none else if gm_tag m2 a0 = 17 then gm_bV (f_X12_ranBody a0 (41 : Int32) m2) (fun m7 => if gm_tag m7 a0 = 17 then gm_bI (f_X12_plainTelling a0 (a1 - (1 : Int32)) m7) (fun x10 m9 => if gm_tag m9 a0 = 17 then gm_bI (f_X12_chewsActs a0 (2 : Int32) m9) (fun x12 m11 => some (some (.int (x10 + x12)), m11)) else none) else none) else none) else if gm_tag m2 a0 = 17 then gm_bV (f_X12_ranBody a0 (31 : Int32) m2) (fun m13 => if gm_tag m13 a0 = 17 then gm_bI (f_X12_plainTelling a0 a1 m13) (fun x16 m15 => some (some (.int (x16 ^^^ (7 : Int32))), m15)) else none) else none))
set_option maxHeartbeats 4000000 in
theorem c_X12_tellsActs (a0 : Nat) (a1 : Int32) (μ : gm_M) : gm_Call ({ cls := "GumBubbleModel", name := "tellsActs", desc := "(I)I" } : Jvm.MethodName) prog_14_method_86_code 3 (some .int) 6 0 0 [.ref a0, .int a1] μ (f_X12_tellsActs a0 a1 μ) := by
  refine gm_start PN_12 (Nat.le_of_ble_eq_true rfl) (fun res μe => ?_)
  unfold f_X12_tellsActs
  show gm_A "GumBubbleModel" (gm_nm "tellsActs") _ _ _ _ _ _ _ _ _ 0 [(0, .ref a0), (1, .int a1)] [] _ _
  refine gm_aload_n d_X12_tellsActs_0 rfl 0 rfl ?_
  refine gm_getI F_12_kind gw_909 d_X12_tellsActs_1 (fun v1 _ => ?_)
  refine gm_iconst (v := 3) d_X12_tellsActs_4 (by decide) ?_
  refine gm_callS [.int v1, .int (3 : Int32)] (c_X12_isUnder v1 (3 : Int32) μ) B_X12_isUnder gw_1278 rfl rfl rfl d_X12_tellsActs_5 (gm_kI (fun x3 m2 => ?_))
  refine gm_if_eq (tgt := 26) d_X12_tellsActs_8 (by decide) (fun h8 => ?_) (fun h8 => ?_)
  ·
    refine gm_aload_n d_X12_tellsActs_26 rfl 0 rfl ?_
    refine gm_getI F_12_kind gw_909 d_X12_tellsActs_27 (fun v4 _ => ?_)
    refine gm_iconst (v := 4) d_X12_tellsActs_30 (by decide) ?_
    refine gm_icmp_ne (tgt := 56) d_X12_tellsActs_31 (by decide) (fun h31 => ?_) (fun h31 => ?_)
    ·
      refine gm_aload_n d_X12_tellsActs_56 rfl 0 rfl ?_
      refine gm_iload_n d_X12_tellsActs_57 rfl 1 rfl ?_
      refine gm_grd (fun g58 => ?_)
      refine gm_callV (k0 := 12) [.int a1] (c_X12_plainTelling a0 a1 m2) g58 rfl B_X12_plainTelling gw_1301 gs_70 rfl rfl rfl d_X12_tellsActs_58 (gm_kI (fun x6 m5 => ?_))
      exact gm_iret rfl d_X12_tellsActs_61 (Nat.le_of_ble_eq_true rfl) (Nat.le_of_ble_eq_true rfl) (fun h => h)
    ·
      refine gm_aload_n d_X12_tellsActs_34 rfl 0 rfl ?_
      refine gm_bipush (v := 41) d_X12_tellsActs_35 (by decide) ?_
      refine gm_grd (fun g37 => ?_)
      refine gm_callV (k0 := 12) [.int (41 : Int32)] (c_X12_ranBody a0 (41 : Int32) m2) g37 rfl B_X12_ranBody gw_1281 gs_65 rfl rfl rfl d_X12_tellsActs_37 (gm_kV (fun m7 => ?_))
      refine gm_aload_n d_X12_tellsActs_40 rfl 0 rfl ?_
      refine gm_iload_n d_X12_tellsActs_41 rfl 1 rfl ?_
      refine gm_iconst (v := 1) d_X12_tellsActs_42 (by decide) ?_
      refine gm_isub d_X12_tellsActs_43 ?_
      refine gm_grd (fun g44 => ?_)
      refine gm_callV (k0 := 12) [.int (a1 - (1 : Int32))] (c_X12_plainTelling a0 (a1 - (1 : Int32)) m7) g44 rfl B_X12_plainTelling gw_1301 gs_70 rfl rfl rfl d_X12_tellsActs_44 (gm_kI (fun x10 m9 => ?_))
      refine gm_istore_n (L' := [(2, .int x10), (0, .ref a0), (1, .int a1)]) d_X12_tellsActs_47 rfl (Nat.le_of_ble_eq_true rfl) rfl ?_
      refine gm_iload_n d_X12_tellsActs_48 rfl 0 rfl ?_
      refine gm_aload_n d_X12_tellsActs_49 rfl 1 rfl ?_
      refine gm_iconst (v := 2) d_X12_tellsActs_50 (by decide) ?_
      refine gm_grd (fun g51 => ?_)
      refine gm_callV (k0 := 12) [.int (2 : Int32)] (c_X12_chewsActs a0 (2 : Int32) m9) g51 rfl B_X12_chewsActs gw_1274 gs_64 rfl rfl rfl d_X12_tellsActs_51 (gm_kI (fun x12 m11 => ?_))
      refine gm_iadd d_X12_tellsActs_54 ?_
      exact gm_iret rfl d_X12_tellsActs_55 (Nat.le_of_ble_eq_true rfl) (Nat.le_of_ble_eq_true rfl) (fun h => h)
  ·
    refine gm_aload_n d_X12_tellsActs_11 rfl 0 rfl ?_
    refine gm_bipush (v := 31) d_X12_tellsActs_12 (by decide) ?_
    refine gm_grd (fun g14 => ?_)
    refine gm_callV (k0 := 12) [.int (31 : Int32)] (c_X12_ranBody a0 (31 : Int32) m2) g14 rfl B_X12_ranBody gw_1281 gs_65 rfl rfl rfl d_X12_tellsActs_14 (gm_kV (fun m13 => ?_))
    refine gm_aload_n d_X12_tellsActs_17 rfl 0 rfl ?_
    refine gm_iload_n d_X12_tellsActs_18 rfl 1 rfl ?_
    refine gm_grd (fun g19 => ?_)
    refine gm_callV (k0 := 12) [.int a1] (c_X12_plainTelling a0 a1 m13) g19 rfl B_X12_plainTelling gw_1301 gs_70 rfl rfl rfl d_X12_tellsActs_19 (gm_kI (fun x16 m15 => ?_))
    refine gm_bipush (v := 7) d_X12_tellsActs_22 (by decide) ?_
    refine gm_ixor d_X12_tellsActs_24 ?_
    exact gm_iret rfl d_X12_tellsActs_25 (Nat.le_of_ble_eq_true rfl) (Nat.le_of_ble_eq_true rfl) (fun h => h)
theorem d_X12_act_0 : decode prog_14_method_87_code 0 = .ok (.aload_n 0, 1) := ge_aload_n_0 (by decide +kernel)
theorem d_X12_act_1 : decode prog_14_method_87_code 1 = .ok (.iconst 0, 1) := ge_iconst_0 (by decide +kernel)
theorem d_X12_act_2 : decode prog_14_method_87_code 2 = .ok (.putfield 247, 3) := ge_putfield (by decide +kernel)
theorem d_X12_act_5 : decode prog_14_method_87_code 5 = .ok (.aload_n 0, 1) := ge_aload_n_0 (by decide +kernel)
theorem d_X12_act_6 : decode prog_14_method_87_code 6 = .ok (.iload_n 1, 1) := ge_iload_n_1 (by decide +kernel)
theorem d_X12_act_7 : decode prog_14_method_87_code 7 = .ok (.invokevirtual 154, 3) := ge_invokevirtual (by decide +kernel)
theorem d_X12_act_10 : decode prog_14_method_87_code 10 = .ok (.ifCond .eq 12, 3) := ge_ifCond_eq (by decide +kernel)
theorem d_X12_act_13 : decode prog_14_method_87_code 13 = .ok (.iload_n 2, 1) := ge_iload_n_2 (by decide +kernel)
theorem d_X12_act_14 : decode prog_14_method_87_code 14 = .ok (.iconst 0, 1) := ge_iconst_0 (by decide +kernel)
theorem d_X12_act_15 : decode prog_14_method_87_code 15 = .ok (.iconst 2, 1) := ge_iconst_2 (by decide +kernel)
theorem d_X12_act_16 : decode prog_14_method_87_code 16 = .ok (.invokestatic 44, 3) := ge_invokestatic (by decide +kernel)
theorem d_X12_act_19 : decode prog_14_method_87_code 19 = .ok (.ifCond .ne 5, 3) := ge_ifCond_ne (by decide +kernel)
theorem d_X12_act_22 : decode prog_14_method_87_code 22 = .ok (.iconst 0, 1) := ge_iconst_0 (by decide +kernel)
theorem d_X12_act_23 : decode prog_14_method_87_code 23 = .ok (.ireturn, 1) := ge_ireturn (by decide +kernel)
theorem d_X12_act_24 : decode prog_14_method_87_code 24 = .ok (.aload_n 0, 1) := ge_aload_n_0 (by decide +kernel)
theorem d_X12_act_25 : decode prog_14_method_87_code 25 = .ok (.aload_n 0, 1) := ge_aload_n_0 (by decide +kernel)
theorem d_X12_act_26 : decode prog_14_method_87_code 26 = .ok (.getfield 9, 3) := ge_getfield (by decide +kernel)
theorem d_X12_act_29 : decode prog_14_method_87_code 29 = .ok (.bipush 33, 2) := ge_bipush (by decide +kernel)
theorem d_X12_act_31 : decode prog_14_method_87_code 31 = .ok (.iload_n 1, 1) := ge_iload_n_1 (by decide +kernel)
theorem d_X12_act_32 : decode prog_14_method_87_code 32 = .ok (.iadd, 1) := ge_iadd (by decide +kernel)
theorem d_X12_act_33 : decode prog_14_method_87_code 33 = .ok (.iaload, 1) := ge_iaload (by decide +kernel)
theorem d_X12_act_34 : decode prog_14_method_87_code 34 = .ok (.putfield 256, 3) := ge_putfield (by decide +kernel)
theorem d_X12_act_37 : decode prog_14_method_87_code 37 = .ok (.aload_n 0, 1) := ge_aload_n_0 (by decide +kernel)
theorem d_X12_act_38 : decode prog_14_method_87_code 38 = .ok (.iload_n 1, 1) := ge_iload_n_1 (by decide +kernel)
theorem d_X12_act_39 : decode prog_14_method_87_code 39 = .ok (.putfield 253, 3) := ge_putfield (by decide +kernel)
theorem d_X12_act_42 : decode prog_14_method_87_code 42 = .ok (.aload_n 0, 1) := ge_aload_n_0 (by decide +kernel)
theorem d_X12_act_43 : decode prog_14_method_87_code 43 = .ok (.aload_n 0, 1) := ge_aload_n_0 (by decide +kernel)
theorem d_X12_act_44 : decode prog_14_method_87_code 44 = .ok (.getfield 9, 3) := ge_getfield (by decide +kernel)
theorem d_X12_act_47 : decode prog_14_method_87_code 47 = .ok (.bipush 38, 2) := ge_bipush (by decide +kernel)
theorem d_X12_act_49 : decode prog_14_method_87_code 49 = .ok (.iload_n 1, 1) := ge_iload_n_1 (by decide +kernel)
theorem d_X12_act_50 : decode prog_14_method_87_code 50 = .ok (.iadd, 1) := ge_iadd (by decide +kernel)
theorem d_X12_act_51 : decode prog_14_method_87_code 51 = .ok (.iaload, 1) := ge_iaload (by decide +kernel)
theorem d_X12_act_52 : decode prog_14_method_87_code 52 = .ok (.putfield 268, 3) := ge_putfield (by decide +kernel)
theorem d_X12_act_55 : decode prog_14_method_87_code 55 = .ok (.iload_n 2, 1) := ge_iload_n_2 (by decide +kernel)
theorem d_X12_act_56 : decode prog_14_method_87_code 56 = .ok (.ifCond .ne 11, 3) := ge_ifCond_ne (by decide +kernel)
theorem d_X12_act_59 : decode prog_14_method_87_code 59 = .ok (.aload_n 0, 1) := ge_aload_n_0 (by decide +kernel)
theorem d_X12_act_60 : decode prog_14_method_87_code 60 = .ok (.iload_n 3, 1) := ge_iload_n_3 (by decide +kernel)
theorem d_X12_act_61 : decode prog_14_method_87_code 61 = .ok (.invokevirtual 265, 3) := ge_invokevirtual (by decide +kernel)
theorem d_X12_act_64 : decode prog_14_method_87_code 64 = .ok (.goto 21, 3) := ge_goto (by decide +kernel)
theorem d_X12_act_67 : decode prog_14_method_87_code 67 = .ok (.iload_n 2, 1) := ge_iload_n_2 (by decide +kernel)
theorem d_X12_act_68 : decode prog_14_method_87_code 68 = .ok (.iconst 1, 1) := ge_iconst_1 (by decide +kernel)
theorem d_X12_act_69 : decode prog_14_method_87_code 69 = .ok (.if_icmp .ne 11, 3) := ge_if_icmp_ne (by decide +kernel)
theorem d_X12_act_72 : decode prog_14_method_87_code 72 = .ok (.aload_n 0, 1) := ge_aload_n_0 (by decide +kernel)
theorem d_X12_act_73 : decode prog_14_method_87_code 73 = .ok (.iload_n 3, 1) := ge_iload_n_3 (by decide +kernel)
theorem d_X12_act_74 : decode prog_14_method_87_code 74 = .ok (.invokevirtual 274, 3) := ge_invokevirtual (by decide +kernel)
theorem d_X12_act_77 : decode prog_14_method_87_code 77 = .ok (.goto 8, 3) := ge_goto (by decide +kernel)
theorem d_X12_act_80 : decode prog_14_method_87_code 80 = .ok (.aload_n 0, 1) := ge_aload_n_0 (by decide +kernel)
theorem d_X12_act_81 : decode prog_14_method_87_code 81 = .ok (.iload_n 3, 1) := ge_iload_n_3 (by decide +kernel)
theorem d_X12_act_82 : decode prog_14_method_87_code 82 = .ok (.invokevirtual 280, 3) := ge_invokevirtual (by decide +kernel)
theorem d_X12_act_85 : decode prog_14_method_87_code 85 = .ok (.ireturn, 1) := ge_ireturn (by decide +kernel)
def f_X12_act (a0 : Nat) (a1 : Int32) (a2 : Int32) (a3 : Int32) (μ : gm_M) : Option (Option Value × gm_M) := gm_pI μ [17] a0 19 (0 : Int32) (fun m1 => if gm_tag m1 a0 = 17 then gm_bI (f_X12_isChild a0 a1 m1) (fun x3 m2 => if x3 = 0 then some (some (.int (0 : Int32)), m2) else gm_bI (f_X12_in a2 (0 : Int32) (2 : Int32) m2) (fun x5 m4 => if x5 ≠ 0 then gm_gR m4 [17] a0 1 (fun v6 => gm_aI m4 v6 ((33 : Int32) + a1) (fun v7 => gm_pI m4 [17] a0 20 v7 (fun m8 => gm_pI m8 [17] a0 21 a1 (fun m9 => gm_gR m9 [17] a0 1 (fun v10 => gm_aI m9 v10 ((38 : Int32) + a1) (fun v11 => gm_pI m9 [17] a0 22 v11 (fun m12 => if a2 ≠ 0 then if a2 ≠ (1 : Int32) then if gm_tag m12 a0 = 17 then gm_bI (f_X12_tellsActs a0 a3 m12) (fun x14 m13 => some (some (.int x14), m13)) else none else if gm_tag m12 a0 = 17 then gm_bI (f_X12_blowsActs a0 a3 m12) (fun x16 m15 => some (some (.int x16), m15)) else none else if gm_tag m12 a0 = 17 then gm_bI (f_X12_chewsActs a0 a3 m12) (fun x18 m17 => some (some (.int x18), m17)) else none))))))) else some (some (.int (0 : Int32)), m4))) else none)
set_option maxHeartbeats 4000000 in
theorem c_X12_act (a0 : Nat) (a1 : Int32) (a2 : Int32) (a3 : Int32) (μ : gm_M) : gm_Call ({ cls := "GumBubbleModel", name := "act", desc := "(III)I" } : Jvm.MethodName) prog_14_method_87_code 4 (some .int) 7 0 0 [.ref a0, .int a1, .int a2, .int a3] μ (f_X12_act a0 a1 a2 a3 μ) := by
  refine gm_start PN_12 (Nat.le_of_ble_eq_true rfl) (fun res μe => ?_)
  unfold f_X12_act
  show gm_A "GumBubbleModel" (gm_nm "act") _ _ _ _ _ _ _ _ _ 0 [(0, .ref a0), (1, .int a1), (2, .int a2), (3, .int a3)] [] _ _
  refine gm_aload_n d_X12_act_0 rfl 0 rfl ?_
  refine gm_iconst (v := 0) d_X12_act_1 (by decide) ?_
  refine gm_putI F_12_ran (Or.inl rfl) gw_908 d_X12_act_2 (fun m1 _ => ?_)
  refine gm_aload_n d_X12_act_5 rfl 0 rfl ?_
  refine gm_iload_n d_X12_act_6 rfl 1 rfl ?_
  refine gm_grd (fun g7 => ?_)
  refine gm_callV (k0 := 12) [.int a1] (c_X12_isChild a0 a1 m1) g7 rfl B_X12_isChild gw_1047 gs_40 rfl rfl rfl d_X12_act_7 (gm_kI (fun x3 m2 => ?_))
  refine gm_if_eq (tgt := 22) d_X12_act_10 (by decide) (fun h10 => ?_) (fun h10 => ?_)
  ·
    refine gm_iconst (v := 0) d_X12_act_22 (by decide) ?_
    exact gm_iret rfl d_X12_act_23 (Nat.le_of_ble_eq_true rfl) (Nat.le_of_ble_eq_true rfl) (fun h => h)
  ·
    refine gm_iload_n d_X12_act_13 rfl 2 rfl ?_
    refine gm_iconst (v := 0) d_X12_act_14 (by decide) ?_
    refine gm_iconst (v := 2) d_X12_act_15 (by decide) ?_
    refine gm_callS [.int a2, .int (0 : Int32), .int (2 : Int32)] (c_X12_in a2 (0 : Int32) (2 : Int32) m2) B_X12_in gw_964 rfl rfl rfl d_X12_act_16 (gm_kI (fun x5 m4 => ?_))
    refine gm_if_ne (tgt := 24) d_X12_act_19 (by decide) (fun h19 => ?_) (fun h19 => ?_)
    ·
      refine gm_aload_n d_X12_act_24 rfl 0 rfl ?_
      refine gm_aload_n d_X12_act_25 rfl 0 rfl ?_
      refine gm_getR F_12_s gw_890 d_X12_act_26 (fun v6 _ => ?_)
      refine gm_bipush (v := 33) d_X12_act_29 (by decide) ?_
      refine gm_iload_n d_X12_act_31 rfl 1 rfl ?_
      refine gm_iadd d_X12_act_32 ?_
      refine gm_iald d_X12_act_33 (fun v7 _ => ?_)
      refine gm_putI F_12_kind (Or.inl rfl) gw_909 d_X12_act_34 (fun m8 _ => ?_)
      refine gm_aload_n d_X12_act_37 rfl 0 rfl ?_
      refine gm_iload_n d_X12_act_38 rfl 1 rfl ?_
      refine gm_putI F_12_number (Or.inl rfl) gw_910 d_X12_act_39 (fun m9 _ => ?_)
      refine gm_aload_n d_X12_act_42 rfl 0 rfl ?_
      refine gm_aload_n d_X12_act_43 rfl 0 rfl ?_
      refine gm_getR F_12_s gw_890 d_X12_act_44 (fun v10 _ => ?_)
      refine gm_bipush (v := 38) d_X12_act_47 (by decide) ?_
      refine gm_iload_n d_X12_act_49 rfl 1 rfl ?_
      refine gm_iadd d_X12_act_50 ?_
      refine gm_iald d_X12_act_51 (fun v11 _ => ?_)
      refine gm_putI F_12_tellsV (Or.inl rfl) gw_911 d_X12_act_52 (fun m12 _ => ?_)
      refine gm_iload_n d_X12_act_55 rfl 2 rfl ?_
      refine gm_if_ne (tgt := 67) d_X12_act_56 (by decide) (fun h56 => ?_) (fun h56 => ?_)
      ·
        refine gm_iload_n d_X12_act_67 rfl 2 rfl ?_
        refine gm_iconst (v := 1) d_X12_act_68 (by decide) ?_
        refine gm_icmp_ne (tgt := 80) d_X12_act_69 (by decide) (fun h69 => ?_) (fun h69 => ?_)
        ·
          refine gm_aload_n d_X12_act_80 rfl 0 rfl ?_
          refine gm_iload_n d_X12_act_81 rfl 3 rfl ?_
          refine gm_grd (fun g82 => ?_)
          refine gm_callV (k0 := 12) [.int a3] (c_X12_tellsActs a0 a3 m12) g82 rfl B_X12_tellsActs gw_1297 gs_69 rfl rfl rfl d_X12_act_82 (gm_kI (fun x14 m13 => ?_))
          exact gm_iret rfl d_X12_act_85 (Nat.le_of_ble_eq_true rfl) (Nat.le_of_ble_eq_true rfl) (fun h => h)
        ·
          refine gm_aload_n d_X12_act_72 rfl 0 rfl ?_
          refine gm_iload_n d_X12_act_73 rfl 3 rfl ?_
          refine gm_grd (fun g74 => ?_)
          refine gm_callV (k0 := 12) [.int a3] (c_X12_blowsActs a0 a3 m12) g74 rfl B_X12_blowsActs gw_1289 gs_67 rfl rfl rfl d_X12_act_74 (gm_kI (fun x16 m15 => ?_))
          refine gm_goto (tgt := 85) d_X12_act_77 (by decide) ?_
          exact gm_iret rfl d_X12_act_85 (Nat.le_of_ble_eq_true rfl) (Nat.le_of_ble_eq_true rfl) (fun h => h)
      ·
        refine gm_aload_n d_X12_act_59 rfl 0 rfl ?_
        refine gm_iload_n d_X12_act_60 rfl 3 rfl ?_
        refine gm_grd (fun g61 => ?_)
        refine gm_callV (k0 := 12) [.int a3] (c_X12_chewsActs a0 a3 m12) g61 rfl B_X12_chewsActs gw_1274 gs_64 rfl rfl rfl d_X12_act_61 (gm_kI (fun x18 m17 => ?_))
        refine gm_goto (tgt := 85) d_X12_act_64 (by decide) ?_
        exact gm_iret rfl d_X12_act_85 (Nat.le_of_ble_eq_true rfl) (Nat.le_of_ble_eq_true rfl) (fun h => h)
    ·
      refine gm_iconst (v := 0) d_X12_act_22 (by decide) ?_
      exact gm_iret rfl d_X12_act_23 (Nat.le_of_ble_eq_true rfl) (Nat.le_of_ble_eq_true rfl) (fun h => h)
theorem d_X12_here_0 : decode prog_14_method_10_code 0 = .ok (.aload_n 0, 1) := ge_aload_n_0 (by decide +kernel)
theorem d_X12_here_1 : decode prog_14_method_10_code 1 = .ok (.getfield 48, 3) := ge_getfield (by decide +kernel)
theorem d_X12_here_4 : decode prog_14_method_10_code 4 = .ok (.aload_n 0, 1) := ge_aload_n_0 (by decide +kernel)
theorem d_X12_here_5 : decode prog_14_method_10_code 5 = .ok (.getfield 51, 3) := ge_getfield (by decide +kernel)
theorem d_X12_here_8 : decode prog_14_method_10_code 8 = .ok (.if_icmp .ge 18, 3) := ge_if_icmp_ge (by decide +kernel)
theorem d_X12_here_11 : decode prog_14_method_10_code 11 = .ok (.aload_n 0, 1) := ge_aload_n_0 (by decide +kernel)
theorem d_X12_here_12 : decode prog_14_method_10_code 12 = .ok (.getfield 9, 3) := ge_getfield (by decide +kernel)
theorem d_X12_here_15 : decode prog_14_method_10_code 15 = .ok (.bipush 110, 2) := ge_bipush (by decide +kernel)
theorem d_X12_here_17 : decode prog_14_method_10_code 17 = .ok (.aload_n 0, 1) := ge_aload_n_0 (by decide +kernel)
theorem d_X12_here_18 : decode prog_14_method_10_code 18 = .ok (.getfield 48, 3) := ge_getfield (by decide +kernel)
theorem d_X12_here_21 : decode prog_14_method_10_code 21 = .ok (.iadd, 1) := ge_iadd (by decide +kernel)
theorem d_X12_here_22 : decode prog_14_method_10_code 22 = .ok (.iaload, 1) := ge_iaload (by decide +kernel)
theorem d_X12_here_23 : decode prog_14_method_10_code 23 = .ok (.goto 4, 3) := ge_goto (by decide +kernel)
theorem d_X12_here_26 : decode prog_14_method_10_code 26 = .ok (.iconst (-1), 1) := ge_iconst_m1_ (by decide +kernel)
theorem d_X12_here_27 : decode prog_14_method_10_code 27 = .ok (.ireturn, 1) := ge_ireturn (by decide +kernel)
def f_X12_here (a0 : Nat) (μ : gm_M) : Option (Option Value × gm_M) := gm_gI μ [17] a0 6 (fun v1 => gm_gI μ [17] a0 7 (fun v2 => if v2 ≤ v1 then some (some (.int (-1 : Int32)), μ) else gm_gR μ [17] a0 1 (fun v3 => gm_gI μ [17] a0 6 (fun v4 => gm_aI μ v3 ((110 : Int32) + v4) (fun v5 => some (some (.int v5), μ))))))
set_option maxHeartbeats 4000000 in
theorem c_X12_here (a0 : Nat) (μ : gm_M) : gm_Call ({ cls := "GumBubbleModel", name := "here", desc := "()I" } : Jvm.MethodName) prog_14_method_10_code 1 (some .int) 0 0 0 [.ref a0] μ (f_X12_here a0 μ) := by
  refine gm_start PN_12 (Nat.le_of_ble_eq_true rfl) (fun res μe => ?_)
  unfold f_X12_here
  show gm_A "GumBubbleModel" (gm_nm "here") _ _ _ _ _ _ _ _ _ 0 [(0, .ref a0)] [] _ _
  refine gm_aload_n d_X12_here_0 rfl 0 rfl ?_
  refine gm_getI F_12_spot gw_895 d_X12_here_1 (fun v1 _ => ?_)
  refine gm_aload_n d_X12_here_4 rfl 0 rfl ?_
  refine gm_getI F_12_end gw_896 d_X12_here_5 (fun v2 _ => ?_)
  refine gm_icmp_ge (tgt := 26) d_X12_here_8 (by decide) (fun h8 => ?_) (fun h8 => ?_)
  ·
    refine gm_iconst (v := -1) d_X12_here_26 (by decide) ?_
    exact gm_iret rfl d_X12_here_27 (Nat.le_of_ble_eq_true rfl) (Nat.le_of_ble_eq_true rfl) (fun h => h)
  ·
    refine gm_aload_n d_X12_here_11 rfl 0 rfl ?_
    refine gm_getR F_12_s gw_890 d_X12_here_12 (fun v3 _ => ?_)
    refine gm_bipush (v := 110) d_X12_here_15 (by decide) ?_
    refine gm_aload_n d_X12_here_17 rfl 0 rfl ?_
    refine gm_getI F_12_spot gw_895 d_X12_here_18 (fun v4 _ => ?_)
    refine gm_iadd d_X12_here_21 ?_
    refine gm_iald d_X12_here_22 (fun v5 _ => ?_)
    refine gm_goto (tgt := 27) d_X12_here_23 (by decide) ?_
    exact gm_iret rfl d_X12_here_27 (Nat.le_of_ble_eq_true rfl) (Nat.le_of_ble_eq_true rfl) (fun h => h)
theorem d_X12_figures_0 : decode prog_14_method_13_code 0 = .ok (.aload_n 0, 1) := ge_aload_n_0 (by decide +kernel)
theorem d_X12_figures_1 : decode prog_14_method_13_code 1 = .ok (.aload_n 0, 1) := ge_aload_n_0 (by decide +kernel)
theorem d_X12_figures_2 : decode prog_14_method_13_code 2 = .ok (.getfield 54, 3) := ge_getfield (by decide +kernel)
theorem d_X12_figures_5 : decode prog_14_method_13_code 5 = .ok (.ifCond .ne 17, 3) := ge_ifCond_ne (by decide +kernel)
theorem d_X12_figures_8 : decode prog_14_method_13_code 8 = .ok (.aload_n 0, 1) := ge_aload_n_0 (by decide +kernel)
theorem d_X12_figures_9 : decode prog_14_method_13_code 9 = .ok (.invokevirtual 58, 3) := ge_invokevirtual (by decide +kernel)
theorem d_X12_figures_12 : decode prog_14_method_13_code 12 = .ok (.bipush 48, 2) := ge_bipush (by decide +kernel)
theorem d_X12_figures_14 : decode prog_14_method_13_code 14 = .ok (.bipush 57, 2) := ge_bipush (by decide +kernel)
theorem d_X12_figures_16 : decode prog_14_method_13_code 16 = .ok (.invokestatic 44, 3) := ge_invokestatic (by decide +kernel)
theorem d_X12_figures_19 : decode prog_14_method_13_code 19 = .ok (.ifCond .ne 7, 3) := ge_ifCond_ne (by decide +kernel)
theorem d_X12_figures_22 : decode prog_14_method_13_code 22 = .ok (.iconst 1, 1) := ge_iconst_1 (by decide +kernel)
theorem d_X12_figures_23 : decode prog_14_method_13_code 23 = .ok (.goto 4, 3) := ge_goto (by decide +kernel)
theorem d_X12_figures_26 : decode prog_14_method_13_code 26 = .ok (.iconst 0, 1) := ge_iconst_0 (by decide +kernel)
theorem d_X12_figures_27 : decode prog_14_method_13_code 27 = .ok (.putfield 54, 3) := ge_putfield (by decide +kernel)
theorem d_X12_figures_30 : decode prog_14_method_13_code 30 = .ok (.iconst 0, 1) := ge_iconst_0 (by decide +kernel)
theorem d_X12_figures_31 : decode prog_14_method_13_code 31 = .ok (.istore_n 1, 1) := ge_istore_n_1 (by decide +kernel)
theorem d_X12_figures_32 : decode prog_14_method_13_code 32 = .ok (.iconst 0, 1) := ge_iconst_0 (by decide +kernel)
theorem d_X12_figures_33 : decode prog_14_method_13_code 33 = .ok (.istore_n 2, 1) := ge_istore_n_2 (by decide +kernel)
theorem d_X12_figures_34 : decode prog_14_method_13_code 34 = .ok (.iload_n 2, 1) := ge_iload_n_2 (by decide +kernel)
theorem d_X12_figures_35 : decode prog_14_method_13_code 35 = .ok (.iconst 2, 1) := ge_iconst_2 (by decide +kernel)
theorem d_X12_figures_36 : decode prog_14_method_13_code 36 = .ok (.if_icmp .ge 61, 3) := ge_if_icmp_ge (by decide +kernel)
theorem d_X12_figures_39 : decode prog_14_method_13_code 39 = .ok (.aload_n 0, 1) := ge_aload_n_0 (by decide +kernel)
theorem d_X12_figures_40 : decode prog_14_method_13_code 40 = .ok (.getfield 54, 3) := ge_getfield (by decide +kernel)
theorem d_X12_figures_43 : decode prog_14_method_13_code 43 = .ok (.ifCond .ne 54, 3) := ge_ifCond_ne (by decide +kernel)
theorem d_X12_figures_46 : decode prog_14_method_13_code 46 = .ok (.aload_n 0, 1) := ge_aload_n_0 (by decide +kernel)
theorem d_X12_figures_47 : decode prog_14_method_13_code 47 = .ok (.invokevirtual 58, 3) := ge_invokevirtual (by decide +kernel)
theorem d_X12_figures_50 : decode prog_14_method_13_code 50 = .ok (.bipush 48, 2) := ge_bipush (by decide +kernel)
theorem d_X12_figures_52 : decode prog_14_method_13_code 52 = .ok (.bipush 57, 2) := ge_bipush (by decide +kernel)
theorem d_X12_figures_54 : decode prog_14_method_13_code 54 = .ok (.invokestatic 44, 3) := ge_invokestatic (by decide +kernel)
theorem d_X12_figures_57 : decode prog_14_method_13_code 57 = .ok (.ifCond .eq 40, 3) := ge_ifCond_eq (by decide +kernel)
theorem d_X12_figures_60 : decode prog_14_method_13_code 60 = .ok (.iload_n 2, 1) := ge_iload_n_2 (by decide +kernel)
theorem d_X12_figures_61 : decode prog_14_method_13_code 61 = .ok (.ifCond .eq 7, 3) := ge_ifCond_eq (by decide +kernel)
theorem d_X12_figures_64 : decode prog_14_method_13_code 64 = .ok (.iload_n 1, 1) := ge_iload_n_1 (by decide +kernel)
theorem d_X12_figures_65 : decode prog_14_method_13_code 65 = .ok (.ifCond .le 32, 3) := ge_ifCond_le (by decide +kernel)
theorem d_X12_figures_68 : decode prog_14_method_13_code 68 = .ok (.bipush 10, 2) := ge_bipush (by decide +kernel)
theorem d_X12_figures_70 : decode prog_14_method_13_code 70 = .ok (.iload_n 1, 1) := ge_iload_n_1 (by decide +kernel)
theorem d_X12_figures_71 : decode prog_14_method_13_code 71 = .ok (.imul, 1) := ge_imul (by decide +kernel)
theorem d_X12_figures_72 : decode prog_14_method_13_code 72 = .ok (.aload_n 0, 1) := ge_aload_n_0 (by decide +kernel)
theorem d_X12_figures_73 : decode prog_14_method_13_code 73 = .ok (.invokevirtual 58, 3) := ge_invokevirtual (by decide +kernel)
theorem d_X12_figures_76 : decode prog_14_method_13_code 76 = .ok (.iadd, 1) := ge_iadd (by decide +kernel)
theorem d_X12_figures_77 : decode prog_14_method_13_code 77 = .ok (.bipush 48, 2) := ge_bipush (by decide +kernel)
theorem d_X12_figures_79 : decode prog_14_method_13_code 79 = .ok (.isub, 1) := ge_isub (by decide +kernel)
theorem d_X12_figures_80 : decode prog_14_method_13_code 80 = .ok (.istore_n 1, 1) := ge_istore_n_1 (by decide +kernel)
theorem d_X12_figures_81 : decode prog_14_method_13_code 81 = .ok (.aload_n 0, 1) := ge_aload_n_0 (by decide +kernel)
theorem d_X12_figures_82 : decode prog_14_method_13_code 82 = .ok (.dup, 1) := ge_dup (by decide +kernel)
theorem d_X12_figures_83 : decode prog_14_method_13_code 83 = .ok (.getfield 48, 3) := ge_getfield (by decide +kernel)
theorem d_X12_figures_86 : decode prog_14_method_13_code 86 = .ok (.iconst 1, 1) := ge_iconst_1 (by decide +kernel)
theorem d_X12_figures_87 : decode prog_14_method_13_code 87 = .ok (.iadd, 1) := ge_iadd (by decide +kernel)
theorem d_X12_figures_88 : decode prog_14_method_13_code 88 = .ok (.putfield 48, 3) := ge_putfield (by decide +kernel)
theorem d_X12_figures_91 : decode prog_14_method_13_code 91 = .ok (.iinc 2 1, 3) := ge_iinc (by decide +kernel)
theorem d_X12_figures_94 : decode prog_14_method_13_code 94 = .ok (.goto (-60), 3) := ge_goto (by decide +kernel)
theorem d_X12_figures_97 : decode prog_14_method_13_code 97 = .ok (.iload_n 1, 1) := ge_iload_n_1 (by decide +kernel)
theorem d_X12_figures_98 : decode prog_14_method_13_code 98 = .ok (.ireturn, 1) := ge_ireturn (by decide +kernel)
def f_X12_figures (a0 : Nat) (μ : gm_M) : Option (Option Value × gm_M) := gm_gI μ [17] a0 8 (fun v1 => gm_j (fun (s2 : Int32 × gm_M) => gm_pZ s2.2 [17] a0 8 s2.1 (fun m4 => gm_loop (fun (s5 : Int32 × Int32 × gm_M) => if (2 : Int32) ≤ s5.2.1 then some (Sum.inr (some (.int s5.1), s5.2.2)) else gm_gI s5.2.2 [17] a0 8 (fun v6 => if v6 ≠ 0 then some (Sum.inr (some (.int s5.1), s5.2.2)) else if gm_tag s5.2.2 a0 = 17 then gm_bI (f_X12_here a0 s5.2.2) (fun x8 m7 => gm_bI (f_X12_in x8 (48 : Int32) (57 : Int32) m7) (fun x10 m9 => if x10 = 0 then some (Sum.inr (some (.int s5.1), m9)) else gm_j (fun (s11 : Unit) => if gm_tag m9 a0 = 17 then gm_bI (f_X12_here a0 m9) (fun x14 m13 => gm_gI m13 [17] a0 6 (fun v15 => gm_pI m13 [17] a0 6 (v15 + (1 : Int32)) (fun m16 => some (Sum.inl (((((10 : Int32) * s5.1) + x14) - (48 : Int32)), (s5.2.1 + (1 : Int32)), m16))))) else none) (fun j12 => if s5.2.1 = 0 then j12 () else if s5.1 ≤ 0 then some (Sum.inr (some (.int s5.1), m9)) else j12 ()))) else none)) 5000 ((0 : Int32), (0 : Int32), m4))) (fun j3 => gm_j (fun (s17 : gm_M) => j3 ((1 : Int32), s17)) (fun j18 => if v1 ≠ 0 then j18 μ else if gm_tag μ a0 = 17 then gm_bI (f_X12_here a0 μ) (fun x20 m19 => gm_bI (f_X12_in x20 (48 : Int32) (57 : Int32) m19) (fun x22 m21 => if x22 ≠ 0 then j3 ((0 : Int32), m21) else j18 m21)) else none)))
set_option maxHeartbeats 4000000 in
theorem c_X12_figures (a0 : Nat) (μ : gm_M) : gm_Call ({ cls := "GumBubbleModel", name := "figures", desc := "()I" } : Jvm.MethodName) prog_14_method_13_code 3 (some .int) 1 0 0 [.ref a0] μ (f_X12_figures a0 μ) := by
  refine gm_start PN_12 (Nat.le_of_ble_eq_true rfl) (fun res μe => ?_)
  unfold f_X12_figures
  show gm_A "GumBubbleModel" (gm_nm "figures") _ _ _ _ _ _ _ _ _ 0 [(0, .ref a0)] [] _ _
  refine gm_aload_n d_X12_figures_0 rfl 0 rfl ?_
  refine gm_aload_n d_X12_figures_1 rfl 0 rfl ?_
  refine gm_getI F_12_isWrong gw_897 d_X12_figures_2 (fun v1 _ => ?_)
  refine gm_join (S := Int32 × gm_M) (pj := 27) (kj := 0) (nj := 0) (fun s2 => s2.2) (fun s2 => [(0, .ref a0)]) (fun s2 => [.int s2.1, .ref a0]) (fun s2 => ?_) (fun j3 hj3 => ?_)
  ·
    refine gm_putZ F_12_isWrong (Or.inl rfl) gw_897 d_X12_figures_27 (fun m4 _ => ?_)
    refine gm_iconst (v := 0) d_X12_figures_30 (by decide) ?_
    refine gm_istore_n (L' := [(1, .int (0 : Int32)), (0, .ref a0)]) d_X12_figures_31 rfl (Nat.le_of_ble_eq_true rfl) rfl ?_
    refine gm_iconst (v := 0) d_X12_figures_32 (by decide) ?_
    refine gm_istore_n (L' := [(2, .int (0 : Int32)), (1, .int (0 : Int32)), (0, .ref a0)]) d_X12_figures_33 rfl (Nat.le_of_ble_eq_true rfl) rfl ?_
    refine gm_sub (L' := [(0, .ref a0), (1, .int (0 : Int32)), (2, .int (0 : Int32))]) [2, 1, 0] rfl ?_
    refine gm_lp (S := Int32 × Int32 × gm_M) (fun _ => 0) (fun _ => 0) (fun s5 => s5.2.2) (fun s5 => [(0, .ref a0), (1, .int s5.1), (2, .int s5.2.1)]) (fun _ => []) (fun s5 => ?_) 5000 ((0 : Int32), (0 : Int32), m4)
    refine gm_iload_n d_X12_figures_34 rfl 2 rfl ?_
    refine gm_iconst (v := 2) d_X12_figures_35 (by decide) ?_
    refine gm_icmp_ge (tgt := 97) d_X12_figures_36 (by decide) (fun h36 => ?_) (fun h36 => ?_)
    ·
      refine gm_iload_n d_X12_figures_97 rfl 1 rfl ?_
      exact gm_iret rfl d_X12_figures_98 (Nat.le_of_ble_eq_true rfl) (Nat.le_of_ble_eq_true rfl) (fun h => h)
    ·
      refine gm_aload_n d_X12_figures_39 rfl 0 rfl ?_
      refine gm_getI F_12_isWrong gw_897 d_X12_figures_40 (fun v6 _ => ?_)
      refine gm_if_ne (tgt := 97) d_X12_figures_43 (by decide) (fun h43 => ?_) (fun h43 => ?_)
      ·
        refine gm_iload_n d_X12_figures_97 rfl 1 rfl ?_
        exact gm_iret rfl d_X12_figures_98 (Nat.le_of_ble_eq_true rfl) (Nat.le_of_ble_eq_true rfl) (fun h => h)
      ·
        refine gm_aload_n d_X12_figures_46 rfl 0 rfl ?_
        refine gm_grd (fun g47 => ?_)
        refine gm_callV (k0 := 12) [] (c_X12_here a0 s5.2.2) g47 rfl B_X12_here gw_975 gs_26 rfl rfl rfl d_X12_figures_47 (gm_kI (fun x8 m7 => ?_))
        refine gm_bipush (v := 48) d_X12_figures_50 (by decide) ?_
        refine gm_bipush (v := 57) d_X12_figures_52 (by decide) ?_
        refine gm_callS [.int x8, .int (48 : Int32), .int (57 : Int32)] (c_X12_in x8 (48 : Int32) (57 : Int32) m7) B_X12_in gw_964 rfl rfl rfl d_X12_figures_54 (gm_kI (fun x10 m9 => ?_))
        refine gm_if_eq (tgt := 97) d_X12_figures_57 (by decide) (fun h57 => ?_) (fun h57 => ?_)
        ·
          refine gm_iload_n d_X12_figures_97 rfl 1 rfl ?_
          exact gm_iret rfl d_X12_figures_98 (Nat.le_of_ble_eq_true rfl) (Nat.le_of_ble_eq_true rfl) (fun h => h)
        ·
          refine gm_iload_n d_X12_figures_60 rfl 2 rfl ?_
          refine gm_join (S := Unit) (pj := 68) (kj := 0) (nj := 0) (fun s11 => m9) (fun s11 => [(0, .ref a0), (1, .int s5.1), (2, .int s5.2.1)]) (fun s11 => []) (fun s11 => ?_) (fun j12 hj12 => ?_)
          ·
            refine gm_bipush (v := 10) d_X12_figures_68 (by decide) ?_
            refine gm_iload_n d_X12_figures_70 rfl 1 rfl ?_
            refine gm_imul d_X12_figures_71 ?_
            refine gm_aload_n d_X12_figures_72 rfl 0 rfl ?_
            refine gm_grd (fun g73 => ?_)
            refine gm_callV (k0 := 12) [] (c_X12_here a0 m9) g73 rfl B_X12_here gw_975 gs_26 rfl rfl rfl d_X12_figures_73 (gm_kI (fun x14 m13 => ?_))
            refine gm_iadd d_X12_figures_76 ?_
            refine gm_bipush (v := 48) d_X12_figures_77 (by decide) ?_
            refine gm_isub d_X12_figures_79 ?_
            refine gm_istore_n (L' := [(1, .int ((((10 : Int32) * s5.1) + x14) - (48 : Int32))), (0, .ref a0), (2, .int s5.2.1)]) d_X12_figures_80 rfl (Nat.le_of_ble_eq_true rfl) rfl ?_
            refine gm_aload_n d_X12_figures_81 rfl 1 rfl ?_
            refine gm_dup d_X12_figures_82 rfl ?_
            refine gm_getI F_12_spot gw_895 d_X12_figures_83 (fun v15 _ => ?_)
            refine gm_iconst (v := 1) d_X12_figures_86 (by decide) ?_
            refine gm_iadd d_X12_figures_87 ?_
            refine gm_putI F_12_spot (Or.inl rfl) gw_895 d_X12_figures_88 (fun m16 _ => ?_)
            refine gm_iinc (v := s5.2.1 + (1 : Int32)) (L' := [(2, .int (s5.2.1 + (1 : Int32))), (1, .int ((((10 : Int32) * s5.1) + x14) - (48 : Int32))), (0, .ref a0)]) d_X12_figures_91 2 rfl rfl (Nat.le_of_ble_eq_true rfl) rfl ?_
            refine gm_goto (tgt := 34) d_X12_figures_94 (by decide) ?_
            refine gm_sub (L' := [(0, .ref a0), (1, .int ((((10 : Int32) * s5.1) + x14) - (48 : Int32))), (2, .int (s5.2.1 + (1 : Int32)))]) [2, 1, 0] rfl ?_
            exact gm_back (fun h => h)
          ·
            refine gm_if_eq (tgt := 68) d_X12_figures_61 (by decide) (fun h61 => ?_) (fun h61 => ?_)
            ·
              exact hj12 ()
            ·
              refine gm_iload_n d_X12_figures_64 rfl 1 rfl ?_
              refine gm_if_le (tgt := 97) d_X12_figures_65 (by decide) (fun h65 => ?_) (fun h65 => ?_)
              ·
                refine gm_iload_n d_X12_figures_97 rfl 1 rfl ?_
                exact gm_iret rfl d_X12_figures_98 (Nat.le_of_ble_eq_true rfl) (Nat.le_of_ble_eq_true rfl) (fun h => h)
              ·
                exact hj12 ()
  ·
    refine gm_join (S := gm_M) (pj := 22) (kj := 0) (nj := 0) (fun s17 => s17) (fun s17 => [(0, .ref a0)]) (fun s17 => [.ref a0]) (fun s17 => ?_) (fun j18 hj18 => ?_)
    ·
      refine gm_iconst (v := 1) d_X12_figures_22 (by decide) ?_
      refine gm_goto (tgt := 27) d_X12_figures_23 (by decide) ?_
      exact hj3 ((1 : Int32), s17)
    ·
      refine gm_if_ne (tgt := 22) d_X12_figures_5 (by decide) (fun h5 => ?_) (fun h5 => ?_)
      ·
        exact hj18 μ
      ·
        refine gm_aload_n d_X12_figures_8 rfl 0 rfl ?_
        refine gm_grd (fun g9 => ?_)
        refine gm_callV (k0 := 12) [] (c_X12_here a0 μ) g9 rfl B_X12_here gw_975 gs_26 rfl rfl rfl d_X12_figures_9 (gm_kI (fun x20 m19 => ?_))
        refine gm_bipush (v := 48) d_X12_figures_12 (by decide) ?_
        refine gm_bipush (v := 57) d_X12_figures_14 (by decide) ?_
        refine gm_callS [.int x20, .int (48 : Int32), .int (57 : Int32)] (c_X12_in x20 (48 : Int32) (57 : Int32) m19) B_X12_in gw_964 rfl rfl rfl d_X12_figures_16 (gm_kI (fun x22 m21 => ?_))
        refine gm_if_ne (tgt := 26) d_X12_figures_19 (by decide) (fun h19 => ?_) (fun h19 => ?_)
        ·
          refine gm_iconst (v := 0) d_X12_figures_26 (by decide) ?_
          exact hj3 ((0 : Int32), m21)
        ·
          exact hj18 m21
theorem d_X12_must_0 : decode prog_14_method_11_code 0 = .ok (.aload_n 0, 1) := ge_aload_n_0 (by decide +kernel)
theorem d_X12_must_1 : decode prog_14_method_11_code 1 = .ok (.aload_n 0, 1) := ge_aload_n_0 (by decide +kernel)
theorem d_X12_must_2 : decode prog_14_method_11_code 2 = .ok (.getfield 54, 3) := ge_getfield (by decide +kernel)
theorem d_X12_must_5 : decode prog_14_method_11_code 5 = .ok (.ifCond .ne 11, 3) := ge_ifCond_ne (by decide +kernel)
theorem d_X12_must_8 : decode prog_14_method_11_code 8 = .ok (.aload_n 0, 1) := ge_aload_n_0 (by decide +kernel)
theorem d_X12_must_9 : decode prog_14_method_11_code 9 = .ok (.invokevirtual 58, 3) := ge_invokevirtual (by decide +kernel)
theorem d_X12_must_12 : decode prog_14_method_11_code 12 = .ok (.iload_n 1, 1) := ge_iload_n_1 (by decide +kernel)
theorem d_X12_must_13 : decode prog_14_method_11_code 13 = .ok (.if_icmp .eq 7, 3) := ge_if_icmp_eq (by decide +kernel)
theorem d_X12_must_16 : decode prog_14_method_11_code 16 = .ok (.iconst 1, 1) := ge_iconst_1 (by decide +kernel)
theorem d_X12_must_17 : decode prog_14_method_11_code 17 = .ok (.goto 4, 3) := ge_goto (by decide +kernel)
theorem d_X12_must_20 : decode prog_14_method_11_code 20 = .ok (.iconst 0, 1) := ge_iconst_0 (by decide +kernel)
theorem d_X12_must_21 : decode prog_14_method_11_code 21 = .ok (.putfield 54, 3) := ge_putfield (by decide +kernel)
theorem d_X12_must_24 : decode prog_14_method_11_code 24 = .ok (.aload_n 0, 1) := ge_aload_n_0 (by decide +kernel)
theorem d_X12_must_25 : decode prog_14_method_11_code 25 = .ok (.dup, 1) := ge_dup (by decide +kernel)
theorem d_X12_must_26 : decode prog_14_method_11_code 26 = .ok (.getfield 48, 3) := ge_getfield (by decide +kernel)
theorem d_X12_must_29 : decode prog_14_method_11_code 29 = .ok (.aload_n 0, 1) := ge_aload_n_0 (by decide +kernel)
theorem d_X12_must_30 : decode prog_14_method_11_code 30 = .ok (.getfield 54, 3) := ge_getfield (by decide +kernel)
theorem d_X12_must_33 : decode prog_14_method_11_code 33 = .ok (.ifCond .eq 7, 3) := ge_ifCond_eq (by decide +kernel)
theorem d_X12_must_36 : decode prog_14_method_11_code 36 = .ok (.iconst 0, 1) := ge_iconst_0 (by decide +kernel)
theorem d_X12_must_37 : decode prog_14_method_11_code 37 = .ok (.goto 4, 3) := ge_goto (by decide +kernel)
theorem d_X12_must_40 : decode prog_14_method_11_code 40 = .ok (.iconst 1, 1) := ge_iconst_1 (by decide +kernel)
theorem d_X12_must_41 : decode prog_14_method_11_code 41 = .ok (.iadd, 1) := ge_iadd (by decide +kernel)
theorem d_X12_must_42 : decode prog_14_method_11_code 42 = .ok (.putfield 48, 3) := ge_putfield (by decide +kernel)
theorem d_X12_must_45 : decode prog_14_method_11_code 45 = .ok (.return_, 1) := ge_return_ (by decide +kernel)
def f_X12_must (a0 : Nat) (a1 : Int32) (μ : gm_M) : Option (Option Value × gm_M) := gm_gI μ [17] a0 8 (fun v1 => gm_j (fun (s2 : Int32 × gm_M) => gm_pZ s2.2 [17] a0 8 s2.1 (fun m4 => gm_gI m4 [17] a0 6 (fun v5 => gm_gI m4 [17] a0 8 (fun v6 => gm_j (fun (s7 : Int32) => gm_pI m4 [17] a0 6 (v5 + s7) (fun m9 => some (none, m9))) (fun j8 => if v6 = 0 then j8 (1 : Int32) else j8 (0 : Int32)))))) (fun j3 => gm_j (fun (s10 : gm_M) => j3 ((1 : Int32), s10)) (fun j11 => if v1 ≠ 0 then j11 μ else if gm_tag μ a0 = 17 then gm_bI (f_X12_here a0 μ) (fun x13 m12 => if x13 = a1 then j3 ((0 : Int32), m12) else j11 m12) else none)))
set_option maxHeartbeats 4000000 in
theorem c_X12_must (a0 : Nat) (a1 : Int32) (μ : gm_M) : gm_Call ({ cls := "GumBubbleModel", name := "must", desc := "(I)V" } : Jvm.MethodName) prog_14_method_11_code 2 none 1 0 0 [.ref a0, .int a1] μ (f_X12_must a0 a1 μ) := by
  refine gm_start PN_12 (Nat.le_of_ble_eq_true rfl) (fun res μe => ?_)
  unfold f_X12_must
  show gm_A "GumBubbleModel" (gm_nm "must") _ _ _ _ _ _ _ _ _ 0 [(0, .ref a0), (1, .int a1)] [] _ _
  refine gm_aload_n d_X12_must_0 rfl 0 rfl ?_
  refine gm_aload_n d_X12_must_1 rfl 0 rfl ?_
  refine gm_getI F_12_isWrong gw_897 d_X12_must_2 (fun v1 _ => ?_)
  refine gm_join (S := Int32 × gm_M) (pj := 21) (kj := 0) (nj := 0) (fun s2 => s2.2) (fun s2 => [(0, .ref a0), (1, .int a1)]) (fun s2 => [.int s2.1, .ref a0]) (fun s2 => ?_) (fun j3 hj3 => ?_)
  ·
    refine gm_putZ F_12_isWrong (Or.inl rfl) gw_897 d_X12_must_21 (fun m4 _ => ?_)
    refine gm_aload_n d_X12_must_24 rfl 0 rfl ?_
    refine gm_dup d_X12_must_25 rfl ?_
    refine gm_getI F_12_spot gw_895 d_X12_must_26 (fun v5 _ => ?_)
    refine gm_aload_n d_X12_must_29 rfl 0 rfl ?_
    refine gm_getI F_12_isWrong gw_897 d_X12_must_30 (fun v6 _ => ?_)
    refine gm_join (S := Int32) (pj := 41) (kj := 0) (nj := 0) (fun s7 => m4) (fun s7 => [(0, .ref a0), (1, .int a1)]) (fun s7 => [.int s7, .int v5, .ref a0]) (fun s7 => ?_) (fun j8 hj8 => ?_)
    ·
      refine gm_iadd d_X12_must_41 ?_
      refine gm_putI F_12_spot (Or.inl rfl) gw_895 d_X12_must_42 (fun m9 _ => ?_)
      exact gm_vret rfl d_X12_must_45 (Nat.le_of_ble_eq_true rfl) (Nat.le_of_ble_eq_true rfl) (fun h => h)
    ·
      refine gm_if_eq (tgt := 40) d_X12_must_33 (by decide) (fun h33 => ?_) (fun h33 => ?_)
      ·
        refine gm_iconst (v := 1) d_X12_must_40 (by decide) ?_
        exact hj8 (1 : Int32)
      ·
        refine gm_iconst (v := 0) d_X12_must_36 (by decide) ?_
        refine gm_goto (tgt := 41) d_X12_must_37 (by decide) ?_
        exact hj8 (0 : Int32)
  ·
    refine gm_join (S := gm_M) (pj := 16) (kj := 0) (nj := 0) (fun s10 => s10) (fun s10 => [(0, .ref a0), (1, .int a1)]) (fun s10 => [.ref a0]) (fun s10 => ?_) (fun j11 hj11 => ?_)
    ·
      refine gm_iconst (v := 1) d_X12_must_16 (by decide) ?_
      refine gm_goto (tgt := 21) d_X12_must_17 (by decide) ?_
      exact hj3 ((1 : Int32), s10)
    ·
      refine gm_if_ne (tgt := 16) d_X12_must_5 (by decide) (fun h5 => ?_) (fun h5 => ?_)
      ·
        exact hj11 μ
      ·
        refine gm_aload_n d_X12_must_8 rfl 0 rfl ?_
        refine gm_grd (fun g9 => ?_)
        refine gm_callV (k0 := 12) [] (c_X12_here a0 μ) g9 rfl B_X12_here gw_975 gs_26 rfl rfl rfl d_X12_must_9 (gm_kI (fun x13 m12 => ?_))
        refine gm_iload_n d_X12_must_12 rfl 1 rfl ?_
        refine gm_icmp_eq (tgt := 20) d_X12_must_13 (by decide) (fun h13 => ?_) (fun h13 => ?_)
        ·
          refine gm_iconst (v := 0) d_X12_must_20 (by decide) ?_
          exact hj3 ((0 : Int32), m12)
        ·
          exact hj11 m12
theorem d_X12_spells_0 : decode prog_14_method_12_code 0 = .ok (.iconst 0, 1) := ge_iconst_0 (by decide +kernel)
theorem d_X12_spells_1 : decode prog_14_method_12_code 1 = .ok (.istore_n 2, 1) := ge_istore_n_2 (by decide +kernel)
theorem d_X12_spells_2 : decode prog_14_method_12_code 2 = .ok (.iload_n 2, 1) := ge_iload_n_2 (by decide +kernel)
theorem d_X12_spells_3 : decode prog_14_method_12_code 3 = .ok (.aload_n 1, 1) := ge_aload_n_1 (by decide +kernel)
theorem d_X12_spells_4 : decode prog_14_method_12_code 4 = .ok (.invokevirtual 62, 3) := ge_invokevirtual (by decide +kernel)
theorem d_X12_spells_7 : decode prog_14_method_12_code 7 = .ok (.if_icmp .ge 18, 3) := ge_if_icmp_ge (by decide +kernel)
theorem d_X12_spells_10 : decode prog_14_method_12_code 10 = .ok (.aload_n 0, 1) := ge_aload_n_0 (by decide +kernel)
theorem d_X12_spells_11 : decode prog_14_method_12_code 11 = .ok (.aload_n 1, 1) := ge_aload_n_1 (by decide +kernel)
theorem d_X12_spells_12 : decode prog_14_method_12_code 12 = .ok (.iload_n 2, 1) := ge_iload_n_2 (by decide +kernel)
theorem d_X12_spells_13 : decode prog_14_method_12_code 13 = .ok (.invokevirtual 67, 3) := ge_invokevirtual (by decide +kernel)
theorem d_X12_spells_16 : decode prog_14_method_12_code 16 = .ok (.invokevirtual 71, 3) := ge_invokevirtual (by decide +kernel)
theorem d_X12_spells_19 : decode prog_14_method_12_code 19 = .ok (.iinc 2 1, 3) := ge_iinc (by decide +kernel)
theorem d_X12_spells_22 : decode prog_14_method_12_code 22 = .ok (.goto (-20), 3) := ge_goto (by decide +kernel)
theorem d_X12_spells_25 : decode prog_14_method_12_code 25 = .ok (.return_, 1) := ge_return_ (by decide +kernel)
def f_X12_spells (a0 : Nat) (a1 : UInt32) (μ : gm_M) : Option (Option Value × gm_M) := gm_loop (fun (s1 : Int32 × gm_M) => if gm_isS a1 then gm_bI (f_J0_length_8abf5 a1 s1.2) (fun x3 m2 => if x3 ≤ s1.1 then some (Sum.inr (none, m2)) else if gm_isS a1 then gm_bI (f_J0_charAt_5068e a1 s1.1 m2) (fun x5 m4 => if gm_tag m4 a0 = 17 then gm_bV (f_X12_must a0 x5 m4) (fun m6 => some (Sum.inl ((s1.1 + (1 : Int32)), m6))) else none) else none) else none) 5000 ((0 : Int32), μ)
set_option maxHeartbeats 4000000 in
theorem c_X12_spells (a0 : Nat) (a1 : UInt32) (μ : gm_M) : gm_Call ({ cls := "GumBubbleModel", name := "spells", desc := "(Ljava/lang/String;)V" } : Jvm.MethodName) prog_14_method_12_code 3 none 4 0 0 [.ref a0, .float a1] μ (f_X12_spells a0 a1 μ) := by
  refine gm_start PN_12 (Nat.le_of_ble_eq_true rfl) (fun res μe => ?_)
  unfold f_X12_spells
  show gm_A "GumBubbleModel" (gm_nm "spells") _ _ _ _ _ _ _ _ _ 0 [(0, .ref a0), (1, .float a1)] [] _ _
  refine gm_iconst (v := 0) d_X12_spells_0 (by decide) ?_
  refine gm_istore_n (L' := [(2, .int (0 : Int32)), (0, .ref a0), (1, .float a1)]) d_X12_spells_1 rfl (Nat.le_of_ble_eq_true rfl) rfl ?_
  refine gm_sub (L' := [(0, .ref a0), (1, .float a1), (2, .int (0 : Int32))]) [1, 2, 0] rfl ?_
  refine gm_lp (S := Int32 × gm_M) (fun _ => 0) (fun _ => 0) (fun s1 => s1.2) (fun s1 => [(0, .ref a0), (1, .float a1), (2, .int s1.1)]) (fun _ => []) (fun s1 => ?_) 5000 ((0 : Int32), μ)
  refine gm_iload_n d_X12_spells_2 rfl 2 rfl ?_
  refine gm_aloadF d_X12_spells_3 rfl 1 rfl ?_
  refine gm_grd (fun g4 => ?_)
  refine gm_callT [] (c_J0_length_8abf5 a1 s1.2) g4 B_J0_length_8abf5 gw_988 gw_331 rfl rfl rfl d_X12_spells_4 (gm_kI (fun x3 m2 => ?_))
  refine gm_icmp_ge (tgt := 25) d_X12_spells_7 (by decide) (fun h7 => ?_) (fun h7 => ?_)
  ·
    exact gm_vret rfl d_X12_spells_25 (Nat.le_of_ble_eq_true rfl) (Nat.le_of_ble_eq_true rfl) (fun h => h)
  ·
    refine gm_aload_n d_X12_spells_10 rfl 0 rfl ?_
    refine gm_aloadF d_X12_spells_11 rfl 1 rfl ?_
    refine gm_iload_n d_X12_spells_12 rfl 2 rfl ?_
    refine gm_grd (fun g13 => ?_)
    refine gm_callT [.int s1.1] (c_J0_charAt_5068e a1 s1.1 m2) g13 B_J0_charAt_5068e gw_989 gw_341 rfl rfl rfl d_X12_spells_13 (gm_kI (fun x5 m4 => ?_))
    refine gm_grd (fun g16 => ?_)
    refine gm_callV (k0 := 12) [.int x5] (c_X12_must a0 x5 m4) g16 rfl B_X12_must gw_990 gs_29 rfl rfl rfl d_X12_spells_16 (gm_kV (fun m6 => ?_))
    refine gm_iinc (v := s1.1 + (1 : Int32)) (L' := [(2, .int (s1.1 + (1 : Int32))), (0, .ref a0), (1, .float a1)]) d_X12_spells_19 2 rfl rfl (Nat.le_of_ble_eq_true rfl) rfl ?_
    refine gm_goto (tgt := 2) d_X12_spells_22 (by decide) ?_
    refine gm_sub (L' := [(0, .ref a0), (1, .float a1), (2, .int (s1.1 + (1 : Int32)))]) [1, 2, 0] rfl ?_
    exact gm_back (fun h => h)
theorem d_X12_tellsHere_0 : decode prog_14_method_20_code 0 = .ok (.aload_n 0, 1) := ge_aload_n_0 (by decide +kernel)
theorem d_X12_tellsHere_1 : decode prog_14_method_20_code 1 = .ok (.aload_n 2, 1) := ge_aload_n_2 (by decide +kernel)
theorem d_X12_tellsHere_2 : decode prog_14_method_20_code 2 = .ok (.invokevirtual 104, 3) := ge_invokevirtual (by decide +kernel)
theorem d_X12_tellsHere_5 : decode prog_14_method_20_code 5 = .ok (.aload_n 0, 1) := ge_aload_n_0 (by decide +kernel)
theorem d_X12_tellsHere_6 : decode prog_14_method_20_code 6 = .ok (.invokevirtual 98, 3) := ge_invokevirtual (by decide +kernel)
theorem d_X12_tellsHere_9 : decode prog_14_method_20_code 9 = .ok (.istore_n 3, 1) := ge_istore_n_3 (by decide +kernel)
theorem d_X12_tellsHere_10 : decode prog_14_method_20_code 10 = .ok (.aload_n 0, 1) := ge_aload_n_0 (by decide +kernel)
theorem d_X12_tellsHere_11 : decode prog_14_method_20_code 11 = .ok (.getfield 54, 3) := ge_getfield (by decide +kernel)
theorem d_X12_tellsHere_14 : decode prog_14_method_20_code 14 = .ok (.ifCond .ne 15, 3) := ge_ifCond_ne (by decide +kernel)
theorem d_X12_tellsHere_17 : decode prog_14_method_20_code 17 = .ok (.aload_n 0, 1) := ge_aload_n_0 (by decide +kernel)
theorem d_X12_tellsHere_18 : decode prog_14_method_20_code 18 = .ok (.getfield 9, 3) := ge_getfield (by decide +kernel)
theorem d_X12_tellsHere_21 : decode prog_14_method_20_code 21 = .ok (.iload_n 1, 1) := ge_iload_n_1 (by decide +kernel)
theorem d_X12_tellsHere_22 : decode prog_14_method_20_code 22 = .ok (.aload_n 0, 1) := ge_aload_n_0 (by decide +kernel)
theorem d_X12_tellsHere_23 : decode prog_14_method_20_code 23 = .ok (.getfield 75, 3) := ge_getfield (by decide +kernel)
theorem d_X12_tellsHere_26 : decode prog_14_method_20_code 26 = .ok (.iadd, 1) := ge_iadd (by decide +kernel)
theorem d_X12_tellsHere_27 : decode prog_14_method_20_code 27 = .ok (.iload_n 3, 1) := ge_iload_n_3 (by decide +kernel)
theorem d_X12_tellsHere_28 : decode prog_14_method_20_code 28 = .ok (.iastore, 1) := ge_iastore (by decide +kernel)
theorem d_X12_tellsHere_29 : decode prog_14_method_20_code 29 = .ok (.return_, 1) := ge_return_ (by decide +kernel)
def f_X12_tellsHere (a0 : Nat) (a1 : Int32) (a2 : UInt32) (μ : gm_M) : Option (Option Value × gm_M) := if gm_tag μ a0 = 17 then gm_bV (f_X12_spells a0 a2 μ) (fun m1 => if gm_tag m1 a0 = 17 then gm_bI (f_X12_figures a0 m1) (fun x4 m3 => gm_gI m3 [17] a0 8 (fun v5 => if v5 ≠ 0 then some (none, m3) else gm_gR m3 [17] a0 1 (fun v6 => gm_gI m3 [17] a0 5 (fun v7 => gm_sI m3 v6 (a1 + v7) x4 (fun m8 => some (none, m8)))))) else none) else none
set_option maxHeartbeats 4000000 in
theorem c_X12_tellsHere (a0 : Nat) (a1 : Int32) (a2 : UInt32) (μ : gm_M) : gm_Call ({ cls := "GumBubbleModel", name := "tellsHere", desc := "(ILjava/lang/String;)V" } : Jvm.MethodName) prog_14_method_20_code 4 none 5 0 0 [.ref a0, .int a1, .float a2] μ (f_X12_tellsHere a0 a1 a2 μ) := by
  refine gm_start PN_12 (Nat.le_of_ble_eq_true rfl) (fun res μe => ?_)
  unfold f_X12_tellsHere
  show gm_A "GumBubbleModel" (gm_nm "tellsHere") _ _ _ _ _ _ _ _ _ 0 [(0, .ref a0), (1, .int a1), (2, .float a2)] [] _ _
  refine gm_aload_n d_X12_tellsHere_0 rfl 0 rfl ?_
  refine gm_aloadF d_X12_tellsHere_1 rfl 2 rfl ?_
  refine gm_grd (fun g2 => ?_)
  refine gm_callV (k0 := 12) [.float a2] (c_X12_spells a0 a2 μ) g2 rfl B_X12_spells gw_984 gs_28 rfl rfl rfl d_X12_tellsHere_2 (gm_kV (fun m1 => ?_))
  refine gm_aload_n d_X12_tellsHere_5 rfl 0 rfl ?_
  refine gm_grd (fun g6 => ?_)
  refine gm_callV (k0 := 12) [] (c_X12_figures a0 m1) g6 rfl B_X12_figures gw_994 gs_30 rfl rfl rfl d_X12_tellsHere_6 (gm_kI (fun x4 m3 => ?_))
  refine gm_istore_n (L' := [(3, .int x4), (0, .ref a0), (1, .int a1), (2, .float a2)]) d_X12_tellsHere_9 rfl (Nat.le_of_ble_eq_true rfl) rfl ?_
  refine gm_aload_n d_X12_tellsHere_10 rfl 1 rfl ?_
  refine gm_getI F_12_isWrong gw_897 d_X12_tellsHere_11 (fun v5 _ => ?_)
  refine gm_if_ne (tgt := 29) d_X12_tellsHere_14 (by decide) (fun h14 => ?_) (fun h14 => ?_)
  ·
    exact gm_vret rfl d_X12_tellsHere_29 (Nat.le_of_ble_eq_true rfl) (Nat.le_of_ble_eq_true rfl) (fun h => h)
  ·
    refine gm_aload_n d_X12_tellsHere_17 rfl 1 rfl ?_
    refine gm_getR F_12_s gw_890 d_X12_tellsHere_18 (fun v6 _ => ?_)
    refine gm_iload_n d_X12_tellsHere_21 rfl 2 rfl ?_
    refine gm_aload_n d_X12_tellsHere_22 rfl 1 rfl ?_
    refine gm_getI F_12_act gw_894 d_X12_tellsHere_23 (fun v7 _ => ?_)
    refine gm_iadd d_X12_tellsHere_26 ?_
    refine gm_iload_n d_X12_tellsHere_27 rfl 0 rfl ?_
    refine gm_iast d_X12_tellsHere_28 (fun m8 _ => ?_)
    exact gm_vret rfl d_X12_tellsHere_29 (Nat.le_of_ble_eq_true rfl) (Nat.le_of_ble_eq_true rfl) (fun h => h)
theorem d_X12_emits_0 : decode prog_14_method_15_code 0 = .ok (.aload_n 0, 1) := ge_aload_n_0 (by decide +kernel)
theorem d_X12_emits_1 : decode prog_14_method_15_code 1 = .ok (.getfield 54, 3) := ge_getfield (by decide +kernel)
theorem d_X12_emits_4 : decode prog_14_method_15_code 4 = .ok (.ifCond .ne 52, 3) := ge_ifCond_ne (by decide +kernel)
theorem d_X12_emits_7 : decode prog_14_method_15_code 7 = .ok (.aload_n 0, 1) := ge_aload_n_0 (by decide +kernel)
theorem d_X12_emits_8 : decode prog_14_method_15_code 8 = .ok (.getfield 9, 3) := ge_getfield (by decide +kernel)
theorem d_X12_emits_11 : decode prog_14_method_15_code 11 = .ok (.sipush 225, 3) := ge_sipush (by decide +kernel)
theorem d_X12_emits_14 : decode prog_14_method_15_code 14 = .ok (.sipush 140, 3) := ge_sipush (by decide +kernel)
theorem d_X12_emits_17 : decode prog_14_method_15_code 17 = .ok (.aload_n 0, 1) := ge_aload_n_0 (by decide +kernel)
theorem d_X12_emits_18 : decode prog_14_method_15_code 18 = .ok (.getfield 75, 3) := ge_getfield (by decide +kernel)
theorem d_X12_emits_21 : decode prog_14_method_15_code 21 = .ok (.imul, 1) := ge_imul (by decide +kernel)
theorem d_X12_emits_22 : decode prog_14_method_15_code 22 = .ok (.iadd, 1) := ge_iadd (by decide +kernel)
theorem d_X12_emits_23 : decode prog_14_method_15_code 23 = .ok (.aload_n 0, 1) := ge_aload_n_0 (by decide +kernel)
theorem d_X12_emits_24 : decode prog_14_method_15_code 24 = .ok (.getfield 9, 3) := ge_getfield (by decide +kernel)
theorem d_X12_emits_27 : decode prog_14_method_15_code 27 = .ok (.sipush 220, 3) := ge_sipush (by decide +kernel)
theorem d_X12_emits_30 : decode prog_14_method_15_code 30 = .ok (.aload_n 0, 1) := ge_aload_n_0 (by decide +kernel)
theorem d_X12_emits_31 : decode prog_14_method_15_code 31 = .ok (.getfield 75, 3) := ge_getfield (by decide +kernel)
theorem d_X12_emits_34 : decode prog_14_method_15_code 34 = .ok (.iadd, 1) := ge_iadd (by decide +kernel)
theorem d_X12_emits_35 : decode prog_14_method_15_code 35 = .ok (.iaload, 1) := ge_iaload (by decide +kernel)
theorem d_X12_emits_36 : decode prog_14_method_15_code 36 = .ok (.iadd, 1) := ge_iadd (by decide +kernel)
theorem d_X12_emits_37 : decode prog_14_method_15_code 37 = .ok (.iload_n 1, 1) := ge_iload_n_1 (by decide +kernel)
theorem d_X12_emits_38 : decode prog_14_method_15_code 38 = .ok (.iastore, 1) := ge_iastore (by decide +kernel)
theorem d_X12_emits_39 : decode prog_14_method_15_code 39 = .ok (.aload_n 0, 1) := ge_aload_n_0 (by decide +kernel)
theorem d_X12_emits_40 : decode prog_14_method_15_code 40 = .ok (.getfield 9, 3) := ge_getfield (by decide +kernel)
theorem d_X12_emits_43 : decode prog_14_method_15_code 43 = .ok (.sipush 220, 3) := ge_sipush (by decide +kernel)
theorem d_X12_emits_46 : decode prog_14_method_15_code 46 = .ok (.aload_n 0, 1) := ge_aload_n_0 (by decide +kernel)
theorem d_X12_emits_47 : decode prog_14_method_15_code 47 = .ok (.getfield 75, 3) := ge_getfield (by decide +kernel)
theorem d_X12_emits_50 : decode prog_14_method_15_code 50 = .ok (.iadd, 1) := ge_iadd (by decide +kernel)
theorem d_X12_emits_51 : decode prog_14_method_15_code 51 = .ok (.dup2, 1) := ge_dup2 (by decide +kernel)
theorem d_X12_emits_52 : decode prog_14_method_15_code 52 = .ok (.iaload, 1) := ge_iaload (by decide +kernel)
theorem d_X12_emits_53 : decode prog_14_method_15_code 53 = .ok (.iconst 1, 1) := ge_iconst_1 (by decide +kernel)
theorem d_X12_emits_54 : decode prog_14_method_15_code 54 = .ok (.iadd, 1) := ge_iadd (by decide +kernel)
theorem d_X12_emits_55 : decode prog_14_method_15_code 55 = .ok (.iastore, 1) := ge_iastore (by decide +kernel)
theorem d_X12_emits_56 : decode prog_14_method_15_code 56 = .ok (.return_, 1) := ge_return_ (by decide +kernel)
def f_X12_emits (a0 : Nat) (a1 : Int32) (μ : gm_M) : Option (Option Value × gm_M) := gm_gI μ [17] a0 8 (fun v1 => if v1 ≠ 0 then some (none, μ) else gm_gR μ [17] a0 1 (fun v2 => gm_gI μ [17] a0 5 (fun v3 => gm_gR μ [17] a0 1 (fun v4 => gm_gI μ [17] a0 5 (fun v5 => gm_aI μ v4 ((220 : Int32) + v5) (fun v6 => gm_sI μ v2 (((225 : Int32) + ((140 : Int32) * v3)) + v6) a1 (fun m7 => gm_gR m7 [17] a0 1 (fun v8 => gm_gI m7 [17] a0 5 (fun v9 => gm_aI m7 v8 ((220 : Int32) + v9) (fun v10 => gm_sI m7 v8 ((220 : Int32) + v9) (v10 + (1 : Int32)) (fun m11 => some (none, m11))))))))))))
set_option maxHeartbeats 4000000 in
theorem c_X12_emits (a0 : Nat) (a1 : Int32) (μ : gm_M) : gm_Call ({ cls := "GumBubbleModel", name := "emits", desc := "(I)V" } : Jvm.MethodName) prog_14_method_15_code 2 none 0 0 0 [.ref a0, .int a1] μ (f_X12_emits a0 a1 μ) := by
  refine gm_start PN_12 (Nat.le_of_ble_eq_true rfl) (fun res μe => ?_)
  unfold f_X12_emits
  show gm_A "GumBubbleModel" (gm_nm "emits") _ _ _ _ _ _ _ _ _ 0 [(0, .ref a0), (1, .int a1)] [] _ _
  refine gm_aload_n d_X12_emits_0 rfl 0 rfl ?_
  refine gm_getI F_12_isWrong gw_897 d_X12_emits_1 (fun v1 _ => ?_)
  refine gm_if_ne (tgt := 56) d_X12_emits_4 (by decide) (fun h4 => ?_) (fun h4 => ?_)
  ·
    exact gm_vret rfl d_X12_emits_56 (Nat.le_of_ble_eq_true rfl) (Nat.le_of_ble_eq_true rfl) (fun h => h)
  ·
    refine gm_aload_n d_X12_emits_7 rfl 0 rfl ?_
    refine gm_getR F_12_s gw_890 d_X12_emits_8 (fun v2 _ => ?_)
    refine gm_sipush (v := 225) d_X12_emits_11 (by decide) ?_
    refine gm_sipush (v := 140) d_X12_emits_14 (by decide) ?_
    refine gm_aload_n d_X12_emits_17 rfl 0 rfl ?_
    refine gm_getI F_12_act gw_894 d_X12_emits_18 (fun v3 _ => ?_)
    refine gm_imul d_X12_emits_21 ?_
    refine gm_iadd d_X12_emits_22 ?_
    refine gm_aload_n d_X12_emits_23 rfl 0 rfl ?_
    refine gm_getR F_12_s gw_890 d_X12_emits_24 (fun v4 _ => ?_)
    refine gm_sipush (v := 220) d_X12_emits_27 (by decide) ?_
    refine gm_aload_n d_X12_emits_30 rfl 0 rfl ?_
    refine gm_getI F_12_act gw_894 d_X12_emits_31 (fun v5 _ => ?_)
    refine gm_iadd d_X12_emits_34 ?_
    refine gm_iald d_X12_emits_35 (fun v6 _ => ?_)
    refine gm_iadd d_X12_emits_36 ?_
    refine gm_iload_n d_X12_emits_37 rfl 1 rfl ?_
    refine gm_iast d_X12_emits_38 (fun m7 _ => ?_)
    refine gm_aload_n d_X12_emits_39 rfl 0 rfl ?_
    refine gm_getR F_12_s gw_890 d_X12_emits_40 (fun v8 _ => ?_)
    refine gm_sipush (v := 220) d_X12_emits_43 (by decide) ?_
    refine gm_aload_n d_X12_emits_46 rfl 0 rfl ?_
    refine gm_getI F_12_act gw_894 d_X12_emits_47 (fun v9 _ => ?_)
    refine gm_iadd d_X12_emits_50 ?_
    refine gm_dup2 d_X12_emits_51 rfl rfl ?_
    refine gm_iald d_X12_emits_52 (fun v10 _ => ?_)
    refine gm_iconst (v := 1) d_X12_emits_53 (by decide) ?_
    refine gm_iadd d_X12_emits_54 ?_
    refine gm_iast d_X12_emits_55 (fun m11 _ => ?_)
    exact gm_vret rfl d_X12_emits_56 (Nat.le_of_ble_eq_true rfl) (Nat.le_of_ble_eq_true rfl) (fun h => h)
theorem d_X12_among_0 : decode prog_14_method_14_code 0 = .ok (.iconst 0, 1) := ge_iconst_0 (by decide +kernel)
theorem d_X12_among_1 : decode prog_14_method_14_code 1 = .ok (.istore_n 2, 1) := ge_istore_n_2 (by decide +kernel)
theorem d_X12_among_2 : decode prog_14_method_14_code 2 = .ok (.iload_n 2, 1) := ge_iload_n_2 (by decide +kernel)
theorem d_X12_among_3 : decode prog_14_method_14_code 3 = .ok (.aload_n 1, 1) := ge_aload_n_1 (by decide +kernel)
theorem d_X12_among_4 : decode prog_14_method_14_code 4 = .ok (.invokevirtual 62, 3) := ge_invokevirtual (by decide +kernel)
theorem d_X12_among_7 : decode prog_14_method_14_code 7 = .ok (.if_icmp .ge 33, 3) := ge_if_icmp_ge (by decide +kernel)
theorem d_X12_among_10 : decode prog_14_method_14_code 10 = .ok (.aload_n 0, 1) := ge_aload_n_0 (by decide +kernel)
theorem d_X12_among_11 : decode prog_14_method_14_code 11 = .ok (.invokevirtual 58, 3) := ge_invokevirtual (by decide +kernel)
theorem d_X12_among_14 : decode prog_14_method_14_code 14 = .ok (.aload_n 1, 1) := ge_aload_n_1 (by decide +kernel)
theorem d_X12_among_15 : decode prog_14_method_14_code 15 = .ok (.iload_n 2, 1) := ge_iload_n_2 (by decide +kernel)
theorem d_X12_among_16 : decode prog_14_method_14_code 16 = .ok (.invokevirtual 67, 3) := ge_invokevirtual (by decide +kernel)
theorem d_X12_among_19 : decode prog_14_method_14_code 19 = .ok (.if_icmp .ne 15, 3) := ge_if_icmp_ne (by decide +kernel)
theorem d_X12_among_22 : decode prog_14_method_14_code 22 = .ok (.aload_n 0, 1) := ge_aload_n_0 (by decide +kernel)
theorem d_X12_among_23 : decode prog_14_method_14_code 23 = .ok (.dup, 1) := ge_dup (by decide +kernel)
theorem d_X12_among_24 : decode prog_14_method_14_code 24 = .ok (.getfield 48, 3) := ge_getfield (by decide +kernel)
theorem d_X12_among_27 : decode prog_14_method_14_code 27 = .ok (.iconst 1, 1) := ge_iconst_1 (by decide +kernel)
theorem d_X12_among_28 : decode prog_14_method_14_code 28 = .ok (.iadd, 1) := ge_iadd (by decide +kernel)
theorem d_X12_among_29 : decode prog_14_method_14_code 29 = .ok (.putfield 48, 3) := ge_putfield (by decide +kernel)
theorem d_X12_among_32 : decode prog_14_method_14_code 32 = .ok (.iload_n 2, 1) := ge_iload_n_2 (by decide +kernel)
theorem d_X12_among_33 : decode prog_14_method_14_code 33 = .ok (.ireturn, 1) := ge_ireturn (by decide +kernel)
theorem d_X12_among_34 : decode prog_14_method_14_code 34 = .ok (.iinc 2 1, 3) := ge_iinc (by decide +kernel)
theorem d_X12_among_37 : decode prog_14_method_14_code 37 = .ok (.goto (-35), 3) := ge_goto (by decide +kernel)
theorem d_X12_among_40 : decode prog_14_method_14_code 40 = .ok (.iconst (-1), 1) := ge_iconst_m1_ (by decide +kernel)
theorem d_X12_among_41 : decode prog_14_method_14_code 41 = .ok (.ireturn, 1) := ge_ireturn (by decide +kernel)
def f_X12_among (a0 : Nat) (a1 : UInt32) (μ : gm_M) : Option (Option Value × gm_M) := gm_loop (fun (s1 : Int32 × gm_M) => if gm_isS a1 then gm_bI (f_J0_length_8abf5 a1 s1.2) (fun x3 m2 => if x3 ≤ s1.1 then some (Sum.inr (some (.int (-1 : Int32)), m2)) else if gm_tag m2 a0 = 17 then gm_bI (f_X12_here a0 m2) (fun x5 m4 => if gm_isS a1 then gm_bI (f_J0_charAt_5068e a1 s1.1 m4) (fun x7 m6 => if x5 ≠ x7 then some (Sum.inl ((s1.1 + (1 : Int32)), m6)) else gm_gI m6 [17] a0 6 (fun v8 => gm_pI m6 [17] a0 6 (v8 + (1 : Int32)) (fun m9 => some (Sum.inr (some (.int s1.1), m9))))) else none) else none) else none) 5000 ((0 : Int32), μ)
set_option maxHeartbeats 4000000 in
theorem c_X12_among (a0 : Nat) (a1 : UInt32) (μ : gm_M) : gm_Call ({ cls := "GumBubbleModel", name := "among", desc := "(Ljava/lang/String;)I" } : Jvm.MethodName) prog_14_method_14_code 3 (some .int) 4 0 0 [.ref a0, .float a1] μ (f_X12_among a0 a1 μ) := by
  refine gm_start PN_12 (Nat.le_of_ble_eq_true rfl) (fun res μe => ?_)
  unfold f_X12_among
  show gm_A "GumBubbleModel" (gm_nm "among") _ _ _ _ _ _ _ _ _ 0 [(0, .ref a0), (1, .float a1)] [] _ _
  refine gm_iconst (v := 0) d_X12_among_0 (by decide) ?_
  refine gm_istore_n (L' := [(2, .int (0 : Int32)), (0, .ref a0), (1, .float a1)]) d_X12_among_1 rfl (Nat.le_of_ble_eq_true rfl) rfl ?_
  refine gm_sub (L' := [(0, .ref a0), (1, .float a1), (2, .int (0 : Int32))]) [1, 2, 0] rfl ?_
  refine gm_lp (S := Int32 × gm_M) (fun _ => 0) (fun _ => 0) (fun s1 => s1.2) (fun s1 => [(0, .ref a0), (1, .float a1), (2, .int s1.1)]) (fun _ => []) (fun s1 => ?_) 5000 ((0 : Int32), μ)
  refine gm_iload_n d_X12_among_2 rfl 2 rfl ?_
  refine gm_aloadF d_X12_among_3 rfl 1 rfl ?_
  refine gm_grd (fun g4 => ?_)
  refine gm_callT [] (c_J0_length_8abf5 a1 s1.2) g4 B_J0_length_8abf5 gw_988 gw_331 rfl rfl rfl d_X12_among_4 (gm_kI (fun x3 m2 => ?_))
  refine gm_icmp_ge (tgt := 40) d_X12_among_7 (by decide) (fun h7 => ?_) (fun h7 => ?_)
  ·
    refine gm_iconst (v := -1) d_X12_among_40 (by decide) ?_
    exact gm_iret rfl d_X12_among_41 (Nat.le_of_ble_eq_true rfl) (Nat.le_of_ble_eq_true rfl) (fun h => h)
  ·
    refine gm_aload_n d_X12_among_10 rfl 0 rfl ?_
    refine gm_grd (fun g11 => ?_)
    refine gm_callV (k0 := 12) [] (c_X12_here a0 m2) g11 rfl B_X12_here gw_975 gs_26 rfl rfl rfl d_X12_among_11 (gm_kI (fun x5 m4 => ?_))
    refine gm_aloadF d_X12_among_14 rfl 1 rfl ?_
    refine gm_iload_n d_X12_among_15 rfl 2 rfl ?_
    refine gm_grd (fun g16 => ?_)
    refine gm_callT [.int s1.1] (c_J0_charAt_5068e a1 s1.1 m4) g16 B_J0_charAt_5068e gw_989 gw_341 rfl rfl rfl d_X12_among_16 (gm_kI (fun x7 m6 => ?_))
    refine gm_icmp_ne (tgt := 34) d_X12_among_19 (by decide) (fun h19 => ?_) (fun h19 => ?_)
    ·
      refine gm_iinc (v := s1.1 + (1 : Int32)) (L' := [(2, .int (s1.1 + (1 : Int32))), (0, .ref a0), (1, .float a1)]) d_X12_among_34 2 rfl rfl (Nat.le_of_ble_eq_true rfl) rfl ?_
      refine gm_goto (tgt := 2) d_X12_among_37 (by decide) ?_
      refine gm_sub (L' := [(0, .ref a0), (1, .float a1), (2, .int (s1.1 + (1 : Int32)))]) [1, 2, 0] rfl ?_
      exact gm_back (fun h => h)
    ·
      refine gm_aload_n d_X12_among_22 rfl 0 rfl ?_
      refine gm_dup d_X12_among_23 rfl ?_
      refine gm_getI F_12_spot gw_895 d_X12_among_24 (fun v8 _ => ?_)
      refine gm_iconst (v := 1) d_X12_among_27 (by decide) ?_
      refine gm_iadd d_X12_among_28 ?_
      refine gm_putI F_12_spot (Or.inl rfl) gw_895 d_X12_among_29 (fun m9 _ => ?_)
      refine gm_iload_n d_X12_among_32 rfl 2 rfl ?_
      exact gm_iret rfl d_X12_among_33 (Nat.le_of_ble_eq_true rfl) (Nat.le_of_ble_eq_true rfl) (fun h => h)
theorem d_X12_every_0 : decode prog_14_method_17_code 0 = .ok (.aload_n 0, 1) := ge_aload_n_0 (by decide +kernel)
theorem d_X12_every_1 : decode prog_14_method_17_code 1 = .ok (.invokevirtual 81, 3) := ge_invokevirtual (by decide +kernel)
theorem d_X12_every_4 : decode prog_14_method_17_code 4 = .ok (.aload_n 0, 1) := ge_aload_n_0 (by decide +kernel)
theorem d_X12_every_5 : decode prog_14_method_17_code 5 = .ok (.getfield 54, 3) := ge_getfield (by decide +kernel)
theorem d_X12_every_8 : decode prog_14_method_17_code 8 = .ok (.ifCond .ne 35, 3) := ge_ifCond_ne (by decide +kernel)
theorem d_X12_every_11 : decode prog_14_method_17_code 11 = .ok (.aload_n 0, 1) := ge_aload_n_0 (by decide +kernel)
theorem d_X12_every_12 : decode prog_14_method_17_code 12 = .ok (.invokevirtual 58, 3) := ge_invokevirtual (by decide +kernel)
theorem d_X12_every_15 : decode prog_14_method_17_code 15 = .ok (.bipush 38, 2) := ge_bipush (by decide +kernel)
theorem d_X12_every_17 : decode prog_14_method_17_code 17 = .ok (.if_icmp .ne 26, 3) := ge_if_icmp_ne (by decide +kernel)
theorem d_X12_every_20 : decode prog_14_method_17_code 20 = .ok (.aload_n 0, 1) := ge_aload_n_0 (by decide +kernel)
theorem d_X12_every_21 : decode prog_14_method_17_code 21 = .ok (.dup, 1) := ge_dup (by decide +kernel)
theorem d_X12_every_22 : decode prog_14_method_17_code 22 = .ok (.getfield 48, 3) := ge_getfield (by decide +kernel)
theorem d_X12_every_25 : decode prog_14_method_17_code 25 = .ok (.iconst 1, 1) := ge_iconst_1 (by decide +kernel)
theorem d_X12_every_26 : decode prog_14_method_17_code 26 = .ok (.iadd, 1) := ge_iadd (by decide +kernel)
theorem d_X12_every_27 : decode prog_14_method_17_code 27 = .ok (.putfield 48, 3) := ge_putfield (by decide +kernel)
theorem d_X12_every_30 : decode prog_14_method_17_code 30 = .ok (.aload_n 0, 1) := ge_aload_n_0 (by decide +kernel)
theorem d_X12_every_31 : decode prog_14_method_17_code 31 = .ok (.invokevirtual 81, 3) := ge_invokevirtual (by decide +kernel)
theorem d_X12_every_34 : decode prog_14_method_17_code 34 = .ok (.aload_n 0, 1) := ge_aload_n_0 (by decide +kernel)
theorem d_X12_every_35 : decode prog_14_method_17_code 35 = .ok (.bipush (-2), 2) := ge_bipush (by decide +kernel)
theorem d_X12_every_37 : decode prog_14_method_17_code 37 = .ok (.invokevirtual 84, 3) := ge_invokevirtual (by decide +kernel)
theorem d_X12_every_40 : decode prog_14_method_17_code 40 = .ok (.goto (-36), 3) := ge_goto (by decide +kernel)
theorem d_X12_every_43 : decode prog_14_method_17_code 43 = .ok (.return_, 1) := ge_return_ (by decide +kernel)
theorem d_X12_factor_0 : decode prog_14_method_16_code 0 = .ok (.aload_n 0, 1) := ge_aload_n_0 (by decide +kernel)
theorem d_X12_factor_1 : decode prog_14_method_16_code 1 = .ok (.getfield 54, 3) := ge_getfield (by decide +kernel)
theorem d_X12_factor_4 : decode prog_14_method_16_code 4 = .ok (.ifCond .eq 4, 3) := ge_ifCond_eq (by decide +kernel)
theorem d_X12_factor_7 : decode prog_14_method_16_code 7 = .ok (.return_, 1) := ge_return_ (by decide +kernel)
theorem d_X12_factor_8 : decode prog_14_method_16_code 8 = .ok (.aload_n 0, 1) := ge_aload_n_0 (by decide +kernel)
theorem d_X12_factor_9 : decode prog_14_method_16_code 9 = .ok (.invokevirtual 58, 3) := ge_invokevirtual (by decide +kernel)
theorem d_X12_factor_12 : decode prog_14_method_16_code 12 = .ok (.istore_n 1, 1) := ge_istore_n_1 (by decide +kernel)
theorem d_X12_factor_13 : decode prog_14_method_16_code 13 = .ok (.iload_n 1, 1) := ge_iload_n_1 (by decide +kernel)
theorem d_X12_factor_14 : decode prog_14_method_16_code 14 = .ok (.bipush 33, 2) := ge_bipush (by decide +kernel)
theorem d_X12_factor_16 : decode prog_14_method_16_code 16 = .ok (.if_icmp .eq 9, 3) := ge_if_icmp_eq (by decide +kernel)
theorem d_X12_factor_19 : decode prog_14_method_16_code 19 = .ok (.iload_n 1, 1) := ge_iload_n_1 (by decide +kernel)
theorem d_X12_factor_20 : decode prog_14_method_16_code 20 = .ok (.bipush 40, 2) := ge_bipush (by decide +kernel)
theorem d_X12_factor_22 : decode prog_14_method_16_code 22 = .ok (.if_icmp .ne 90, 3) := ge_if_icmp_ne (by decide +kernel)
theorem d_X12_factor_25 : decode prog_14_method_16_code 25 = .ok (.aload_n 0, 1) := ge_aload_n_0 (by decide +kernel)
theorem d_X12_factor_26 : decode prog_14_method_16_code 26 = .ok (.aload_n 0, 1) := ge_aload_n_0 (by decide +kernel)
theorem d_X12_factor_27 : decode prog_14_method_16_code 27 = .ok (.getfield 78, 3) := ge_getfield (by decide +kernel)
theorem d_X12_factor_30 : decode prog_14_method_16_code 30 = .ok (.iconst 5, 1) := ge_iconst_5 (by decide +kernel)
theorem d_X12_factor_31 : decode prog_14_method_16_code 31 = .ok (.if_icmp .ne 7, 3) := ge_if_icmp_ne (by decide +kernel)
theorem d_X12_factor_34 : decode prog_14_method_16_code 34 = .ok (.iconst 1, 1) := ge_iconst_1 (by decide +kernel)
theorem d_X12_factor_35 : decode prog_14_method_16_code 35 = .ok (.goto 4, 3) := ge_goto (by decide +kernel)
theorem d_X12_factor_38 : decode prog_14_method_16_code 38 = .ok (.iconst 0, 1) := ge_iconst_0 (by decide +kernel)
theorem d_X12_factor_39 : decode prog_14_method_16_code 39 = .ok (.putfield 54, 3) := ge_putfield (by decide +kernel)
theorem d_X12_factor_42 : decode prog_14_method_16_code 42 = .ok (.aload_n 0, 1) := ge_aload_n_0 (by decide +kernel)
theorem d_X12_factor_43 : decode prog_14_method_16_code 43 = .ok (.dup, 1) := ge_dup (by decide +kernel)
theorem d_X12_factor_44 : decode prog_14_method_16_code 44 = .ok (.getfield 78, 3) := ge_getfield (by decide +kernel)
theorem d_X12_factor_47 : decode prog_14_method_16_code 47 = .ok (.iconst 1, 1) := ge_iconst_1 (by decide +kernel)
theorem d_X12_factor_48 : decode prog_14_method_16_code 48 = .ok (.iadd, 1) := ge_iadd (by decide +kernel)
theorem d_X12_factor_49 : decode prog_14_method_16_code 49 = .ok (.putfield 78, 3) := ge_putfield (by decide +kernel)
theorem d_X12_factor_52 : decode prog_14_method_16_code 52 = .ok (.aload_n 0, 1) := ge_aload_n_0 (by decide +kernel)
theorem d_X12_factor_53 : decode prog_14_method_16_code 53 = .ok (.dup, 1) := ge_dup (by decide +kernel)
theorem d_X12_factor_54 : decode prog_14_method_16_code 54 = .ok (.getfield 48, 3) := ge_getfield (by decide +kernel)
theorem d_X12_factor_57 : decode prog_14_method_16_code 57 = .ok (.aload_n 0, 1) := ge_aload_n_0 (by decide +kernel)
theorem d_X12_factor_58 : decode prog_14_method_16_code 58 = .ok (.getfield 54, 3) := ge_getfield (by decide +kernel)
theorem d_X12_factor_61 : decode prog_14_method_16_code 61 = .ok (.ifCond .eq 7, 3) := ge_ifCond_eq (by decide +kernel)
theorem d_X12_factor_64 : decode prog_14_method_16_code 64 = .ok (.iconst 0, 1) := ge_iconst_0 (by decide +kernel)
theorem d_X12_factor_65 : decode prog_14_method_16_code 65 = .ok (.goto 4, 3) := ge_goto (by decide +kernel)
theorem d_X12_factor_68 : decode prog_14_method_16_code 68 = .ok (.iconst 1, 1) := ge_iconst_1 (by decide +kernel)
theorem d_X12_factor_69 : decode prog_14_method_16_code 69 = .ok (.iadd, 1) := ge_iadd (by decide +kernel)
theorem d_X12_factor_70 : decode prog_14_method_16_code 70 = .ok (.putfield 48, 3) := ge_putfield (by decide +kernel)
theorem d_X12_factor_73 : decode prog_14_method_16_code 73 = .ok (.iload_n 1, 1) := ge_iload_n_1 (by decide +kernel)
theorem d_X12_factor_74 : decode prog_14_method_16_code 74 = .ok (.bipush 33, 2) := ge_bipush (by decide +kernel)
theorem d_X12_factor_76 : decode prog_14_method_16_code 76 = .ok (.if_icmp .ne 15, 3) := ge_if_icmp_ne (by decide +kernel)
theorem d_X12_factor_79 : decode prog_14_method_16_code 79 = .ok (.aload_n 0, 1) := ge_aload_n_0 (by decide +kernel)
theorem d_X12_factor_80 : decode prog_14_method_16_code 80 = .ok (.invokevirtual 81, 3) := ge_invokevirtual (by decide +kernel)
theorem d_X12_factor_83 : decode prog_14_method_16_code 83 = .ok (.aload_n 0, 1) := ge_aload_n_0 (by decide +kernel)
theorem d_X12_factor_84 : decode prog_14_method_16_code 84 = .ok (.iconst (-1), 1) := ge_iconst_m1_ (by decide +kernel)
theorem d_X12_factor_85 : decode prog_14_method_16_code 85 = .ok (.invokevirtual 84, 3) := ge_invokevirtual (by decide +kernel)
theorem d_X12_factor_88 : decode prog_14_method_16_code 88 = .ok (.goto 13, 3) := ge_goto (by decide +kernel)
theorem d_X12_factor_91 : decode prog_14_method_16_code 91 = .ok (.aload_n 0, 1) := ge_aload_n_0 (by decide +kernel)
theorem d_X12_factor_92 : decode prog_14_method_16_code 92 = .ok (.invokevirtual 87, 3) := ge_invokevirtual (by decide +kernel)
theorem d_X12_factor_95 : decode prog_14_method_16_code 95 = .ok (.aload_n 0, 1) := ge_aload_n_0 (by decide +kernel)
theorem d_X12_factor_96 : decode prog_14_method_16_code 96 = .ok (.bipush 41, 2) := ge_bipush (by decide +kernel)
theorem d_X12_factor_98 : decode prog_14_method_16_code 98 = .ok (.invokevirtual 71, 3) := ge_invokevirtual (by decide +kernel)
theorem d_X12_factor_101 : decode prog_14_method_16_code 101 = .ok (.aload_n 0, 1) := ge_aload_n_0 (by decide +kernel)
theorem d_X12_factor_102 : decode prog_14_method_16_code 102 = .ok (.dup, 1) := ge_dup (by decide +kernel)
theorem d_X12_factor_103 : decode prog_14_method_16_code 103 = .ok (.getfield 78, 3) := ge_getfield (by decide +kernel)
theorem d_X12_factor_106 : decode prog_14_method_16_code 106 = .ok (.iconst 1, 1) := ge_iconst_1 (by decide +kernel)
theorem d_X12_factor_107 : decode prog_14_method_16_code 107 = .ok (.isub, 1) := ge_isub (by decide +kernel)
theorem d_X12_factor_108 : decode prog_14_method_16_code 108 = .ok (.putfield 78, 3) := ge_putfield (by decide +kernel)
theorem d_X12_factor_111 : decode prog_14_method_16_code 111 = .ok (.return_, 1) := ge_return_ (by decide +kernel)
theorem d_X12_factor_112 : decode prog_14_method_16_code 112 = .ok (.aload_n 0, 1) := ge_aload_n_0 (by decide +kernel)
theorem d_X12_factor_113 : decode prog_14_method_16_code 113 = .ok (.ldc 90, 2) := ge_ldc (by decide +kernel)
theorem d_X12_factor_115 : decode prog_14_method_16_code 115 = .ok (.invokevirtual 92, 3) := ge_invokevirtual (by decide +kernel)
theorem d_X12_factor_118 : decode prog_14_method_16_code 118 = .ok (.istore_n 2, 1) := ge_istore_n_2 (by decide +kernel)
theorem d_X12_factor_119 : decode prog_14_method_16_code 119 = .ok (.aload_n 0, 1) := ge_aload_n_0 (by decide +kernel)
theorem d_X12_factor_120 : decode prog_14_method_16_code 120 = .ok (.iload_n 2, 1) := ge_iload_n_2 (by decide +kernel)
theorem d_X12_factor_121 : decode prog_14_method_16_code 121 = .ok (.iconst (-1), 1) := ge_iconst_m1_ (by decide +kernel)
theorem d_X12_factor_122 : decode prog_14_method_16_code 122 = .ok (.if_icmp .ne 7, 3) := ge_if_icmp_ne (by decide +kernel)
theorem d_X12_factor_125 : decode prog_14_method_16_code 125 = .ok (.iconst 1, 1) := ge_iconst_1 (by decide +kernel)
theorem d_X12_factor_126 : decode prog_14_method_16_code 126 = .ok (.goto 4, 3) := ge_goto (by decide +kernel)
theorem d_X12_factor_129 : decode prog_14_method_16_code 129 = .ok (.iconst 0, 1) := ge_iconst_0 (by decide +kernel)
theorem d_X12_factor_130 : decode prog_14_method_16_code 130 = .ok (.putfield 54, 3) := ge_putfield (by decide +kernel)
theorem d_X12_factor_133 : decode prog_14_method_16_code 133 = .ok (.aload_n 0, 1) := ge_aload_n_0 (by decide +kernel)
theorem d_X12_factor_134 : decode prog_14_method_16_code 134 = .ok (.getfield 54, 3) := ge_getfield (by decide +kernel)
theorem d_X12_factor_137 : decode prog_14_method_16_code 137 = .ok (.ifCond .eq 7, 3) := ge_ifCond_eq (by decide +kernel)
theorem d_X12_factor_140 : decode prog_14_method_16_code 140 = .ok (.iconst 0, 1) := ge_iconst_0 (by decide +kernel)
theorem d_X12_factor_141 : decode prog_14_method_16_code 141 = .ok (.goto 9, 3) := ge_goto (by decide +kernel)
theorem d_X12_factor_144 : decode prog_14_method_16_code 144 = .ok (.aload_n 0, 1) := ge_aload_n_0 (by decide +kernel)
theorem d_X12_factor_145 : decode prog_14_method_16_code 145 = .ok (.ldc 96, 2) := ge_ldc (by decide +kernel)
theorem d_X12_factor_147 : decode prog_14_method_16_code 147 = .ok (.invokevirtual 92, 3) := ge_invokevirtual (by decide +kernel)
theorem d_X12_factor_150 : decode prog_14_method_16_code 150 = .ok (.istore_n 3, 1) := ge_istore_n_3 (by decide +kernel)
theorem d_X12_factor_151 : decode prog_14_method_16_code 151 = .ok (.aload_n 0, 1) := ge_aload_n_0 (by decide +kernel)
theorem d_X12_factor_152 : decode prog_14_method_16_code 152 = .ok (.aload_n 0, 1) := ge_aload_n_0 (by decide +kernel)
theorem d_X12_factor_153 : decode prog_14_method_16_code 153 = .ok (.getfield 54, 3) := ge_getfield (by decide +kernel)
theorem d_X12_factor_156 : decode prog_14_method_16_code 156 = .ok (.ifCond .ne 8, 3) := ge_ifCond_ne (by decide +kernel)
theorem d_X12_factor_159 : decode prog_14_method_16_code 159 = .ok (.iload_n 3, 1) := ge_iload_n_3 (by decide +kernel)
theorem d_X12_factor_160 : decode prog_14_method_16_code 160 = .ok (.iconst (-1), 1) := ge_iconst_m1_ (by decide +kernel)
theorem d_X12_factor_161 : decode prog_14_method_16_code 161 = .ok (.if_icmp .ne 7, 3) := ge_if_icmp_ne (by decide +kernel)
theorem d_X12_factor_164 : decode prog_14_method_16_code 164 = .ok (.iconst 1, 1) := ge_iconst_1 (by decide +kernel)
theorem d_X12_factor_165 : decode prog_14_method_16_code 165 = .ok (.goto 4, 3) := ge_goto (by decide +kernel)
theorem d_X12_factor_168 : decode prog_14_method_16_code 168 = .ok (.iconst 0, 1) := ge_iconst_0 (by decide +kernel)
theorem d_X12_factor_169 : decode prog_14_method_16_code 169 = .ok (.putfield 54, 3) := ge_putfield (by decide +kernel)
theorem d_X12_factor_172 : decode prog_14_method_16_code 172 = .ok (.aload_n 0, 1) := ge_aload_n_0 (by decide +kernel)
theorem d_X12_factor_173 : decode prog_14_method_16_code 173 = .ok (.invokevirtual 98, 3) := ge_invokevirtual (by decide +kernel)
theorem d_X12_factor_176 : decode prog_14_method_16_code 176 = .ok (.istore 4, 2) := ge_istore (by decide +kernel)
theorem d_X12_factor_178 : decode prog_14_method_16_code 178 = .ok (.aload_n 0, 1) := ge_aload_n_0 (by decide +kernel)
theorem d_X12_factor_179 : decode prog_14_method_16_code 179 = .ok (.iload_n 2, 1) := ge_iload_n_2 (by decide +kernel)
theorem d_X12_factor_180 : decode prog_14_method_16_code 180 = .ok (.bipush 8, 2) := ge_bipush (by decide +kernel)
theorem d_X12_factor_182 : decode prog_14_method_16_code 182 = .ok (.iload_n 3, 1) := ge_iload_n_3 (by decide +kernel)
theorem d_X12_factor_183 : decode prog_14_method_16_code 183 = .ok (.imul, 1) := ge_imul (by decide +kernel)
theorem d_X12_factor_184 : decode prog_14_method_16_code 184 = .ok (.iadd, 1) := ge_iadd (by decide +kernel)
theorem d_X12_factor_185 : decode prog_14_method_16_code 185 = .ok (.bipush 32, 2) := ge_bipush (by decide +kernel)
theorem d_X12_factor_187 : decode prog_14_method_16_code 187 = .ok (.iload 4, 2) := ge_iload (by decide +kernel)
theorem d_X12_factor_189 : decode prog_14_method_16_code 189 = .ok (.imul, 1) := ge_imul (by decide +kernel)
theorem d_X12_factor_190 : decode prog_14_method_16_code 190 = .ok (.iadd, 1) := ge_iadd (by decide +kernel)
theorem d_X12_factor_191 : decode prog_14_method_16_code 191 = .ok (.invokevirtual 84, 3) := ge_invokevirtual (by decide +kernel)
theorem d_X12_factor_194 : decode prog_14_method_16_code 194 = .ok (.return_, 1) := ge_return_ (by decide +kernel)
theorem d_X12_some_0 : decode prog_14_method_18_code 0 = .ok (.aload_n 0, 1) := ge_aload_n_0 (by decide +kernel)
theorem d_X12_some_1 : decode prog_14_method_18_code 1 = .ok (.invokevirtual 101, 3) := ge_invokevirtual (by decide +kernel)
theorem d_X12_some_4 : decode prog_14_method_18_code 4 = .ok (.aload_n 0, 1) := ge_aload_n_0 (by decide +kernel)
theorem d_X12_some_5 : decode prog_14_method_18_code 5 = .ok (.getfield 54, 3) := ge_getfield (by decide +kernel)
theorem d_X12_some_8 : decode prog_14_method_18_code 8 = .ok (.ifCond .ne 35, 3) := ge_ifCond_ne (by decide +kernel)
theorem d_X12_some_11 : decode prog_14_method_18_code 11 = .ok (.aload_n 0, 1) := ge_aload_n_0 (by decide +kernel)
theorem d_X12_some_12 : decode prog_14_method_18_code 12 = .ok (.invokevirtual 58, 3) := ge_invokevirtual (by decide +kernel)
theorem d_X12_some_15 : decode prog_14_method_18_code 15 = .ok (.bipush 124, 2) := ge_bipush (by decide +kernel)
theorem d_X12_some_17 : decode prog_14_method_18_code 17 = .ok (.if_icmp .ne 26, 3) := ge_if_icmp_ne (by decide +kernel)
theorem d_X12_some_20 : decode prog_14_method_18_code 20 = .ok (.aload_n 0, 1) := ge_aload_n_0 (by decide +kernel)
theorem d_X12_some_21 : decode prog_14_method_18_code 21 = .ok (.dup, 1) := ge_dup (by decide +kernel)
theorem d_X12_some_22 : decode prog_14_method_18_code 22 = .ok (.getfield 48, 3) := ge_getfield (by decide +kernel)
theorem d_X12_some_25 : decode prog_14_method_18_code 25 = .ok (.iconst 1, 1) := ge_iconst_1 (by decide +kernel)
theorem d_X12_some_26 : decode prog_14_method_18_code 26 = .ok (.iadd, 1) := ge_iadd (by decide +kernel)
theorem d_X12_some_27 : decode prog_14_method_18_code 27 = .ok (.putfield 48, 3) := ge_putfield (by decide +kernel)
theorem d_X12_some_30 : decode prog_14_method_18_code 30 = .ok (.aload_n 0, 1) := ge_aload_n_0 (by decide +kernel)
theorem d_X12_some_31 : decode prog_14_method_18_code 31 = .ok (.invokevirtual 101, 3) := ge_invokevirtual (by decide +kernel)
theorem d_X12_some_34 : decode prog_14_method_18_code 34 = .ok (.aload_n 0, 1) := ge_aload_n_0 (by decide +kernel)
theorem d_X12_some_35 : decode prog_14_method_18_code 35 = .ok (.bipush (-3), 2) := ge_bipush (by decide +kernel)
theorem d_X12_some_37 : decode prog_14_method_18_code 37 = .ok (.invokevirtual 84, 3) := ge_invokevirtual (by decide +kernel)
theorem d_X12_some_40 : decode prog_14_method_18_code 40 = .ok (.goto (-36), 3) := ge_goto (by decide +kernel)
theorem d_X12_some_43 : decode prog_14_method_18_code 43 = .ok (.return_, 1) := ge_return_ (by decide +kernel)
def b_X12_every (R0 : Nat → gm_M → Option (Option Value × gm_M)) (R1 : Nat → gm_M → Option (Option Value × gm_M)) (R2 : Nat → gm_M → Option (Option Value × gm_M)) (a0 : Nat) (μ : gm_M) : Option (Option Value × gm_M) := if gm_tag μ a0 = 17 then gm_bV (R1 a0 μ) (fun m1 => gm_loop (fun (s3 : gm_M) => gm_gI s3 [17] a0 8 (fun v4 => if v4 ≠ 0 then some (Sum.inr (none, s3)) else if gm_tag s3 a0 = 17 then gm_bI (f_X12_here a0 s3) (fun x6 m5 => if x6 ≠ (38 : Int32) then some (Sum.inr (none, m5)) else gm_gI m5 [17] a0 6 (fun v7 => gm_pI m5 [17] a0 6 (v7 + (1 : Int32)) (fun m8 => if gm_tag m8 a0 = 17 then gm_bV (R1 a0 m8) (fun m9 => if gm_tag m9 a0 = 17 then gm_bV (f_X12_emits a0 (-2 : Int32) m9) (fun m11 => some (Sum.inl m11)) else none) else none))) else none)) 5000 m1) else none
set_option maxHeartbeats 4000000 in
theorem bc_X12_every (d : Nat) (R0 : Nat → gm_M → Option (Option Value × gm_M)) (R1 : Nat → gm_M → Option (Option Value × gm_M)) (R2 : Nat → gm_M → Option (Option Value × gm_M)) (hR0 : ∀ (a0 : Nat) (μ : gm_M), gm_Call ({ cls := "GumBubbleModel", name := "every", desc := "()V" } : Jvm.MethodName) prog_14_method_17_code 1 none (d + 5) 0 0 [.ref a0] μ (R0 a0 μ)) (hR1 : ∀ (a0 : Nat) (μ : gm_M), gm_Call ({ cls := "GumBubbleModel", name := "factor", desc := "()V" } : Jvm.MethodName) prog_14_method_16_code 5 none (d + 5) 0 0 [.ref a0] μ (R1 a0 μ)) (hR2 : ∀ (a0 : Nat) (μ : gm_M), gm_Call ({ cls := "GumBubbleModel", name := "some", desc := "()V" } : Jvm.MethodName) prog_14_method_18_code 1 none (d + 5) 0 0 [.ref a0] μ (R2 a0 μ)) (a0 : Nat) (μ : gm_M) : gm_Call ({ cls := "GumBubbleModel", name := "every", desc := "()V" } : Jvm.MethodName) prog_14_method_17_code 1 none (d + 1 + 5) 0 0 [.ref a0] μ (b_X12_every R0 R1 R2 a0 μ) := by
  refine gm_start PN_12 (Nat.le_of_ble_eq_true rfl) (fun res μe => ?_)
  unfold b_X12_every
  show gm_A "GumBubbleModel" (gm_nm "every") _ _ _ _ _ _ _ _ _ 0 [(0, .ref a0)] [] _ _
  refine gm_aload_n d_X12_every_0 rfl 0 rfl ?_
  refine gm_grd (fun g1 => ?_)
  refine gm_callV (k0 := 12) [] (hR1 a0 μ) g1 rfl B_X12_factor gw_1016 gs_35 (gm_hit2 (by simp only [gm_rm]; omega) (by simp only [gm_rm]; omega) (Nat.le_refl 0) (Nat.le_refl 0)) rfl rfl d_X12_every_1 (gm_kV (fun m1 => ?_))
  refine gm_lp (S := gm_M) (fun _ => 0) (fun _ => 0) (fun s3 => s3) (fun s3 => [(0, .ref a0)]) (fun _ => []) (fun s3 => ?_) 5000 m1
  refine gm_aload_n d_X12_every_4 rfl 0 rfl ?_
  refine gm_getI F_12_isWrong gw_897 d_X12_every_5 (fun v4 _ => ?_)
  refine gm_if_ne (tgt := 43) d_X12_every_8 (by decide) (fun h8 => ?_) (fun h8 => ?_)
  ·
    exact gm_vret rfl d_X12_every_43 (Nat.le_of_ble_eq_true rfl) (Nat.le_of_ble_eq_true rfl) (fun h => h)
  ·
    refine gm_aload_n d_X12_every_11 rfl 0 rfl ?_
    refine gm_grd (fun g12 => ?_)
    refine gm_callV (k0 := 12) [] (c_X12_here a0 s3) g12 rfl B_X12_here gw_975 gs_26 (gm_hit2 (by simp only [gm_rm]; omega) (by simp only [gm_rm]; omega) (Nat.le_refl 0) (Nat.le_refl 0)) rfl rfl d_X12_every_12 (gm_kI (fun x6 m5 => ?_))
    refine gm_bipush (v := 38) d_X12_every_15 (by decide) ?_
    refine gm_icmp_ne (tgt := 43) d_X12_every_17 (by decide) (fun h17 => ?_) (fun h17 => ?_)
    ·
      exact gm_vret rfl d_X12_every_43 (Nat.le_of_ble_eq_true rfl) (Nat.le_of_ble_eq_true rfl) (fun h => h)
    ·
      refine gm_aload_n d_X12_every_20 rfl 0 rfl ?_
      refine gm_dup d_X12_every_21 rfl ?_
      refine gm_getI F_12_spot gw_895 d_X12_every_22 (fun v7 _ => ?_)
      refine gm_iconst (v := 1) d_X12_every_25 (by decide) ?_
      refine gm_iadd d_X12_every_26 ?_
      refine gm_putI F_12_spot (Or.inl rfl) gw_895 d_X12_every_27 (fun m8 _ => ?_)
      refine gm_aload_n d_X12_every_30 rfl 0 rfl ?_
      refine gm_grd (fun g31 => ?_)
      refine gm_callV (k0 := 12) [] (hR1 a0 m8) g31 rfl B_X12_factor gw_1016 gs_35 (gm_hit2 (by simp only [gm_rm]; omega) (by simp only [gm_rm]; omega) (Nat.le_refl 0) (Nat.le_refl 0)) rfl rfl d_X12_every_31 (gm_kV (fun m9 => ?_))
      refine gm_aload_n d_X12_every_34 rfl 0 rfl ?_
      refine gm_bipush (v := -2) d_X12_every_35 (by decide) ?_
      refine gm_grd (fun g37 => ?_)
      refine gm_callV (k0 := 12) [.int (-2 : Int32)] (c_X12_emits a0 (-2 : Int32) m9) g37 rfl B_X12_emits gw_1020 gs_36 (gm_hit2 (by simp only [gm_rm]; omega) (by simp only [gm_rm]; omega) (Nat.le_refl 0) (Nat.le_refl 0)) rfl rfl d_X12_every_37 (gm_kV (fun m11 => ?_))
      refine gm_goto (tgt := 4) d_X12_every_40 (by decide) ?_
      exact gm_back (fun h => h)
def b_X12_factor (R0 : Nat → gm_M → Option (Option Value × gm_M)) (R1 : Nat → gm_M → Option (Option Value × gm_M)) (R2 : Nat → gm_M → Option (Option Value × gm_M)) (a0 : Nat) (μ : gm_M) : Option (Option Value × gm_M) := gm_gI μ [17] a0 8 (fun v1 => if v1 = 0 then if gm_tag μ a0 = 17 then gm_bI (f_X12_here a0 μ) (fun x3 m2 => gm_j (fun (s4 : Unit) => gm_gI m2 [17] a0 9 (fun v6 => gm_j (fun (s7 : Int32) => gm_pZ m2 [17] a0 8 s7 (fun m9 => gm_gI m9 [17] a0 9 (fun v10 => gm_pI m9 [17] a0 9 (v10 + (1 : Int32)) (fun m11 => gm_gI m11 [17] a0 6 (fun v12 => gm_gI m11 [17] a0 8 (fun v13 => gm_j (fun (s14 : Int32) => gm_pI m11 [17] a0 6 (v12 + s14) (fun m16 => gm_j (fun (s17 : gm_M) => gm_gI s17 [17] a0 9 (fun v19 => gm_pI s17 [17] a0 9 (v19 - (1 : Int32)) (fun m20 => some (none, m20)))) (fun j18 => if x3 ≠ (33 : Int32) then if gm_tag m16 a0 = 17 then gm_bV (R2 a0 m16) (fun m21 => if gm_tag m21 a0 = 17 then gm_bV (f_X12_must a0 (41 : Int32) m21) (fun m23 => j18 m23) else none) else none else if gm_tag m16 a0 = 17 then gm_bV (R1 a0 m16) (fun m25 => if gm_tag m25 a0 = 17 then gm_bV (f_X12_emits a0 (-1 : Int32) m25) (fun m27 => j18 m27) else none) else none))) (fun j15 => if v13 = 0 then j15 (1 : Int32) else j15 (0 : Int32)))))))) (fun j8 => if v6 ≠ (5 : Int32) then j8 (0 : Int32) else j8 (1 : Int32)))) (fun j5 => if x3 = (33 : Int32) then j5 () else if x3 ≠ (40 : Int32) then if gm_tag m2 a0 = 17 then gm_bI (f_X12_among a0 (5 : UInt32) m2) (fun x30 m29 => gm_j (fun (s31 : Int32) => gm_pZ m29 [17] a0 8 s31 (fun m33 => gm_gI m33 [17] a0 8 (fun v34 => gm_j (fun (s35 : Int32 × gm_M) => gm_gI s35.2 [17] a0 8 (fun v37 => gm_j (fun (s38 : Int32) => gm_pZ s35.2 [17] a0 8 s38 (fun m40 => if gm_tag m40 a0 = 17 then gm_bI (f_X12_figures a0 m40) (fun x42 m41 => if gm_tag m41 a0 = 17 then gm_bV (f_X12_emits a0 ((x30 + ((8 : Int32) * s35.1)) + ((32 : Int32) * x42)) m41) (fun m43 => some (none, m43)) else none) else none)) (fun j39 => gm_j (fun (s45 : Unit) => j39 (1 : Int32)) (fun j46 => if v37 ≠ 0 then j46 () else if s35.1 ≠ (-1 : Int32) then j39 (0 : Int32) else j46 ())))) (fun j36 => if v34 = 0 then if gm_tag m33 a0 = 17 then gm_bI (f_X12_among a0 (6 : UInt32) m33) (fun x48 m47 => j36 (x48, m47)) else none else j36 ((0 : Int32), m33))))) (fun j32 => if x30 ≠ (-1 : Int32) then j32 (0 : Int32) else j32 (1 : Int32))) else none else j5 ())) else none else some (none, μ))
set_option maxHeartbeats 4000000 in
theorem bc_X12_factor (d : Nat) (R0 : Nat → gm_M → Option (Option Value × gm_M)) (R1 : Nat → gm_M → Option (Option Value × gm_M)) (R2 : Nat → gm_M → Option (Option Value × gm_M)) (hR0 : ∀ (a0 : Nat) (μ : gm_M), gm_Call ({ cls := "GumBubbleModel", name := "every", desc := "()V" } : Jvm.MethodName) prog_14_method_17_code 1 none (d + 5) 0 0 [.ref a0] μ (R0 a0 μ)) (hR1 : ∀ (a0 : Nat) (μ : gm_M), gm_Call ({ cls := "GumBubbleModel", name := "factor", desc := "()V" } : Jvm.MethodName) prog_14_method_16_code 5 none (d + 5) 0 0 [.ref a0] μ (R1 a0 μ)) (hR2 : ∀ (a0 : Nat) (μ : gm_M), gm_Call ({ cls := "GumBubbleModel", name := "some", desc := "()V" } : Jvm.MethodName) prog_14_method_18_code 1 none (d + 5) 0 0 [.ref a0] μ (R2 a0 μ)) (a0 : Nat) (μ : gm_M) : gm_Call ({ cls := "GumBubbleModel", name := "factor", desc := "()V" } : Jvm.MethodName) prog_14_method_16_code 5 none (d + 1 + 5) 0 0 [.ref a0] μ (b_X12_factor R0 R1 R2 a0 μ) := by
  refine gm_start PN_12 (Nat.le_of_ble_eq_true rfl) (fun res μe => ?_)
  unfold b_X12_factor
  show gm_A "GumBubbleModel" (gm_nm "factor") _ _ _ _ _ _ _ _ _ 0 [(0, .ref a0)] [] _ _
  refine gm_aload_n d_X12_factor_0 rfl 0 rfl ?_
  refine gm_getI F_12_isWrong gw_897 d_X12_factor_1 (fun v1 _ => ?_)
  refine gm_if_eq (tgt := 8) d_X12_factor_4 (by decide) (fun h4 => ?_) (fun h4 => ?_)
  ·
    refine gm_aload_n d_X12_factor_8 rfl 0 rfl ?_
    refine gm_grd (fun g9 => ?_)
    refine gm_callV (k0 := 12) [] (c_X12_here a0 μ) g9 rfl B_X12_here gw_975 gs_26 (gm_hit2 (by simp only [gm_rm]; omega) (by simp only [gm_rm]; omega) (Nat.le_refl 0) (Nat.le_refl 0)) rfl rfl d_X12_factor_9 (gm_kI (fun x3 m2 => ?_))
    refine gm_istore_n (L' := [(1, .int x3), (0, .ref a0)]) d_X12_factor_12 rfl (Nat.le_of_ble_eq_true rfl) rfl ?_
    refine gm_iload_n d_X12_factor_13 rfl 0 rfl ?_
    refine gm_bipush (v := 33) d_X12_factor_14 (by decide) ?_
    refine gm_join (S := Unit) (pj := 25) (kj := 0) (nj := 0) (fun s4 => m2) (fun s4 => [(0, .ref a0), (1, .int x3)]) (fun s4 => []) (fun s4 => ?_) (fun j5 hj5 => ?_)
    ·
      refine gm_aload_n d_X12_factor_25 rfl 0 rfl ?_
      refine gm_aload_n d_X12_factor_26 rfl 0 rfl ?_
      refine gm_getI F_12_open gw_898 d_X12_factor_27 (fun v6 _ => ?_)
      refine gm_iconst (v := 5) d_X12_factor_30 (by decide) ?_
      refine gm_join (S := Int32) (pj := 39) (kj := 0) (nj := 0) (fun s7 => m2) (fun s7 => [(0, .ref a0), (1, .int x3)]) (fun s7 => [.int s7, .ref a0]) (fun s7 => ?_) (fun j8 hj8 => ?_)
      ·
        refine gm_putZ F_12_isWrong (Or.inl rfl) gw_897 d_X12_factor_39 (fun m9 _ => ?_)
        refine gm_aload_n d_X12_factor_42 rfl 0 rfl ?_
        refine gm_dup d_X12_factor_43 rfl ?_
        refine gm_getI F_12_open gw_898 d_X12_factor_44 (fun v10 _ => ?_)
        refine gm_iconst (v := 1) d_X12_factor_47 (by decide) ?_
        refine gm_iadd d_X12_factor_48 ?_
        refine gm_putI F_12_open (Or.inl rfl) gw_898 d_X12_factor_49 (fun m11 _ => ?_)
        refine gm_aload_n d_X12_factor_52 rfl 0 rfl ?_
        refine gm_dup d_X12_factor_53 rfl ?_
        refine gm_getI F_12_spot gw_895 d_X12_factor_54 (fun v12 _ => ?_)
        refine gm_aload_n d_X12_factor_57 rfl 0 rfl ?_
        refine gm_getI F_12_isWrong gw_897 d_X12_factor_58 (fun v13 _ => ?_)
        refine gm_join (S := Int32) (pj := 69) (kj := 0) (nj := 0) (fun s14 => m11) (fun s14 => [(0, .ref a0), (1, .int x3)]) (fun s14 => [.int s14, .int v12, .ref a0]) (fun s14 => ?_) (fun j15 hj15 => ?_)
        ·
          refine gm_iadd d_X12_factor_69 ?_
          refine gm_putI F_12_spot (Or.inl rfl) gw_895 d_X12_factor_70 (fun m16 _ => ?_)
          refine gm_iload_n d_X12_factor_73 rfl 1 rfl ?_
          refine gm_bipush (v := 33) d_X12_factor_74 (by decide) ?_
          refine gm_join (S := gm_M) (pj := 101) (kj := 0) (nj := 0) (fun s17 => s17) (fun s17 => [(0, .ref a0), (1, .int x3)]) (fun s17 => []) (fun s17 => ?_) (fun j18 hj18 => ?_)
          ·
            refine gm_aload_n d_X12_factor_101 rfl 0 rfl ?_
            refine gm_dup d_X12_factor_102 rfl ?_
            refine gm_getI F_12_open gw_898 d_X12_factor_103 (fun v19 _ => ?_)
            refine gm_iconst (v := 1) d_X12_factor_106 (by decide) ?_
            refine gm_isub d_X12_factor_107 ?_
            refine gm_putI F_12_open (Or.inl rfl) gw_898 d_X12_factor_108 (fun m20 _ => ?_)
            exact gm_vret rfl d_X12_factor_111 (Nat.le_of_ble_eq_true rfl) (Nat.le_of_ble_eq_true rfl) (fun h => h)
          ·
            refine gm_icmp_ne (tgt := 91) d_X12_factor_76 (by decide) (fun h76 => ?_) (fun h76 => ?_)
            ·
              refine gm_aload_n d_X12_factor_91 rfl 0 rfl ?_
              refine gm_grd (fun g92 => ?_)
              refine gm_callV (k0 := 12) [] (hR2 a0 m16) g92 rfl B_X12_some gw_1008 gs_33 (gm_hit2 (by simp only [gm_rm]; omega) (by simp only [gm_rm]; omega) (Nat.le_refl 0) (Nat.le_refl 0)) rfl rfl d_X12_factor_92 (gm_kV (fun m21 => ?_))
              refine gm_aload_n d_X12_factor_95 rfl 0 rfl ?_
              refine gm_bipush (v := 41) d_X12_factor_96 (by decide) ?_
              refine gm_grd (fun g98 => ?_)
              refine gm_callV (k0 := 12) [.int (41 : Int32)] (c_X12_must a0 (41 : Int32) m21) g98 rfl B_X12_must gw_990 gs_29 (gm_hit2 (by simp only [gm_rm]; omega) (by simp only [gm_rm]; omega) (Nat.le_refl 0) (Nat.le_refl 0)) rfl rfl d_X12_factor_98 (gm_kV (fun m23 => ?_))
              exact hj18 m23
            ·
              refine gm_aload_n d_X12_factor_79 rfl 0 rfl ?_
              refine gm_grd (fun g80 => ?_)
              refine gm_callV (k0 := 12) [] (hR1 a0 m16) g80 rfl B_X12_factor gw_1016 gs_35 (gm_hit2 (by simp only [gm_rm]; omega) (by simp only [gm_rm]; omega) (Nat.le_refl 0) (Nat.le_refl 0)) rfl rfl d_X12_factor_80 (gm_kV (fun m25 => ?_))
              refine gm_aload_n d_X12_factor_83 rfl 0 rfl ?_
              refine gm_iconst (v := -1) d_X12_factor_84 (by decide) ?_
              refine gm_grd (fun g85 => ?_)
              refine gm_callV (k0 := 12) [.int (-1 : Int32)] (c_X12_emits a0 (-1 : Int32) m25) g85 rfl B_X12_emits gw_1020 gs_36 (gm_hit2 (by simp only [gm_rm]; omega) (by simp only [gm_rm]; omega) (Nat.le_refl 0) (Nat.le_refl 0)) rfl rfl d_X12_factor_85 (gm_kV (fun m27 => ?_))
              refine gm_goto (tgt := 101) d_X12_factor_88 (by decide) ?_
              exact hj18 m27
        ·
          refine gm_if_eq (tgt := 68) d_X12_factor_61 (by decide) (fun h61 => ?_) (fun h61 => ?_)
          ·
            refine gm_iconst (v := 1) d_X12_factor_68 (by decide) ?_
            exact hj15 (1 : Int32)
          ·
            refine gm_iconst (v := 0) d_X12_factor_64 (by decide) ?_
            refine gm_goto (tgt := 69) d_X12_factor_65 (by decide) ?_
            exact hj15 (0 : Int32)
      ·
        refine gm_icmp_ne (tgt := 38) d_X12_factor_31 (by decide) (fun h31 => ?_) (fun h31 => ?_)
        ·
          refine gm_iconst (v := 0) d_X12_factor_38 (by decide) ?_
          exact hj8 (0 : Int32)
        ·
          refine gm_iconst (v := 1) d_X12_factor_34 (by decide) ?_
          refine gm_goto (tgt := 39) d_X12_factor_35 (by decide) ?_
          exact hj8 (1 : Int32)
    ·
      refine gm_icmp_eq (tgt := 25) d_X12_factor_16 (by decide) (fun h16 => ?_) (fun h16 => ?_)
      ·
        refine gm_sub (L' := [(0, .ref a0), (1, .int x3)]) [1, 0] rfl ?_
        exact hj5 ()
      ·
        refine gm_iload_n d_X12_factor_19 rfl 0 rfl ?_
        refine gm_bipush (v := 40) d_X12_factor_20 (by decide) ?_
        refine gm_icmp_ne (tgt := 112) d_X12_factor_22 (by decide) (fun h22 => ?_) (fun h22 => ?_)
        ·
          refine gm_aload_n d_X12_factor_112 rfl 1 rfl ?_
          refine gm_ldcS (t := 4) (u := 5) (tx := "ckvpsm") (by decide +kernel) rfl d_X12_factor_113 ?_
          refine gm_grd (fun g115 => ?_)
          refine gm_callV (k0 := 12) [.float (5 : UInt32)] (c_X12_among a0 (5 : UInt32) m2) g115 rfl B_X12_among gw_1025 gs_37 (gm_hit2 (by simp only [gm_rm]; omega) (by simp only [gm_rm]; omega) (Nat.le_refl 0) (Nat.le_refl 0)) rfl rfl d_X12_factor_115 (gm_kI (fun x30 m29 => ?_))
          refine gm_istore_n (L' := [(2, .int x30), (1, .int x3), (0, .ref a0)]) d_X12_factor_118 rfl (Nat.le_of_ble_eq_true rfl) rfl ?_
          refine gm_aload_n d_X12_factor_119 rfl 2 rfl ?_
          refine gm_iload_n d_X12_factor_120 rfl 0 rfl ?_
          refine gm_iconst (v := -1) d_X12_factor_121 (by decide) ?_
          refine gm_join (S := Int32) (pj := 130) (kj := 0) (nj := 0) (fun s31 => m29) (fun s31 => [(0, .ref a0), (1, .int x3), (2, .int x30)]) (fun s31 => [.int s31, .ref a0]) (fun s31 => ?_) (fun j32 hj32 => ?_)
          ·
            refine gm_putZ F_12_isWrong (Or.inl rfl) gw_897 d_X12_factor_130 (fun m33 _ => ?_)
            refine gm_aload_n d_X12_factor_133 rfl 0 rfl ?_
            refine gm_getI F_12_isWrong gw_897 d_X12_factor_134 (fun v34 _ => ?_)
            refine gm_join (S := Int32 × gm_M) (pj := 150) (kj := 0) (nj := 0) (fun s35 => s35.2) (fun s35 => [(0, .ref a0), (1, .int x3), (2, .int x30)]) (fun s35 => [.int s35.1]) (fun s35 => ?_) (fun j36 hj36 => ?_)
            ·
              refine gm_istore_n (L' := [(3, .int s35.1), (0, .ref a0), (1, .int x3), (2, .int x30)]) d_X12_factor_150 rfl (Nat.le_of_ble_eq_true rfl) rfl ?_
              refine gm_aload_n d_X12_factor_151 rfl 1 rfl ?_
              refine gm_aload_n d_X12_factor_152 rfl 1 rfl ?_
              refine gm_getI F_12_isWrong gw_897 d_X12_factor_153 (fun v37 _ => ?_)
              refine gm_join (S := Int32) (pj := 169) (kj := 0) (nj := 0) (fun s38 => s35.2) (fun s38 => [(0, .ref a0), (1, .int x3), (2, .int x30), (3, .int s35.1)]) (fun s38 => [.int s38, .ref a0]) (fun s38 => ?_) (fun j39 hj39 => ?_)
              ·
                refine gm_putZ F_12_isWrong (Or.inl rfl) gw_897 d_X12_factor_169 (fun m40 _ => ?_)
                refine gm_aload_n d_X12_factor_172 rfl 0 rfl ?_
                refine gm_grd (fun g173 => ?_)
                refine gm_callV (k0 := 12) [] (c_X12_figures a0 m40) g173 rfl B_X12_figures gw_994 gs_30 (gm_hit2 (by simp only [gm_rm]; omega) (by simp only [gm_rm]; omega) (Nat.le_refl 0) (Nat.le_refl 0)) rfl rfl d_X12_factor_173 (gm_kI (fun x42 m41 => ?_))
                refine gm_istore (L' := [(4, .int x42), (0, .ref a0), (1, .int x3), (2, .int x30), (3, .int s35.1)]) d_X12_factor_176 (Nat.le_of_ble_eq_true rfl) rfl ?_
                refine gm_aload_n d_X12_factor_178 rfl 1 rfl ?_
                refine gm_iload_n d_X12_factor_179 rfl 3 rfl ?_
                refine gm_bipush (v := 8) d_X12_factor_180 (by decide) ?_
                refine gm_iload_n d_X12_factor_182 rfl 4 rfl ?_
                refine gm_imul d_X12_factor_183 ?_
                refine gm_iadd d_X12_factor_184 ?_
                refine gm_bipush (v := 32) d_X12_factor_185 (by decide) ?_
                refine gm_iload d_X12_factor_187 0 rfl ?_
                refine gm_imul d_X12_factor_189 ?_
                refine gm_iadd d_X12_factor_190 ?_
                refine gm_grd (fun g191 => ?_)
                refine gm_callV (k0 := 12) [.int ((x30 + ((8 : Int32) * s35.1)) + ((32 : Int32) * x42))] (c_X12_emits a0 ((x30 + ((8 : Int32) * s35.1)) + ((32 : Int32) * x42)) m41) g191 rfl B_X12_emits gw_1020 gs_36 (gm_hit2 (by simp only [gm_rm]; omega) (by simp only [gm_rm]; omega) (Nat.le_refl 0) (Nat.le_refl 0)) rfl rfl d_X12_factor_191 (gm_kV (fun m43 => ?_))
                exact gm_vret rfl d_X12_factor_194 (Nat.le_of_ble_eq_true rfl) (Nat.le_of_ble_eq_true rfl) (fun h => h)
              ·
                refine gm_join (S := Unit) (pj := 164) (kj := 0) (nj := 0) (fun s45 => s35.2) (fun s45 => [(0, .ref a0), (1, .int x3), (2, .int x30), (3, .int s35.1)]) (fun s45 => [.ref a0]) (fun s45 => ?_) (fun j46 hj46 => ?_)
                ·
                  refine gm_iconst (v := 1) d_X12_factor_164 (by decide) ?_
                  refine gm_goto (tgt := 169) d_X12_factor_165 (by decide) ?_
                  exact hj39 (1 : Int32)
                ·
                  refine gm_if_ne (tgt := 164) d_X12_factor_156 (by decide) (fun h156 => ?_) (fun h156 => ?_)
                  ·
                    refine gm_sub (L' := [(0, .ref a0), (1, .int x3), (2, .int x30), (3, .int s35.1)]) [1, 2, 3, 0] rfl ?_
                    exact hj46 ()
                  ·
                    refine gm_iload_n d_X12_factor_159 rfl 0 rfl ?_
                    refine gm_iconst (v := -1) d_X12_factor_160 (by decide) ?_
                    refine gm_icmp_ne (tgt := 168) d_X12_factor_161 (by decide) (fun h161 => ?_) (fun h161 => ?_)
                    ·
                      refine gm_iconst (v := 0) d_X12_factor_168 (by decide) ?_
                      refine gm_sub (L' := [(0, .ref a0), (1, .int x3), (2, .int x30), (3, .int s35.1)]) [1, 2, 3, 0] rfl ?_
                      exact hj39 (0 : Int32)
                    ·
                      refine gm_sub (L' := [(0, .ref a0), (1, .int x3), (2, .int x30), (3, .int s35.1)]) [1, 2, 3, 0] rfl ?_
                      exact hj46 ()
            ·
              refine gm_if_eq (tgt := 144) d_X12_factor_137 (by decide) (fun h137 => ?_) (fun h137 => ?_)
              ·
                refine gm_aload_n d_X12_factor_144 rfl 0 rfl ?_
                refine gm_ldcS (t := 5) (u := 6) (tx := "<=>") (by decide +kernel) rfl d_X12_factor_145 ?_
                refine gm_grd (fun g147 => ?_)
                refine gm_callV (k0 := 12) [.float (6 : UInt32)] (c_X12_among a0 (6 : UInt32) m33) g147 rfl B_X12_among gw_1025 gs_37 (gm_hit2 (by simp only [gm_rm]; omega) (by simp only [gm_rm]; omega) (Nat.le_refl 0) (Nat.le_refl 0)) rfl rfl d_X12_factor_147 (gm_kI (fun x48 m47 => ?_))
                exact hj36 (x48, m47)
              ·
                refine gm_iconst (v := 0) d_X12_factor_140 (by decide) ?_
                refine gm_goto (tgt := 150) d_X12_factor_141 (by decide) ?_
                exact hj36 ((0 : Int32), m33)
          ·
            refine gm_icmp_ne (tgt := 129) d_X12_factor_122 (by decide) (fun h122 => ?_) (fun h122 => ?_)
            ·
              refine gm_iconst (v := 0) d_X12_factor_129 (by decide) ?_
              refine gm_sub (L' := [(0, .ref a0), (1, .int x3), (2, .int x30)]) [2, 1, 0] rfl ?_
              exact hj32 (0 : Int32)
            ·
              refine gm_iconst (v := 1) d_X12_factor_125 (by decide) ?_
              refine gm_goto (tgt := 130) d_X12_factor_126 (by decide) ?_
              refine gm_sub (L' := [(0, .ref a0), (1, .int x3), (2, .int x30)]) [2, 1, 0] rfl ?_
              exact hj32 (1 : Int32)
        ·
          refine gm_sub (L' := [(0, .ref a0), (1, .int x3)]) [1, 0] rfl ?_
          exact hj5 ()
  ·
    exact gm_vret rfl d_X12_factor_7 (Nat.le_of_ble_eq_true rfl) (Nat.le_of_ble_eq_true rfl) (fun h => h)
def b_X12_some (R0 : Nat → gm_M → Option (Option Value × gm_M)) (R1 : Nat → gm_M → Option (Option Value × gm_M)) (R2 : Nat → gm_M → Option (Option Value × gm_M)) (a0 : Nat) (μ : gm_M) : Option (Option Value × gm_M) := if gm_tag μ a0 = 17 then gm_bV (R0 a0 μ) (fun m1 => gm_loop (fun (s3 : gm_M) => gm_gI s3 [17] a0 8 (fun v4 => if v4 ≠ 0 then some (Sum.inr (none, s3)) else if gm_tag s3 a0 = 17 then gm_bI (f_X12_here a0 s3) (fun x6 m5 => if x6 ≠ (124 : Int32) then some (Sum.inr (none, m5)) else gm_gI m5 [17] a0 6 (fun v7 => gm_pI m5 [17] a0 6 (v7 + (1 : Int32)) (fun m8 => if gm_tag m8 a0 = 17 then gm_bV (R0 a0 m8) (fun m9 => if gm_tag m9 a0 = 17 then gm_bV (f_X12_emits a0 (-3 : Int32) m9) (fun m11 => some (Sum.inl m11)) else none) else none))) else none)) 5000 m1) else none
set_option maxHeartbeats 4000000 in
theorem bc_X12_some (d : Nat) (R0 : Nat → gm_M → Option (Option Value × gm_M)) (R1 : Nat → gm_M → Option (Option Value × gm_M)) (R2 : Nat → gm_M → Option (Option Value × gm_M)) (hR0 : ∀ (a0 : Nat) (μ : gm_M), gm_Call ({ cls := "GumBubbleModel", name := "every", desc := "()V" } : Jvm.MethodName) prog_14_method_17_code 1 none (d + 5) 0 0 [.ref a0] μ (R0 a0 μ)) (hR1 : ∀ (a0 : Nat) (μ : gm_M), gm_Call ({ cls := "GumBubbleModel", name := "factor", desc := "()V" } : Jvm.MethodName) prog_14_method_16_code 5 none (d + 5) 0 0 [.ref a0] μ (R1 a0 μ)) (hR2 : ∀ (a0 : Nat) (μ : gm_M), gm_Call ({ cls := "GumBubbleModel", name := "some", desc := "()V" } : Jvm.MethodName) prog_14_method_18_code 1 none (d + 5) 0 0 [.ref a0] μ (R2 a0 μ)) (a0 : Nat) (μ : gm_M) : gm_Call ({ cls := "GumBubbleModel", name := "some", desc := "()V" } : Jvm.MethodName) prog_14_method_18_code 1 none (d + 1 + 5) 0 0 [.ref a0] μ (b_X12_some R0 R1 R2 a0 μ) := by
  refine gm_start PN_12 (Nat.le_of_ble_eq_true rfl) (fun res μe => ?_)
  unfold b_X12_some
  show gm_A "GumBubbleModel" (gm_nm "some") _ _ _ _ _ _ _ _ _ 0 [(0, .ref a0)] [] _ _
  refine gm_aload_n d_X12_some_0 rfl 0 rfl ?_
  refine gm_grd (fun g1 => ?_)
  refine gm_callV (k0 := 12) [] (hR0 a0 μ) g1 rfl B_X12_every gw_1012 gs_34 (gm_hit2 (by simp only [gm_rm]; omega) (by simp only [gm_rm]; omega) (Nat.le_refl 0) (Nat.le_refl 0)) rfl rfl d_X12_some_1 (gm_kV (fun m1 => ?_))
  refine gm_lp (S := gm_M) (fun _ => 0) (fun _ => 0) (fun s3 => s3) (fun s3 => [(0, .ref a0)]) (fun _ => []) (fun s3 => ?_) 5000 m1
  refine gm_aload_n d_X12_some_4 rfl 0 rfl ?_
  refine gm_getI F_12_isWrong gw_897 d_X12_some_5 (fun v4 _ => ?_)
  refine gm_if_ne (tgt := 43) d_X12_some_8 (by decide) (fun h8 => ?_) (fun h8 => ?_)
  ·
    exact gm_vret rfl d_X12_some_43 (Nat.le_of_ble_eq_true rfl) (Nat.le_of_ble_eq_true rfl) (fun h => h)
  ·
    refine gm_aload_n d_X12_some_11 rfl 0 rfl ?_
    refine gm_grd (fun g12 => ?_)
    refine gm_callV (k0 := 12) [] (c_X12_here a0 s3) g12 rfl B_X12_here gw_975 gs_26 (gm_hit2 (by simp only [gm_rm]; omega) (by simp only [gm_rm]; omega) (Nat.le_refl 0) (Nat.le_refl 0)) rfl rfl d_X12_some_12 (gm_kI (fun x6 m5 => ?_))
    refine gm_bipush (v := 124) d_X12_some_15 (by decide) ?_
    refine gm_icmp_ne (tgt := 43) d_X12_some_17 (by decide) (fun h17 => ?_) (fun h17 => ?_)
    ·
      exact gm_vret rfl d_X12_some_43 (Nat.le_of_ble_eq_true rfl) (Nat.le_of_ble_eq_true rfl) (fun h => h)
    ·
      refine gm_aload_n d_X12_some_20 rfl 0 rfl ?_
      refine gm_dup d_X12_some_21 rfl ?_
      refine gm_getI F_12_spot gw_895 d_X12_some_22 (fun v7 _ => ?_)
      refine gm_iconst (v := 1) d_X12_some_25 (by decide) ?_
      refine gm_iadd d_X12_some_26 ?_
      refine gm_putI F_12_spot (Or.inl rfl) gw_895 d_X12_some_27 (fun m8 _ => ?_)
      refine gm_aload_n d_X12_some_30 rfl 0 rfl ?_
      refine gm_grd (fun g31 => ?_)
      refine gm_callV (k0 := 12) [] (hR0 a0 m8) g31 rfl B_X12_every gw_1012 gs_34 (gm_hit2 (by simp only [gm_rm]; omega) (by simp only [gm_rm]; omega) (Nat.le_refl 0) (Nat.le_refl 0)) rfl rfl d_X12_some_31 (gm_kV (fun m9 => ?_))
      refine gm_aload_n d_X12_some_34 rfl 0 rfl ?_
      refine gm_bipush (v := -3) d_X12_some_35 (by decide) ?_
      refine gm_grd (fun g37 => ?_)
      refine gm_callV (k0 := 12) [.int (-3 : Int32)] (c_X12_emits a0 (-3 : Int32) m9) g37 rfl B_X12_emits gw_1020 gs_36 (gm_hit2 (by simp only [gm_rm]; omega) (by simp only [gm_rm]; omega) (Nat.le_refl 0) (Nat.le_refl 0)) rfl rfl d_X12_some_37 (gm_kV (fun m11 => ?_))
      refine gm_goto (tgt := 4) d_X12_some_40 (by decide) ?_
      exact gm_back (fun h => h)
def r_X12_every : Nat → (Nat → gm_M → Option (Option Value × gm_M)) × (Nat → gm_M → Option (Option Value × gm_M)) × (Nat → gm_M → Option (Option Value × gm_M))
  | 0 => (fun _ _ => none, fun _ _ => none, fun _ _ => none)
  | d + 1 => (b_X12_every (r_X12_every d).1 (r_X12_every d).2.1 (r_X12_every d).2.2, b_X12_factor (r_X12_every d).1 (r_X12_every d).2.1 (r_X12_every d).2.2, b_X12_some (r_X12_every d).1 (r_X12_every d).2.1 (r_X12_every d).2.2)
theorem rc_X12_every : ∀ d : Nat, (∀ (a0 : Nat) (μ : gm_M), gm_Call ({ cls := "GumBubbleModel", name := "every", desc := "()V" } : Jvm.MethodName) prog_14_method_17_code 1 none (d + 5) 0 0 [.ref a0] μ ((r_X12_every d).1 a0 μ)) ∧ (∀ (a0 : Nat) (μ : gm_M), gm_Call ({ cls := "GumBubbleModel", name := "factor", desc := "()V" } : Jvm.MethodName) prog_14_method_16_code 5 none (d + 5) 0 0 [.ref a0] μ ((r_X12_every d).2.1 a0 μ)) ∧ (∀ (a0 : Nat) (μ : gm_M), gm_Call ({ cls := "GumBubbleModel", name := "some", desc := "()V" } : Jvm.MethodName) prog_14_method_18_code 1 none (d + 5) 0 0 [.ref a0] μ ((r_X12_every d).2.2 a0 μ)) := by
  intro d
  induction d with
  | zero =>
    exact ⟨fun _ _ _ _ h => (by cases h), fun _ _ _ _ h => (by cases h), fun _ _ _ _ h => (by cases h)⟩
  | succ d ih =>
    exact ⟨bc_X12_every d _ _ _ ih.1 ih.2.1 ih.2.2, bc_X12_factor d _ _ _ ih.1 ih.2.1 ih.2.2, bc_X12_some d _ _ _ ih.1 ih.2.1 ih.2.2⟩
def f_X12_every (a0 : Nat) (μ : gm_M) : Option (Option Value × gm_M) := (r_X12_every 64).1 a0 μ
theorem c_X12_every (a0 : Nat) (μ : gm_M) : gm_Call ({ cls := "GumBubbleModel", name := "every", desc := "()V" } : Jvm.MethodName) prog_14_method_17_code 1 none 69 0 0 [.ref a0] μ (f_X12_every a0 μ) := (rc_X12_every 64).1 a0 μ
def f_X12_factor (a0 : Nat) (μ : gm_M) : Option (Option Value × gm_M) := (r_X12_every 64).2.1 a0 μ
theorem c_X12_factor (a0 : Nat) (μ : gm_M) : gm_Call ({ cls := "GumBubbleModel", name := "factor", desc := "()V" } : Jvm.MethodName) prog_14_method_16_code 5 none 69 0 0 [.ref a0] μ (f_X12_factor a0 μ) := (rc_X12_every 64).2.1 a0 μ
def f_X12_some (a0 : Nat) (μ : gm_M) : Option (Option Value × gm_M) := (r_X12_every 64).2.2 a0 μ
theorem c_X12_some (a0 : Nat) (μ : gm_M) : gm_Call ({ cls := "GumBubbleModel", name := "some", desc := "()V" } : Jvm.MethodName) prog_14_method_18_code 1 none 69 0 0 [.ref a0] μ (f_X12_some a0 μ) := (rc_X12_every 64).2.2 a0 μ
theorem d_X12_much_0 : decode prog_14_method_19_code 0 = .ok (.aload_n 0, 1) := ge_aload_n_0 (by decide +kernel)
theorem d_X12_much_1 : decode prog_14_method_19_code 1 = .ok (.aload_n 2, 1) := ge_aload_n_2 (by decide +kernel)
theorem d_X12_much_2 : decode prog_14_method_19_code 2 = .ok (.invokevirtual 104, 3) := ge_invokevirtual (by decide +kernel)
theorem d_X12_much_5 : decode prog_14_method_19_code 5 = .ok (.aload_n 0, 1) := ge_aload_n_0 (by decide +kernel)
theorem d_X12_much_6 : decode prog_14_method_19_code 6 = .ok (.invokevirtual 98, 3) := ge_invokevirtual (by decide +kernel)
theorem d_X12_much_9 : decode prog_14_method_19_code 9 = .ok (.istore_n 3, 1) := ge_istore_n_3 (by decide +kernel)
theorem d_X12_much_10 : decode prog_14_method_19_code 10 = .ok (.aload_n 0, 1) := ge_aload_n_0 (by decide +kernel)
theorem d_X12_much_11 : decode prog_14_method_19_code 11 = .ok (.bipush 32, 2) := ge_bipush (by decide +kernel)
theorem d_X12_much_13 : decode prog_14_method_19_code 13 = .ok (.invokevirtual 71, 3) := ge_invokevirtual (by decide +kernel)
theorem d_X12_much_16 : decode prog_14_method_19_code 16 = .ok (.aload_n 0, 1) := ge_aload_n_0 (by decide +kernel)
theorem d_X12_much_17 : decode prog_14_method_19_code 17 = .ok (.invokevirtual 87, 3) := ge_invokevirtual (by decide +kernel)
theorem d_X12_much_20 : decode prog_14_method_19_code 20 = .ok (.aload_n 0, 1) := ge_aload_n_0 (by decide +kernel)
theorem d_X12_much_21 : decode prog_14_method_19_code 21 = .ok (.iload_n 1, 1) := ge_iload_n_1 (by decide +kernel)
theorem d_X12_much_22 : decode prog_14_method_19_code 22 = .ok (.iload_n 3, 1) := ge_iload_n_3 (by decide +kernel)
theorem d_X12_much_23 : decode prog_14_method_19_code 23 = .ok (.isub, 1) := ge_isub (by decide +kernel)
theorem d_X12_much_24 : decode prog_14_method_19_code 24 = .ok (.invokevirtual 84, 3) := ge_invokevirtual (by decide +kernel)
theorem d_X12_much_27 : decode prog_14_method_19_code 27 = .ok (.return_, 1) := ge_return_ (by decide +kernel)
def f_X12_much (a0 : Nat) (a1 : Int32) (a2 : UInt32) (μ : gm_M) : Option (Option Value × gm_M) := if gm_tag μ a0 = 17 then gm_bV (f_X12_spells a0 a2 μ) (fun m1 => if gm_tag m1 a0 = 17 then gm_bI (f_X12_figures a0 m1) (fun x4 m3 => if gm_tag m3 a0 = 17 then gm_bV (f_X12_must a0 (32 : Int32) m3) (fun m5 => if gm_tag m5 a0 = 17 then gm_bV (f_X12_some a0 m5) (fun m7 => if gm_tag m7 a0 = 17 then gm_bV (f_X12_emits a0 (a1 - x4) m7) (fun m9 => some (none, m9)) else none) else none) else none) else none) else none
set_option maxHeartbeats 4000000 in
theorem c_X12_much (a0 : Nat) (a1 : Int32) (a2 : UInt32) (μ : gm_M) : gm_Call ({ cls := "GumBubbleModel", name := "much", desc := "(ILjava/lang/String;)V" } : Jvm.MethodName) prog_14_method_19_code 4 none 70 0 0 [.ref a0, .int a1, .float a2] μ (f_X12_much a0 a1 a2 μ) := by
  refine gm_start PN_12 (Nat.le_of_ble_eq_true rfl) (fun res μe => ?_)
  unfold f_X12_much
  show gm_A "GumBubbleModel" (gm_nm "much") _ _ _ _ _ _ _ _ _ 0 [(0, .ref a0), (1, .int a1), (2, .float a2)] [] _ _
  refine gm_aload_n d_X12_much_0 rfl 0 rfl ?_
  refine gm_aloadF d_X12_much_1 rfl 2 rfl ?_
  refine gm_grd (fun g2 => ?_)
  refine gm_callV (k0 := 12) [.float a2] (c_X12_spells a0 a2 μ) g2 rfl B_X12_spells gw_984 gs_28 rfl rfl rfl d_X12_much_2 (gm_kV (fun m1 => ?_))
  refine gm_aload_n d_X12_much_5 rfl 0 rfl ?_
  refine gm_grd (fun g6 => ?_)
  refine gm_callV (k0 := 12) [] (c_X12_figures a0 m1) g6 rfl B_X12_figures gw_994 gs_30 rfl rfl rfl d_X12_much_6 (gm_kI (fun x4 m3 => ?_))
  refine gm_istore_n (L' := [(3, .int x4), (0, .ref a0), (1, .int a1), (2, .float a2)]) d_X12_much_9 rfl (Nat.le_of_ble_eq_true rfl) rfl ?_
  refine gm_aload_n d_X12_much_10 rfl 1 rfl ?_
  refine gm_bipush (v := 32) d_X12_much_11 (by decide) ?_
  refine gm_grd (fun g13 => ?_)
  refine gm_callV (k0 := 12) [.int (32 : Int32)] (c_X12_must a0 (32 : Int32) m3) g13 rfl B_X12_must gw_990 gs_29 rfl rfl rfl d_X12_much_13 (gm_kV (fun m5 => ?_))
  refine gm_aload_n d_X12_much_16 rfl 1 rfl ?_
  refine gm_grd (fun g17 => ?_)
  refine gm_callV (k0 := 12) [] (c_X12_some a0 m5) g17 rfl B_X12_some gw_1008 gs_33 rfl rfl rfl d_X12_much_17 (gm_kV (fun m7 => ?_))
  refine gm_aload_n d_X12_much_20 rfl 1 rfl ?_
  refine gm_iload_n d_X12_much_21 rfl 2 rfl ?_
  refine gm_iload_n d_X12_much_22 rfl 0 rfl ?_
  refine gm_isub d_X12_much_23 ?_
  refine gm_grd (fun g24 => ?_)
  refine gm_callV (k0 := 12) [.int (a1 - x4)] (c_X12_emits a0 (a1 - x4) m7) g24 rfl B_X12_emits gw_1020 gs_36 rfl rfl rfl d_X12_much_24 (gm_kV (fun m9 => ?_))
  exact gm_vret rfl d_X12_much_27 (Nat.le_of_ble_eq_true rfl) (Nat.le_of_ble_eq_true rfl) (fun h => h)
end
